/-! ===== places, stack, cells of the symbolic run ===== -/
theorem sx_nt_s {w : sx_w} : ∀ {L : sx_L} {L' : mj_L} {i : Nat} {x : sx_V}, sx_RL w L L' → sx_nt L i = some x → ∃ v, mj_nt L' i = some v ∧ sx_RV w x v
  | [], _, _, _, _, h => by cases h
  | none :: _, _, 0, _, _, h => by cases h
  | none :: t, _, i + 1, x, hL, h => by
    obtain ⟨v, L', rfl, h3⟩ := hL
    exact sx_nt_s (L := t) (i := i) h3 h
  | some y :: t, _, 0, x, hL, h => by
    obtain ⟨v, L', rfl, h2, h3⟩ := hL
    have e : y = x := Option.some.inj h
    exact ⟨v, rfl, e ▸ h2⟩
  | some y :: t, _, i + 1, x, hL, h => by
    obtain ⟨v, L', rfl, h2, h3⟩ := hL
    exact sx_nt_s (L := t) (i := i) h3 h
theorem sx_set_s {w : sx_w} {x : sx_V} {v : mj_V} (hx : sx_RV w x v) : ∀ {L : sx_L} {L' : mj_L} {i : Nat}, sx_RL w L L' → sx_RL w (L.set i (some x)) (L'.set i (some v))
  | [], _, _, h => by rw [show _ = ([] : mj_L) from h]; rfl
  | none :: t, _, 0, h => by
    obtain ⟨u, L', rfl, h3⟩ := h
    exact ⟨v, L', rfl, hx, h3⟩
  | some y :: t, _, 0, h => by
    obtain ⟨u, L', rfl, h2, h3⟩ := h
    exact ⟨v, L', rfl, hx, h3⟩
  | none :: t, _, i + 1, h => by
    obtain ⟨u, L', rfl, h3⟩ := h
    exact ⟨u, _, rfl, sx_set_s hx h3⟩
  | some y :: t, _, i + 1, h => by
    obtain ⟨u, L', rfl, h2, h3⟩ := h
    exact ⟨u, _, rfl, h2, sx_set_s hx h3⟩
theorem sx_non_s {w : sx_w} {o : Option mj_V} : ∀ {L : sx_L} {L' : mj_L} {i : Nat}, sx_RL w L L' → sx_RL w (L.set i none) (L'.set i o)
  | [], _, _, h => by rw [show _ = ([] : mj_L) from h]; rfl
  | none :: t, _, 0, h => by
    obtain ⟨u, L', rfl, h3⟩ := h
    exact ⟨_, L', rfl, h3⟩
  | some y :: t, _, 0, h => by
    obtain ⟨u, L', rfl, h2, h3⟩ := h
    exact ⟨_, L', rfl, h3⟩
  | none :: t, _, i + 1, h => by
    obtain ⟨u, L', rfl, h3⟩ := h
    exact ⟨u, _, rfl, sx_non_s h3⟩
  | some y :: t, _, i + 1, h => by
    obtain ⟨u, L', rfl, h2, h3⟩ := h
    exact ⟨u, _, rfl, h2, sx_non_s h3⟩
/-- only the concrete place is spoilt: the symbolic one said nothing -/
theorem sx_spl_s {w : sx_w} : ∀ {L : sx_L} {L' : mj_L} {i : Nat}, sx_RL w L L' → sx_nt L i = none → sx_RL w L (L'.set i none)
  | [], _, _, h, _ => by rw [show _ = ([] : mj_L) from h]; rfl
  | none :: t, _, 0, h, _ => by
    obtain ⟨u, L', rfl, h3⟩ := h
    exact ⟨_, L', rfl, h3⟩
  | some y :: t, _, 0, h, hn => by cases hn
  | none :: t, _, i + 1, h, hn => by
    obtain ⟨u, L', rfl, h3⟩ := h
    exact ⟨u, _, rfl, sx_spl_s h3 hn⟩
  | some y :: t, _, i + 1, h, hn => by
    obtain ⟨u, L', rfl, h2, h3⟩ := h
    exact ⟨u, _, rfl, h2, sx_spl_s h3 hn⟩
theorem sx_kl_s {w : sx_w} {L : sx_L} {L' : mj_L} {i : Nat} (h : sx_RL w L L') : sx_RL w (sx_kl L i) (mj_kl L' i) := by
  cases i with
  | zero => exact h
  | succ j =>
    unfold sx_kl mj_kl
    dsimp only
    cases hx : sx_nt L j with
    | none =>
      dsimp only
      split
      · exact sx_spl_s h hx
      · exact h
    | some x =>
      obtain ⟨v, hv, hr⟩ := sx_nt_s h hx
      rw [hv]
      rcases x with x | x | x
      · obtain ⟨z, rfl, -⟩ := hr
        exact h
      · obtain rfl : v = _ := hr
        exact sx_non_s h
      · obtain ⟨z, rfl, -⟩ := hr
        exact h
theorem sx_s1_s {w : sx_w} {L : sx_L} {L' : mj_L} {i : Nat} {x : sx_V} {v : mj_V} (h : sx_RL w L L') (hx : sx_RV w x v) : sx_RL w (sx_s1 L i x) (mj_s1 L' i v) := sx_set_s hx (sx_kl_s h)
theorem sx_ldi_s {w : sx_w} {L : sx_L} {L' : mj_L} {i : Nat} {k : sx_I → Bool} (h : sx_ldi L i k = true) (hL : sx_RL w L L') : ∃ x z, mj_nt L' i = some (.inl z) ∧ sx_RI w x z ∧ k x = true := by
  unfold sx_ldi at h
  split at h
  · rename_i x hx
    obtain ⟨v, hv, z, rfl, hz⟩ := sx_nt_s hL hx
    exact ⟨x, z, hv, hz, h⟩
  · cases h
theorem sx_ldl_s {w : sx_w} {L : sx_L} {L' : mj_L} {i : Nat} {k : Int64 → Bool} (h : sx_ldl L i k = true) (hL : sx_RL w L L') : ∃ x, mj_nt L' i = some (.inr (.inl x)) ∧ k x = true := by
  unfold sx_ldl at h
  split at h
  · rename_i x hx
    obtain ⟨v, hv, hr⟩ := sx_nt_s hL hx
    obtain rfl : v = _ := hr
    exact ⟨x, hv, h⟩
  · cases h
theorem sx_lda_s {w : sx_w} {L : sx_L} {L' : mj_L} {i : Nat} {k : Option Nat → Bool} (h : sx_lda L i k = true) (hL : sx_RL w L L') : ∃ x r, mj_nt L' i = some (.inr (.inr r)) ∧ sx_RO w x r ∧ k x = true := by
  unfold sx_lda at h
  split at h
  · rename_i x hx
    obtain ⟨v, hv, r, rfl, hr⟩ := sx_nt_s hL hx
    exact ⟨x, r, hv, hr, h⟩
  · cases h
section SXS
variable {w : sx_w} {st : List sx_V} {st' : List mj_V}
theorem sx_i1_s {k : sx_I → List sx_V → Bool} (h : sx_i1 st k = true) (hS : sx_RS w st st') : ∃ x t z t', st' = .inl z :: t' ∧ sx_RI w x z ∧ sx_RS w t t' ∧ k x t = true := by
  unfold sx_i1 at h
  split at h
  · obtain ⟨v, t', rfl, ⟨z, rfl, hz⟩, hS⟩ := hS
    exact ⟨_, _, z, t', rfl, hz, hS, h⟩
  · cases h
theorem sx_l1_s {k : Int64 → List sx_V → Bool} (h : sx_l1 st k = true) (hS : sx_RS w st st') : ∃ x t t', st' = .inr (.inl x) :: t' ∧ sx_RS w t t' ∧ k x t = true := by
  unfold sx_l1 at h
  split at h
  · obtain ⟨v, t', rfl, hv, hS⟩ := hS
    obtain rfl : v = _ := hv
    exact ⟨_, _, t', rfl, hS, h⟩
  · cases h
theorem sx_r1_s {k : Option Nat → List sx_V → Bool} (h : sx_r1 st k = true) (hS : sx_RS w st st') : ∃ x t r t', st' = .inr (.inr r) :: t' ∧ sx_RO w x r ∧ sx_RS w t t' ∧ k x t = true := by
  unfold sx_r1 at h
  split at h
  · obtain ⟨v, t', rfl, ⟨r, rfl, hr⟩, hS⟩ := hS
    exact ⟨_, _, r, t', rfl, hr, hS, h⟩
  · cases h
theorem sx_a1_s {k : Nat → List sx_V → Bool} (h : sx_a1 st k = true) (hS : sx_RS w st st') : ∃ i t t', st' = .inr (.inr (some (w.2.2.2 i))) :: t' ∧ i < w.2.2.1 ∧ sx_RS w t t' ∧ k i t = true := by
  unfold sx_a1 at h
  split at h
  · obtain ⟨v, t', rfl, ⟨r, rfl, hr⟩, hS⟩ := hS
    obtain ⟨h1, rfl⟩ := hr
    exact ⟨_, _, t', rfl, h1, hS, h⟩
  · cases h
theorem sx_c1_s {k : sx_V → List sx_V → Bool} (h : sx_c1 st k = true) (hS : sx_RS w st st') : ∃ x t v t', st' = v :: t' ∧ sx_RV w x v ∧ (∀ u, v ≠ .inr (.inl u)) ∧ sx_RS w t t' ∧ k x t = true := by
  unfold sx_c1 at h
  split at h
  · obtain ⟨v, t', rfl, hv, hS⟩ := hS
    refine ⟨_, _, v, t', rfl, hv, ?_, hS, h⟩
    obtain ⟨z, rfl, -⟩ := hv
    intro u q; cases q
  · obtain ⟨v, t', rfl, hv, hS⟩ := hS
    refine ⟨_, _, v, t', rfl, hv, ?_, hS, h⟩
    obtain ⟨z, rfl, -⟩ := hv
    intro u q; cases q
  · cases h
theorem sx_c1_i {v : mj_V} {t : List mj_V} {k : mj_V → List mj_V → Prop} (hv : ∀ u, v ≠ .inr (.inl u)) (h : k v t) : mj_c1 (v :: t) k := by
  rcases v with z | z | z
  · exact h
  · exact absurd rfl (hv z)
  · exact h
theorem sx_pop_s {k : List sx_V → List sx_V → Bool} {k' : List mj_V → List mj_V → Prop} : ∀ (n : Nat) {acc : List sx_V} {acc' : List mj_V} {st : List sx_V} {st' : List mj_V}, sx_pop n acc st k = true → sx_RS w acc acc' → sx_RS w st st' → (∀ A t A' t', sx_RS w A A' → sx_RS w t t' → k A t = true → k' A' t') → mj_pop n acc' st' k'
  | 0, _, _, _, _, h, hA, hS, kk => kk _ _ _ _ hA hS h
  | n + 1, _, _, [], _, h, _, _, _ => by cases h
  | n + 1, _, _, v :: t, _, h, hA, hS, kk => by
    obtain ⟨u, t', rfl, hv, hS⟩ := hS
    exact sx_pop_s n (st := t) h ⟨u, _, rfl, hv, hA⟩ hS kk
theorem sx_cat_s : ∀ {st : List sx_V} {st' : List mj_V}, sx_RS w st st' → sx_cat st = mj_cat st'
  | [], _, h => by rw [show _ = ([] : List mj_V) from h]; rfl
  | x :: t, _, h => by
    obtain ⟨v, t', rfl, hv, hS⟩ := h
    have ih := sx_cat_s hS
    rcases x with x | x | x
    · obtain ⟨z, rfl, -⟩ := hv; simp only [sx_cat, mj_cat, ih]
    · obtain rfl : v = _ := hv; simp only [sx_cat, mj_cat, ih]
    · obtain ⟨z, rfl, -⟩ := hv; simp only [sx_cat, mj_cat, ih]
theorem sx_wd_s : ∀ {st : List sx_V} {st' : List mj_V}, sx_RS w st st' → sx_wd st = mj_wd st'
  | [], _, h => by rw [show _ = ([] : List mj_V) from h]; rfl
  | x :: t, _, h => by
    obtain ⟨v, t', rfl, hv, hS⟩ := h
    have ih := sx_wd_s hS
    rcases x with x | x | x
    · obtain ⟨z, rfl, -⟩ := hv; simp only [sx_wd, mj_wd, ih]
    · obtain rfl : v = _ := hv; simp only [sx_wd, mj_wd, ih]
    · obtain ⟨z, rfl, -⟩ := hv; simp only [sx_wd, mj_wd, ih]
theorem sx_rep_s : ∀ n, sx_RL w (List.replicate n none) (List.replicate n none)
  | 0 => rfl
  | n + 1 => ⟨none, List.replicate n none, rfl, sx_rep_s n⟩
theorem sx_en_s : ∀ {st : List sx_V} {st' : List mj_V} (n : Nat), sx_RS w st st' → sx_RL w (sx_en st n) (mj_en st' n)
  | [], _, n, h => by rw [show _ = ([] : List mj_V) from h]; exact sx_rep_s n
  | x :: t, _, n, h => by
    obtain ⟨v, t', rfl, hv, hS⟩ := h
    rcases x with x | x | x
    · obtain ⟨z, rfl, hz⟩ := hv; exact ⟨_, _, rfl, ⟨z, rfl, hz⟩, sx_en_s (n - 1) hS⟩
    · obtain rfl : v = _ := hv; exact ⟨_, _, rfl, rfl, none, _, rfl, sx_en_s (n - 2) hS⟩
    · obtain ⟨z, rfl, hz⟩ := hv; exact ⟨_, _, rfl, ⟨z, rfl, hz⟩, sx_en_s (n - 1) hS⟩
end SXS
/-! trees -/
theorem sx_g_leaf {β : Type} (a : β) (k : Nat) : sx_g (.leaf a) k = a := rfl
theorem sx_g_br {β : Type} (p : Nat) (l r : Lean.RArray β) (k : Nat) : sx_g (.branch p l r) k = cond (Nat.beq (k % 2) 0) (sx_g l (k / 2)) (sx_g r (k / 2)) := rfl
theorem sx_sk_eq {β : Type} : ∀ (d : Nat) (t : Lean.RArray β) (k : Nat) (v : β) (K : Lean.RArray β → Bool), sx_sk d t k v K = K (sx_s d t k v)
  | 0, t, k, v, K => by cases t <;> rfl
  | d + 1, .leaf a, k, v, K => by
    show cond (Nat.beq (k % 2) 0) (sx_sk d (.leaf a) (k / 2) v fun l => K (.branch 0 l (.leaf a))) (sx_sk d (.leaf a) (k / 2) v fun r => K (.branch 0 (.leaf a) r)) = K (cond (Nat.beq (k % 2) 0) (.branch 0 (sx_s d (.leaf a) (k / 2) v) (.leaf a)) (.branch 0 (.leaf a) (sx_s d (.leaf a) (k / 2) v)))
    rw [sx_sk_eq d, sx_sk_eq d]
    cases Nat.beq (k % 2) 0 <;> rfl
  | d + 1, .branch p l r, k, v, K => by
    show cond (Nat.beq (k % 2) 0) (sx_sk d l (k / 2) v fun l' => K (.branch p l' r)) (sx_sk d r (k / 2) v fun r' => K (.branch p l r')) = K (cond (Nat.beq (k % 2) 0) (.branch p (sx_s d l (k / 2) v) r) (.branch p l (sx_s d r (k / 2) v)))
    rw [sx_sk_eq d, sx_sk_eq d]
    cases Nat.beq (k % 2) 0 <;> rfl
theorem sx_bq {a b : Nat} : Nat.beq a b = decide (a = b) := by
  by_cases h : a = b
  · subst h; simp
  · rw [decide_eq_false h]
    cases e : Nat.beq a b with
    | false => rfl
    | true => exact absurd (Nat.eq_of_beq_eq_true e) h
theorem sx_gs {β : Type} : ∀ (d : Nat) (t : Lean.RArray β) (k j : Nat) (v : β), k < 2 ^ d → j < 2 ^ d → sx_g (sx_s d t k v) j = if j = k then v else sx_g t j
  | 0, t, k, j, v, hk, hj => by
    have e : sx_s 0 t k v = .leaf v := by cases t <;> rfl
    rw [e, sx_g_leaf, if_pos (by omega)]
  | d + 1, .leaf a, k, j, v, hk, hj => by
    have ih := sx_gs d (.leaf a) (k / 2) (j / 2) v (by omega) (by omega)
    show sx_g (cond (Nat.beq (k % 2) 0) (.branch 0 (sx_s d (.leaf a) (k / 2) v) (.leaf a)) (.branch 0 (.leaf a) (sx_s d (.leaf a) (k / 2) v))) j = _
    rw [sx_bq]
    by_cases hk2 : k % 2 = 0
    · rw [decide_eq_true hk2, cond_true, sx_g_br, sx_bq]
      by_cases hj2 : j % 2 = 0
      · rw [decide_eq_true hj2, cond_true, ih]
        by_cases e : j = k
        · rw [if_pos e, if_pos (by omega)]
        · rw [if_neg e, if_neg (by omega)]; rfl
      · rw [decide_eq_false hj2, cond_false, if_neg (by omega)]; rfl
    · rw [decide_eq_false hk2, cond_false, sx_g_br, sx_bq]
      by_cases hj2 : j % 2 = 0
      · rw [decide_eq_true hj2, cond_true, if_neg (by omega)]; rfl
      · rw [decide_eq_false hj2, cond_false, ih]
        by_cases e : j = k
        · rw [if_pos e, if_pos (by omega)]
        · rw [if_neg e, if_neg (by omega)]; rfl
  | d + 1, .branch p l r, k, j, v, hk, hj => by
    have il := sx_gs d l (k / 2) (j / 2) v (by omega) (by omega)
    have ir := sx_gs d r (k / 2) (j / 2) v (by omega) (by omega)
    show sx_g (cond (Nat.beq (k % 2) 0) (.branch p (sx_s d l (k / 2) v) r) (.branch p l (sx_s d r (k / 2) v))) j = _
    rw [sx_bq]
    by_cases hk2 : k % 2 = 0
    · rw [decide_eq_true hk2, cond_true, sx_g_br, sx_g_br, sx_bq]
      by_cases hj2 : j % 2 = 0
      · rw [decide_eq_true hj2, cond_true, cond_true, il]
        by_cases e : j = k
        · rw [if_pos e, if_pos (by omega)]
        · rw [if_neg e, if_neg (by omega)]
      · rw [decide_eq_false hj2, cond_false, cond_false, if_neg (by omega)]
    · rw [decide_eq_false hk2, cond_false, sx_g_br, sx_g_br, sx_bq]
      by_cases hj2 : j % 2 = 0
      · rw [decide_eq_true hj2, cond_true, cond_true, if_neg (by omega)]
      · rw [decide_eq_false hj2, cond_false, cond_false, ir]
        by_cases e : j = k
        · rw [if_pos e, if_pos (by omega)]
        · rw [if_neg e, if_neg (by omega)]
theorem sx_g12 {β : Type} (t : Lean.RArray β) {k j : Nat} (v : β) (hk : k < 4096) (hj : j < 4096) : sx_g (sx_s 12 t k v) j = if j = k then v else sx_g t j := sx_gs 12 t k j v hk hj
/-! cells -/
theorem sx_cl_eq (h : sx_H) (i : Nat) (k : Nat → Nat → Lean.RArray sx_I → Lean.RArray Int64 → Lean.RArray (Option Nat) → Bool) : sx_cl h i k = k (sx_g h.2 i).1 (sx_g h.2 i).2.1 (sx_g h.2 i).2.2.1 (sx_g h.2 i).2.2.2.1 (sx_g h.2 i).2.2.2.2 := rfl
theorem sx_pt_eq (h : sx_H) (i : Nat) (c : sx_c) (k : sx_H → Bool) : sx_pt h i c k = k (h.1, sx_s 12 h.2 i c) := by unfold sx_pt; rw [sx_sk_eq]
/-- a cell changed: the others are as they were -/
theorem sx_RH.put {w : sx_w} {h : sx_H} {G : mj_G} {M M' : mj_M} {i : Nat} {c : sx_c} (hH : sx_RH w h G M) (hi : i < w.2.2.1) (hc : sx_RC w G M' i c) (ho : ∀ x, x ≠ w.2.2.2 i → (∀ k, M'.1 x k = M.1 x k) ∧ (∀ k, M'.2.1 x k = M.2.1 x k) ∧ ∀ k, M'.2.2 x k = M.2.2 x k) : sx_RH w (h.1, sx_s 12 h.2 i c) G M' := by
  obtain ⟨h1, h2, h3, h4⟩ := hH
  refine ⟨h1, h2, fun j hj => ?_, h4⟩
  have hj' : j < h.1 := hj
  show sx_RC w G M' j (sx_g (sx_s 12 h.2 i c) j)
  rw [sx_g12 _ _ (by omega) (by omega)]
  by_cases e : j = i
  · subst e; rw [if_pos rfl]; exact hc
  · rw [if_neg e]
    obtain ⟨c1, c2, c3⟩ := h3 j hj'
    have hne : w.2.2.2 j ≠ w.2.2.2 i := fun q => e (h4 j i hj' (by omega) q)
    obtain ⟨o1, o2, o3⟩ := ho _ hne
    exact ⟨c1, c2, fun k hk => by rw [o1, o2, o3]; exact c3 k hk⟩
theorem sx_p0_s {w : sx_w} {h : sx_H} {G : mj_G} {M : mj_M} {i j : Nat} {x : sx_I} {z : Int} {k : sx_H → Bool} (hk : sx_p0 h i j x k = true) (hH : sx_RH w h G M) (hi : i < w.2.2.1) (hx : sx_RI w x z) : ∃ h', sx_RH w h' G (mj_p0 M (w.2.2.2 i) j z) ∧ k h' = true := by
  obtain ⟨hj, hk⟩ := sx_cd hk
  rw [sx_cl_eq, sx_sk_eq, sx_pt_eq] at hk
  refine ⟨_, hH.put hi ?_ (fun x hx => ⟨fun k => ?_, fun _ => rfl, fun _ => rfl⟩), hk⟩
  · obtain ⟨c1, c2, c3⟩ := hH.2.2.1 i (by rw [hH.1]; exact hi)
    refine ⟨c1, c2, fun q hq => ⟨?_, (c3 q hq).2⟩⟩
    show sx_RI w (sx_g (sx_s 12 _ j x) q) (if w.2.2.2 i = w.2.2.2 i ∧ q = j then z else M.1 (w.2.2.2 i) q)
    rw [sx_g12 _ _ (sx_blt hj) hq]
    by_cases e : q = j
    · rw [if_pos e, if_pos ⟨rfl, e⟩]; exact hx
    · rw [if_neg e, if_neg (fun u => e u.2)]; exact (c3 q hq).1
  · show (if x = w.2.2.2 i ∧ k = j then z else M.1 x k) = M.1 x k
    rw [if_neg (fun u => hx u.1)]
theorem sx_p1_s {w : sx_w} {h : sx_H} {G : mj_G} {M : mj_M} {i j : Nat} {x : Int64} {k : sx_H → Bool} (hk : sx_p1 h i j x k = true) (hH : sx_RH w h G M) (hi : i < w.2.2.1) : ∃ h', sx_RH w h' G (mj_p1 M (w.2.2.2 i) j x) ∧ k h' = true := by
  obtain ⟨hj, hk⟩ := sx_cd hk
  rw [sx_cl_eq, sx_sk_eq, sx_pt_eq] at hk
  refine ⟨_, hH.put hi ?_ (fun x' hx => ⟨fun _ => rfl, fun k => ?_, fun _ => rfl⟩), hk⟩
  · obtain ⟨c1, c2, c3⟩ := hH.2.2.1 i (by rw [hH.1]; exact hi)
    refine ⟨c1, c2, fun q hq => ⟨(c3 q hq).1, ?_, (c3 q hq).2.2⟩⟩
    show (if w.2.2.2 i = w.2.2.2 i ∧ q = j then x else M.2.1 (w.2.2.2 i) q) = sx_g (sx_s 12 _ j x) q
    rw [sx_g12 _ _ (sx_blt hj) hq]
    by_cases e : q = j
    · rw [if_pos e, if_pos ⟨rfl, e⟩]
    · rw [if_neg e, if_neg (fun u => e u.2)]; exact (c3 q hq).2.1
  · show (if x' = w.2.2.2 i ∧ k = j then x else M.2.1 x' k) = M.2.1 x' k
    rw [if_neg (fun u => hx u.1)]
theorem sx_p2_s {w : sx_w} {h : sx_H} {G : mj_G} {M : mj_M} {i j : Nat} {x r : Option Nat} {k : sx_H → Bool} (hk : sx_p2 h i j x k = true) (hH : sx_RH w h G M) (hi : i < w.2.2.1) (hx : sx_RO w x r) : ∃ h', sx_RH w h' G (mj_p2 M (w.2.2.2 i) j r) ∧ k h' = true := by
  obtain ⟨hj, hk⟩ := sx_cd hk
  rw [sx_cl_eq, sx_sk_eq, sx_pt_eq] at hk
  refine ⟨_, hH.put hi ?_ (fun x hx => ⟨fun _ => rfl, fun _ => rfl, fun k => ?_⟩), hk⟩
  · obtain ⟨c1, c2, c3⟩ := hH.2.2.1 i (by rw [hH.1]; exact hi)
    refine ⟨c1, c2, fun q hq => ⟨(c3 q hq).1, (c3 q hq).2.1, ?_⟩⟩
    show sx_RO w (sx_g (sx_s 12 _ j x) q) (if w.2.2.2 i = w.2.2.2 i ∧ q = j then r else M.2.2 (w.2.2.2 i) q)
    rw [sx_g12 _ _ (sx_blt hj) hq]
    by_cases e : q = j
    · rw [if_pos e, if_pos ⟨rfl, e⟩]; exact hx
    · rw [if_neg e, if_neg (fun u => e u.2)]; exact (c3 q hq).2.2
  · show (if x = w.2.2.2 i ∧ k = j then r else M.2.2 x k) = M.2.2 x k
    rw [if_neg (fun u => hx u.1)]
/-- n new cells behind the last -/
def sx_wn (w : sx_w) (a n : Nat) : sx_w := (w.1, w.2.1, w.2.2.1 + n, fun i => if i < w.2.2.1 then w.2.2.2 i else a + (i - w.2.2.1))
theorem sx_wn_up {w : sx_w} {a n : Nat} : sx_up w (sx_wn w a n) := ⟨Nat.le_refl _, fun _ _ => rfl, Nat.le_add_right _ _, fun _ hi => if_pos hi⟩
theorem sx_RY.wn {w : sx_w} {Y : sx_Y} {a n : Nat} (h : sx_RY w Y) : sx_RY (sx_wn w a n) Y := h
theorem sx_wn_top {w : sx_w} {a n : Nat} : sx_RO (sx_wn w a (n + 1)) (some w.2.2.1) (some a) := ⟨by show w.2.2.1 < w.2.2.1 + (n + 1); omega, by show some a = some (if w.2.2.1 < w.2.2.1 then w.2.2.2 w.2.2.1 else a + (w.2.2.1 - w.2.2.1)); rw [if_neg (Nat.lt_irrefl _), Nat.sub_self, Nat.add_zero]⟩
theorem sx_RH.new {w : sx_w} {h h' : sx_H} {G G' : mj_G} {M M' : mj_M} {a n : Nat} (hH : sx_RH w h G M) (ha : ∀ x, a ≤ x → G x = (0, 0)) (h1 : h'.1 = h.1 + n) (h2 : h'.1 ≤ 4096) (ho : ∀ j, j < h.1 → sx_g h'.2 j = sx_g h.2 j) (hG : ∀ x, ¬ a ≤ x → G' x = G x) (hM : ∀ x, ¬ a ≤ x → (∀ k, M'.1 x k = M.1 x k) ∧ (∀ k, M'.2.1 x k = M.2.1 x k) ∧ ∀ k, M'.2.2 x k = M.2.2 x k)
    (hn : ∀ j, j < n → sx_RC (sx_wn w a n) G' M' (h.1 + j) (sx_g h'.2 (h.1 + j))) : sx_RH (sx_wn w a n) h' G' M' := by
  obtain ⟨e1, e2, e3, e4⟩ := hH
  have old : ∀ j, j < h.1 → ¬ a ≤ w.2.2.2 j := fun j hj q => (e3 j hj).2.1 (by have := ha _ q; rw [(e3 j hj).1] at this; exact (Prod.mk.inj this).1)
  have eo : ∀ j, j < h.1 → (sx_wn w a n).2.2.2 j = w.2.2.2 j := fun j hj => if_pos (by omega)
  have en : ∀ j, ¬ j < h.1 → (sx_wn w a n).2.2.2 j = a + (j - w.2.2.1) := fun j hj => if_neg (by omega)
  refine ⟨by rw [h1, e1]; rfl, h2, fun j hj => ?_, fun i j hi hj q => ?_⟩
  · by_cases q : j < h.1
    · rw [ho j q]
      obtain ⟨c1, c2, c3⟩ := e3 j q
      obtain ⟨m1, m2, m3⟩ := hM _ (old j q)
      unfold sx_RC
      rw [eo j q]
      exact ⟨by rw [hG _ (old j q)]; exact c1, c2, fun k hk => by rw [m1, m2, m3]; exact ⟨(c3 k hk).1.up sx_wn_up, (c3 k hk).2.1, (c3 k hk).2.2.up sx_wn_up⟩⟩
    · have := hn (j - h.1) (by omega)
      rw [show h.1 + (j - h.1) = j by omega] at this
      exact this
  · by_cases qi : i < h.1
    · by_cases qj : j < h.1
      · exact e4 i j qi qj (by rw [eo i qi, eo j qj] at q; exact q)
      · rw [eo i qi, en j qj] at q
        exact absurd (by omega) (old i qi)
    · by_cases qj : j < h.1
      · rw [en i qi, eo j qj] at q
        exact absurd (by omega) (old j qj)
      · rw [en i qi, en j qj] at q
        omega
theorem sx_nw_s {w : sx_w} {h : sx_H} {G : mj_G} {M : mj_M} {t n : Nat} {k : Nat → sx_H → Bool} (hk : sx_nw h t n k = true) (hH : sx_RH w h G M) (ht : t ≠ 0) {a : Nat} (ha : ∀ x, a ≤ x → G x = (0, 0)) : ∃ h', sx_RH (sx_wn w a 1) h' (mj_g G a t n) (mj_z M a) ∧ k w.2.2.1 h' = true := by
  obtain ⟨hj, hk⟩ := sx_cd hk
  have hj := sx_blt hj
  rw [sx_sk_eq] at hk
  have hne : ∀ x, ¬ a ≤ x → x ≠ a := fun x hx q => hx (by omega)
  refine ⟨_, hH.new (n := 1) ha (h' := (Nat.succ h.1, sx_s 12 h.2 h.1 (sx_nc t n))) rfl hj (fun j hj' => ?_) (fun x hx => if_neg (hne x hx)) (fun x hx => ⟨fun _ => if_neg (hne x hx), fun _ => if_neg (hne x hx), fun _ => if_neg (hne x hx)⟩) (fun j hj' => ?_), by rw [← hH.1]; exact hk⟩
  · show sx_g (sx_s 12 h.2 h.1 (sx_nc t n)) j = _
    rw [sx_g12 _ _ hj (by omega), if_neg (by omega)]
  · obtain rfl : j = 0 := by omega
    show sx_RC _ _ _ h.1 (sx_g (sx_s 12 h.2 h.1 (sx_nc t n)) h.1)
    rw [sx_g12 _ _ hj hj, if_pos rfl]
    have e : (sx_wn w a 1).2.2.2 h.1 = a := by
      show (if h.1 < w.2.2.1 then w.2.2.2 h.1 else a + (h.1 - w.2.2.1)) = a
      rw [if_neg (by rw [hH.1]; omega), hH.1]; omega
    unfold sx_RC
    rw [e]
    refine ⟨if_pos rfl, ht, fun k _ => ⟨?_, if_pos rfl, if_pos rfl⟩⟩
    show (0 : Int) = if a = a then 0 else M.1 a k
    rw [if_pos rfl]
