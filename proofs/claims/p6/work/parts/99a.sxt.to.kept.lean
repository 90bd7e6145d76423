section
/-! ===== places, stack, cells of the symbolic run ===== -/
theorem sx_nt_s {w : sx_w} : ∀ {L : sx_L} {L' : mj_L} {i : Nat} {x : sx_V}, sx_RL w L L' → sx_nt L i = some x → ∃ v, mj_nt L' i = some v ∧ sx_RV w x v
  | [], _, _, _, _, h => by cases h
  | none :: _, _, 0, _, _, h => by cases h
  | none :: t, _, i + 1, x, hL, h => by
    obtain ⟨v, L', rfl, h3⟩ := hL
    exact sx_nt_s (L := t) (i := i) h3 h
  | some y :: t, _, 0, x, hL, h => by
    obtain ⟨v, L', rfl, h2, h3⟩ := hL
    have e : y = x := Option.some.inj h
    exact ⟨v, rfl, e ▸ h2⟩
  | some y :: t, _, i + 1, x, hL, h => by
    obtain ⟨v, L', rfl, h2, h3⟩ := hL
    exact sx_nt_s (L := t) (i := i) h3 h
theorem sx_set_s {w : sx_w} {x : sx_V} {v : mj_V} (hx : sx_RV w x v) : ∀ {L : sx_L} {L' : mj_L} {i : Nat}, sx_RL w L L' → sx_RL w (L.set i (some x)) (L'.set i (some v))
  | [], _, _, h => by rw [show _ = ([] : mj_L) from h]; rfl
  | none :: t, _, 0, h => by
    obtain ⟨u, L', rfl, h3⟩ := h
    exact ⟨v, L', rfl, hx, h3⟩
  | some y :: t, _, 0, h => by
    obtain ⟨u, L', rfl, h2, h3⟩ := h
    exact ⟨v, L', rfl, hx, h3⟩
  | none :: t, _, i + 1, h => by
    obtain ⟨u, L', rfl, h3⟩ := h
    exact ⟨u, _, rfl, sx_set_s hx h3⟩
  | some y :: t, _, i + 1, h => by
    obtain ⟨u, L', rfl, h2, h3⟩ := h
    exact ⟨u, _, rfl, h2, sx_set_s hx h3⟩
theorem sx_non_s {w : sx_w} {o : Option mj_V} : ∀ {L : sx_L} {L' : mj_L} {i : Nat}, sx_RL w L L' → sx_RL w (L.set i none) (L'.set i o)
  | [], _, _, h => by rw [show _ = ([] : mj_L) from h]; rfl
  | none :: t, _, 0, h => by
    obtain ⟨u, L', rfl, h3⟩ := h
    exact ⟨_, L', rfl, h3⟩
  | some y :: t, _, 0, h => by
    obtain ⟨u, L', rfl, h2, h3⟩ := h
    exact ⟨_, L', rfl, h3⟩
  | none :: t, _, i + 1, h => by
    obtain ⟨u, L', rfl, h3⟩ := h
    exact ⟨u, _, rfl, sx_non_s h3⟩
  | some y :: t, _, i + 1, h => by
    obtain ⟨u, L', rfl, h2, h3⟩ := h
    exact ⟨u, _, rfl, h2, sx_non_s h3⟩
/-- only the concrete place is spoilt: the symbolic one said nothing -/
theorem sx_spl_s {w : sx_w} : ∀ {L : sx_L} {L' : mj_L} {i : Nat}, sx_RL w L L' → sx_nt L i = none → sx_RL w L (L'.set i none)
  | [], _, _, h, _ => by rw [show _ = ([] : mj_L) from h]; rfl
  | none :: t, _, 0, h, _ => by
    obtain ⟨u, L', rfl, h3⟩ := h
    exact ⟨_, L', rfl, h3⟩
  | some y :: t, _, 0, h, hn => by cases hn
  | none :: t, _, i + 1, h, hn => by
    obtain ⟨u, L', rfl, h3⟩ := h
    exact ⟨u, _, rfl, sx_spl_s h3 hn⟩
  | some y :: t, _, i + 1, h, hn => by
    obtain ⟨u, L', rfl, h2, h3⟩ := h
    exact ⟨u, _, rfl, h2, sx_spl_s h3 hn⟩
theorem sx_kl_s {w : sx_w} {L : sx_L} {L' : mj_L} {i : Nat} (h : sx_RL w L L') : sx_RL w (sx_kl L i) (mj_kl L' i) := by
  cases i with
  | zero => exact h
  | succ j =>
    unfold sx_kl mj_kl
    dsimp only
    cases hx : sx_nt L j with
    | none =>
      dsimp only
      split
      · exact sx_spl_s h hx
      · exact h
    | some x =>
      obtain ⟨v, hv, hr⟩ := sx_nt_s h hx
      rw [hv]
      rcases x with x | x | x
      · obtain ⟨z, rfl, -⟩ := hr
        exact h
      · obtain rfl : v = _ := hr
        exact sx_non_s h
      · obtain ⟨z, rfl, -⟩ := hr
        exact h
theorem sx_s1_s {w : sx_w} {L : sx_L} {L' : mj_L} {i : Nat} {x : sx_V} {v : mj_V} (h : sx_RL w L L') (hx : sx_RV w x v) : sx_RL w (sx_s1 L i x) (mj_s1 L' i v) := sx_set_s hx (sx_kl_s h)
theorem sx_ldi_s {w : sx_w} {L : sx_L} {L' : mj_L} {i : Nat} {k : sx_I → Bool} (h : sx_ldi L i k = true) (hL : sx_RL w L L') : ∃ x z, mj_nt L' i = some (.inl z) ∧ sx_RI w x z ∧ k x = true := by
  unfold sx_ldi at h
  split at h
  · rename_i x hx
    obtain ⟨v, hv, z, rfl, hz⟩ := sx_nt_s hL hx
    exact ⟨x, z, hv, hz, h⟩
  · cases h
theorem sx_ldl_s {w : sx_w} {L : sx_L} {L' : mj_L} {i : Nat} {k : Int64 → Bool} (h : sx_ldl L i k = true) (hL : sx_RL w L L') : ∃ x, mj_nt L' i = some (.inr (.inl x)) ∧ k x = true := by
  unfold sx_ldl at h
  split at h
  · rename_i x hx
    obtain ⟨v, hv, hr⟩ := sx_nt_s hL hx
    obtain rfl : v = _ := hr
    exact ⟨x, hv, h⟩
  · cases h
theorem sx_lda_s {w : sx_w} {L : sx_L} {L' : mj_L} {i : Nat} {k : Option Nat → Bool} (h : sx_lda L i k = true) (hL : sx_RL w L L') : ∃ x r, mj_nt L' i = some (.inr (.inr r)) ∧ sx_RO w x r ∧ k x = true := by
  unfold sx_lda at h
  split at h
  · rename_i x hx
    obtain ⟨v, hv, r, rfl, hr⟩ := sx_nt_s hL hx
    exact ⟨x, r, hv, hr, h⟩
  · cases h
section SXS
variable {w : sx_w} {st : List sx_V} {st' : List mj_V}
theorem sx_i1_s {k : sx_I → List sx_V → Bool} (h : sx_i1 st k = true) (hS : sx_RS w st st') : ∃ x t z t', st' = .inl z :: t' ∧ sx_RI w x z ∧ sx_RS w t t' ∧ k x t = true := by
  unfold sx_i1 at h
  split at h
  · obtain ⟨v, t', rfl, ⟨z, rfl, hz⟩, hS⟩ := hS
    exact ⟨_, _, z, t', rfl, hz, hS, h⟩
  · cases h
theorem sx_l1_s {k : Int64 → List sx_V → Bool} (h : sx_l1 st k = true) (hS : sx_RS w st st') : ∃ x t t', st' = .inr (.inl x) :: t' ∧ sx_RS w t t' ∧ k x t = true := by
  unfold sx_l1 at h
  split at h
  · obtain ⟨v, t', rfl, hv, hS⟩ := hS
    obtain rfl : v = _ := hv
    exact ⟨_, _, t', rfl, hS, h⟩
  · cases h
theorem sx_r1_s {k : Option Nat → List sx_V → Bool} (h : sx_r1 st k = true) (hS : sx_RS w st st') : ∃ x t r t', st' = .inr (.inr r) :: t' ∧ sx_RO w x r ∧ sx_RS w t t' ∧ k x t = true := by
  unfold sx_r1 at h
  split at h
  · obtain ⟨v, t', rfl, ⟨r, rfl, hr⟩, hS⟩ := hS
    exact ⟨_, _, r, t', rfl, hr, hS, h⟩
  · cases h
theorem sx_a1_s {k : Nat → List sx_V → Bool} (h : sx_a1 st k = true) (hS : sx_RS w st st') : ∃ i t t', st' = .inr (.inr (some (w.2.2.2 i))) :: t' ∧ i < w.2.2.1 ∧ sx_RS w t t' ∧ k i t = true := by
  unfold sx_a1 at h
  split at h
  · obtain ⟨v, t', rfl, ⟨r, rfl, hr⟩, hS⟩ := hS
    obtain ⟨h1, rfl⟩ := hr
    exact ⟨_, _, t', rfl, h1, hS, h⟩
  · cases h
theorem sx_c1_s {k : sx_V → List sx_V → Bool} (h : sx_c1 st k = true) (hS : sx_RS w st st') : ∃ x t v t', st' = v :: t' ∧ sx_RV w x v ∧ (∀ u, v ≠ .inr (.inl u)) ∧ sx_RS w t t' ∧ k x t = true := by
  unfold sx_c1 at h
  split at h
  · obtain ⟨v, t', rfl, hv, hS⟩ := hS
    refine ⟨_, _, v, t', rfl, hv, ?_, hS, h⟩
    obtain ⟨z, rfl, -⟩ := hv
    intro u q; cases q
  · obtain ⟨v, t', rfl, hv, hS⟩ := hS
    refine ⟨_, _, v, t', rfl, hv, ?_, hS, h⟩
    obtain ⟨z, rfl, -⟩ := hv
    intro u q; cases q
  · cases h
theorem sx_c1_i {v : mj_V} {t : List mj_V} {k : mj_V → List mj_V → Prop} (hv : ∀ u, v ≠ .inr (.inl u)) (h : k v t) : mj_c1 (v :: t) k := by
  rcases v with z | z | z
  · exact h
  · exact absurd rfl (hv z)
  · exact h
theorem sx_pop_s {k : List sx_V → List sx_V → Bool} {k' : List mj_V → List mj_V → Prop} : ∀ (n : Nat) {acc : List sx_V} {acc' : List mj_V} {st : List sx_V} {st' : List mj_V}, sx_pop n acc st k = true → sx_RS w acc acc' → sx_RS w st st' → (∀ A t A' t', sx_RS w A A' → sx_RS w t t' → k A t = true → k' A' t') → mj_pop n acc' st' k'
  | 0, _, _, _, _, h, hA, hS, kk => kk _ _ _ _ hA hS h
  | n + 1, _, _, [], _, h, _, _, _ => by cases h
  | n + 1, _, _, v :: t, _, h, hA, hS, kk => by
    obtain ⟨u, t', rfl, hv, hS⟩ := hS
    exact sx_pop_s n (st := t) h ⟨u, _, rfl, hv, hA⟩ hS kk
theorem sx_cat_s : ∀ {st : List sx_V} {st' : List mj_V}, sx_RS w st st' → sx_cat st = mj_cat st'
  | [], _, h => by rw [show _ = ([] : List mj_V) from h]; rfl
  | x :: t, _, h => by
    obtain ⟨v, t', rfl, hv, hS⟩ := h
    have ih := sx_cat_s hS
    rcases x with x | x | x
    · obtain ⟨z, rfl, -⟩ := hv; simp only [sx_cat, mj_cat, ih]
    · obtain rfl : v = _ := hv; simp only [sx_cat, mj_cat, ih]
    · obtain ⟨z, rfl, -⟩ := hv; simp only [sx_cat, mj_cat, ih]
theorem sx_wd_s : ∀ {st : List sx_V} {st' : List mj_V}, sx_RS w st st' → sx_wd st = mj_wd st'
  | [], _, h => by rw [show _ = ([] : List mj_V) from h]; rfl
  | x :: t, _, h => by
    obtain ⟨v, t', rfl, hv, hS⟩ := h
    have ih := sx_wd_s hS
    rcases x with x | x | x
    · obtain ⟨z, rfl, -⟩ := hv; simp only [sx_wd, mj_wd, ih]
    · obtain rfl : v = _ := hv; simp only [sx_wd, mj_wd, ih]
    · obtain ⟨z, rfl, -⟩ := hv; simp only [sx_wd, mj_wd, ih]
theorem sx_rep_s : ∀ n, sx_RL w (List.replicate n none) (List.replicate n none)
  | 0 => rfl
  | n + 1 => ⟨none, List.replicate n none, rfl, sx_rep_s n⟩
theorem sx_en_s : ∀ {st : List sx_V} {st' : List mj_V} (n : Nat), sx_RS w st st' → sx_RL w (sx_en st n) (mj_en st' n)
  | [], _, n, h => by rw [show _ = ([] : List mj_V) from h]; exact sx_rep_s n
  | x :: t, _, n, h => by
    obtain ⟨v, t', rfl, hv, hS⟩ := h
    rcases x with x | x | x
    · obtain ⟨z, rfl, hz⟩ := hv; exact ⟨_, _, rfl, ⟨z, rfl, hz⟩, sx_en_s (n - 1) hS⟩
    · obtain rfl : v = _ := hv; exact ⟨_, _, rfl, rfl, none, _, rfl, sx_en_s (n - 2) hS⟩
    · obtain ⟨z, rfl, hz⟩ := hv; exact ⟨_, _, rfl, ⟨z, rfl, hz⟩, sx_en_s (n - 1) hS⟩
end SXS
/-! trees -/
theorem sx_g_leaf {β : Type} (a : β) (k : Nat) : sx_g (.leaf a) k = a := rfl
theorem sx_g_br {β : Type} (p : Nat) (l r : Lean.RArray β) (k : Nat) : sx_g (.branch p l r) k = cond (Nat.beq (k % 2) 0) (sx_g l (k / 2)) (sx_g r (k / 2)) := rfl
theorem sx_sk_eq {β : Type} : ∀ (d : Nat) (t : Lean.RArray β) (k : Nat) (v : β) (K : Lean.RArray β → Bool), sx_sk d t k v K = K (sx_s d t k v)
  | 0, t, k, v, K => by cases t <;> rfl
  | d + 1, .leaf a, k, v, K => by
    show cond (Nat.beq (k % 2) 0) (sx_sk d (.leaf a) (k / 2) v fun l => K (.branch 0 l (.leaf a))) (sx_sk d (.leaf a) (k / 2) v fun r => K (.branch 0 (.leaf a) r)) = K (cond (Nat.beq (k % 2) 0) (.branch 0 (sx_s d (.leaf a) (k / 2) v) (.leaf a)) (.branch 0 (.leaf a) (sx_s d (.leaf a) (k / 2) v)))
    rw [sx_sk_eq d, sx_sk_eq d]
    cases Nat.beq (k % 2) 0 <;> rfl
  | d + 1, .branch p l r, k, v, K => by
    show cond (Nat.beq (k % 2) 0) (sx_sk d l (k / 2) v fun l' => K (.branch p l' r)) (sx_sk d r (k / 2) v fun r' => K (.branch p l r')) = K (cond (Nat.beq (k % 2) 0) (.branch p (sx_s d l (k / 2) v) r) (.branch p l (sx_s d r (k / 2) v)))
    rw [sx_sk_eq d, sx_sk_eq d]
    cases Nat.beq (k % 2) 0 <;> rfl
theorem sx_bq {a b : Nat} : Nat.beq a b = decide (a = b) := by
  by_cases h : a = b
  · subst h; simp
  · rw [decide_eq_false h]
    cases e : Nat.beq a b with
    | false => rfl
    | true => exact absurd (Nat.eq_of_beq_eq_true e) h
theorem sx_gs {β : Type} : ∀ (d : Nat) (t : Lean.RArray β) (k j : Nat) (v : β), k < 2 ^ d → j < 2 ^ d → sx_g (sx_s d t k v) j = if j = k then v else sx_g t j
  | 0, t, k, j, v, hk, hj => by
    have e : sx_s 0 t k v = .leaf v := by cases t <;> rfl
    rw [e, sx_g_leaf, if_pos (by omega)]
  | d + 1, .leaf a, k, j, v, hk, hj => by
    have ih := sx_gs d (.leaf a) (k / 2) (j / 2) v (by omega) (by omega)
    show sx_g (cond (Nat.beq (k % 2) 0) (.branch 0 (sx_s d (.leaf a) (k / 2) v) (.leaf a)) (.branch 0 (.leaf a) (sx_s d (.leaf a) (k / 2) v))) j = _
    rw [sx_bq]
    by_cases hk2 : k % 2 = 0
    · rw [decide_eq_true hk2, cond_true, sx_g_br, sx_bq]
      by_cases hj2 : j % 2 = 0
      · rw [decide_eq_true hj2, cond_true, ih]
        by_cases e : j = k
        · rw [if_pos e, if_pos (by omega)]
        · rw [if_neg e, if_neg (by omega)]; rfl
      · rw [decide_eq_false hj2, cond_false, if_neg (by omega)]; rfl
    · rw [decide_eq_false hk2, cond_false, sx_g_br, sx_bq]
      by_cases hj2 : j % 2 = 0
      · rw [decide_eq_true hj2, cond_true, if_neg (by omega)]; rfl
      · rw [decide_eq_false hj2, cond_false, ih]
        by_cases e : j = k
        · rw [if_pos e, if_pos (by omega)]
        · rw [if_neg e, if_neg (by omega)]; rfl
  | d + 1, .branch p l r, k, j, v, hk, hj => by
    have il := sx_gs d l (k / 2) (j / 2) v (by omega) (by omega)
    have ir := sx_gs d r (k / 2) (j / 2) v (by omega) (by omega)
    show sx_g (cond (Nat.beq (k % 2) 0) (.branch p (sx_s d l (k / 2) v) r) (.branch p l (sx_s d r (k / 2) v))) j = _
    rw [sx_bq]
    by_cases hk2 : k % 2 = 0
    · rw [decide_eq_true hk2, cond_true, sx_g_br, sx_g_br, sx_bq]
      by_cases hj2 : j % 2 = 0
      · rw [decide_eq_true hj2, cond_true, cond_true, il]
        by_cases e : j = k
        · rw [if_pos e, if_pos (by omega)]
        · rw [if_neg e, if_neg (by omega)]
      · rw [decide_eq_false hj2, cond_false, cond_false, if_neg (by omega)]
    · rw [decide_eq_false hk2, cond_false, sx_g_br, sx_g_br, sx_bq]
      by_cases hj2 : j % 2 = 0
      · rw [decide_eq_true hj2, cond_true, cond_true, if_neg (by omega)]
      · rw [decide_eq_false hj2, cond_false, cond_false, ir]
        by_cases e : j = k
        · rw [if_pos e, if_pos (by omega)]
        · rw [if_neg e, if_neg (by omega)]
theorem sx_g12 {β : Type} (t : Lean.RArray β) {k j : Nat} (v : β) (hk : k < 4096) (hj : j < 4096) : sx_g (sx_s 12 t k v) j = if j = k then v else sx_g t j := sx_gs 12 t k j v hk hj
/-! cells -/
theorem sx_cl_eq (h : sx_H) (i : Nat) (k : Nat → Nat → Lean.RArray sx_I → Lean.RArray Int64 → Lean.RArray (Option Nat) → Bool) : sx_cl h i k = k (sx_g h.2 i).1 (sx_g h.2 i).2.1 (sx_g h.2 i).2.2.1 (sx_g h.2 i).2.2.2.1 (sx_g h.2 i).2.2.2.2 := rfl
theorem sx_pt_eq (h : sx_H) (i : Nat) (c : sx_c) (k : sx_H → Bool) : sx_pt h i c k = k (h.1, sx_s 12 h.2 i c) := by unfold sx_pt; rw [sx_sk_eq]
/-- a cell changed: the others are as they were -/
theorem sx_RH.put {w : sx_w} {h : sx_H} {G : mj_G} {M M' : mj_M} {i : Nat} {c : sx_c} (hH : sx_RH w h G M) (hi : i < w.2.2.1) (hc : sx_RC w G M' i c) (ho : ∀ x, x ≠ w.2.2.2 i → (∀ k, M'.1 x k = M.1 x k) ∧ (∀ k, M'.2.1 x k = M.2.1 x k) ∧ ∀ k, M'.2.2 x k = M.2.2 x k) : sx_RH w (h.1, sx_s 12 h.2 i c) G M' := by
  obtain ⟨h1, h2, h3, h4⟩ := hH
  refine ⟨h1, h2, fun j hj => ?_, h4⟩
  have hj' : j < h.1 := hj
  show sx_RC w G M' j (sx_g (sx_s 12 h.2 i c) j)
  rw [sx_g12 _ _ (by omega) (by omega)]
  by_cases e : j = i
  · subst e; rw [if_pos rfl]; exact hc
  · rw [if_neg e]
    obtain ⟨c1, c2, c3⟩ := h3 j hj'
    have hne : w.2.2.2 j ≠ w.2.2.2 i := fun q => e (h4 j i hj' (by omega) q)
    obtain ⟨o1, o2, o3⟩ := ho _ hne
    exact ⟨c1, c2, fun k hk => by rw [o1, o2, o3]; exact c3 k hk⟩
theorem sx_p0_s {w : sx_w} {h : sx_H} {G : mj_G} {M : mj_M} {i j : Nat} {x : sx_I} {z : Int} {k : sx_H → Bool} (hk : sx_p0 h i j x k = true) (hH : sx_RH w h G M) (hi : i < w.2.2.1) (hx : sx_RI w x z) : ∃ h', sx_RH w h' G (mj_p0 M (w.2.2.2 i) j z) ∧ k h' = true := by
  obtain ⟨hj, hk⟩ := sx_cd hk
  rw [sx_cl_eq, sx_sk_eq, sx_pt_eq] at hk
  refine ⟨_, hH.put hi ?_ (fun x hx => ⟨fun k => ?_, fun _ => rfl, fun _ => rfl⟩), hk⟩
  · obtain ⟨c1, c2, c3⟩ := hH.2.2.1 i (by rw [hH.1]; exact hi)
    refine ⟨c1, c2, fun q hq => ⟨?_, (c3 q hq).2⟩⟩
    show sx_RI w (sx_g (sx_s 12 _ j x) q) (if w.2.2.2 i = w.2.2.2 i ∧ q = j then z else M.1 (w.2.2.2 i) q)
    rw [sx_g12 _ _ (sx_blt hj) hq]
    by_cases e : q = j
    · rw [if_pos e, if_pos ⟨rfl, e⟩]; exact hx
    · rw [if_neg e, if_neg (fun u => e u.2)]; exact (c3 q hq).1
  · show (if x = w.2.2.2 i ∧ k = j then z else M.1 x k) = M.1 x k
    rw [if_neg (fun u => hx u.1)]
theorem sx_p1_s {w : sx_w} {h : sx_H} {G : mj_G} {M : mj_M} {i j : Nat} {x : Int64} {k : sx_H → Bool} (hk : sx_p1 h i j x k = true) (hH : sx_RH w h G M) (hi : i < w.2.2.1) : ∃ h', sx_RH w h' G (mj_p1 M (w.2.2.2 i) j x) ∧ k h' = true := by
  obtain ⟨hj, hk⟩ := sx_cd hk
  rw [sx_cl_eq, sx_sk_eq, sx_pt_eq] at hk
  refine ⟨_, hH.put hi ?_ (fun x' hx => ⟨fun _ => rfl, fun k => ?_, fun _ => rfl⟩), hk⟩
  · obtain ⟨c1, c2, c3⟩ := hH.2.2.1 i (by rw [hH.1]; exact hi)
    refine ⟨c1, c2, fun q hq => ⟨(c3 q hq).1, ?_, (c3 q hq).2.2⟩⟩
    show (if w.2.2.2 i = w.2.2.2 i ∧ q = j then x else M.2.1 (w.2.2.2 i) q) = sx_g (sx_s 12 _ j x) q
    rw [sx_g12 _ _ (sx_blt hj) hq]
    by_cases e : q = j
    · rw [if_pos e, if_pos ⟨rfl, e⟩]
    · rw [if_neg e, if_neg (fun u => e u.2)]; exact (c3 q hq).2.1
  · show (if x' = w.2.2.2 i ∧ k = j then x else M.2.1 x' k) = M.2.1 x' k
    rw [if_neg (fun u => hx u.1)]
theorem sx_p2_s {w : sx_w} {h : sx_H} {G : mj_G} {M : mj_M} {i j : Nat} {x r : Option Nat} {k : sx_H → Bool} (hk : sx_p2 h i j x k = true) (hH : sx_RH w h G M) (hi : i < w.2.2.1) (hx : sx_RO w x r) : ∃ h', sx_RH w h' G (mj_p2 M (w.2.2.2 i) j r) ∧ k h' = true := by
  obtain ⟨hj, hk⟩ := sx_cd hk
  rw [sx_cl_eq, sx_sk_eq, sx_pt_eq] at hk
  refine ⟨_, hH.put hi ?_ (fun x hx => ⟨fun _ => rfl, fun _ => rfl, fun k => ?_⟩), hk⟩
  · obtain ⟨c1, c2, c3⟩ := hH.2.2.1 i (by rw [hH.1]; exact hi)
    refine ⟨c1, c2, fun q hq => ⟨(c3 q hq).1, (c3 q hq).2.1, ?_⟩⟩
    show sx_RO w (sx_g (sx_s 12 _ j x) q) (if w.2.2.2 i = w.2.2.2 i ∧ q = j then r else M.2.2 (w.2.2.2 i) q)
    rw [sx_g12 _ _ (sx_blt hj) hq]
    by_cases e : q = j
    · rw [if_pos e, if_pos ⟨rfl, e⟩]; exact hx
    · rw [if_neg e, if_neg (fun u => e u.2)]; exact (c3 q hq).2.2
  · show (if x = w.2.2.2 i ∧ k = j then r else M.2.2 x k) = M.2.2 x k
    rw [if_neg (fun u => hx u.1)]
/-- n new cells behind the last -/
def sx_wn (w : sx_w) (a n : Nat) : sx_w := (w.1, w.2.1, w.2.2.1 + n, fun i => if i < w.2.2.1 then w.2.2.2 i else a + (i - w.2.2.1))
theorem sx_wn_up {w : sx_w} {a n : Nat} : sx_up w (sx_wn w a n) := ⟨Nat.le_refl _, fun _ _ => rfl, Nat.le_add_right _ _, fun _ hi => if_pos hi⟩
theorem sx_RY.wn {w : sx_w} {Y : sx_Y} {a n : Nat} (h : sx_RY w Y) : sx_RY (sx_wn w a n) Y := h
theorem sx_wn_top {w : sx_w} {a n : Nat} : sx_RO (sx_wn w a (n + 1)) (some w.2.2.1) (some a) := ⟨by show w.2.2.1 < w.2.2.1 + (n + 1); omega, by show some a = some (if w.2.2.1 < w.2.2.1 then w.2.2.2 w.2.2.1 else a + (w.2.2.1 - w.2.2.1)); rw [if_neg (Nat.lt_irrefl _), Nat.sub_self, Nat.add_zero]⟩
theorem sx_RH.new {w : sx_w} {h h' : sx_H} {G G' : mj_G} {M M' : mj_M} {a n : Nat} (hH : sx_RH w h G M) (ha : ∀ x, a ≤ x → G x = (0, 0)) (h1 : h'.1 = h.1 + n) (h2 : h'.1 ≤ 4096) (ho : ∀ j, j < h.1 → sx_g h'.2 j = sx_g h.2 j) (hG : ∀ x, ¬ a ≤ x → G' x = G x) (hM : ∀ x, ¬ a ≤ x → (∀ k, M'.1 x k = M.1 x k) ∧ (∀ k, M'.2.1 x k = M.2.1 x k) ∧ ∀ k, M'.2.2 x k = M.2.2 x k)
    (hn : ∀ j, j < n → sx_RC (sx_wn w a n) G' M' (h.1 + j) (sx_g h'.2 (h.1 + j))) : sx_RH (sx_wn w a n) h' G' M' := by
  obtain ⟨e1, e2, e3, e4⟩ := hH
  have old : ∀ j, j < h.1 → ¬ a ≤ w.2.2.2 j := fun j hj q => (e3 j hj).2.1 (by have := ha _ q; rw [(e3 j hj).1] at this; exact (Prod.mk.inj this).1)
  have eo : ∀ j, j < h.1 → (sx_wn w a n).2.2.2 j = w.2.2.2 j := fun j hj => if_pos (by omega)
  have en : ∀ j, ¬ j < h.1 → (sx_wn w a n).2.2.2 j = a + (j - w.2.2.1) := fun j hj => if_neg (by omega)
  refine ⟨by rw [h1, e1]; rfl, h2, fun j hj => ?_, fun i j hi hj q => ?_⟩
  · by_cases q : j < h.1
    · rw [ho j q]
      obtain ⟨c1, c2, c3⟩ := e3 j q
      obtain ⟨m1, m2, m3⟩ := hM _ (old j q)
      unfold sx_RC
      rw [eo j q]
      exact ⟨by rw [hG _ (old j q)]; exact c1, c2, fun k hk => by rw [m1, m2, m3]; exact ⟨(c3 k hk).1.up sx_wn_up, (c3 k hk).2.1, (c3 k hk).2.2.up sx_wn_up⟩⟩
    · have := hn (j - h.1) (by omega)
      rw [show h.1 + (j - h.1) = j by omega] at this
      exact this
  · by_cases qi : i < h.1
    · by_cases qj : j < h.1
      · exact e4 i j qi qj (by rw [eo i qi, eo j qj] at q; exact q)
      · rw [eo i qi, en j qj] at q
        exact absurd (by omega) (old i qi)
    · by_cases qj : j < h.1
      · rw [en i qi, eo j qj] at q
        exact absurd (by omega) (old j qj)
      · rw [en i qi, en j qj] at q
        omega
theorem sx_nw_s {w : sx_w} {h : sx_H} {G : mj_G} {M : mj_M} {t n : Nat} {k : Nat → sx_H → Bool} (hk : sx_nw h t n k = true) (hH : sx_RH w h G M) (ht : t ≠ 0) {a : Nat} (ha : ∀ x, a ≤ x → G x = (0, 0)) : ∃ h', sx_RH (sx_wn w a 1) h' (mj_g G a t n) (mj_z M a) ∧ k w.2.2.1 h' = true := by
  obtain ⟨hj, hk⟩ := sx_cd hk
  have hj := sx_blt hj
  rw [sx_sk_eq] at hk
  have hne : ∀ x, ¬ a ≤ x → x ≠ a := fun x hx q => hx (by omega)
  refine ⟨_, hH.new (n := 1) ha (h' := (Nat.succ h.1, sx_s 12 h.2 h.1 (sx_nc t n))) rfl hj (fun j hj' => ?_) (fun x hx => if_neg (hne x hx)) (fun x hx => ⟨fun _ => if_neg (hne x hx), fun _ => if_neg (hne x hx), fun _ => if_neg (hne x hx)⟩) (fun j hj' => ?_), by rw [← hH.1]; exact hk⟩
  · show sx_g (sx_s 12 h.2 h.1 (sx_nc t n)) j = _
    rw [sx_g12 _ _ hj (by omega), if_neg (by omega)]
  · obtain rfl : j = 0 := by omega
    show sx_RC _ _ _ h.1 (sx_g (sx_s 12 h.2 h.1 (sx_nc t n)) h.1)
    rw [sx_g12 _ _ hj hj, if_pos rfl]
    have e : (sx_wn w a 1).2.2.2 h.1 = a := by
      show (if h.1 < w.2.2.1 then w.2.2.2 h.1 else a + (h.1 - w.2.2.1)) = a
      rw [if_neg (by rw [hH.1]; omega), hH.1]; omega
    unfold sx_RC
    rw [e]
    refine ⟨if_pos rfl, ht, fun k _ => ⟨?_, if_pos rfl, if_pos rfl⟩⟩
    show (0 : Int) = if a = a then 0 else M.1 a k
    rw [if_pos rfl]
end
section
/-! ===== rows of arrays, copies, arithmetic, calls of the symbolic run ===== -/
theorem sx_rws_s {t m : Nat} : ∀ (n : Nat) {h : sx_H} {k : sx_H → Bool}, sx_rws t m n h k = true → h.1 ≤ 4096 → ∃ h', h'.1 = h.1 + n ∧ h'.1 ≤ 4096 ∧ (∀ j, j < 4096 → sx_g h'.2 j = if h.1 ≤ j ∧ j < h.1 + n then sx_nc t m else sx_g h.2 j) ∧ k h' = true
  | 0, h, k, hk, h4 => ⟨h, rfl, h4, fun j _ => by rw [if_neg (by omega)], hk⟩
  | n + 1, h, k, hk, h4 => by
    obtain ⟨hj, hk⟩ := sx_cd hk
    have hj := sx_blt hj
    rw [sx_sk_eq] at hk
    obtain ⟨h', a1, a2, a3, a4⟩ := sx_rws_s n (h := (Nat.succ h.1, sx_s 12 h.2 h.1 (sx_nc t m))) hk hj
    have a1 : h'.1 = h.1 + 1 + n := a1
    refine ⟨h', by omega, a2, fun j hj' => ?_, a4⟩
    rw [a3 j hj']
    show (if h.1 + 1 ≤ j ∧ j < h.1 + 1 + n then sx_nc t m else sx_g (sx_s 12 h.2 h.1 (sx_nc t m)) j) = _
    rw [sx_g12 _ _ hj hj']
    by_cases e : j = h.1
    · rw [if_neg (by omega), if_pos e, if_pos (by omega)]
    · rw [if_neg e]
      by_cases e2 : h.1 + 1 ≤ j ∧ j < h.1 + 1 + n
      · rw [if_pos e2, if_pos (by omega)]
      · rw [if_neg e2, if_neg (by omega)]
theorem sx_rfs_s {b : Nat} : ∀ (n : Nat) {u : Lean.RArray (Option Nat)} {k : Lean.RArray (Option Nat) → Bool}, sx_rfs b n u k = true → n ≤ 4096 → ∃ u', (∀ j, j < 4096 → sx_g u' j = if j < n then some (b + j) else sx_g u j) ∧ k u' = true
  | 0, u, k, hk, _ => ⟨u, fun j _ => by rw [if_neg (by omega)], hk⟩
  | n + 1, u, k, hk, h4 => by
    unfold sx_rfs at hk
    rw [sx_sk_eq] at hk
    obtain ⟨u', a1, a2⟩ := sx_rfs_s n hk (by omega)
    refine ⟨u', fun j hj => ?_, a2⟩
    rw [a1 j hj, sx_g12 _ _ (by omega) hj]
    by_cases e : j < n
    · rw [if_pos e, if_pos (by omega)]
    · rw [if_neg e]
      by_cases e2 : j = n
      · rw [if_pos e2, if_pos (by omega), e2]
      · rw [if_neg e2, if_neg (by omega)]
theorem sx_cpa_s {β : Type} {a : Lean.RArray β} {sp dp : Nat} : ∀ (n : Nat) {b : Lean.RArray β} {k : Lean.RArray β → Bool}, sx_cpa n a sp b dp k = true → dp + n ≤ 4096 → ∃ b', (∀ j, j < 4096 → sx_g b' j = if dp ≤ j ∧ j < dp + n then sx_g a (sp + (j - dp)) else sx_g b j) ∧ k b' = true
  | 0, b, k, hk, _ => ⟨b, fun j _ => by rw [if_neg (by omega)], hk⟩
  | n + 1, b, k, hk, h4 => by
    unfold sx_cpa at hk
    rw [sx_sk_eq] at hk
    obtain ⟨b', a1, a2⟩ := sx_cpa_s n hk (by omega)
    refine ⟨b', fun j hj => ?_, a2⟩
    rw [a1 j hj, sx_g12 _ _ (by omega) hj]
    by_cases e : dp ≤ j ∧ j < dp + n
    · rw [if_pos e, if_pos (by omega)]
    · rw [if_neg e]
      by_cases e2 : j = dp + n
      · rw [if_pos e2, if_pos (by omega), e2, Nat.add_sub_cancel_left]
      · rw [if_neg e2, if_neg (by omega)]
/-- new int[n][m] -/
theorem sx_mul_s {w : sx_w} {h : sx_H} {G : mj_G} {M : mj_M} {n m : Nat} {k : Nat → sx_H → Bool} (hk : (sx_nw h 1104 n fun i h => sx_rws 1100 m n h fun h => sx_cl h i fun t l a b c => sx_rfs (i + 1) n c fun c => sx_pt h i (t, l, a, b, c) fun h => k i h) = true) (hH : sx_RH w h G M) {a : Nat} (ha : ∀ x, a ≤ x → G x = (0, 0)) :
    ∃ h', sx_RH (sx_wn w a (1 + n)) h' (mj_gg G a 1104 n 1100 m) (mj_zz M a n) ∧ k w.2.2.1 h' = true := by
  obtain ⟨hj, hk⟩ := sx_cd hk
  have hj := sx_blt hj
  rw [sx_sk_eq] at hk
  obtain ⟨h2, b1, b2, b3, hk⟩ := sx_rws_s n hk hj
  have b1 : h2.1 = h.1 + 1 + n := b1
  have b3 : ∀ j, j < 4096 → sx_g h2.2 j = if h.1 + 1 ≤ j ∧ j < h.1 + 1 + n then sx_nc 1100 m else sx_g (sx_s 12 h.2 h.1 (sx_nc 1104 n)) j := b3
  have b4 : sx_g h2.2 h.1 = sx_nc 1104 n := by rw [b3 _ hj, if_neg (by omega), sx_g12 _ _ hj hj, if_pos rfl]
  rw [sx_cl_eq, b4] at hk
  obtain ⟨u, u1, hk⟩ := sx_rfs_s n hk (by omega)
  rw [sx_pt_eq] at hk
  have hu : ∀ j, j < 4096 → sx_g u j = if j < n then some (h.1 + 1 + j) else none := fun j hj => u1 j hj
  have e1 := hH.1
  have wv : ∀ j, j < 1 + n → (sx_wn w a (1 + n)).2.2.2 (h.1 + j) = a + j := fun j hj' => by
    show (if h.1 + j < w.2.2.1 then w.2.2.2 (h.1 + j) else a + (h.1 + j - w.2.2.1)) = a + j
    rw [if_neg (by omega)]; omega
  refine ⟨_, hH.new (n := 1 + n) ha (h' := (h2.1, sx_s 12 h2.2 h.1 ((sx_nc 1104 n).1, (sx_nc 1104 n).2.1, (sx_nc 1104 n).2.2.1, (sx_nc 1104 n).2.2.2.1, u))) (by show h2.1 = _; omega) b2 (fun j hj' => ?_) (fun x hx => ?_) (fun x hx => ?_) (fun j hj' => ?_), by rw [← hH.1]; exact hk⟩
  · show sx_g (sx_s 12 h2.2 h.1 _) j = _
    rw [sx_g12 _ _ hj (by omega), if_neg (by omega), b3 _ (by omega), if_neg (by omega), sx_g12 _ _ hj (by omega), if_neg (by omega)]
  · unfold mj_gg; rw [if_neg (by omega), if_neg (by omega)]
  · unfold mj_zz
    have n1 : ¬ (a ≤ x ∧ x ≤ a + n) := fun q => hx q.1
    have n2 : ¬ x = a := fun q => hx (by omega)
    exact ⟨fun _ => if_neg n1, fun _ => if_neg n1, fun _ => by dsimp only; rw [if_neg n2, if_neg n1]⟩
  · show sx_RC _ _ _ (h.1 + j) (sx_g (sx_s 12 h2.2 h.1 _) (h.1 + j))
    unfold sx_RC
    rw [wv j hj', sx_g12 _ _ hj (by omega)]
    have n1 : a ≤ a + j ∧ a + j ≤ a + n := ⟨by omega, by omega⟩
    by_cases e : j = 0
    · subst e
      rw [if_pos (Nat.add_zero _), Nat.add_zero]
      refine ⟨by unfold mj_gg; rw [if_pos rfl]; rfl, by show (1104 : Nat) ≠ 0; decide, fun q hq => ⟨?_, ?_, ?_⟩⟩
      · show (0 : Int) = (mj_zz M a n).1 a q
        unfold mj_zz; dsimp only; rw [if_pos (by omega)]
      · show (mj_zz M a n).2.1 a q = 0
        unfold mj_zz; dsimp only; rw [if_pos (by omega)]
      · show sx_RO _ (sx_g u q) ((mj_zz M a n).2.2 a q)
        rw [hu q hq]
        unfold mj_zz
        dsimp only
        rw [if_pos rfl]
        by_cases e2 : q < n
        · rw [if_pos e2, if_pos e2]
          refine ⟨by show h.1 + 1 + q < w.2.2.1 + (1 + n); omega, ?_⟩
          rw [show h.1 + 1 + q = h.1 + (1 + q) by omega, wv (1 + q) (by omega), show a + (1 + q) = a + 1 + q by omega]
        · rw [if_neg e2, if_neg e2]; rfl
    · rw [if_neg (by omega), b3 _ (by omega), if_pos (by omega)]
      refine ⟨by unfold mj_gg; rw [if_neg (by omega), if_pos (by omega)]; rfl, by show (1100 : Nat) ≠ 0; decide, fun q hq => ⟨?_, ?_, ?_⟩⟩
      · show (0 : Int) = (mj_zz M a n).1 (a + j) q
        unfold mj_zz; dsimp only; rw [if_pos n1]
      · show (mj_zz M a n).2.1 (a + j) q = 0
        unfold mj_zz; dsimp only; rw [if_pos n1]
      · show (mj_zz M a n).2.2 (a + j) q = none
        unfold mj_zz; dsimp only; rw [if_neg (by omega), if_pos n1]
theorem sx_ix_s {w : sx_w} {Y : sx_Y} {st : List sx_V} {st' : List mj_V} {h : sx_H} {k : Nat → Nat → Nat → sx_c → sx_Y → List sx_V → Bool} (hk : sx_ix Y st h k = true) (hS : sx_RS w st st') (hY : sx_RY w Y) :
    ∃ (i : Nat) (z : Int) (Y' : sx_Y) (t : List sx_V) (t' : List mj_V), st' = .inl z :: .inr (.inr (some (w.2.2.2 i))) :: t' ∧ i < w.2.2.1 ∧ sx_RY w Y' ∧ sx_RS w t t' ∧ 0 ≤ z ∧ z < ((sx_g h.2 i).2.1 : Int) ∧ z.toNat < 4096 ∧ k i (sx_g h.2 i).1 z.toNat (sx_g h.2 i) Y' t = true := by
  obtain ⟨x, t, z, t', rfl, hx, hS, hk⟩ := sx_i1_s hk hS
  obtain ⟨i, t, t', rfl, hi, hS, hk⟩ := sx_a1_s hk hS
  rw [sx_cl_eq] at hk
  obtain ⟨Y', hY', hk⟩ := sx_sp_s hk hY hx
  obtain ⟨h1, hk⟩ := sx_cd hk
  obtain ⟨h1, h2⟩ := sx_nd h1
  obtain ⟨h2, h3⟩ := sx_nd h2
  have h1 : 0 ≤ z := sx_le_iff.mp h1
  have h2 := sx_blt h2
  exact ⟨i, z, Y', t, t', rfl, hi, hY', hS, h1, by omega, sx_blt h3, hk⟩
/-! arithmetic -/
theorem sx_op2_s {w : sx_w} {Y : sx_Y} {st : List sx_V} {st' : List mj_V} {f : Int → Int → Int → Int → Option (Int × Int)} {k : sx_I → sx_Y → List sx_V → Bool} {F : Int → Int → Int} {g : Int32 → Int32 → Int32} {k' : List mj_V → Prop} (h : sx_op2 Y st f k = true) (hS : sx_RS w st st') (hY : sx_RY w Y) (hf : ∀ a b c d q x y, f a b c d = some q → a ≤ x → x ≤ b → c ≤ y → y ≤ d → q.1 ≤ F x y ∧ F x y ≤ q.2)
    (kk : ∀ w' x z Y' t t', sx_e w w' → sx_RY w' Y' → sx_RI w' x z → sx_RS w' t t' → k x Y' t = true → k' (.inl z :: t')) : mj_bin F st' g k' := by
  obtain ⟨y, t, zy, t', rfl, hy, hS, h⟩ := sx_i1_s h hS
  obtain ⟨x, t, zx, t', rfl, hx, hS, h⟩ := sx_i1_s h hS
  obtain ⟨a, b, h, h1, h2⟩ := sx_iv_s h hY hx
  obtain ⟨c, d, h, h3, h4⟩ := sx_iv_s h hY hy
  show (mj_in (F zx zy) ∧ k' (.inl (F zx zy) :: t')) ∨ ∀ z, mj_in z → z = (g (Int32.ofInt zx) (Int32.ofInt zy)).toInt → k' (.inl z :: t')
  have full : (sx_ff Y fun x Y => k x Y t) = true → ∀ z, mj_in z → z = (g (Int32.ofInt zx) (Int32.ofInt zy)).toInt → k' (.inl z :: t') := fun hf z hz _ => by
    obtain ⟨w', x', Y', u1, u2, u3, u4⟩ := sx_ff_s hf hY hz
    exact kk w' x' z Y' t t' u1 u2 u3 (hS.up u1.1) u4
  cases hq : f a b c d with
  | none => rw [hq] at h; exact Or.inr (full h)
  | some q =>
    rw [hq] at h
    obtain ⟨q1, q2⟩ := hf a b c d q zx zy hq h1 h2 h3 h4
    rcases sx_ai_s h hY q1 q2 with ⟨u0, w', x', Y', u1, u2, u3, u4⟩ | h
    · exact Or.inl ⟨u0, kk w' x' _ Y' t t' u1 u2 u3 (hS.up u1.1) u4⟩
    · exact Or.inr (full h)
theorem sx_fadd_s (a b c d : Int) (q : Int × Int) (x y : Int) (h : sx_fadd a b c d = some q) (h1 : a ≤ x) (h2 : x ≤ b) (h3 : c ≤ y) (h4 : y ≤ d) : q.1 ≤ x + y ∧ x + y ≤ q.2 := by
  obtain rfl := Option.some.inj h
  dsimp only; omega
theorem sx_fsub_s (a b c d : Int) (q : Int × Int) (x y : Int) (h : sx_fsub a b c d = some q) (h1 : a ≤ x) (h2 : x ≤ b) (h3 : c ≤ y) (h4 : y ≤ d) : q.1 ≤ x - y ∧ x - y ≤ q.2 := by
  obtain rfl := Option.some.inj h
  dsimp only; omega
theorem sx_fmul_s (a b c d : Int) (q : Int × Int) (x y : Int) (h : sx_fmul a b c d = some q) (h1 : a ≤ x) (h2 : x ≤ b) (h3 : c ≤ y) (h4 : y ≤ d) : q.1 ≤ x * y ∧ x * y ≤ q.2 := by
  unfold sx_fmul at h
  cases e1 : (sx_eq a b && sx_eq c d) with
  | true =>
    rw [e1] at h
    obtain rfl := Option.some.inj h
    obtain ⟨e2, e3⟩ := sx_nd e1
    have e2 := sx_eq_iff.mp e2
    have e3 := sx_eq_iff.mp e3
    rw [show x = a by omega, show y = c by omega]
    exact ⟨Int.le_refl _, Int.le_refl _⟩
  | false =>
    rw [e1] at h
    dsimp only [cond_false] at h
    cases e4 : (sx_eq c d && sx_le (.ofNat 0) c) with
    | true =>
      rw [e4] at h
      obtain rfl := Option.some.inj h
      obtain ⟨e2, e3⟩ := sx_nd e4
      have e2 := sx_eq_iff.mp e2
      have e3 : 0 ≤ c := sx_le_iff.mp e3
      rw [show y = c by omega]
      exact ⟨Int.mul_le_mul_of_nonneg_right h1 e3, Int.mul_le_mul_of_nonneg_right h2 e3⟩
    | false =>
      rw [e4] at h
      dsimp only [cond_false] at h
      cases e5 : (sx_eq a b && sx_le (.ofNat 0) a) with
      | true =>
        rw [e5] at h
        obtain rfl := Option.some.inj h
        obtain ⟨e2, e3⟩ := sx_nd e5
        have e2 := sx_eq_iff.mp e2
        have e3 : 0 ≤ a := sx_le_iff.mp e3
        rw [show x = a by omega]
        exact ⟨Int.mul_le_mul_of_nonneg_left h3 e3, Int.mul_le_mul_of_nonneg_left h4 e3⟩
      | false => rw [e5] at h; cases h
theorem sx_bit_s {w : sx_w} {Y : sx_Y} {st : List sx_V} {st' : List mj_V} {an : Bool} {k : sx_I → sx_Y → List sx_V → Bool} {g : Int32 → Int32 → Int32} {k' : List mj_V → Prop} (h : sx_bit Y st an g k = true) (hS : sx_RS w st st') (hY : sx_RY w Y) (han : an = true → ∀ (x : Int32) (c : Int), 0 ≤ c → c ≤ 2147483647 → 0 ≤ (g x (Int32.ofInt c)).toInt ∧ (g x (Int32.ofInt c)).toInt ≤ c)
    (kk : ∀ w' x z Y' t t', sx_e w w' → sx_RY w' Y' → sx_RI w' x z → sx_RS w' t t' → k x Y' t = true → k' (.inl z :: t')) : mj_op st' g k' := by
  obtain ⟨y, t, zy, t', rfl, hy, hS, h⟩ := sx_i1_s h hS
  obtain ⟨x, t, zx, t', rfl, hx, hS, h⟩ := sx_i1_s h hS
  obtain ⟨a, b, h, h1, h2⟩ := sx_iv_s h hY hx
  obtain ⟨c, d, h, h3, h4⟩ := sx_iv_s h hY hy
  intro z hz hze
  have full : (sx_ff Y fun x Y => k x Y t) = true → k' (.inl z :: t') := fun hf => by
    obtain ⟨w', x', Y', u1, u2, u3, u4⟩ := sx_ff_s hf hY hz
    exact kk w' x' z Y' t t' u1 u2 u3 (hS.up u1.1) u4
  cases e1 : sx_eq c d with
  | false => rw [e1] at h; exact full h
  | true =>
    rw [e1] at h
    have e1 := sx_eq_iff.mp e1
    have ec : zy = c := by omega
    dsimp only [cond_true] at h
    cases e2 : sx_eq a b with
    | true =>
      rw [e2] at h
      have e2 := sx_eq_iff.mp e2
      dsimp only [cond_true] at h
      rw [sx_fi_eq] at h
      refine kk w _ z Y t t' sx_e.rf hY ?_ hS h
      show (g (Int32.ofInt a) (Int32.ofInt c)).toInt = z
      rw [hze, show zx = a by omega, ec]
    | false =>
      rw [e2] at h
      dsimp only [cond_false] at h
      cases e3 : (an && (sx_le (.ofNat 0) c && sx_le c (.ofNat 2147483647))) with
      | false => rw [e3] at h; exact full h
      | true =>
        rw [e3] at h
        dsimp only [cond_true] at h
        obtain ⟨a1, a2⟩ := sx_nd e3
        obtain ⟨a2, a3⟩ := sx_nd a2
        obtain ⟨b1, b2⟩ := han a1 (Int32.ofInt zx) c (sx_le_iff.mp a2) (sx_le_iff.mp a3)
        rw [ec] at hze
        rw [← hze] at b1 b2
        obtain ⟨w', x', Y', u1, u2, u3, u4⟩ := sx_fr_s h hY b1 b2
        exact kk w' x' z Y' t t' u1 u2 u3 (hS.up u1.1) u4
theorem sx_and_in (x : Int32) (c : Int) (h0 : 0 ≤ c) (h1 : c ≤ 2147483647) : 0 ≤ (x &&& Int32.ofInt c).toInt ∧ (x &&& Int32.ofInt c).toInt ≤ c := by
  have hb : (Int32.ofInt c).toBitVec.toNat = c.toNat := by
    rw [Int32.toBitVec_ofInt, BitVec.toNat_ofInt]
    congr 1
    exact Int.emod_eq_of_lt h0 (by omega)
  have hle : x.toBitVec.toNat &&& c.toNat ≤ c.toNat := Nat.and_le_right
  have e : (x &&& Int32.ofInt c).toInt = ((x.toBitVec.toNat &&& c.toNat : Nat) : Int) := by
    show (x &&& Int32.ofInt c).toBitVec.toInt = _
    rw [Int32.toBitVec_and, BitVec.toInt_eq_toNat_cond, BitVec.toNat_and, hb, if_pos (by omega)]
  rw [e]
  omega
theorem sx_un_s {w : sx_w} {Y : sx_Y} {st : List sx_V} {st' : List mj_V} {k : sx_I → sx_Y → List sx_V → Bool} {g : Int32 → Int32} {k' : List mj_V → Prop} (h : sx_un Y st g k = true) (hS : sx_RS w st st') (hY : sx_RY w Y)
    (kk : ∀ w' x z Y' t t', sx_e w w' → sx_RY w' Y' → sx_RI w' x z → sx_RS w' t t' → k x Y' t = true → k' (.inl z :: t')) : mj_un st' g k' := by
  obtain ⟨x, t, zx, t', rfl, hx, hS, h⟩ := sx_i1_s h hS
  obtain ⟨a, b, h, h1, h2⟩ := sx_iv_s h hY hx
  intro z hz hze
  cases e2 : sx_eq a b with
  | true =>
    rw [e2] at h
    have e2 := sx_eq_iff.mp e2
    dsimp only [cond_true] at h
    rw [sx_fi_eq] at h
    refine kk w _ z Y t t' sx_e.rf hY ?_ hS h
    show (g (Int32.ofInt a)).toInt = z
    rw [hze, show zx = a by omega]
  | false =>
    rw [e2] at h
    obtain ⟨w', x', Y', u1, u2, u3, u4⟩ := sx_ff_s h hY hz
    exact kk w' x' z Y' t t' u1 u2 u3 (hS.up u1.1) u4
theorem sx_tf_s {w : sx_w} {Y : sx_Y} {x : sx_I} {z : Int} (h : sx_tf Y x = true) (hY : sx_RY w Y) (hx : sx_RI w x z) : z = 0 ∨ z = 1 := by
  obtain ⟨a, b, h, h1, h2⟩ := sx_iv_s h hY hx
  obtain ⟨h3, h4⟩ := sx_nd h
  have h3 : 0 ≤ a := sx_le_iff.mp h3
  have h4 : b ≤ 1 := sx_le_iff.mp h4
  omega
theorem sx_swt_s {w : sx_w} {Y : sx_Y} {a b z : Int} {k : Nat → sx_Y → Bool} {x : sx_I} {k' : Nat → Prop} (hY : sx_RY w Y) (hx : sx_RI w x z) (h1 : a ≤ z) (h2 : z ≤ b) (kk : ∀ t Y', sx_RY w Y' → k t Y' = true → k' t) : ∀ (ts : List Nat) (v : Int), sx_swt Y a b k x v ts = true → mj_sw z k' v ts
  | [], _, _ => trivial
  | t :: ts, v, h => by
    obtain ⟨ha, hb⟩ := sx_nd h
    refine ⟨fun e => ?_, sx_swt_s hY hx h1 h2 kk ts (v + 1) hb⟩
    subst e
    have hk := sx_ct ha (by rw [Bool.and_eq_true, sx_le_iff, sx_le_iff]; exact ⟨h1, h2⟩)
    cases x with
    | inl _ => exact kk t Y hY hk
    | inr i => exact kk t _ (hY.set ⟨by rw [hx.2]; exact Int.le_refl _, by rw [hx.2]; exact Int.le_refl _⟩) hk
end
section
/-! ===== one instruction of the symbolic run ===== -/
theorem sx_RS.c {w : sx_w} {x : sx_V} {v : mj_V} {t : List sx_V} {t' : List mj_V} (hS : sx_RS w t t') (hv : sx_RV w x v) : sx_RS w (x :: t) (v :: t') := ⟨v, t', rfl, hv, hS⟩
theorem sx_RI.v {w : sx_w} {x : sx_I} {z : Int} (h : sx_RI w x z) : sx_RV w (.inl x) (.inl z) := ⟨z, rfl, h⟩
theorem sx_RO.v {w : sx_w} {x r : Option Nat} (h : sx_RO w x r) : sx_RV w (.inr (.inr x)) (.inr (.inr r)) := ⟨r, rfl, h⟩
theorem sx_RV.l {w : sx_w} {x : Int64} : sx_RV w (.inr (.inl x)) (.inr (.inl x)) := rfl
def sx_Sem (q : sx_q) (y d : Nat) (rest : List mj_E) (L : sx_L) (st : List sx_V) (cb sb : Nat) (fs : List sx_F) (h : sx_H) (Y : sx_Y) : Prop := ∀ (w : sx_w) (L' : mj_L) (st' : List mj_V) (G : mj_G) (M : mj_M) (Q : mj_P) (Z : mj_S), sx_cz q fs y d Q Z → sx_RL w L L' → sx_RS w st st' → sx_RF q w fs Q → sx_RH w h G M → sx_RY w Y → Z rest L' st' G M cb sb
def sx_ks (q : sx_q) (K : sx_K) : Prop := ∀ y d rest L st cb sb fs h Y, K y d rest L st cb sb fs h Y = true → sx_Sem q y d rest L st cb sb fs h Y
theorem sx_call_s {q : sx_q} {K : sx_K} (hK : sx_ks q K) {y d : Nat} {rest : List mj_E} {L : sx_L} {st : List sx_V} {cb sb : Nat} {fs : List sx_F} {h : sx_H} {Y : sx_Y} {f : Nat} {av : List sx_V} {w : sx_w} {L' : mj_L} {st' av' : List mj_V} {G : mj_G} {M : mj_M} {Q : mj_P} {Z : mj_S} (hk : sx_call K y d rest L st cb sb fs h Y f av = true) (hz : sx_cz q fs y d Q Z) (hL : sx_RL w L L') (hS : sx_RS w st st') (hA : sx_RS w av av') (hF : sx_RF q w fs Q) (hH : sx_RH w h G M) (hY : sx_RY w Y) :
    mj_cat st' ≤ 8 ∧ (sx_ms f).1 ≤ cb ∧ (sx_ms f).2 ≤ sb ∧ mj_R mj_tab d f av' G M fun r G M => Z rest L' (mj_ret r st') G M (cb - (sx_ms f).1) (sb - (sx_ms f).2) := by
  cases d with
  | zero => cases hk
  | succ d =>
    obtain ⟨hc, hk⟩ := sx_cd hk
    obtain ⟨c1, hc⟩ := sx_nd hc
    obtain ⟨c2, hc⟩ := sx_nd hc
    obtain ⟨c3, hc⟩ := sx_nd hc
    obtain ⟨c4, c5⟩ := sx_nd hc
    refine ⟨by rw [← sx_cat_s hS]; exact sx_ble c1, sx_ble c2, sx_ble c3, by rw [← sx_wd_s hA]; exact sx_ble c4, ?_⟩
    intro Z' hZ'
    have hfull : sx_full f = (mj_tab f).2.2.2.2.1 := by unfold sx_full; rw [c5]; rfl
    refine hK _ _ _ _ _ _ _ _ _ _ hk w _ _ G M _ Z' ⟨by rw [hfull]; exact hZ', fun q => by cases q⟩ (sx_en_s _ hA) rfl ⟨L', st', Q, Z, hz, hL, hS, hF, fun r G M h => h⟩ hH hY
theorem sx_back_s {q : sx_q} {K : sx_K} (hK : sx_ks q K) {fs : List sx_F} {h : sx_H} {Y : sx_Y} {w : sx_w} {G : mj_G} {M : mj_M} {Q : mj_P} {r : Option sx_V} {r' : Option mj_V} (hk : sx_back K fs h Y r = true) (hr : match r with
    | none => r' = none
    | some v => ∃ v', r' = some v' ∧ sx_RV w v v') (hF : sx_RF q w fs Q) (hH : sx_RH w h G M) (hY : sx_RY w Y) : Q r' G M := by
  match fs, hk, hF with
  | [], hk, hF =>
    cases r with
    | none => cases hk
    | some v =>
      rcases v with x | x
      · have hk : sx_kn Y x (fun z => sx_eq z (.ofNat 1)) = true := hk
        obtain ⟨v', rfl, z, rfl, hz⟩ := hr
        have hz1 := sx_kn_s hk hY hz
        have := sx_eq_iff.mp hz1
        rw [show z = 1 from this]
        exact hF.1 G M
      · cases hk
  | (y, d, rest, L, st, cb, sb) :: fs, hk, hF =>
    obtain ⟨L', st', Q', Z, z1, z2, z3, z4, z5⟩ := hF
    cases r with
    | none =>
      obtain rfl : r' = none := hr
      exact z5 none G M (hK _ _ _ _ _ _ _ _ _ _ hk w L' st' G M Q' Z z1 z2 z3 z4 hH hY)
    | some v =>
      obtain ⟨v', rfl, hv⟩ := hr
      exact z5 (some v') G M (hK _ _ _ _ _ _ _ _ _ _ hk w L' (v' :: st') G M Q' Z z1 z2 ⟨v', st', rfl, hv, z3⟩ z4 hH hY)
theorem sx_lib_s {w : sx_w} {f : Nat} {Y : sx_Y} {st : List sx_V} {st' : List mj_V} {h : sx_H} {G : mj_G} {M : mj_M} {k : List sx_V → sx_H → Bool} {k' : List mj_V → mj_M → Prop} (hk : sx_lib f Y st h k = true) (hS : sx_RS w st st') (hH : sx_RH w h G M) (hY : sx_RY w Y) (kk : ∀ t t' h' M', k t h' = true → sx_RS w t t' → sx_RH w h' G M' → k' t' M') : mj_lib f st' G M k' := by
  unfold sx_lib at hk
  split at hk
  · obtain ⟨y, t, zy, t', rfl, hy, hS, hk⟩ := sx_i1_s hk hS
    obtain ⟨x, t, zx, t', rfl, hx, hS, hk⟩ := sx_i1_s hk hS
    obtain ⟨h8, hk⟩ := sx_cd hk
    have hk := sx_kn_s (sx_kn_s hk hY hx) hY hy
    refine ⟨by rw [← sx_cat_s hS]; exact sx_ble h8, fun z h1 h2 => kk _ _ h M hk (hS.c (sx_RI.v ?_)) hH⟩
    show cond (sx_le zy zx) zx zy = z
    cases e : sx_le zy zx with
    | true => have := sx_le_iff.mp e; rw [h2 (by omega)]; rfl
    | false => have := sx_le_no (x := zy) (y := zx) (by rw [e]; exact Bool.false_ne_true); rw [h1 this]; rfl
  · obtain ⟨y, t, zy, t', rfl, hy, hS, hk⟩ := sx_i1_s hk hS
    obtain ⟨x, t, zx, t', rfl, hx, hS, hk⟩ := sx_i1_s hk hS
    obtain ⟨h8, hk⟩ := sx_cd hk
    have hk := sx_kn_s (sx_kn_s hk hY hx) hY hy
    refine ⟨by rw [← sx_cat_s hS]; exact sx_ble h8, fun z h1 h2 => kk _ _ h M hk (hS.c (sx_RI.v ?_)) hH⟩
    show cond (sx_le zx zy) zx zy = z
    cases e : sx_le zx zy with
    | true => have := sx_le_iff.mp e; rw [h2 (by omega)]; rfl
    | false => have := sx_le_no (x := zx) (y := zy) (by rw [e]; exact Bool.false_ne_true); rw [h1 this]; rfl
  · obtain ⟨n, t, zn, t', rfl, hn, hS, hk⟩ := sx_i1_s hk hS
    obtain ⟨dp, t, zd, t', rfl, hd, hS, hk⟩ := sx_i1_s hk hS
    obtain ⟨b, t, t', rfl, hb, hS, hk⟩ := sx_a1_s hk hS
    obtain ⟨sp, t, zs, t', rfl, hs, hS, hk⟩ := sx_i1_s hk hS
    obtain ⟨a, t, t', rfl, ha, hS, hk⟩ := sx_a1_s hk hS
    have hk := sx_kn_s (sx_kn_s (sx_kn_s hk hY hn) hY hd) hY hs
    rw [sx_cl_eq, sx_cl_eq] at hk
    obtain ⟨hc, hk⟩ := sx_cd hk
    obtain ⟨c1, hc⟩ := sx_nd hc
    obtain ⟨c2, hc⟩ := sx_nd hc
    obtain ⟨c3, hc⟩ := sx_nd hc
    obtain ⟨c4, hc⟩ := sx_nd hc
    obtain ⟨c5, hc⟩ := sx_nd hc
    obtain ⟨c6, hc⟩ := sx_nd hc
    obtain ⟨c7, hc⟩ := sx_nd hc
    obtain ⟨c8, hc⟩ := sx_nd hc
    obtain ⟨c9, hc⟩ := sx_nd hc
    obtain ⟨c10, c11⟩ := sx_nd hc
    have c4 : 0 ≤ zs := sx_le_iff.mp c4
    have c5 : 0 ≤ zd := sx_le_iff.mp c5
    have c6 : 0 ≤ zn := sx_le_iff.mp c6
    have c7 := sx_ble c7
    have c8 := sx_ble c8
    have c9 := sx_ble c9
    have c10 := sx_ble c10
    obtain ⟨u, u1, hk⟩ := sx_cpa_s _ hk (by omega)
    rw [sx_pt_eq] at hk
    obtain ⟨a1, a2, a3⟩ := hH.2.2.1 a (by rw [hH.1]; exact ha)
    obtain ⟨b1, b2, b3⟩ := hH.2.2.1 b (by rw [hH.1]; exact hb)
    refine ⟨_, _, a1, sx_beq c1, _, _, b1, sx_beq c2, sx_blt c3, c4, c5, c6, by omega, by omega, by rw [← sx_cat_s hS]; exact sx_ble c11, kk _ _ _ _ hk hS (hH.put hb ⟨b1, b2, fun q hq => ⟨?_, (b3 q hq).2⟩⟩ (fun x hx => ⟨fun k => ?_, fun _ => rfl, fun _ => rfl⟩))⟩
    · show sx_RI w (sx_g u q) (if w.2.2.2 b = w.2.2.2 b ∧ zd.toNat ≤ q ∧ q < zd.toNat + zn.toNat then M.1 (w.2.2.2 a) (zs.toNat + (q - zd.toNat)) else M.1 (w.2.2.2 b) q)
      rw [u1 q hq]
      by_cases e : zd.toNat ≤ q ∧ q < zd.toNat + zn.toNat
      · rw [if_pos e, if_pos ⟨rfl, e⟩]; exact (a3 _ (by omega)).1
      · rw [if_neg e, if_neg (fun v => e v.2)]; exact (b3 q hq).1
    · show (if x = w.2.2.2 b ∧ zd.toNat ≤ k ∧ k < zd.toNat + zn.toNat then M.1 (w.2.2.2 a) (zs.toNat + (k - zd.toNat)) else M.1 x k) = M.1 x k
      rw [if_neg (fun v => hx v.1)]
  · obtain ⟨n, t, zn, t', rfl, hn, hS, hk⟩ := sx_i1_s hk hS
    obtain ⟨dp, t, zd, t', rfl, hd, hS, hk⟩ := sx_i1_s hk hS
    obtain ⟨b, t, t', rfl, hb, hS, hk⟩ := sx_a1_s hk hS
    obtain ⟨sp, t, zs, t', rfl, hs, hS, hk⟩ := sx_i1_s hk hS
    obtain ⟨a, t, t', rfl, ha, hS, hk⟩ := sx_a1_s hk hS
    have hk := sx_kn_s (sx_kn_s (sx_kn_s hk hY hn) hY hd) hY hs
    rw [sx_cl_eq, sx_cl_eq] at hk
    obtain ⟨hc, hk⟩ := sx_cd hk
    obtain ⟨c1, hc⟩ := sx_nd hc
    obtain ⟨c2, hc⟩ := sx_nd hc
    obtain ⟨c3, hc⟩ := sx_nd hc
    obtain ⟨c4, hc⟩ := sx_nd hc
    obtain ⟨c5, hc⟩ := sx_nd hc
    obtain ⟨c6, hc⟩ := sx_nd hc
    obtain ⟨c7, hc⟩ := sx_nd hc
    obtain ⟨c8, hc⟩ := sx_nd hc
    obtain ⟨c9, hc⟩ := sx_nd hc
    obtain ⟨c10, c11⟩ := sx_nd hc
    have c4 : 0 ≤ zs := sx_le_iff.mp c4
    have c5 : 0 ≤ zd := sx_le_iff.mp c5
    have c6 : 0 ≤ zn := sx_le_iff.mp c6
    have c7 := sx_ble c7
    have c8 := sx_ble c8
    have c9 := sx_ble c9
    have c10 := sx_ble c10
    obtain ⟨u, u1, hk⟩ := sx_cpa_s _ hk (by omega)
    rw [sx_pt_eq] at hk
    obtain ⟨a1, a2, a3⟩ := hH.2.2.1 a (by rw [hH.1]; exact ha)
    obtain ⟨b1, b2, b3⟩ := hH.2.2.1 b (by rw [hH.1]; exact hb)
    refine ⟨_, _, a1, sx_beq c1, _, _, b1, sx_beq c2, sx_blt c3, c4, c5, c6, by omega, by omega, by rw [← sx_cat_s hS]; exact sx_ble c11, kk _ _ _ _ hk hS (hH.put hb ⟨b1, b2, fun q hq => ⟨(b3 q hq).1, ?_, (b3 q hq).2.2⟩⟩ (fun x hx => ⟨fun _ => rfl, fun k => ?_, fun _ => rfl⟩))⟩
    · show (if w.2.2.2 b = w.2.2.2 b ∧ zd.toNat ≤ q ∧ q < zd.toNat + zn.toNat then M.2.1 (w.2.2.2 a) (zs.toNat + (q - zd.toNat)) else M.2.1 (w.2.2.2 b) q) = sx_g u q
      rw [u1 q hq]
      by_cases e : zd.toNat ≤ q ∧ q < zd.toNat + zn.toNat
      · rw [if_pos e, if_pos ⟨rfl, e⟩]; exact (a3 _ (by omega)).2.1
      · rw [if_neg e, if_neg (fun v => e v.2)]; exact (b3 q hq).2.1
    · show (if x = w.2.2.2 b ∧ zd.toNat ≤ k ∧ k < zd.toNat + zn.toNat then M.2.1 (w.2.2.2 a) (zs.toNat + (k - zd.toNat)) else M.2.1 x k) = M.2.1 x k
      rw [if_neg (fun v => hx v.1)]
  · cases hk
theorem sx_get_s {w : sx_w} {ci fk : Nat} {st : List sx_V} {st' : List mj_V} {h : sx_H} {G : mj_G} {M : mj_M} {k : List sx_V → Bool} {k' : List mj_V → Prop} (hk : sx_get ci fk st h k = true) (hS : sx_RS w st st') (hH : sx_RH w h G M) (kk : ∀ t t', k t = true → sx_RS w t t' → k' t') : mj_get ci fk st' G M k' := by
  obtain ⟨hf, hk⟩ := sx_cd hk
  have hf := sx_blt hf
  obtain ⟨i, t, t', rfl, hi, hS, hk⟩ := sx_a1_s hk hS
  rw [sx_cl_eq] at hk
  obtain ⟨ht, hk⟩ := sx_cd hk
  obtain ⟨c1, c2, c3⟩ := hH.2.2.1 i (by rw [hH.1]; exact hi)
  obtain ⟨d1, d2, d3⟩ := c3 fk hf
  refine ⟨_, _, c1, sx_beq ht, ?_⟩
  split at hk
  · rename_i e
    rw [e]
    exact kk _ _ hk (hS.c d1.v)
  · rename_i e
    rw [e]
    exact kk _ _ hk (hS.c (by rw [← d2]; exact sx_RV.l))
  · rename_i e1 e2
    have hg : mj_rf (M.2.2 (w.2.2.2 i) fk) fun v => k' (v :: t') := ⟨fun b hb => kk _ _ hk (hS.c (sx_RO.v (hb ▸ d3))), fun hb => kk _ _ hk (hS.c (sx_RO.v (hb ▸ d3)))⟩
    split
    · rename_i e; exact absurd e e1
    · rename_i e; exact absurd e e2
    · exact hg
theorem sx_wr_s {w : sx_w} {h : sx_H} {i s : Nat} {k : Bool} {G : mj_G} {M : mj_M} (hk : sx_wr h i s k = true) (hH : sx_RH w h G M) (hi : i < w.2.2.1) : (∃ t n, G (w.2.2.2 i) = (t, n) ∧ t % 1000 = s ∧ t < 900000) ∧ k = true := by
  unfold sx_wr at hk
  rw [sx_cl_eq] at hk
  obtain ⟨hc, hk⟩ := sx_cd hk
  obtain ⟨h1, h2⟩ := sx_nd hc
  obtain ⟨c1, c2, c3⟩ := hH.2.2.1 i (by rw [hH.1]; exact hi)
  exact ⟨⟨_, _, c1, sx_beq h1, sx_blt h2⟩, hk⟩
theorem sx_put_s {w : sx_w} {ci fk : Nat} {Y : sx_Y} {st : List sx_V} {st' : List mj_V} {h : sx_H} {G : mj_G} {M : mj_M} {k : List sx_V → sx_H → Bool} {k' : List mj_V → mj_M → Prop} (hk : sx_put ci fk Y st h k = true) (hS : sx_RS w st st') (hH : sx_RH w h G M) (hY : sx_RY w Y) (kk : ∀ t t' h' M', k t h' = true → sx_RS w t t' → sx_RH w h' G M' → k' t' M') : mj_put ci fk st' G M k' := by
  unfold sx_put at hk
  unfold mj_put
  split at hk
  · rename_i e
    rw [e]
    obtain ⟨x, t, z, t', rfl, hx, hS, hk⟩ := sx_i1_s hk hS
    obtain ⟨i, t, t', rfl, hi, hS, hk⟩ := sx_a1_s hk hS
    obtain ⟨⟨tt, n, g1, g2, g3⟩, hk⟩ := sx_wr_s hk hH hi
    obtain ⟨hb, hk⟩ := sx_nd hk
    obtain ⟨h', u1, u2⟩ := sx_p0_s hk hH hi hx
    refine ⟨tt, n, g1, g2, g3, fun q => ?_, kk _ _ _ _ u2 hS u1⟩
    rw [q] at hb
    exact sx_tf_s hb hY hx
  · rename_i e
    rw [e]
    obtain ⟨x, t, t', rfl, hS, hk⟩ := sx_l1_s hk hS
    obtain ⟨i, t, t', rfl, hi, hS, hk⟩ := sx_a1_s hk hS
    obtain ⟨⟨tt, n, g1, g2, g3⟩, hk⟩ := sx_wr_s hk hH hi
    obtain ⟨h', u1, u2⟩ := sx_p1_s hk hH hi
    exact ⟨tt, n, g1, g2, g3, kk _ _ _ _ u2 hS u1⟩
  · rename_i e1 e2
    obtain ⟨x, t, z, t', rfl, hx, hS, hk⟩ := sx_r1_s hk hS
    obtain ⟨i, t, t', rfl, hi, hS, hk⟩ := sx_a1_s hk hS
    obtain ⟨⟨tt, n, g1, g2, g3⟩, hk⟩ := sx_wr_s hk hH hi
    obtain ⟨h', u1, u2⟩ := sx_p2_s hk hH hi hx
    split
    · rename_i e; exact absurd e e1
    · rename_i e; exact absurd e e2
    · exact ⟨tt, n, g1, g2, g3, kk _ _ _ _ u2 hS u1⟩
end
section
/-! ===== 'throw new NoSuchElementException("text")': its maker's link stands at 13 in its pool, not at 7, so the printed row vx_throwS doesn't take it; the same by the library's rows on chains of makers (chainSX, ctorMessageOffV, athrowLeaves) ===== -/
abbrev td_E : String := "java/util/NoSuchElementException"
abbrev td_N : List String := ["java/lang/RuntimeException", "java/lang/Exception"]
abbrev td_tx : String := "no such town, or nothing such is told of it"
abbrev td_rx : ByteArray := prog_23_method_4_code
abbrev td_own : List Cond := Bundle.ownAtomsX RX11 153 td_E 13 td_rx td_N
section TDC
variable {p : Program} {l : Launch} {e : Env} {R : Room} {s : State} {m₀ : MethodId} {args : Array Value} {below : List Frame} {meth : Method} {c : Code} {V : State} {cells slots : Nat}
set_option maxHeartbeats 2000000 in
theorem td_ctor (X : Stand p l e R s m₀ args below meth c V [] cells slots) (hexec : p.tables.exec = Jvm.exec) (htr : e.platform.stackTraces = false) (hown : s.vm.findClass RX11 = some m₀.cls) (h : ∀ w ∈ td_own, w.before args s = true)
    {a : Addr} {cX : ClassId} {kX : Class} (hfX : s.vm.findClass td_E = some cX) (hkX : s.vm.classes[cX]? = some kX) (hcell : V.heap[a]? = some (freshCell cX kX)) (hnew : s.heap.size ≤ a) {msg : Value} (hmsg : msg.isRef = true)
    {g : JFrame} (hg : g.method = m₀) (hsize : g.locals.size = c.maxLocals) (hlocked : g.locked = none) (hentered : g.entered = []) {rest : List Value} (hstack : g.stack = msg :: .ref a :: .ref a :: rest)
    (hd6 : decode c.code g.pc = .ok (.invokespecial 153, 3)) (hd9 : decode c.code (g.pc + 3) = .ok (.athrow, 1)) (hout : ∀ x ∈ c.exceptionTable.toList, covers x (g.pc + 3) = false)
    (hRf : 5 < R.frames) (hRl : 2 * g.monitorRoom + ((Value.ref a :: rest).map fun v => v.category).sum + 81 ≤ R.locals) (hlocks : meth.locks = false) :
    ∃ U : State, Steps p.tables e below (V.setTop g) U ∧ U.status = .running ∧ Ended U below (.threw a) ∧ s.WarmedH U.vm ∧ s.sameButNew ({ U with vm := s.vm } : State) [] cells slots ∧ ∃ ce, U.heap[a]? = some ce ∧ ce.cls = cX ∧ ce.vm = .none := by
  have hpl : e.platform.magicAccessors = ({} : Platform).magicAccessors := by rw [X.admits.platform]
  have hw : ∀ w, w ∈ td_own → w.holds args s none s [] = true := fun w hw => h w hw
  have fitX : Bundle.fit td_E = true := by decide +kernel
  obtain ⟨T, Z0, L, -, Y⟩ := ThrowableC.of_atoms (args := args) (by rw [X.admits.platform]) (by rw [X.admits.platform]) hpl (fun x hx => h x (by simp [td_own, Bundle.ownAtomsX, hx]))
  obtain ⟨Z, M, LZ, LM, hnZ⟩ := Init0T.ofS_atoms (args := args) hpl L Y (fun x hx => h x (by simp [td_own, Bundle.ownAtomsX, hx]))
  obtain ⟨P1, Ps, hlen, L1, hL, hP1m, hlink1, hlink⟩ := Bundle.chainSX (args := args) hpl hnZ (ix := 13) (rx := td_rx) (by decide +kernel) (by decide +kernel) (by decide +kernel) (by decide +kernel) td_N td_E fitX (by decide +kernel) (fun x hx => h x (by simp [td_own, Bundle.ownAtomsX, hx]))
  have hlen2 : Ps.length = 2 := hlen
  have hf1 : s.vm.findClass td_E = some P1.m.cls := findClass_of_methodNamed hP1m
  cases Option.some.inj (hfX.symm.trans hf1)
  obtain ⟨c1, kX', hc1, hk, hord, -, -, hn6⟩ := Cond.instantiable_spec (hw (.instantiable td_E 6) (by simp [td_own, Bundle.ownAtomsX]))
  cases Option.some.inj (hc1.symm.trans hf1)
  cases Option.some.inj (hkX.symm.trans hk)
  have sel : ∀ {y : MethodName} {f : MethodId}, Cond.selects td_E y y ∈ td_own → s.methodNamed? y = some f → s.methodFound? y.cls y.name y.desc = some f → selectMethod e.platform s.vm P1.m.cls f = .method f := fun {y f} hin hn hfo => by
    obtain ⟨c2, r2, m2, q1, q2, q3, q4, -⟩ := Cond.selects_spec (hw _ hin)
    cases Option.some.inj (q1.symm.trans hf1)
    cases Option.some.inj (q2.symm.trans hfo)
    cases Option.some.inj (q3.symm.trans hn)
    rw [Launch.admits_selectMethod X.admits]; exact q4
  have hsel0 := sel (y := Bundle.tFill0) (by simp [td_own, Bundle.ownAtomsX]) Y.fill0 (State.methodFound?_of_named Y.fill0 (by decide))
  have hselF := sel (y := Bundle.tFill) (by simp [td_own, Bundle.ownAtomsX]) Y.fill (State.methodFound?_of_named Y.fill (by decide))
  obtain ⟨cS0, hcS0, hiss⟩ := Y.statics
  obtain ⟨u0, hu0⟩ := Cond.staticRefV Y.unassigned L.unassignedStatic L.statics hcS0 hiss (hw (.isRef (.static Bundle.tN "UNASSIGNED_STACK" Bundle.steD)) (by simp [td_own, Bundle.ownAtomsX]))
  obtain ⟨sen, hsen⟩ := Cond.staticRefV Y.sentinel L.sentinelStatic L.statics hcS0 hiss (hw (.isRef (.static Bundle.tN "SUPPRESSED_SENTINEL" Bundle.listD)) (by simp [td_own, Bundle.ownAtomsX]))
  obtain ⟨k198, i198, fB, hk198, hg198, ha198, hsB, -, hnB, htB, hffB⟩ := Cond.ownField (t := .object "java/lang/Object") Y.found L.cls (by decide +kernel) (hw (.fieldLink Bundle.tN 198 Bundle.tN "backtrace" "Ljava/lang/Object;") (by simp [td_own, Bundle.ownAtomsX])) (hw (.lays Bundle.tN Bundle.tN "backtrace" "Ljava/lang/Object;") (by simp [td_own, Bundle.ownAtomsX])) e.platform hpl
  obtain ⟨cS, hcS', heS, -, hkeep⟩ := X.same.2.2.2.2.2 T.aS cS0 hcS0
  have hcS : V.heap[T.aS]? = some cS := hcS'
  have hknS : cS.vm ≠ .unknown := fun hu => by
    rw [heS] at hu
    rw [hu] at hiss
    cases hiss
  have hneS : T.aS ≠ a := Nat.ne_of_lt (Nat.lt_of_lt_of_le (Array.getElem?_eq_some_iff.mp hcS0).1 hnew)
  obtain ⟨iM, hffM⟩ := Y.msg
  obtain ⟨tyC, dC, hdC, hdnC⟩ := Cond.laysAt hf1 hk Y.cause (hw (.lays td_E Bundle.tN "cause" "Ljava/lang/Throwable;") (by simp [td_own, Bundle.ownAtomsX]))
  obtain ⟨tyS, dS, hdS, hdnS⟩ := Cond.laysAt hf1 hk Y.stack (hw (.lays td_E Bundle.tN "stackTrace" Bundle.steD) (by simp [td_own, Bundle.ownAtomsX]))
  obtain ⟨tyP, dP, hdP, hdnP⟩ := Cond.laysAt hf1 hk Y.supp (hw (.lays td_E Bundle.tN "suppressedExceptions" Bundle.listD) (by simp [td_own, Bundle.ownAtomsX]))
  obtain ⟨tyM, dM, hdM, hdnM⟩ := Cond.laysAt hf1 hk hffM (hw (.lays td_E Bundle.tN "detailMessage" "Ljava/lang/String;") (by simp [td_own, Bundle.ownAtomsX]))
  obtain ⟨tyB, dB, hdB, hdnB⟩ := Cond.laysAt hf1 hk hffB (hw (.lays td_E Bundle.tN "backtrace" "Ljava/lang/Object;") (by simp [td_own, Bundle.ownAtomsX]))
  have bC := Cond.laysApart hdB hdC hdnB hdnC (by rw [hnB, Y.causeName]; decide)
  have bS := Cond.laysApart hdB hdS hdnB hdnS (by rw [hnB, Y.stackName]; decide)
  have bP := Cond.laysApart hdB hdP hdnB hdnP (by rw [hnB, Y.suppName]; decide)
  have hskip : SkipFacts T e.platform s (fun u => u) u0 ((preparedCellV T.toThrowableT (freshCell P1.m.cls kX) a u0 sen).withEntry V.cur) :=
    ⟨{ ci198 := k198, i198 := i198, fBack := fB }, ⟨hk198, hg198, ha198, hsB⟩, by
      have := fresh_default (c := P1.m.cls) tyB
      rw [htB] at this
      simpa [preparedCellV, Cell.setSlot, Cell.withEntry, Array.getElem?_setIfInBounds, bC, bS, bP, bC.symm, bS.symm, bP.symm, defaultValue] using this, fun _ _ => rfl⟩
  obtain ⟨tm, mC, cdC, kC, vm₁, hnC, -, -, -, -, -, -, -, hW₁, st1⟩ := Steps.initColdS (tb := p.tables) (e := e) (below := below) (s := s) (U := V) X.here hexec X.warmed hpl hown (t := Bundle.initS td_E) rfl rfl (Bundle.fit_spec fitX).2
    (hw (.methodLink RX11 153 (Bundle.initS td_E)) (by simp [td_own, Bundle.ownAtomsX])) (h (.instanceMethod (Bundle.initS td_E)) (by simp [td_own, Bundle.ownAtomsX, Bundle.chainSAtomsX, Bundle.passSAtoms])) (bytes := td_rx) (maxL := 2) (h (.code (Bundle.initS td_E) td_rx 2 none) (by simp [td_own, Bundle.ownAtomsX, Bundle.chainSAtomsX, Bundle.passSAtoms]))
    (f := g) hg (a := a) (msg := msg) (rest := .ref a :: rest) hstack hd6
  cases Option.some.inj (hnC.symm.trans hP1m)
  have X₁ := X.noted hW₁
  obtain ⟨vm₂, X₂, st2⟩ := X₁.ctorMessageOffV hexec (g := { g with stack := .ref a :: rest }) hg hsize T L Z LZ M LM (P1 :: Ps)
    (fun P hP => by rcases List.mem_cons.mp hP with rfl | hP; exact L1; exact hL P hP) ⟨hlink1, hlink⟩ (u0 := u0) (sen := sen) (self := a) hmsg (cell := freshCell P1.m.cls kX) (cellS := cS)
    hcell (fun _ => by simp) (by simp) rfl rfl hsel0 hselF hcS hneS hknS (by rw [hkeep _ (List.not_mem_nil)]; exact hu0) (by rw [hkeep _ (List.not_mem_nil)]; exact hsen)
    (Takes.of_laid hk hord tyC (by rw [Y.causeType]; rfl)) (Takes.of_laid hk hord tyS (by rw [Y.stackType]; exact fits_refV_array _ u0)) (Takes.of_laid hk hord tyP (by rw [Y.suppType]; exact fits_refV_object _ sen))
    (Takes.of_laid hk hord tyM (by rw [Y.msgType]; exact fits_refV_object _ ⟨msg, hmsg⟩)) Y.objLocals hskip htr [] hd6
    (by simp only [List.length_cons, hlen2]; omega) (by simp only [List.length_cons, hlen2]; exact hRl)
  obtain ⟨hwalk, hrun, hended, hWU, hsame⟩ := X₂.athrowLeaves hexec (g := { g with stack := .ref a :: rest, pc := g.pc + 3 }) hg hlocked hentered hout (a := a) (rest := rest) rfl hd9 hlocks
  have hlt : a < ((V.setVm vm₁).setVm vm₂).heap.size := (Array.getElem?_eq_some_iff.mp hcell).1
  have hU := heapAt_setCell_self (s := (V.setVm vm₁).setVm vm₂) (plainBareV T.toThrowableT (freshCell P1.m.cls kX) a u0 sen msg) hlt
  refine ⟨_, st1 _ (fun acts => ?_), hrun, hended, hWU, hsame.weaken (fun y hy hlt' => ?_) (Nat.le_refl _) (Nat.le_refl _), _, hU, rfl, rfl⟩
  · rw [doInvoke_state]
    exact st2 _ hwalk
  · rcases List.mem_append.mp hy with h1 | h1
    · exact h1
    · exfalso
      have hb : y.base = a := by
        simp only [List.mem_cons, List.not_mem_nil, or_false] at h1
        rcases h1 with rfl | rfl | rfl | rfl | rfl <;> rfl
      rw [hb] at hlt'
      exact Nat.not_lt.mpr hnew hlt'
end TDC
section TDT
variable {p : Program} {l : Launch} {e : Env} {R : Room} {s : State} {m : MethodId} {args : Array Value} {below : List Frame} {meth : Method} {c : Code} {H : Heap} {locs : List Loc} {cells slots : Nat} {free : Addr → Prop} {ls : Array Slot} {rest : List Value} {Qc : Array Value → State → Outcome → State → Prop} {XC : String → State → State → Prop}
/-- the printed row vx_throwS, for this exception -/
theorem td_throw {cc : ByteArray} {pc : Nat} (hexec : p.tables.exec = Jvm.exec) (hb : c.code = cc) (hl : l.stackTraces = false) {mc ms sa : Nat} {A : Nat → Prop}
    (hown : s.vm.findClass RX11 = some m.cls) (hk : (Cond.classLink RX11 149 td_E).before args s = true) (hini : (Cond.initialized td_E).before args s = true) (hstr : vk_R RX11 151 td_tx sa s) (hat : ∀ w ∈ td_own.filter vx_no, w.before args s = true)
    (hgood : ∀ w ∈ Cond.classLink RX11 149 td_E :: Cond.initialized td_E :: td_own.filter vx_no, vx_ot w = true)
    (hU : vx_Zq Bundle.tN "UNASSIGNED_STACK" Bundle.steD A s s.heap) (hN : vx_Zq Bundle.tN "SUPPRESSED_SENTINEL" Bundle.listD A s s.heap) (hS : va_S A s.heap H locs) (hsize : ls.size = c.maxLocals)
    (d0 : decode cc pc = .ok (.new 149, 3)) (d3 : decode cc (pc + 3) = .ok (.dup, 1)) (d4 : decode cc (pc + 4) = .ok (.ldc 151, 2)) (d6 : decode cc (pc + 6) = .ok (.invokespecial 153, 3)) (d9 : decode cc (pc + 9) = .ok (.athrow, 1))
    (hout : ∀ x ∈ c.exceptionTable.toList, covers x (pc + 9) = false)
    (hRframes : 5 < R.frames) (hRlocals : (rest.map fun v => v.category).sum + 82 ≤ R.locals) (hRcells : cells + 1 ≤ R.cells) (hRslots : slots + 6 ≤ R.slots) (hlocks : meth.locks = false)
    (hx : ∀ t : State, s.vm.Alike t.vm → H.size ≤ t.heap.size → (∀ q : Nat, q < H.size → t.heap[q]? = H[q]?) → XC td_E s t)
    (hf : ∀ z ∈ locs, free z.base) (hc : cells + 1 ≤ mc) (hs : slots + 6 ≤ ms) :
    W p l e R s m args below meth c H locs cells slots (vx_MQ below Qc XC args s mc ms free) (F0 m pc ls rest) := by
  intro T hT X
  have htr : e.platform.stackTraces = false := (show e.platform.stackTraces = l.stackTraces by rw [X.admits.platform]).trans hl
  have Y := vx_rebase X (R' := { frames := R.frames, locals := R.locals, cells := 1, slots := 6 }) (Nat.le_refl _) (Nat.le_refl _) hRcells hRslots
  obtain ⟨s', hA⟩ : ∃ z, z = (T.setVm s.vm).setFrames (.invoking m args :: below) := ⟨_, rfl⟩
  rw [← hA] at Y
  have hvm : s'.vm = s.vm := by rw [hA]; rfl
  have hhp : s'.heap = H := by rw [hA]; exact hT
  have hW0 : s.WarmedH s'.vm := by rw [hvm]; exact State.WarmedH.refl s
  have hat' : ∀ w ∈ td_own.filter vx_no, w.before args s' = true := fun w hw => vx_ot_at hW0 hvm.symm (hgood w (List.mem_cons_of_mem _ (List.mem_cons_of_mem _ hw))) (hat w hw)
  have hk' : (Cond.classLink RX11 149 td_E).before args s' = true := vx_ot_at hW0 hvm.symm (hgood _ List.mem_cons_self) hk
  have hini' : (Cond.initialized td_E).before args s' = true := vx_ot_at hW0 hvm.symm (hgood _ (List.mem_cons_of_mem _ List.mem_cons_self)) hini
  have hU' : vx_Zq Bundle.tN "UNASSIGNED_STACK" Bundle.steD A s' s'.heap := by rw [hhp]; exact vx_Zq.moved hW0.alike (hU.kept hS.2.1)
  have hN' : vx_Zq Bundle.tN "SUPPRESSED_SENTINEL" Bundle.listD A s' s'.heap := by rw [hhp]; exact vx_Zq.moved hW0.alike (hN.kept hS.2.1)
  have h : ∀ w ∈ td_own, w.before args s' = true := vx_own hat' (vx_isRefq hU'.1) (vx_isRefq hN'.1) hU'.2.word hN'.2.word
  have hown' : s'.vm.findClass RX11 = some m.cls := by rw [hvm]; exact hown
  have hins : (Cond.instantiable td_E 6).before args s' = true := h _ (by simp [td_own, Bundle.ownAtomsX])
  obtain ⟨vm₁, cX, kX, hfX, hkX, -, -, X₁, st1⟩ := Y.newCold hexec (own := RX11) (C := td_E) (index := 149) (n := 6) hown' hk' hins hini'
    (g := F0 m pc ls rest) rfl (by rw [hb]; exact d0) (Nat.le_refl _) (Nat.le_refl _)
  generalize hT1 : (T.setVm vm₁).pushCell { cls := cX, slots := kX.instanceTypes.map defaultValue, vm := .none } = T1 at X₁ st1
  have hcat : (Value.ref T.heap.size).category = 1 := rfl
  have hcellA : T1.heap[T.heap.size]? = some (freshCell cX kX) := by rw [← hT1]; exact State.heap_pushCell_size _ _
  have d3' : decode c.code (pc + 3) = .ok (.dup, 1) := by rw [hb]; exact d3
  have d4' : decode c.code (pc + 4) = .ok (.ldc 151, 2) := by rw [hb]; exact d4
  have hstr' : vk_R RX11 151 td_tx sa s' := vk_R.warm hW0 hstr
  obtain ⟨U, hsteps, hrun, hend, hW, hsame, ce, hce, hccls, hcvm⟩ := td_ctor X₁ hexec htr hown' h hfX hkX hcellA (by rw [hhp, hT]; exact Nat.le_refl _) (msg := .ref sa) rfl
    (g := { method := m, pc := pc + 6, locals := ls, stack := .ref sa :: .ref T.heap.size :: .ref T.heap.size :: rest, locked := none }) rfl hsize rfl rfl (rest := rest) rfl
    (by rw [hb]; exact d6) (by rw [hb]; exact d9) hout hRframes (by show 2 * 0 + _ + 81 ≤ _; simp only [List.map_cons, List.sum_cons, hcat]; omega) hlocks
  obtain ⟨f1, f2⟩ := vx_frame hsame
  rw [hhp] at f1 f2
  have hWs : s.WarmedH U.vm := State.WarmedH.trans hW0 hW
  have hcl : s.vm.findClass td_E = some ce.cls := by rw [hccls, ← hvm]; exact hfX
  have hall : s.sameButNew ({ U with vm := s.vm } : State) locs mc ms := by
    subst hA
    obtain ⟨e1, e2⟩ := hsame
    rw [State.setFrames_setFrames] at e1
    have h2 : (T.setVm s.vm).sameButNew ({ U with vm := s.vm } : State) [] (0 + 1) (0 + 6) := ⟨e1, e2⟩
    have h3 := X.same.trans h2
    rw [List.append_nil] at h3
    exact h3.mono hc hs
  refine ⟨U, ?_, .threw T.heap.size, hrun, hend, Or.inr ⟨T.heap.size, rfl, td_E, ce, locs, hx U hWs.alike f1 (fun q hq => f2 q hq (fun z hz => nomatch hz)), hce, hcvm, hcl, hWs, hall, hf⟩⟩
  refine st1 _ ?_
  show Steps p.tables e below (T1.setTop { method := m, pc := pc + 3, locals := ls, stack := .ref T.heap.size :: rest, locked := none }) _
  jvm_step X₁.here [X₁.here.top, hexec, d3', Value.category]
  exact X₁.ldcString hexec (own := RX11) (text := td_tx) (index := 151) (a := sa) hown' hstr'.1 hstr'.2
    (g := { method := m, pc := pc + 4, locals := ls, stack := .ref T.heap.size :: .ref T.heap.size :: rest, locked := none }) rfl d4' _ hsteps
end TDT
end
section
/-! ===== the law's calls by contracts with the widest entry ===== -/
theorem lw_RR {G : mj_G} {o t n : Nat} {f : Nat → Int} (ho : G o = (t, 0)) (h0 : t ≠ 0) (h1 : t ≠ 1) (h50 : t ≠ 50) : ab_RR (n, f, 1, fun _ => some o) G [(t, 0)] := ⟨rfl, fun i q h => by
  cases i with
  | zero =>
    cases h
    exact Or.inr (Or.inr (Or.inr ⟨h0, h1, h50, o, rfl, ho⟩))
  | succ i => cases h⟩
def lw_ii (p : Option (ab_X ⊕ (Unit ⊕ (Nat × Nat)))) : Bool := match p with
  | some (.inl _) => true
  | _ => false
theorem lw_r {w : ab_wd} {G : mj_G} {po : ab_po} {r : Option mj_V} {M : mj_M} (h : lw_ii po.1 = true) (hp : ab_ph w G po r M) : ∃ z, r = some (.inl z) := by
  obtain ⟨p, ms⟩ := po
  rcases p with _ | X | l
  · cases h
  · obtain ⟨⟨z, e, -⟩, -⟩ := hp
    exact ⟨z, e⟩
  · cases h
abbrev lw_yy : ab_S := (.negSucc 2147483647, .ofNat 2147483647, [])
theorem lw_c0 {c : ab_co} {t o dd : Nat} {G : mj_G} {M : mj_M} {Q : mj_P} (hok : ab_ok c) (hp : ab_p c = ([], [(t, 0)], [], [some (.inr (.inr 0))])) (hd : ab_h c ≤ dd) (ho : G o = (t, 0)) (h0 : t ≠ 0) (h1 : t ≠ 1) (h50 : t ≠ 50) (hr : (ab_o c).all (fun po => lw_ii po.1) = true) (hI : ab_Inv G M) (hQ : ∀ z M', ab_Inv G M' → ab_frm (ab_w c) G M M' → Q (some (.inl z)) G M') : mj_R mj_tab (dd + 1) (ab_y c) [.inr (.inr (some o))] G M Q := by
  refine hok dd hd G M (0, hn_g [], 1, fun _ => some o) _ Q (by rw [hp]; exact hn_Y0) (by rw [hp]; exact lw_RR ho h0 h1 h50) (by rw [hp]; exact fun e he => by cases he) (by rw [hp]; exact ⟨_, _, rfl, ⟨Nat.zero_lt_one, rfl⟩, rfl⟩) hI (fun r M' i f ⟨po, hpo, h⟩ => ?_)
  obtain ⟨z, rfl⟩ := lw_r (List.all_eq_true.mp hr po hpo) h
  exact hQ z M' i f
theorem lw_c1 {c : ab_co} {t o dd : Nat} {z1 : Int} {G : mj_G} {M : mj_M} {Q : mj_P} (hok : ab_ok c) (hp : ab_p c = ([lw_yy], [(t, 0)], [], [some (.inr (.inr 0)), some (.inl (.inr (0, 1, .ofNat 0)))])) (hd : ab_h c ≤ dd) (ho : G o = (t, 0)) (h0 : t ≠ 0) (h1 : t ≠ 1) (h50 : t ≠ 50) (hr : (ab_o c).all (fun po => lw_ii po.1) = true) (hI : ab_Inv G M) (hz1 : mj_in z1) (hQ : ∀ z M', ab_Inv G M' → ab_frm (ab_w c) G M M' → Q (some (.inl z)) G M') : mj_R mj_tab (dd + 1) (ab_y c) [.inr (.inr (some o)), .inl z1] G M Q := by
  refine hok dd hd G M (1, hn_g [z1], 1, fun _ => some o) _ Q (by rw [hp]; exact hn_Y1 (hn_ii hz1)) (by rw [hp]; exact lw_RR ho h0 h1 h50) (by rw [hp]; exact fun e he => by cases he) (by rw [hp]; exact ⟨_, _, rfl, ⟨Nat.zero_lt_one, rfl⟩, _, _, rfl, ⟨_, rfl, hn_I (Nat.le_of_ble_eq_true rfl) rfl⟩, rfl⟩) hI (fun r M' i f ⟨po, hpo, h⟩ => ?_)
  obtain ⟨z, rfl⟩ := lw_r (List.all_eq_true.mp hr po hpo) h
  exact hQ z M' i f
theorem lw_c2 {c : ab_co} {t o dd : Nat} {z1 z2 : Int} {G : mj_G} {M : mj_M} {Q : mj_P} (hok : ab_ok c) (hp : ab_p c = ([lw_yy, lw_yy], [(t, 0)], [], [some (.inr (.inr 0)), some (.inl (.inr (0, 1, .ofNat 0))), some (.inl (.inr (1, 1, .ofNat 0)))])) (hd : ab_h c ≤ dd) (ho : G o = (t, 0)) (h0 : t ≠ 0) (h1 : t ≠ 1) (h50 : t ≠ 50) (hr : (ab_o c).all (fun po => lw_ii po.1) = true) (hI : ab_Inv G M) (hz1 : mj_in z1) (hz2 : mj_in z2) (hQ : ∀ z M', ab_Inv G M' → ab_frm (ab_w c) G M M' → Q (some (.inl z)) G M') : mj_R mj_tab (dd + 1) (ab_y c) [.inr (.inr (some o)), .inl z1, .inl z2] G M Q := by
  refine hok dd hd G M (2, hn_g [z1, z2], 1, fun _ => some o) _ Q (by rw [hp]; exact hn_Y2 (hn_ii hz1) (hn_ii hz2)) (by rw [hp]; exact lw_RR ho h0 h1 h50) (by rw [hp]; exact fun e he => by cases he) (by rw [hp]; exact ⟨_, _, rfl, ⟨Nat.zero_lt_one, rfl⟩, _, _, rfl, ⟨_, rfl, hn_I (Nat.le_of_ble_eq_true rfl) rfl⟩, _, _, rfl, ⟨_, rfl, hn_I (Nat.le_of_ble_eq_true rfl) rfl⟩, rfl⟩) hI (fun r M' i f ⟨po, hpo, h⟩ => ?_)
  obtain ⟨z, rfl⟩ := lw_r (List.all_eq_true.mp hr po hpo) h
  exact hQ z M' i f
theorem lw_Y3 {z z2 z3 : Int} {q : Nat × (Nat → Option Nat)} (h : mj_in z) (h2 : mj_in z2) (h3 : mj_in z3) : ab_RY (3, hn_g [z, z2, z3], q) [lw_yy, lw_yy, lw_yy] := hn_Y (zs := [z, z2, z3]) rfl (fun i lo hi r e => by
  cases i with
  | zero => cases e; exact ⟨rfl, hn_ii h⟩
  | succ i => cases i with
    | zero => cases e; exact ⟨rfl, hn_ii h2⟩
    | succ i => cases i with
      | zero => cases e; exact ⟨rfl, hn_ii h3⟩
      | succ i => cases e)
theorem lw_c3 {c : ab_co} {t o dd : Nat} {z1 z2 z3 : Int} {G : mj_G} {M : mj_M} {Q : mj_P} (hok : ab_ok c) (hp : ab_p c = ([lw_yy, lw_yy, lw_yy], [(t, 0)], [], [some (.inr (.inr 0)), some (.inl (.inr (0, 1, .ofNat 0))), some (.inl (.inr (1, 1, .ofNat 0))), some (.inl (.inr (2, 1, .ofNat 0)))])) (hd : ab_h c ≤ dd) (ho : G o = (t, 0)) (h0 : t ≠ 0) (h1 : t ≠ 1) (h50 : t ≠ 50) (hr : (ab_o c).all (fun po => lw_ii po.1) = true) (hI : ab_Inv G M) (hz1 : mj_in z1) (hz2 : mj_in z2) (hz3 : mj_in z3) (hQ : ∀ z M', ab_Inv G M' → ab_frm (ab_w c) G M M' → Q (some (.inl z)) G M') : mj_R mj_tab (dd + 1) (ab_y c) [.inr (.inr (some o)), .inl z1, .inl z2, .inl z3] G M Q := by
  refine hok dd hd G M (3, hn_g [z1, z2, z3], 1, fun _ => some o) _ Q (by rw [hp]; exact lw_Y3 hz1 hz2 hz3) (by rw [hp]; exact lw_RR ho h0 h1 h50) (by rw [hp]; exact fun e he => by cases he) (by rw [hp]; exact ⟨_, _, rfl, ⟨Nat.zero_lt_one, rfl⟩, _, _, rfl, ⟨_, rfl, hn_I (Nat.le_of_ble_eq_true rfl) rfl⟩, _, _, rfl, ⟨_, rfl, hn_I (Nat.le_of_ble_eq_true rfl) rfl⟩, _, _, rfl, ⟨_, rfl, hn_I (Nat.le_of_ble_eq_true rfl) rfl⟩, rfl⟩) hI (fun r M' i f ⟨po, hpo, h⟩ => ?_)
  obtain ⟨z, rfl⟩ := lw_r (List.all_eq_true.mp hr po hpo) h
  exact hQ z M' i f
/-! what the law's loop keeps: both objects, the tape, the reference's codes -/
def lw_V (G : mj_G) (M : mj_M) (x m tp s kp : Nat) : Prop := ab_Inv G M ∧ (G x = (1011, 0) ∧ G m = (1012, 0) ∧ G tp = (1008, 0) ∧ G s = (51100, 537) ∧ G kp = (70100, 1076)) ∧ (M.2.2 x 0 = some tp ∧ M.2.2 m 6 = some s ∧ M.2.2 m 59 = some kp) ∧ hn_F M s 356 ∧ hn_F M kp 356 ∧ hn_F M kp 894
def lw_ck (W : List (Nat × Nat × Nat)) : Bool := W.all (fun q => !(Nat.beq q.1 1011 && Nat.beq q.2.1 0) && (!(Nat.beq q.1 1012 && (Nat.ble q.2.1 6 && Nat.ble 6 q.2.2)) && (!(Nat.beq q.1 1012 && (Nat.ble q.2.1 59 && Nat.ble 59 q.2.2)) && (!(Nat.beq q.1 51100 && Nat.ble 356 q.2.2) && !(Nat.beq q.1 70100)))))
def lw_sz (W : List (Nat × Nat × Nat)) : Bool := W.all (fun q => !(Nat.beq q.1 1008 && (Nat.ble q.2.1 1 && Nat.ble 1 q.2.2)) && !(Nat.beq q.1 1012 && (Nat.ble q.2.1 2 && Nat.ble 2 q.2.2)))
theorem lw_not {a : Bool} (h : (!a) = true) : a ≠ true := fun e => by rw [e] at h; cases h
theorem lw_V.fr {W : List (Nat × Nat × Nat)} {G : mj_G} {M M' : mj_M} {x m tp s kp : Nat} (hV : lw_V G M x m tp s kp) (hI : ab_Inv G M') (f : ab_frm W G M M') (hc : lw_ck W = true) : lw_V G M' x m tp s kp := by
  obtain ⟨-, ⟨g1, g2, g3, g4, g5⟩, ⟨r1, r2, r3⟩, f1, f2, f3⟩ := hV
  have ck : ∀ q ∈ W, ¬ (q.1 = 1011 ∧ q.2.1 = 0) ∧ ¬ (q.1 = 1012 ∧ q.2.1 ≤ 6 ∧ 6 ≤ q.2.2) ∧ ¬ (q.1 = 1012 ∧ q.2.1 ≤ 59 ∧ 59 ≤ q.2.2) ∧ ¬ (q.1 = 51100 ∧ 356 ≤ q.2.2) ∧ q.1 ≠ 70100 := fun q hq => by
    have h := List.all_eq_true.mp hc q hq
    obtain ⟨h1, h⟩ := sx_nd h
    obtain ⟨h2, h⟩ := sx_nd h
    obtain ⟨h3, h⟩ := sx_nd h
    obtain ⟨h4, h5⟩ := sx_nd h
    refine ⟨fun e => lw_not h1 ?_, fun e => lw_not h2 ?_, fun e => lw_not h3 ?_, fun e => lw_not h4 ?_, fun e => lw_not h5 ?_⟩
    · rw [e.1, e.2]; rfl
    · rw [e.1, Nat.ble_eq_true_of_le e.2.1, Nat.ble_eq_true_of_le e.2.2]; rfl
    · rw [e.1, Nat.ble_eq_true_of_le e.2.1, Nat.ble_eq_true_of_le e.2.2]; rfl
    · rw [e.1, Nat.ble_eq_true_of_le e.2]; rfl
    · rw [e]; rfl
  refine ⟨hI, ⟨g1, g2, g3, g4, g5⟩, ⟨?_, ?_, ?_⟩, ?_, ?_, ?_⟩
  · rw [(f x 0 (by rw [g1]; rintro ⟨q, hq, q1, q2, q3⟩; exact (ck q hq).1 ⟨q1, by omega⟩)).2]; exact r1
  · rw [(f m 6 (by rw [g2]; rintro ⟨q, hq, q1, q2, q3⟩; exact (ck q hq).2.1 ⟨q1, q2, q3⟩)).2]; exact r2
  · rw [(f m 59 (by rw [g2]; rintro ⟨q, hq, q1, q2, q3⟩; exact (ck q hq).2.2.1 ⟨q1, q2, q3⟩)).2]; exact r3
  · exact f1.cg (fun k hk => (f s k (by rw [g4]; rintro ⟨q, hq, q1, q2, q3⟩; exact (ck q hq).2.2.2.1 ⟨q1, by omega⟩)).1)
  · exact f2.cg (fun k hk => (f kp k (by rw [g5]; rintro ⟨q, hq, q1, q2, q3⟩; exact (ck q hq).2.2.2.2 q1)).1)
  · exact f3.cg (fun k hk => (f kp k (by rw [g5]; rintro ⟨q, hq, q1, q2, q3⟩; exact (ck q hq).2.2.2.2 q1)).1)
theorem lw_V.sz {W : List (Nat × Nat × Nat)} {G : mj_G} {M M' : mj_M} {x m tp s kp : Nat} (hV : lw_V G M x m tp s kp) (f : ab_frm W G M M') (hc : lw_sz W = true) : M'.1 tp 1 = M.1 tp 1 ∧ M'.1 m 2 = M.1 m 2 := by
  obtain ⟨-, ⟨g1, g2, g3, g4, g5⟩, -⟩ := hV
  have ck : ∀ q ∈ W, ¬ (q.1 = 1008 ∧ q.2.1 ≤ 1 ∧ 1 ≤ q.2.2) ∧ ¬ (q.1 = 1012 ∧ q.2.1 ≤ 2 ∧ 2 ≤ q.2.2) := fun q hq => by
    have h := List.all_eq_true.mp hc q hq
    obtain ⟨h1, h2⟩ := sx_nd h
    refine ⟨fun e => lw_not h1 ?_, fun e => lw_not h2 ?_⟩
    · rw [e.1, Nat.ble_eq_true_of_le e.2.1, Nat.ble_eq_true_of_le e.2.2]; rfl
    · rw [e.1, Nat.ble_eq_true_of_le e.2.1, Nat.ble_eq_true_of_le e.2.2]; rfl
  exact ⟨(f tp 1 (by rw [g3]; rintro ⟨q, hq, q1, q2, q3⟩; exact (ck q hq).1 ⟨q1, q2, q3⟩)).1, (f m 2 (by rw [g2]; rintro ⟨q, hq, q1, q2, q3⟩; exact (ck q hq).2 ⟨q1, q2, q3⟩)).1⟩
end
section
/-! ===== the law's calls that leave the loop's invariant and the tape's size alone ===== -/
theorem lc_X11_begin {d x m tp s kp : Nat} {G : mj_G} {M : mj_M} {Q : mj_P} (hV : lw_V G M x m tp s kp) (hQ : ∀ z M', lw_V G M' x m tp s kp → (M'.1 tp 1 = M.1 tp 1 ∧ M'.1 m 2 = M.1 m 2) → ab_frm (ab_w cd_45) G M M' → Q (some (.inl z)) G M') : mj_R mj_tab (d + 31) 110 [.inr (.inr (some x))] G M Q :=
  lw_c0 (c := cd_45) (dd := d + 30) (show ab_ok cd_45 from ab_all_ok 214 (Nat.le_refl _) 45 (by decide)) rfl (Nat.le_trans (by decide : 1 ≤ 30) (Nat.le_add_left 30 d)) hV.2.1.1 (by decide) (by decide) (by decide) (by decide +kernel) hV.1 (fun z M' i f => hQ z M' (hV.fr i f (by decide +kernel)) (hV.sz f (by decide +kernel)) f)
theorem lc_X11_bid {d x m tp s kp : Nat} {z1 z2 : Int} {G : mj_G} {M : mj_M} {Q : mj_P} (hV : lw_V G M x m tp s kp) (hz1 : mj_in z1) (hz2 : mj_in z2) (hQ : ∀ z M', lw_V G M' x m tp s kp → (M'.1 tp 1 = M.1 tp 1 ∧ M'.1 m 2 = M.1 m 2) → ab_frm (ab_w cd_46) G M M' → Q (some (.inl z)) G M') : mj_R mj_tab (d + 31) 111 [.inr (.inr (some x)), .inl z1, .inl z2] G M Q :=
  lw_c2 (c := cd_46) (dd := d + 30) (show ab_ok cd_46 from ab_all_ok 214 (Nat.le_refl _) 46 (by decide)) rfl (Nat.le_trans (by decide : 1 ≤ 30) (Nat.le_add_left 30 d)) hV.2.1.1 (by decide) (by decide) (by decide) (by decide +kernel) hV.1 hz1 hz2 (fun z M' i f => hQ z M' (hV.fr i f (by decide +kernel)) (hV.sz f (by decide +kernel)) f)
theorem lc_X11_bidsOf {d x m tp s kp : Nat} {z1 : Int} {G : mj_G} {M : mj_M} {Q : mj_P} (hV : lw_V G M x m tp s kp) (hz1 : mj_in z1) (hQ : ∀ z M', lw_V G M' x m tp s kp → (M'.1 tp 1 = M.1 tp 1 ∧ M'.1 m 2 = M.1 m 2) → ab_frm (ab_w cd_47) G M M' → Q (some (.inl z)) G M') : mj_R mj_tab (d + 31) 112 [.inr (.inr (some x)), .inl z1] G M Q :=
  lw_c1 (c := cd_47) (dd := d + 30) (show ab_ok cd_47 from ab_all_ok 214 (Nat.le_refl _) 47 (by decide)) rfl (Nat.le_trans (by decide : 1 ≤ 30) (Nat.le_add_left 30 d)) hV.2.1.1 (by decide) (by decide) (by decide) (by decide +kernel) hV.1 hz1 (fun z M' i f => hQ z M' (hV.fr i f (by decide +kernel)) (hV.sz f (by decide +kernel)) f)
theorem lc_X11_byteAt {d x m tp s kp : Nat} {z1 : Int} {G : mj_G} {M : mj_M} {Q : mj_P} (hV : lw_V G M x m tp s kp) (hz1 : mj_in z1) (hQ : ∀ z M', lw_V G M' x m tp s kp → (M'.1 tp 1 = M.1 tp 1 ∧ M'.1 m 2 = M.1 m 2) → ab_frm (ab_w cd_10) G M M' → Q (some (.inl z)) G M') : mj_R mj_tab (d + 31) 113 [.inr (.inr (some x)), .inl z1] G M Q :=
  lw_c1 (c := cd_10) (dd := d + 30) (show ab_ok cd_10 from ab_all_ok 214 (Nat.le_refl _) 10 (by decide)) rfl (Nat.le_trans (by decide : 0 ≤ 30) (Nat.le_add_left 30 d)) hV.2.1.1 (by decide) (by decide) (by decide) (by decide +kernel) hV.1 hz1 (fun z M' i f => hQ z M' (hV.fr i f (by decide +kernel)) (hV.sz f (by decide +kernel)) f)
theorem lc_X11_cheapest {d x m tp s kp : Nat} {G : mj_G} {M : mj_M} {Q : mj_P} (hV : lw_V G M x m tp s kp) (hQ : ∀ z M', lw_V G M' x m tp s kp → (M'.1 tp 1 = M.1 tp 1 ∧ M'.1 m 2 = M.1 m 2) → ab_frm (ab_w cd_197) G M M' → Q (some (.inl z)) G M') : mj_R mj_tab (d + 31) 114 [.inr (.inr (some x))] G M Q :=
  lw_c0 (c := cd_197) (dd := d + 30) (show ab_ok cd_197 from ab_all_ok 214 (Nat.le_refl _) 197 (by decide)) rfl (Nat.le_trans (by decide : 14 ≤ 30) (Nat.le_add_left 30 d)) hV.2.1.1 (by decide) (by decide) (by decide) (by decide +kernel) hV.1 (fun z M' i f => hQ z M' (hV.fr i f (by decide +kernel)) (hV.sz f (by decide +kernel)) f)
theorem lc_X11_contract {d x m tp s kp : Nat} {z1 z2 : Int} {G : mj_G} {M : mj_M} {Q : mj_P} (hV : lw_V G M x m tp s kp) (hz1 : mj_in z1) (hz2 : mj_in z2) (hQ : ∀ z M', lw_V G M' x m tp s kp → (M'.1 tp 1 = M.1 tp 1 ∧ M'.1 m 2 = M.1 m 2) → ab_frm (ab_w cd_48) G M M' → Q (some (.inl z)) G M') : mj_R mj_tab (d + 31) 116 [.inr (.inr (some x)), .inl z1, .inl z2] G M Q :=
  lw_c2 (c := cd_48) (dd := d + 30) (show ab_ok cd_48 from ab_all_ok 214 (Nat.le_refl _) 48 (by decide)) rfl (Nat.le_trans (by decide : 1 ≤ 30) (Nat.le_add_left 30 d)) hV.2.1.1 (by decide) (by decide) (by decide) (by decide +kernel) hV.1 hz1 hz2 (fun z M' i f => hQ z M' (hV.fr i f (by decide +kernel)) (hV.sz f (by decide +kernel)) f)
theorem lc_X11_count {d x m tp s kp : Nat} {z1 : Int} {G : mj_G} {M : mj_M} {Q : mj_P} (hV : lw_V G M x m tp s kp) (hz1 : mj_in z1) (hQ : ∀ z M', lw_V G M' x m tp s kp → (M'.1 tp 1 = M.1 tp 1 ∧ M'.1 m 2 = M.1 m 2) → ab_frm (ab_w cd_11) G M M' → Q (some (.inl z)) G M') : mj_R mj_tab (d + 31) 118 [.inr (.inr (some x)), .inl z1] G M Q :=
  lw_c1 (c := cd_11) (dd := d + 30) (show ab_ok cd_11 from ab_all_ok 214 (Nat.le_refl _) 11 (by decide)) rfl (Nat.le_trans (by decide : 0 ≤ 30) (Nat.le_add_left 30 d)) hV.2.1.1 (by decide) (by decide) (by decide) (by decide +kernel) hV.1 hz1 (fun z M' i f => hQ z M' (hV.fr i f (by decide +kernel)) (hV.sz f (by decide +kernel)) f)
theorem lc_X11_drawn {d x m tp s kp : Nat} {z1 : Int} {G : mj_G} {M : mj_M} {Q : mj_P} (hV : lw_V G M x m tp s kp) (hz1 : mj_in z1) (hQ : ∀ z M', lw_V G M' x m tp s kp → (M'.1 tp 1 = M.1 tp 1 ∧ M'.1 m 2 = M.1 m 2) → ab_frm (ab_w cd_151) G M M' → Q (some (.inl z)) G M') : mj_R mj_tab (d + 31) 119 [.inr (.inr (some x)), .inl z1] G M Q :=
  lw_c1 (c := cd_151) (dd := d + 30) (show ab_ok cd_151 from ab_all_ok 214 (Nat.le_refl _) 151 (by decide)) rfl (Nat.le_trans (by decide : 4 ≤ 30) (Nat.le_add_left 30 d)) hV.2.1.1 (by decide) (by decide) (by decide) (by decide +kernel) hV.1 hz1 (fun z M' i f => hQ z M' (hV.fr i f (by decide +kernel)) (hV.sz f (by decide +kernel)) f)
theorem lc_X11_droughts {d x m tp s kp : Nat} {G : mj_G} {M : mj_M} {Q : mj_P} (hV : lw_V G M x m tp s kp) (hQ : ∀ z M', lw_V G M' x m tp s kp → (M'.1 tp 1 = M.1 tp 1 ∧ M'.1 m 2 = M.1 m 2) → ab_frm (ab_w cd_12) G M M' → Q (some (.inl z)) G M') : mj_R mj_tab (d + 31) 120 [.inr (.inr (some x))] G M Q :=
  lw_c0 (c := cd_12) (dd := d + 30) (show ab_ok cd_12 from ab_all_ok 214 (Nat.le_refl _) 12 (by decide)) rfl (Nat.le_trans (by decide : 0 ≤ 30) (Nat.le_add_left 30 d)) hV.2.1.1 (by decide) (by decide) (by decide) (by decide +kernel) hV.1 (fun z M' i f => hQ z M' (hV.fr i f (by decide +kernel)) (hV.sz f (by decide +kernel)) f)
theorem lc_X11_enough {d x m tp s kp : Nat} {z1 : Int} {G : mj_G} {M : mj_M} {Q : mj_P} (hV : lw_V G M x m tp s kp) (hz1 : mj_in z1) (hQ : ∀ z M', lw_V G M' x m tp s kp → (M'.1 tp 1 = M.1 tp 1 ∧ M'.1 m 2 = M.1 m 2) → ab_frm (ab_w cd_110) G M M' → Q (some (.inl z)) G M') : mj_R mj_tab (d + 31) 122 [.inr (.inr (some x)), .inl z1] G M Q :=
  lw_c1 (c := cd_110) (dd := d + 30) (show ab_ok cd_110 from ab_all_ok 214 (Nat.le_refl _) 110 (by decide)) rfl (Nat.le_trans (by decide : 2 ≤ 30) (Nat.le_add_left 30 d)) hV.2.1.1 (by decide) (by decide) (by decide) (by decide +kernel) hV.1 hz1 (fun z M' i f => hQ z M' (hV.fr i f (by decide +kernel)) (hV.sz f (by decide +kernel)) f)
theorem lc_X11_fault {d x m tp s kp : Nat} {G : mj_G} {M : mj_M} {Q : mj_P} (hV : lw_V G M x m tp s kp) (hQ : ∀ z M', lw_V G M' x m tp s kp → (M'.1 tp 1 = M.1 tp 1 ∧ M'.1 m 2 = M.1 m 2) → ab_frm (ab_w cd_14) G M M' → Q (some (.inl z)) G M') : mj_R mj_tab (d + 31) 123 [.inr (.inr (some x))] G M Q :=
  lw_c0 (c := cd_14) (dd := d + 30) (show ab_ok cd_14 from ab_all_ok 214 (Nat.le_refl _) 14 (by decide)) rfl (Nat.le_trans (by decide : 0 ≤ 30) (Nat.le_add_left 30 d)) hV.2.1.1 (by decide) (by decide) (by decide) (by decide +kernel) hV.1 (fun z M' i f => hQ z M' (hV.fr i f (by decide +kernel)) (hV.sz f (by decide +kernel)) f)
theorem lc_X11_greatest {d x m tp s kp : Nat} {z1 : Int} {G : mj_G} {M : mj_M} {Q : mj_P} (hV : lw_V G M x m tp s kp) (hz1 : mj_in z1) (hQ : ∀ z M', lw_V G M' x m tp s kp → (M'.1 tp 1 = M.1 tp 1 ∧ M'.1 m 2 = M.1 m 2) → ab_frm (ab_w cd_50) G M M' → Q (some (.inl z)) G M') : mj_R mj_tab (d + 31) 125 [.inr (.inr (some x)), .inl z1] G M Q :=
  lw_c1 (c := cd_50) (dd := d + 30) (show ab_ok cd_50 from ab_all_ok 214 (Nat.le_refl _) 50 (by decide)) rfl (Nat.le_trans (by decide : 1 ≤ 30) (Nat.le_add_left 30 d)) hV.2.1.1 (by decide) (by decide) (by decide) (by decide +kernel) hV.1 hz1 (fun z M' i f => hQ z M' (hV.fr i f (by decide +kernel)) (hV.sz f (by decide +kernel)) f)
theorem lc_X11_has {d x m tp s kp : Nat} {z1 : Int} {G : mj_G} {M : mj_M} {Q : mj_P} (hV : lw_V G M x m tp s kp) (hz1 : mj_in z1) (hQ : ∀ z M', lw_V G M' x m tp s kp → (M'.1 tp 1 = M.1 tp 1 ∧ M'.1 m 2 = M.1 m 2) → ab_frm (ab_w cd_15) G M M' → Q (some (.inl z)) G M') : mj_R mj_tab (d + 31) 126 [.inr (.inr (some x)), .inl z1] G M Q :=
  lw_c1 (c := cd_15) (dd := d + 30) (show ab_ok cd_15 from ab_all_ok 214 (Nat.le_refl _) 15 (by decide)) rfl (Nat.le_trans (by decide : 0 ≤ 30) (Nat.le_add_left 30 d)) hV.2.1.1 (by decide) (by decide) (by decide) (by decide +kernel) hV.1 hz1 (fun z M' i f => hQ z M' (hV.fr i f (by decide +kernel)) (hV.sz f (by decide +kernel)) f)
theorem lc_X11_image {d x m tp s kp : Nat} {z1 : Int} {G : mj_G} {M : mj_M} {Q : mj_P} (hV : lw_V G M x m tp s kp) (hz1 : mj_in z1) (hQ : ∀ z M', lw_V G M' x m tp s kp → (M'.1 tp 1 = M.1 tp 1 ∧ M'.1 m 2 = M.1 m 2) → ab_frm (ab_w cd_111) G M M' → Q (some (.inl z)) G M') : mj_R mj_tab (d + 31) 127 [.inr (.inr (some x)), .inl z1] G M Q :=
  lw_c1 (c := cd_111) (dd := d + 30) (show ab_ok cd_111 from ab_all_ok 214 (Nat.le_refl _) 111 (by decide)) rfl (Nat.le_trans (by decide : 2 ≤ 30) (Nat.le_add_left 30 d)) hV.2.1.1 (by decide) (by decide) (by decide) (by decide +kernel) hV.1 hz1 (fun z M' i f => hQ z M' (hV.fr i f (by decide +kernel)) (hV.sz f (by decide +kernel)) f)
theorem lc_X11_leak {d x m tp s kp : Nat} {z1 z2 : Int} {G : mj_G} {M : mj_M} {Q : mj_P} (hV : lw_V G M x m tp s kp) (hz1 : mj_in z1) (hz2 : mj_in z2) (hQ : ∀ z M', lw_V G M' x m tp s kp → (M'.1 tp 1 = M.1 tp 1 ∧ M'.1 m 2 = M.1 m 2) → ab_frm (ab_w cd_16) G M M' → Q (some (.inl z)) G M') : mj_R mj_tab (d + 31) 131 [.inr (.inr (some x)), .inl z1, .inl z2] G M Q :=
  lw_c2 (c := cd_16) (dd := d + 30) (show ab_ok cd_16 from ab_all_ok 214 (Nat.le_refl _) 16 (by decide)) rfl (Nat.le_trans (by decide : 0 ≤ 30) (Nat.le_add_left 30 d)) hV.2.1.1 (by decide) (by decide) (by decide) (by decide +kernel) hV.1 hz1 hz2 (fun z M' i f => hQ z M' (hV.fr i f (by decide +kernel)) (hV.sz f (by decide +kernel)) f)
theorem lc_X11_let {d x m tp s kp : Nat} {z1 z2 : Int} {G : mj_G} {M : mj_M} {Q : mj_P} (hV : lw_V G M x m tp s kp) (hz1 : mj_in z1) (hz2 : mj_in z2) (hQ : ∀ z M', lw_V G M' x m tp s kp → (M'.1 tp 1 = M.1 tp 1 ∧ M'.1 m 2 = M.1 m 2) → ab_frm (ab_w cd_51) G M M' → Q (some (.inl z)) G M') : mj_R mj_tab (d + 31) 133 [.inr (.inr (some x)), .inl z1, .inl z2] G M Q :=
  lw_c2 (c := cd_51) (dd := d + 30) (show ab_ok cd_51 from ab_all_ok 214 (Nat.le_refl _) 51 (by decide)) rfl (Nat.le_trans (by decide : 1 ≤ 30) (Nat.le_add_left 30 d)) hV.2.1.1 (by decide) (by decide) (by decide) (by decide +kernel) hV.1 hz1 hz2 (fun z M' i f => hQ z M' (hV.fr i f (by decide +kernel)) (hV.sz f (by decide +kernel)) f)
theorem lc_X11_must {d x m tp s kp : Nat} {z1 z2 : Int} {G : mj_G} {M : mj_M} {Q : mj_P} (hV : lw_V G M x m tp s kp) (hz1 : mj_in z1) (hz2 : mj_in z2) (hQ : ∀ z M', lw_V G M' x m tp s kp → (M'.1 tp 1 = M.1 tp 1 ∧ M'.1 m 2 = M.1 m 2) → ab_frm (ab_w cd_152) G M M' → Q (some (.inl z)) G M') : mj_R mj_tab (d + 31) 135 [.inr (.inr (some x)), .inl z1, .inl z2] G M Q :=
  lw_c2 (c := cd_152) (dd := d + 30) (show ab_ok cd_152 from ab_all_ok 214 (Nat.le_refl _) 152 (by decide)) rfl (Nat.le_trans (by decide : 4 ≤ 30) (Nat.le_add_left 30 d)) hV.2.1.1 (by decide) (by decide) (by decide) (by decide +kernel) hV.1 hz1 hz2 (fun z M' i f => hQ z M' (hV.fr i f (by decide +kernel)) (hV.sz f (by decide +kernel)) f)
theorem lc_X11_offer {d x m tp s kp : Nat} {z1 z2 z3 : Int} {G : mj_G} {M : mj_M} {Q : mj_P} (hV : lw_V G M x m tp s kp) (hz1 : mj_in z1) (hz2 : mj_in z2) (hz3 : mj_in z3) (hQ : ∀ z M', lw_V G M' x m tp s kp → (M'.1 tp 1 = M.1 tp 1 ∧ M'.1 m 2 = M.1 m 2) → ab_frm (ab_w cd_53) G M M' → Q (some (.inl z)) G M') : mj_R mj_tab (d + 31) 136 [.inr (.inr (some x)), .inl z1, .inl z2, .inl z3] G M Q :=
  lw_c3 (c := cd_53) (dd := d + 30) (show ab_ok cd_53 from ab_all_ok 214 (Nat.le_refl _) 53 (by decide)) rfl (Nat.le_trans (by decide : 1 ≤ 30) (Nat.le_add_left 30 d)) hV.2.1.1 (by decide) (by decide) (by decide) (by decide +kernel) hV.1 hz1 hz2 hz3 (fun z M' i f => hQ z M' (hV.fr i f (by decide +kernel)) (hV.sz f (by decide +kernel)) f)
theorem lc_X11_on {d x m tp s kp : Nat} {z1 : Int} {G : mj_G} {M : mj_M} {Q : mj_P} (hV : lw_V G M x m tp s kp) (hz1 : mj_in z1) (hQ : ∀ z M', lw_V G M' x m tp s kp → (M'.1 tp 1 = M.1 tp 1 ∧ M'.1 m 2 = M.1 m 2) → ab_frm (ab_w cd_153) G M M' → Q (some (.inl z)) G M') : mj_R mj_tab (d + 31) 137 [.inr (.inr (some x)), .inl z1] G M Q :=
  lw_c1 (c := cd_153) (dd := d + 30) (show ab_ok cd_153 from ab_all_ok 214 (Nat.le_refl _) 153 (by decide)) rfl (Nat.le_trans (by decide : 4 ≤ 30) (Nat.le_add_left 30 d)) hV.2.1.1 (by decide) (by decide) (by decide) (by decide +kernel) hV.1 hz1 (fun z M' i f => hQ z M' (hV.fr i f (by decide +kernel)) (hV.sz f (by decide +kernel)) f)
theorem lc_X11_plan {d x m tp s kp : Nat} {z1 : Int} {G : mj_G} {M : mj_M} {Q : mj_P} (hV : lw_V G M x m tp s kp) (hz1 : mj_in z1) (hQ : ∀ z M', lw_V G M' x m tp s kp → (M'.1 tp 1 = M.1 tp 1 ∧ M'.1 m 2 = M.1 m 2) → ab_frm (ab_w cd_54) G M M' → Q (some (.inl z)) G M') : mj_R mj_tab (d + 31) 139 [.inr (.inr (some x)), .inl z1] G M Q :=
  lw_c1 (c := cd_54) (dd := d + 30) (show ab_ok cd_54 from ab_all_ok 214 (Nat.le_refl _) 54 (by decide)) rfl (Nat.le_trans (by decide : 1 ≤ 30) (Nat.le_add_left 30 d)) hV.2.1.1 (by decide) (by decide) (by decide) (by decide +kernel) hV.1 hz1 (fun z M' i f => hQ z M' (hV.fr i f (by decide +kernel)) (hV.sz f (by decide +kernel)) f)
theorem lc_X11_price {d x m tp s kp : Nat} {z1 : Int} {G : mj_G} {M : mj_M} {Q : mj_P} (hV : lw_V G M x m tp s kp) (hz1 : mj_in z1) (hQ : ∀ z M', lw_V G M' x m tp s kp → (M'.1 tp 1 = M.1 tp 1 ∧ M'.1 m 2 = M.1 m 2) → ab_frm (ab_w cd_55) G M M' → Q (some (.inl z)) G M') : mj_R mj_tab (d + 31) 140 [.inr (.inr (some x)), .inl z1] G M Q :=
  lw_c1 (c := cd_55) (dd := d + 30) (show ab_ok cd_55 from ab_all_ok 214 (Nat.le_refl _) 55 (by decide)) rfl (Nat.le_trans (by decide : 1 ≤ 30) (Nat.le_add_left 30 d)) hV.2.1.1 (by decide) (by decide) (by decide) (by decide +kernel) hV.1 hz1 (fun z M' i f => hQ z M' (hV.fr i f (by decide +kernel)) (hV.sz f (by decide +kernel)) f)
theorem lc_X11_restore {d x m tp s kp : Nat} {z1 : Int} {G : mj_G} {M : mj_M} {Q : mj_P} (hV : lw_V G M x m tp s kp) (hz1 : mj_in z1) (hQ : ∀ z M', lw_V G M' x m tp s kp → (M'.1 tp 1 = M.1 tp 1 ∧ M'.1 m 2 = M.1 m 2) → ab_frm (ab_w cd_112) G M M' → Q (some (.inl z)) G M') : mj_R mj_tab (d + 31) 144 [.inr (.inr (some x)), .inl z1] G M Q :=
  lw_c1 (c := cd_112) (dd := d + 30) (show ab_ok cd_112 from ab_all_ok 214 (Nat.le_refl _) 112 (by decide)) rfl (Nat.le_trans (by decide : 2 ≤ 30) (Nat.le_add_left 30 d)) hV.2.1.1 (by decide) (by decide) (by decide) (by decide +kernel) hV.1 hz1 (fun z M' i f => hQ z M' (hV.fr i f (by decide +kernel)) (hV.sz f (by decide +kernel)) f)
theorem lc_X11_rounds {d x m tp s kp : Nat} {z1 : Int} {G : mj_G} {M : mj_M} {Q : mj_P} (hV : lw_V G M x m tp s kp) (hz1 : mj_in z1) (hQ : ∀ z M', lw_V G M' x m tp s kp → (M'.1 tp 1 = M.1 tp 1 ∧ M'.1 m 2 = M.1 m 2) → ab_frm (ab_w cd_140) G M M' → Q (some (.inl z)) G M') : mj_R mj_tab (d + 31) 145 [.inr (.inr (some x)), .inl z1] G M Q :=
  lw_c1 (c := cd_140) (dd := d + 30) (show ab_ok cd_140 from ab_all_ok 214 (Nat.le_refl _) 140 (by decide)) rfl (Nat.le_trans (by decide : 3 ≤ 30) (Nat.le_add_left 30 d)) hV.2.1.1 (by decide) (by decide) (by decide) (by decide +kernel) hV.1 hz1 (fun z M' i f => hQ z M' (hV.fr i f (by decide +kernel)) (hV.sz f (by decide +kernel)) f)
theorem lc_X11_said {d x m tp s kp : Nat} {z1 : Int} {G : mj_G} {M : mj_M} {Q : mj_P} (hV : lw_V G M x m tp s kp) (hz1 : mj_in z1) (hQ : ∀ z M', lw_V G M' x m tp s kp → (M'.1 tp 1 = M.1 tp 1 ∧ M'.1 m 2 = M.1 m 2) → ab_frm (ab_w cd_141) G M M' → Q (some (.inl z)) G M') : mj_R mj_tab (d + 31) 146 [.inr (.inr (some x)), .inl z1] G M Q :=
  lw_c1 (c := cd_141) (dd := d + 30) (show ab_ok cd_141 from ab_all_ok 214 (Nat.le_refl _) 141 (by decide)) rfl (Nat.le_trans (by decide : 3 ≤ 30) (Nat.le_add_left 30 d)) hV.2.1.1 (by decide) (by decide) (by decide) (by decide +kernel) hV.1 hz1 (fun z M' i f => hQ z M' (hV.fr i f (by decide +kernel)) (hV.sz f (by decide +kernel)) f)
theorem lc_X11_shores {d x m tp s kp : Nat} {z1 z2 z3 : Int} {G : mj_G} {M : mj_M} {Q : mj_P} (hV : lw_V G M x m tp s kp) (hz1 : mj_in z1) (hz2 : mj_in z2) (hz3 : mj_in z3) (hQ : ∀ z M', lw_V G M' x m tp s kp → (M'.1 tp 1 = M.1 tp 1 ∧ M'.1 m 2 = M.1 m 2) → ab_frm (ab_w cd_154) G M M' → Q (some (.inl z)) G M') : mj_R mj_tab (d + 31) 148 [.inr (.inr (some x)), .inl z1, .inl z2, .inl z3] G M Q :=
  lw_c3 (c := cd_154) (dd := d + 30) (show ab_ok cd_154 from ab_all_ok 214 (Nat.le_refl _) 154 (by decide)) rfl (Nat.le_trans (by decide : 4 ≤ 30) (Nat.le_add_left 30 d)) hV.2.1.1 (by decide) (by decide) (by decide) (by decide +kernel) hV.1 hz1 hz2 hz3 (fun z M' i f => hQ z M' (hV.fr i f (by decide +kernel)) (hV.sz f (by decide +kernel)) f)
theorem lc_X11_shoresOf {d x m tp s kp : Nat} {G : mj_G} {M : mj_M} {Q : mj_P} (hV : lw_V G M x m tp s kp) (hQ : ∀ z M', lw_V G M' x m tp s kp → (M'.1 tp 1 = M.1 tp 1 ∧ M'.1 m 2 = M.1 m 2) → ab_frm (ab_w cd_167) G M M' → Q (some (.inl z)) G M') : mj_R mj_tab (d + 31) 149 [.inr (.inr (some x))] G M Q :=
  lw_c0 (c := cd_167) (dd := d + 30) (show ab_ok cd_167 from ab_all_ok 214 (Nat.le_refl _) 167 (by decide)) rfl (Nat.le_trans (by decide : 5 ≤ 30) (Nat.le_add_left 30 d)) hV.2.1.1 (by decide) (by decide) (by decide) (by decide +kernel) hV.1 (fun z M' i f => hQ z M' (hV.fr i f (by decide +kernel)) (hV.sz f (by decide +kernel)) f)
theorem lc_X11_take {d x m tp s kp : Nat} {G : mj_G} {M : mj_M} {Q : mj_P} (hV : lw_V G M x m tp s kp) (hQ : ∀ z M', lw_V G M' x m tp s kp → (M'.1 tp 1 = M.1 tp 1 ∧ M'.1 m 2 = M.1 m 2) → ab_frm (ab_w cd_57) G M M' → Q (some (.inl z)) G M') : mj_R mj_tab (d + 31) 150 [.inr (.inr (some x))] G M Q :=
  lw_c0 (c := cd_57) (dd := d + 30) (show ab_ok cd_57 from ab_all_ok 214 (Nat.le_refl _) 57 (by decide)) rfl (Nat.le_trans (by decide : 1 ≤ 30) (Nat.le_add_left 30 d)) hV.2.1.1 (by decide) (by decide) (by decide) (by decide +kernel) hV.1 (fun z M' i f => hQ z M' (hV.fr i f (by decide +kernel)) (hV.sz f (by decide +kernel)) f)
theorem lc_X11_thirsty {d x m tp s kp : Nat} {G : mj_G} {M : mj_M} {Q : mj_P} (hV : lw_V G M x m tp s kp) (hQ : ∀ z M', lw_V G M' x m tp s kp → (M'.1 tp 1 = M.1 tp 1 ∧ M'.1 m 2 = M.1 m 2) → ab_frm (ab_w cd_168) G M M' → Q (some (.inl z)) G M') : mj_R mj_tab (d + 31) 151 [.inr (.inr (some x))] G M Q :=
  lw_c0 (c := cd_168) (dd := d + 30) (show ab_ok cd_168 from ab_all_ok 214 (Nat.le_refl _) 168 (by decide)) rfl (Nat.le_trans (by decide : 5 ≤ 30) (Nat.le_add_left 30 d)) hV.2.1.1 (by decide) (by decide) (by decide) (by decide +kernel) hV.1 (fun z M' i f => hQ z M' (hV.fr i f (by decide +kernel)) (hV.sz f (by decide +kernel)) f)
theorem lc_X11_town {d x m tp s kp : Nat} {z1 z2 : Int} {G : mj_G} {M : mj_M} {Q : mj_P} (hV : lw_V G M x m tp s kp) (hz1 : mj_in z1) (hz2 : mj_in z2) (hQ : ∀ z M', lw_V G M' x m tp s kp → (M'.1 tp 1 = M.1 tp 1 ∧ M'.1 m 2 = M.1 m 2) → ab_frm (ab_w cd_58) G M M' → Q (some (.inl z)) G M') : mj_R mj_tab (d + 31) 152 [.inr (.inr (some x)), .inl z1, .inl z2] G M Q :=
  lw_c2 (c := cd_58) (dd := d + 30) (show ab_ok cd_58 from ab_all_ok 214 (Nat.le_refl _) 58 (by decide)) rfl (Nat.le_trans (by decide : 1 ≤ 30) (Nat.le_add_left 30 d)) hV.2.1.1 (by decide) (by decide) (by decide) (by decide +kernel) hV.1 hz1 hz2 (fun z M' i f => hQ z M' (hV.fr i f (by decide +kernel)) (hV.sz f (by decide +kernel)) f)
theorem lc_X11_undo {d x m tp s kp : Nat} {G : mj_G} {M : mj_M} {Q : mj_P} (hV : lw_V G M x m tp s kp) (hQ : ∀ z M', lw_V G M' x m tp s kp → (M'.1 tp 1 = M.1 tp 1 ∧ M'.1 m 2 = M.1 m 2) → ab_frm (ab_w cd_113) G M M' → Q (some (.inl z)) G M') : mj_R mj_tab (d + 31) 154 [.inr (.inr (some x))] G M Q :=
  lw_c0 (c := cd_113) (dd := d + 30) (show ab_ok cd_113 from ab_all_ok 214 (Nat.le_refl _) 113 (by decide)) rfl (Nat.le_trans (by decide : 2 ≤ 30) (Nat.le_add_left 30 d)) hV.2.1.1 (by decide) (by decide) (by decide) (by decide +kernel) hV.1 (fun z M' i f => hQ z M' (hV.fr i f (by decide +kernel)) (hV.sz f (by decide +kernel)) f)
theorem lc_X11_water {d x m tp s kp : Nat} {z1 : Int} {G : mj_G} {M : mj_M} {Q : mj_P} (hV : lw_V G M x m tp s kp) (hz1 : mj_in z1) (hQ : ∀ z M', lw_V G M' x m tp s kp → (M'.1 tp 1 = M.1 tp 1 ∧ M'.1 m 2 = M.1 m 2) → ab_frm (ab_w cd_59) G M M' → Q (some (.inl z)) G M') : mj_R mj_tab (d + 31) 155 [.inr (.inr (some x)), .inl z1] G M Q :=
  lw_c1 (c := cd_59) (dd := d + 30) (show ab_ok cd_59 from ab_all_ok 214 (Nat.le_refl _) 59 (by decide)) rfl (Nat.le_trans (by decide : 1 ≤ 30) (Nat.le_add_left 30 d)) hV.2.1.1 (by decide) (by decide) (by decide) (by decide +kernel) hV.1 hz1 (fun z M' i f => hQ z M' (hV.fr i f (by decide +kernel)) (hV.sz f (by decide +kernel)) f)
theorem lc_X11_wettest {d x m tp s kp : Nat} {z1 : Int} {G : mj_G} {M : mj_M} {Q : mj_P} (hV : lw_V G M x m tp s kp) (hz1 : mj_in z1) (hQ : ∀ z M', lw_V G M' x m tp s kp → (M'.1 tp 1 = M.1 tp 1 ∧ M'.1 m 2 = M.1 m 2) → ab_frm (ab_w cd_60) G M M' → Q (some (.inl z)) G M') : mj_R mj_tab (d + 31) 156 [.inr (.inr (some x)), .inl z1] G M Q :=
  lw_c1 (c := cd_60) (dd := d + 30) (show ab_ok cd_60 from ab_all_ok 214 (Nat.le_refl _) 60 (by decide)) rfl (Nat.le_trans (by decide : 1 ≤ 30) (Nat.le_add_left 30 d)) hV.2.1.1 (by decide) (by decide) (by decide) (by decide +kernel) hV.1 hz1 (fun z M' i f => hQ z M' (hV.fr i f (by decide +kernel)) (hV.sz f (by decide +kernel)) f)
theorem lc_X11_worth {d x m tp s kp : Nat} {z1 : Int} {G : mj_G} {M : mj_M} {Q : mj_P} (hV : lw_V G M x m tp s kp) (hz1 : mj_in z1) (hQ : ∀ z M', lw_V G M' x m tp s kp → (M'.1 tp 1 = M.1 tp 1 ∧ M'.1 m 2 = M.1 m 2) → ab_frm (ab_w cd_169) G M M' → Q (some (.inl z)) G M') : mj_R mj_tab (d + 31) 157 [.inr (.inr (some x)), .inl z1] G M Q :=
  lw_c1 (c := cd_169) (dd := d + 30) (show ab_ok cd_169 from ab_all_ok 214 (Nat.le_refl _) 169 (by decide)) rfl (Nat.le_trans (by decide : 5 ≤ 30) (Nat.le_add_left 30 d)) hV.2.1.1 (by decide) (by decide) (by decide) (by decide +kernel) hV.1 hz1 (fun z M' i f => hQ z M' (hV.fr i f (by decide +kernel)) (hV.sz f (by decide +kernel)) f)
theorem lc_X11_write {d x m tp s kp : Nat} {G : mj_G} {M : mj_M} {Q : mj_P} (hV : lw_V G M x m tp s kp) (hQ : ∀ z M', lw_V G M' x m tp s kp → (M'.1 tp 1 = M.1 tp 1 ∧ M'.1 m 2 = M.1 m 2) → ab_frm (ab_w cd_114) G M M' → Q (some (.inl z)) G M') : mj_R mj_tab (d + 31) 158 [.inr (.inr (some x))] G M Q :=
  lw_c0 (c := cd_114) (dd := d + 30) (show ab_ok cd_114 from ab_all_ok 214 (Nat.le_refl _) 114 (by decide)) rfl (Nat.le_trans (by decide : 2 ≤ 30) (Nat.le_add_left 30 d)) hV.2.1.1 (by decide) (by decide) (by decide) (by decide +kernel) hV.1 (fun z M' i f => hQ z M' (hV.fr i f (by decide +kernel)) (hV.sz f (by decide +kernel)) f)
theorem lc_X11_year {d x m tp s kp : Nat} {z1 : Int} {G : mj_G} {M : mj_M} {Q : mj_P} (hV : lw_V G M x m tp s kp) (hz1 : mj_in z1) (hQ : ∀ z M', lw_V G M' x m tp s kp → (M'.1 tp 1 = M.1 tp 1 ∧ M'.1 m 2 = M.1 m 2) → ab_frm (ab_w cd_115) G M M' → Q (some (.inl z)) G M') : mj_R mj_tab (d + 31) 159 [.inr (.inr (some x)), .inl z1] G M Q :=
  lw_c1 (c := cd_115) (dd := d + 30) (show ab_ok cd_115 from ab_all_ok 214 (Nat.le_refl _) 115 (by decide)) rfl (Nat.le_trans (by decide : 2 ≤ 30) (Nat.le_add_left 30 d)) hV.2.1.1 (by decide) (by decide) (by decide) (by decide +kernel) hV.1 hz1 (fun z M' i f => hQ z M' (hV.fr i f (by decide +kernel)) (hV.sz f (by decide +kernel)) f)
theorem lc_X12_begin {d x m tp s kp : Nat} {G : mj_G} {M : mj_M} {Q : mj_P} (hV : lw_V G M x m tp s kp) (hQ : ∀ z M', lw_V G M' x m tp s kp → (M'.1 tp 1 = M.1 tp 1 ∧ M'.1 m 2 = M.1 m 2) → ab_frm (ab_w cd_116) G M M' → Q (some (.inl z)) G M') : mj_R mj_tab (d + 31) 162 [.inr (.inr (some m))] G M Q :=
  lw_c0 (c := cd_116) (dd := d + 30) (show ab_ok cd_116 from ab_all_ok 214 (Nat.le_refl _) 116 (by decide)) rfl (Nat.le_trans (by decide : 2 ≤ 30) (Nat.le_add_left 30 d)) hV.2.1.2.1 (by decide) (by decide) (by decide) (by decide +kernel) hV.1 (fun z M' i f => hQ z M' (hV.fr i f (by decide +kernel)) (hV.sz f (by decide +kernel)) f)
theorem lc_X12_bid {d x m tp s kp : Nat} {z1 z2 : Int} {G : mj_G} {M : mj_M} {Q : mj_P} (hV : lw_V G M x m tp s kp) (hz1 : mj_in z1) (hz2 : mj_in z2) (hQ : ∀ z M', lw_V G M' x m tp s kp → (M'.1 tp 1 = M.1 tp 1 ∧ M'.1 m 2 = M.1 m 2) → ab_frm (ab_w cd_117) G M M' → Q (some (.inl z)) G M') : mj_R mj_tab (d + 31) 165 [.inr (.inr (some m)), .inl z1, .inl z2] G M Q :=
  lw_c2 (c := cd_117) (dd := d + 30) (show ab_ok cd_117 from ab_all_ok 214 (Nat.le_refl _) 117 (by decide)) rfl (Nat.le_trans (by decide : 2 ≤ 30) (Nat.le_add_left 30 d)) hV.2.1.2.1 (by decide) (by decide) (by decide) (by decide +kernel) hV.1 hz1 hz2 (fun z M' i f => hQ z M' (hV.fr i f (by decide +kernel)) (hV.sz f (by decide +kernel)) f)
theorem lc_X12_bidsOf {d x m tp s kp : Nat} {z1 : Int} {G : mj_G} {M : mj_M} {Q : mj_P} (hV : lw_V G M x m tp s kp) (hz1 : mj_in z1) (hQ : ∀ z M', lw_V G M' x m tp s kp → (M'.1 tp 1 = M.1 tp 1 ∧ M'.1 m 2 = M.1 m 2) → ab_frm (ab_w cd_118) G M M' → Q (some (.inl z)) G M') : mj_R mj_tab (d + 31) 168 [.inr (.inr (some m)), .inl z1] G M Q :=
  lw_c1 (c := cd_118) (dd := d + 30) (show ab_ok cd_118 from ab_all_ok 214 (Nat.le_refl _) 118 (by decide)) rfl (Nat.le_trans (by decide : 2 ≤ 30) (Nat.le_add_left 30 d)) hV.2.1.2.1 (by decide) (by decide) (by decide) (by decide +kernel) hV.1 hz1 (fun z M' i f => hQ z M' (hV.fr i f (by decide +kernel)) (hV.sz f (by decide +kernel)) f)
theorem lc_X12_byteAt {d x m tp s kp : Nat} {z1 : Int} {G : mj_G} {M : mj_M} {Q : mj_P} (hV : lw_V G M x m tp s kp) (hz1 : mj_in z1) (hQ : ∀ z M', lw_V G M' x m tp s kp → (M'.1 tp 1 = M.1 tp 1 ∧ M'.1 m 2 = M.1 m 2) → ab_frm (ab_w cd_62) G M M' → Q (some (.inl z)) G M') : mj_R mj_tab (d + 31) 170 [.inr (.inr (some m)), .inl z1] G M Q :=
  lw_c1 (c := cd_62) (dd := d + 30) (show ab_ok cd_62 from ab_all_ok 214 (Nat.le_refl _) 62 (by decide)) rfl (Nat.le_trans (by decide : 1 ≤ 30) (Nat.le_add_left 30 d)) hV.2.1.2.1 (by decide) (by decide) (by decide) (by decide +kernel) hV.1 hz1 (fun z M' i f => hQ z M' (hV.fr i f (by decide +kernel)) (hV.sz f (by decide +kernel)) f)
theorem lc_X12_cheapest {d x m tp s kp : Nat} {G : mj_G} {M : mj_M} {Q : mj_P} (hV : lw_V G M x m tp s kp) (hQ : ∀ z M', lw_V G M' x m tp s kp → (M'.1 tp 1 = M.1 tp 1 ∧ M'.1 m 2 = M.1 m 2) → ab_frm (ab_w cd_142) G M M' → Q (some (.inl z)) G M') : mj_R mj_tab (d + 31) 173 [.inr (.inr (some m))] G M Q :=
  lw_c0 (c := cd_142) (dd := d + 30) (show ab_ok cd_142 from ab_all_ok 214 (Nat.le_refl _) 142 (by decide)) rfl (Nat.le_trans (by decide : 3 ≤ 30) (Nat.le_add_left 30 d)) hV.2.1.2.1 (by decide) (by decide) (by decide) (by decide +kernel) hV.1 (fun z M' i f => hQ z M' (hV.fr i f (by decide +kernel)) (hV.sz f (by decide +kernel)) f)
theorem lc_X12_contract {d x m tp s kp : Nat} {z1 z2 : Int} {G : mj_G} {M : mj_M} {Q : mj_P} (hV : lw_V G M x m tp s kp) (hz1 : mj_in z1) (hz2 : mj_in z2) (hQ : ∀ z M', lw_V G M' x m tp s kp → (M'.1 tp 1 = M.1 tp 1 ∧ M'.1 m 2 = M.1 m 2) → ab_frm (ab_w cd_120) G M M' → Q (some (.inl z)) G M') : mj_R mj_tab (d + 31) 176 [.inr (.inr (some m)), .inl z1, .inl z2] G M Q :=
  lw_c2 (c := cd_120) (dd := d + 30) (show ab_ok cd_120 from ab_all_ok 214 (Nat.le_refl _) 120 (by decide)) rfl (Nat.le_trans (by decide : 2 ≤ 30) (Nat.le_add_left 30 d)) hV.2.1.2.1 (by decide) (by decide) (by decide) (by decide +kernel) hV.1 hz1 hz2 (fun z M' i f => hQ z M' (hV.fr i f (by decide +kernel)) (hV.sz f (by decide +kernel)) f)
theorem lc_X12_count {d x m tp s kp : Nat} {z1 : Int} {G : mj_G} {M : mj_M} {Q : mj_P} (hV : lw_V G M x m tp s kp) (hz1 : mj_in z1) (hQ : ∀ z M', lw_V G M' x m tp s kp → (M'.1 tp 1 = M.1 tp 1 ∧ M'.1 m 2 = M.1 m 2) → ab_frm (ab_w cd_64) G M M' → Q (some (.inl z)) G M') : mj_R mj_tab (d + 31) 179 [.inr (.inr (some m)), .inl z1] G M Q :=
  lw_c1 (c := cd_64) (dd := d + 30) (show ab_ok cd_64 from ab_all_ok 214 (Nat.le_refl _) 64 (by decide)) rfl (Nat.le_trans (by decide : 1 ≤ 30) (Nat.le_add_left 30 d)) hV.2.1.2.1 (by decide) (by decide) (by decide) (by decide +kernel) hV.1 hz1 (fun z M' i f => hQ z M' (hV.fr i f (by decide +kernel)) (hV.sz f (by decide +kernel)) f)
theorem lc_X12_drawn {d x m tp s kp : Nat} {z1 : Int} {G : mj_G} {M : mj_M} {Q : mj_P} (hV : lw_V G M x m tp s kp) (hz1 : mj_in z1) (hQ : ∀ z M', lw_V G M' x m tp s kp → (M'.1 tp 1 = M.1 tp 1 ∧ M'.1 m 2 = M.1 m 2) → ab_frm (ab_w cd_170) G M M' → Q (some (.inl z)) G M') : mj_R mj_tab (d + 31) 182 [.inr (.inr (some m)), .inl z1] G M Q :=
  lw_c1 (c := cd_170) (dd := d + 30) (show ab_ok cd_170 from ab_all_ok 214 (Nat.le_refl _) 170 (by decide)) rfl (Nat.le_trans (by decide : 5 ≤ 30) (Nat.le_add_left 30 d)) hV.2.1.2.1 (by decide) (by decide) (by decide) (by decide +kernel) hV.1 hz1 (fun z M' i f => hQ z M' (hV.fr i f (by decide +kernel)) (hV.sz f (by decide +kernel)) f)
theorem lc_X12_droughts {d x m tp s kp : Nat} {G : mj_G} {M : mj_M} {Q : mj_P} (hV : lw_V G M x m tp s kp) (hQ : ∀ z M', lw_V G M' x m tp s kp → (M'.1 tp 1 = M.1 tp 1 ∧ M'.1 m 2 = M.1 m 2) → ab_frm (ab_w cd_18) G M M' → Q (some (.inl z)) G M') : mj_R mj_tab (d + 31) 183 [.inr (.inr (some m))] G M Q :=
  lw_c0 (c := cd_18) (dd := d + 30) (show ab_ok cd_18 from ab_all_ok 214 (Nat.le_refl _) 18 (by decide)) rfl (Nat.le_trans (by decide : 0 ≤ 30) (Nat.le_add_left 30 d)) hV.2.1.2.1 (by decide) (by decide) (by decide) (by decide +kernel) hV.1 (fun z M' i f => hQ z M' (hV.fr i f (by decide +kernel)) (hV.sz f (by decide +kernel)) f)
theorem lc_X12_enough {d x m tp s kp : Nat} {z1 : Int} {G : mj_G} {M : mj_M} {Q : mj_P} (hV : lw_V G M x m tp s kp) (hz1 : mj_in z1) (hQ : ∀ z M', lw_V G M' x m tp s kp → (M'.1 tp 1 = M.1 tp 1 ∧ M'.1 m 2 = M.1 m 2) → ab_frm (ab_w cd_121) G M M' → Q (some (.inl z)) G M') : mj_R mj_tab (d + 31) 185 [.inr (.inr (some m)), .inl z1] G M Q :=
  lw_c1 (c := cd_121) (dd := d + 30) (show ab_ok cd_121 from ab_all_ok 214 (Nat.le_refl _) 121 (by decide)) rfl (Nat.le_trans (by decide : 2 ≤ 30) (Nat.le_add_left 30 d)) hV.2.1.2.1 (by decide) (by decide) (by decide) (by decide +kernel) hV.1 hz1 (fun z M' i f => hQ z M' (hV.fr i f (by decide +kernel)) (hV.sz f (by decide +kernel)) f)
theorem lc_X12_fault {d x m tp s kp : Nat} {G : mj_G} {M : mj_M} {Q : mj_P} (hV : lw_V G M x m tp s kp) (hQ : ∀ z M', lw_V G M' x m tp s kp → (M'.1 tp 1 = M.1 tp 1 ∧ M'.1 m 2 = M.1 m 2) → ab_frm (ab_w cd_20) G M M' → Q (some (.inl z)) G M') : mj_R mj_tab (d + 31) 186 [.inr (.inr (some m))] G M Q :=
  lw_c0 (c := cd_20) (dd := d + 30) (show ab_ok cd_20 from ab_all_ok 214 (Nat.le_refl _) 20 (by decide)) rfl (Nat.le_trans (by decide : 0 ≤ 30) (Nat.le_add_left 30 d)) hV.2.1.2.1 (by decide) (by decide) (by decide) (by decide +kernel) hV.1 (fun z M' i f => hQ z M' (hV.fr i f (by decide +kernel)) (hV.sz f (by decide +kernel)) f)
theorem lc_X12_greatest {d x m tp s kp : Nat} {z1 : Int} {G : mj_G} {M : mj_M} {Q : mj_P} (hV : lw_V G M x m tp s kp) (hz1 : mj_in z1) (hQ : ∀ z M', lw_V G M' x m tp s kp → (M'.1 tp 1 = M.1 tp 1 ∧ M'.1 m 2 = M.1 m 2) → ab_frm (ab_w cd_122) G M M' → Q (some (.inl z)) G M') : mj_R mj_tab (d + 31) 192 [.inr (.inr (some m)), .inl z1] G M Q :=
  lw_c1 (c := cd_122) (dd := d + 30) (show ab_ok cd_122 from ab_all_ok 214 (Nat.le_refl _) 122 (by decide)) rfl (Nat.le_trans (by decide : 2 ≤ 30) (Nat.le_add_left 30 d)) hV.2.1.2.1 (by decide) (by decide) (by decide) (by decide +kernel) hV.1 hz1 (fun z M' i f => hQ z M' (hV.fr i f (by decide +kernel)) (hV.sz f (by decide +kernel)) f)
theorem lc_X12_has {d x m tp s kp : Nat} {z1 : Int} {G : mj_G} {M : mj_M} {Q : mj_P} (hV : lw_V G M x m tp s kp) (hz1 : mj_in z1) (hQ : ∀ z M', lw_V G M' x m tp s kp → (M'.1 tp 1 = M.1 tp 1 ∧ M'.1 m 2 = M.1 m 2) → ab_frm (ab_w cd_66) G M M' → Q (some (.inl z)) G M') : mj_R mj_tab (d + 31) 193 [.inr (.inr (some m)), .inl z1] G M Q :=
  lw_c1 (c := cd_66) (dd := d + 30) (show ab_ok cd_66 from ab_all_ok 214 (Nat.le_refl _) 66 (by decide)) rfl (Nat.le_trans (by decide : 1 ≤ 30) (Nat.le_add_left 30 d)) hV.2.1.2.1 (by decide) (by decide) (by decide) (by decide +kernel) hV.1 hz1 (fun z M' i f => hQ z M' (hV.fr i f (by decide +kernel)) (hV.sz f (by decide +kernel)) f)
theorem lc_X12_leak {d x m tp s kp : Nat} {z1 z2 : Int} {G : mj_G} {M : mj_M} {Q : mj_P} (hV : lw_V G M x m tp s kp) (hz1 : mj_in z1) (hz2 : mj_in z2) (hQ : ∀ z M', lw_V G M' x m tp s kp → (M'.1 tp 1 = M.1 tp 1 ∧ M'.1 m 2 = M.1 m 2) → ab_frm (ab_w cd_67) G M M' → Q (some (.inl z)) G M') : mj_R mj_tab (d + 31) 209 [.inr (.inr (some m)), .inl z1, .inl z2] G M Q :=
  lw_c2 (c := cd_67) (dd := d + 30) (show ab_ok cd_67 from ab_all_ok 214 (Nat.le_refl _) 67 (by decide)) rfl (Nat.le_trans (by decide : 1 ≤ 30) (Nat.le_add_left 30 d)) hV.2.1.2.1 (by decide) (by decide) (by decide) (by decide +kernel) hV.1 hz1 hz2 (fun z M' i f => hQ z M' (hV.fr i f (by decide +kernel)) (hV.sz f (by decide +kernel)) f)
theorem lc_X12_let {d x m tp s kp : Nat} {z1 z2 : Int} {G : mj_G} {M : mj_M} {Q : mj_P} (hV : lw_V G M x m tp s kp) (hz1 : mj_in z1) (hz2 : mj_in z2) (hQ : ∀ z M', lw_V G M' x m tp s kp → (M'.1 tp 1 = M.1 tp 1 ∧ M'.1 m 2 = M.1 m 2) → ab_frm (ab_w cd_68) G M M' → Q (some (.inl z)) G M') : mj_R mj_tab (d + 31) 211 [.inr (.inr (some m)), .inl z1, .inl z2] G M Q :=
  lw_c2 (c := cd_68) (dd := d + 30) (show ab_ok cd_68 from ab_all_ok 214 (Nat.le_refl _) 68 (by decide)) rfl (Nat.le_trans (by decide : 1 ≤ 30) (Nat.le_add_left 30 d)) hV.2.1.2.1 (by decide) (by decide) (by decide) (by decide +kernel) hV.1 hz1 hz2 (fun z M' i f => hQ z M' (hV.fr i f (by decide +kernel)) (hV.sz f (by decide +kernel)) f)
theorem lc_X12_must {d x m tp s kp : Nat} {z1 z2 : Int} {G : mj_G} {M : mj_M} {Q : mj_P} (hV : lw_V G M x m tp s kp) (hz1 : mj_in z1) (hz2 : mj_in z2) (hQ : ∀ z M', lw_V G M' x m tp s kp → (M'.1 tp 1 = M.1 tp 1 ∧ M'.1 m 2 = M.1 m 2) → ab_frm (ab_w cd_157) G M M' → Q (some (.inl z)) G M') : mj_R mj_tab (d + 31) 215 [.inr (.inr (some m)), .inl z1, .inl z2] G M Q :=
  lw_c2 (c := cd_157) (dd := d + 30) (show ab_ok cd_157 from ab_all_ok 214 (Nat.le_refl _) 157 (by decide)) rfl (Nat.le_trans (by decide : 4 ≤ 30) (Nat.le_add_left 30 d)) hV.2.1.2.1 (by decide) (by decide) (by decide) (by decide +kernel) hV.1 hz1 hz2 (fun z M' i f => hQ z M' (hV.fr i f (by decide +kernel)) (hV.sz f (by decide +kernel)) f)
theorem lc_X12_offer {d x m tp s kp : Nat} {z1 z2 z3 : Int} {G : mj_G} {M : mj_M} {Q : mj_P} (hV : lw_V G M x m tp s kp) (hz1 : mj_in z1) (hz2 : mj_in z2) (hz3 : mj_in z3) (hQ : ∀ z M', lw_V G M' x m tp s kp → (M'.1 tp 1 = M.1 tp 1 ∧ M'.1 m 2 = M.1 m 2) → ab_frm (ab_w cd_124) G M M' → Q (some (.inl z)) G M') : mj_R mj_tab (d + 31) 220 [.inr (.inr (some m)), .inl z1, .inl z2, .inl z3] G M Q :=
  lw_c3 (c := cd_124) (dd := d + 30) (show ab_ok cd_124 from ab_all_ok 214 (Nat.le_refl _) 124 (by decide)) rfl (Nat.le_trans (by decide : 2 ≤ 30) (Nat.le_add_left 30 d)) hV.2.1.2.1 (by decide) (by decide) (by decide) (by decide +kernel) hV.1 hz1 hz2 hz3 (fun z M' i f => hQ z M' (hV.fr i f (by decide +kernel)) (hV.sz f (by decide +kernel)) f)
theorem lc_X12_on {d x m tp s kp : Nat} {z1 : Int} {G : mj_G} {M : mj_M} {Q : mj_P} (hV : lw_V G M x m tp s kp) (hz1 : mj_in z1) (hQ : ∀ z M', lw_V G M' x m tp s kp → (M'.1 tp 1 = M.1 tp 1 ∧ M'.1 m 2 = M.1 m 2) → ab_frm (ab_w cd_158) G M M' → Q (some (.inl z)) G M') : mj_R mj_tab (d + 31) 221 [.inr (.inr (some m)), .inl z1] G M Q :=
  lw_c1 (c := cd_158) (dd := d + 30) (show ab_ok cd_158 from ab_all_ok 214 (Nat.le_refl _) 158 (by decide)) rfl (Nat.le_trans (by decide : 4 ≤ 30) (Nat.le_add_left 30 d)) hV.2.1.2.1 (by decide) (by decide) (by decide) (by decide +kernel) hV.1 hz1 (fun z M' i f => hQ z M' (hV.fr i f (by decide +kernel)) (hV.sz f (by decide +kernel)) f)
theorem lc_X12_plan {d x m tp s kp : Nat} {z1 : Int} {G : mj_G} {M : mj_M} {Q : mj_P} (hV : lw_V G M x m tp s kp) (hz1 : mj_in z1) (hQ : ∀ z M', lw_V G M' x m tp s kp → (M'.1 tp 1 = M.1 tp 1 ∧ M'.1 m 2 = M.1 m 2) → ab_frm (ab_w cd_125) G M M' → Q (some (.inl z)) G M') : mj_R mj_tab (d + 31) 227 [.inr (.inr (some m)), .inl z1] G M Q :=
  lw_c1 (c := cd_125) (dd := d + 30) (show ab_ok cd_125 from ab_all_ok 214 (Nat.le_refl _) 125 (by decide)) rfl (Nat.le_trans (by decide : 2 ≤ 30) (Nat.le_add_left 30 d)) hV.2.1.2.1 (by decide) (by decide) (by decide) (by decide +kernel) hV.1 hz1 (fun z M' i f => hQ z M' (hV.fr i f (by decide +kernel)) (hV.sz f (by decide +kernel)) f)
theorem lc_X12_price {d x m tp s kp : Nat} {z1 : Int} {G : mj_G} {M : mj_M} {Q : mj_P} (hV : lw_V G M x m tp s kp) (hz1 : mj_in z1) (hQ : ∀ z M', lw_V G M' x m tp s kp → (M'.1 tp 1 = M.1 tp 1 ∧ M'.1 m 2 = M.1 m 2) → ab_frm (ab_w cd_126) G M M' → Q (some (.inl z)) G M') : mj_R mj_tab (d + 31) 228 [.inr (.inr (some m)), .inl z1] G M Q :=
  lw_c1 (c := cd_126) (dd := d + 30) (show ab_ok cd_126 from ab_all_ok 214 (Nat.le_refl _) 126 (by decide)) rfl (Nat.le_trans (by decide : 2 ≤ 30) (Nat.le_add_left 30 d)) hV.2.1.2.1 (by decide) (by decide) (by decide) (by decide +kernel) hV.1 hz1 (fun z M' i f => hQ z M' (hV.fr i f (by decide +kernel)) (hV.sz f (by decide +kernel)) f)
theorem lc_X12_rounds {d x m tp s kp : Nat} {z1 : Int} {G : mj_G} {M : mj_M} {Q : mj_P} (hV : lw_V G M x m tp s kp) (hz1 : mj_in z1) (hQ : ∀ z M', lw_V G M' x m tp s kp → (M'.1 tp 1 = M.1 tp 1 ∧ M'.1 m 2 = M.1 m 2) → ab_frm (ab_w cd_95) G M M' → Q (some (.inl z)) G M') : mj_R mj_tab (d + 31) 236 [.inr (.inr (some m)), .inl z1] G M Q :=
  lw_c1 (c := cd_95) (dd := d + 30) (show ab_ok cd_95 from ab_all_ok 214 (Nat.le_refl _) 95 (by decide)) rfl (Nat.le_trans (by decide : 1 ≤ 30) (Nat.le_add_left 30 d)) hV.2.1.2.1 (by decide) (by decide) (by decide) (by decide +kernel) hV.1 hz1 (fun z M' i f => hQ z M' (hV.fr i f (by decide +kernel)) (hV.sz f (by decide +kernel)) f)
theorem lc_X12_shores {d x m tp s kp : Nat} {z1 z2 z3 : Int} {G : mj_G} {M : mj_M} {Q : mj_P} (hV : lw_V G M x m tp s kp) (hz1 : mj_in z1) (hz2 : mj_in z2) (hz3 : mj_in z3) (hQ : ∀ z M', lw_V G M' x m tp s kp → (M'.1 tp 1 = M.1 tp 1 ∧ M'.1 m 2 = M.1 m 2) → ab_frm (ab_w cd_173) G M M' → Q (some (.inl z)) G M') : mj_R mj_tab (d + 31) 240 [.inr (.inr (some m)), .inl z1, .inl z2, .inl z3] G M Q :=
  lw_c3 (c := cd_173) (dd := d + 30) (show ab_ok cd_173 from ab_all_ok 214 (Nat.le_refl _) 173 (by decide)) rfl (Nat.le_trans (by decide : 5 ≤ 30) (Nat.le_add_left 30 d)) hV.2.1.2.1 (by decide) (by decide) (by decide) (by decide +kernel) hV.1 hz1 hz2 hz3 (fun z M' i f => hQ z M' (hV.fr i f (by decide +kernel)) (hV.sz f (by decide +kernel)) f)
theorem lc_X12_shoresOf {d x m tp s kp : Nat} {G : mj_G} {M : mj_M} {Q : mj_P} (hV : lw_V G M x m tp s kp) (hQ : ∀ z M', lw_V G M' x m tp s kp → (M'.1 tp 1 = M.1 tp 1 ∧ M'.1 m 2 = M.1 m 2) → ab_frm (ab_w cd_174) G M M' → Q (some (.inl z)) G M') : mj_R mj_tab (d + 31) 241 [.inr (.inr (some m))] G M Q :=
  lw_c0 (c := cd_174) (dd := d + 30) (show ab_ok cd_174 from ab_all_ok 214 (Nat.le_refl _) 174 (by decide)) rfl (Nat.le_trans (by decide : 5 ≤ 30) (Nat.le_add_left 30 d)) hV.2.1.2.1 (by decide) (by decide) (by decide) (by decide +kernel) hV.1 (fun z M' i f => hQ z M' (hV.fr i f (by decide +kernel)) (hV.sz f (by decide +kernel)) f)
theorem lc_X12_take {d x m tp s kp : Nat} {G : mj_G} {M : mj_M} {Q : mj_P} (hV : lw_V G M x m tp s kp) (hQ : ∀ z M', lw_V G M' x m tp s kp → (M'.1 tp 1 = M.1 tp 1 ∧ M'.1 m 2 = M.1 m 2) → ab_frm (ab_w cd_96) G M M' → Q (some (.inl z)) G M') : mj_R mj_tab (d + 31) 244 [.inr (.inr (some m))] G M Q :=
  lw_c0 (c := cd_96) (dd := d + 30) (show ab_ok cd_96 from ab_all_ok 214 (Nat.le_refl _) 96 (by decide)) rfl (Nat.le_trans (by decide : 1 ≤ 30) (Nat.le_add_left 30 d)) hV.2.1.2.1 (by decide) (by decide) (by decide) (by decide +kernel) hV.1 (fun z M' i f => hQ z M' (hV.fr i f (by decide +kernel)) (hV.sz f (by decide +kernel)) f)
theorem lc_X12_thirsty {d x m tp s kp : Nat} {G : mj_G} {M : mj_M} {Q : mj_P} (hV : lw_V G M x m tp s kp) (hQ : ∀ z M', lw_V G M' x m tp s kp → (M'.1 tp 1 = M.1 tp 1 ∧ M'.1 m 2 = M.1 m 2) → ab_frm (ab_w cd_175) G M M' → Q (some (.inl z)) G M') : mj_R mj_tab (d + 31) 248 [.inr (.inr (some m))] G M Q :=
  lw_c0 (c := cd_175) (dd := d + 30) (show ab_ok cd_175 from ab_all_ok 214 (Nat.le_refl _) 175 (by decide)) rfl (Nat.le_trans (by decide : 5 ≤ 30) (Nat.le_add_left 30 d)) hV.2.1.2.1 (by decide) (by decide) (by decide) (by decide +kernel) hV.1 (fun z M' i f => hQ z M' (hV.fr i f (by decide +kernel)) (hV.sz f (by decide +kernel)) f)
theorem lc_X12_told {d x m tp s kp : Nat} {z1 z2 : Int} {G : mj_G} {M : mj_M} {Q : mj_P} (hV : lw_V G M x m tp s kp) (hz1 : mj_in z1) (hz2 : mj_in z2) (hQ : ∀ z M', lw_V G M' x m tp s kp → (M'.1 tp 1 = M.1 tp 1 ∧ M'.1 m 2 = M.1 m 2) → ab_frm (ab_w cd_128) G M M' → Q (some (.inl z)) G M') : mj_R mj_tab (d + 31) 250 [.inr (.inr (some m)), .inl z1, .inl z2] G M Q :=
  lw_c2 (c := cd_128) (dd := d + 30) (show ab_ok cd_128 from ab_all_ok 214 (Nat.le_refl _) 128 (by decide)) rfl (Nat.le_trans (by decide : 2 ≤ 30) (Nat.le_add_left 30 d)) hV.2.1.2.1 (by decide) (by decide) (by decide) (by decide +kernel) hV.1 hz1 hz2 (fun z M' i f => hQ z M' (hV.fr i f (by decide +kernel)) (hV.sz f (by decide +kernel)) f)
theorem lc_X12_town {d x m tp s kp : Nat} {z1 z2 : Int} {G : mj_G} {M : mj_M} {Q : mj_P} (hV : lw_V G M x m tp s kp) (hz1 : mj_in z1) (hz2 : mj_in z2) (hQ : ∀ z M', lw_V G M' x m tp s kp → (M'.1 tp 1 = M.1 tp 1 ∧ M'.1 m 2 = M.1 m 2) → ab_frm (ab_w cd_129) G M M' → Q (some (.inl z)) G M') : mj_R mj_tab (d + 31) 252 [.inr (.inr (some m)), .inl z1, .inl z2] G M Q :=
  lw_c2 (c := cd_129) (dd := d + 30) (show ab_ok cd_129 from ab_all_ok 214 (Nat.le_refl _) 129 (by decide)) rfl (Nat.le_trans (by decide : 2 ≤ 30) (Nat.le_add_left 30 d)) hV.2.1.2.1 (by decide) (by decide) (by decide) (by decide +kernel) hV.1 hz1 hz2 (fun z M' i f => hQ z M' (hV.fr i f (by decide +kernel)) (hV.sz f (by decide +kernel)) f)
theorem lc_X12_undo {d x m tp s kp : Nat} {G : mj_G} {M : mj_M} {Q : mj_P} (hV : lw_V G M x m tp s kp) (hQ : ∀ z M', lw_V G M' x m tp s kp → (M'.1 tp 1 = M.1 tp 1 ∧ M'.1 m 2 = M.1 m 2) → ab_frm (ab_w cd_26) G M M' → Q (some (.inl z)) G M') : mj_R mj_tab (d + 31) 253 [.inr (.inr (some m))] G M Q :=
  lw_c0 (c := cd_26) (dd := d + 30) (show ab_ok cd_26 from ab_all_ok 214 (Nat.le_refl _) 26 (by decide)) rfl (Nat.le_trans (by decide : 0 ≤ 30) (Nat.le_add_left 30 d)) hV.2.1.2.1 (by decide) (by decide) (by decide) (by decide +kernel) hV.1 (fun z M' i f => hQ z M' (hV.fr i f (by decide +kernel)) (hV.sz f (by decide +kernel)) f)
theorem lc_X12_water {d x m tp s kp : Nat} {z1 : Int} {G : mj_G} {M : mj_M} {Q : mj_P} (hV : lw_V G M x m tp s kp) (hz1 : mj_in z1) (hQ : ∀ z M', lw_V G M' x m tp s kp → (M'.1 tp 1 = M.1 tp 1 ∧ M'.1 m 2 = M.1 m 2) → ab_frm (ab_w cd_130) G M M' → Q (some (.inl z)) G M') : mj_R mj_tab (d + 31) 256 [.inr (.inr (some m)), .inl z1] G M Q :=
  lw_c1 (c := cd_130) (dd := d + 30) (show ab_ok cd_130 from ab_all_ok 214 (Nat.le_refl _) 130 (by decide)) rfl (Nat.le_trans (by decide : 2 ≤ 30) (Nat.le_add_left 30 d)) hV.2.1.2.1 (by decide) (by decide) (by decide) (by decide +kernel) hV.1 hz1 (fun z M' i f => hQ z M' (hV.fr i f (by decide +kernel)) (hV.sz f (by decide +kernel)) f)
theorem lc_X12_wettest {d x m tp s kp : Nat} {z1 : Int} {G : mj_G} {M : mj_M} {Q : mj_P} (hV : lw_V G M x m tp s kp) (hz1 : mj_in z1) (hQ : ∀ z M', lw_V G M' x m tp s kp → (M'.1 tp 1 = M.1 tp 1 ∧ M'.1 m 2 = M.1 m 2) → ab_frm (ab_w cd_131) G M M' → Q (some (.inl z)) G M') : mj_R mj_tab (d + 31) 257 [.inr (.inr (some m)), .inl z1] G M Q :=
  lw_c1 (c := cd_131) (dd := d + 30) (show ab_ok cd_131 from ab_all_ok 214 (Nat.le_refl _) 131 (by decide)) rfl (Nat.le_trans (by decide : 2 ≤ 30) (Nat.le_add_left 30 d)) hV.2.1.2.1 (by decide) (by decide) (by decide) (by decide +kernel) hV.1 hz1 (fun z M' i f => hQ z M' (hV.fr i f (by decide +kernel)) (hV.sz f (by decide +kernel)) f)
theorem lc_X12_worth {d x m tp s kp : Nat} {z1 : Int} {G : mj_G} {M : mj_M} {Q : mj_P} (hV : lw_V G M x m tp s kp) (hz1 : mj_in z1) (hQ : ∀ z M', lw_V G M' x m tp s kp → (M'.1 tp 1 = M.1 tp 1 ∧ M'.1 m 2 = M.1 m 2) → ab_frm (ab_w cd_176) G M M' → Q (some (.inl z)) G M') : mj_R mj_tab (d + 31) 259 [.inr (.inr (some m)), .inl z1] G M Q :=
  lw_c1 (c := cd_176) (dd := d + 30) (show ab_ok cd_176 from ab_all_ok 214 (Nat.le_refl _) 176 (by decide)) rfl (Nat.le_trans (by decide : 5 ≤ 30) (Nat.le_add_left 30 d)) hV.2.1.2.1 (by decide) (by decide) (by decide) (by decide +kernel) hV.1 hz1 (fun z M' i f => hQ z M' (hV.fr i f (by decide +kernel)) (hV.sz f (by decide +kernel)) f)
theorem lc_X12_write {d x m tp s kp : Nat} {G : mj_G} {M : mj_M} {Q : mj_P} (hV : lw_V G M x m tp s kp) (hQ : ∀ z M', lw_V G M' x m tp s kp → (M'.1 tp 1 = M.1 tp 1 ∧ M'.1 m 2 = M.1 m 2) → ab_frm (ab_w cd_132) G M M' → Q (some (.inl z)) G M') : mj_R mj_tab (d + 31) 260 [.inr (.inr (some m))] G M Q := by
  have hm : G m = (1012, 0) := hV.2.1.2.1
  have hr : (ab_o cd_132).all (fun po => lw_ii po.1) = true := by decide +kernel
  refine (show ab_ok cd_132 from ab_all_ok 214 (Nat.le_refl _) 132 (by decide)) (d + 30) (Nat.le_trans (by decide : 2 ≤ 30) (Nat.le_add_left 30 d)) G M (1, hn_g [M.1 m 51], 1, fun _ => some m) _ Q (hn_Y1 (by have := hV.1.1 m 51; rw [hm] at this; exact this)) (hn_RR hm) (fun e he => ?_) ⟨_, _, rfl, ⟨Nat.zero_lt_one, rfl⟩, rfl⟩ hV.1 (fun r M' i f ⟨po, hpo, h⟩ => ?_)
  · cases he with
    | head => exact ⟨Nat.zero_lt_one, m, 51, rfl, rfl, by decide, hn_I (Nat.le_of_ble_eq_true rfl) rfl⟩
    | tail _ he => cases he
  · obtain ⟨z, rfl⟩ := lw_r (List.all_eq_true.mp hr po hpo) h
    exact hQ z M' (hV.fr i f (by decide +kernel)) (hV.sz f (by decide +kernel)) f
theorem lc_X12_year {d x m tp s kp : Nat} {z1 : Int} {G : mj_G} {M : mj_M} {Q : mj_P} (hV : lw_V G M x m tp s kp) (hz1 : mj_in z1) (hQ : ∀ z M', lw_V G M' x m tp s kp → (M'.1 tp 1 = M.1 tp 1 ∧ M'.1 m 2 = M.1 m 2) → ab_frm (ab_w cd_102) G M M' → Q (some (.inl z)) G M') : mj_R mj_tab (d + 31) 261 [.inr (.inr (some m)), .inl z1] G M Q :=
  lw_c1 (c := cd_102) (dd := d + 30) (show ab_ok cd_102 from ab_all_ok 214 (Nat.le_refl _) 102 (by decide)) rfl (Nat.le_trans (by decide : 1 ≤ 30) (Nat.le_add_left 30 d)) hV.2.1.2.1 (by decide) (by decide) (by decide) (by decide +kernel) hV.1 hz1 (fun z M' i f => hQ z M' (hV.fr i f (by decide +kernel)) (hV.sz f (by decide +kernel)) f)
end
section
/-! ===== calls of the class that empty the tape ===== -/
def lw_w2 (x tp : Nat) (i : Nat) : Option Nat := if i = 0 then some x else some tp
theorem lw_R2 {G : mj_G} {x tp n : Nat} {f : Nat → Int} (hx : G x = (1011, 0)) (ht : G tp = (1008, 0)) : ab_RR (n, f, 2, lw_w2 x tp) G [(1011, 0), (1008, 0)] := ⟨rfl, fun i q h => by
  cases i with
  | zero =>
    cases h
    exact Or.inr (Or.inr (Or.inr ⟨by decide, by decide, by decide, x, rfl, hx⟩))
  | succ i => cases i with
    | zero =>
      cases h
      exact Or.inr (Or.inr (Or.inr ⟨by decide, by decide, by decide, tp, rfl, ht⟩))
    | succ i => cases h⟩
/-- its post: an int, and the tape's size is 0 -/
def lw_zp (po : ab_po) : Bool := match po with
  | (some (.inl _), [(1, 1, .inl (.ofNat 0))]) => true
  | _ => false
theorem lw_z {c : ab_co} {x m tp s kp dd : Nat} {G : mj_G} {M : mj_M} {Q : mj_P} (hok : ab_ok c) (hp : ab_p c = ([(.ofNat 0, .ofNat 940, [])], [(1011, 0), (1008, 0)], [(0, 0, .inr (.inr 1)), (1, 1, .inl (.inr (0, 1, .ofNat 0)))], [some (.inr (.inr 0))])) (hd : ab_h c ≤ dd) (hr : (ab_o c).all lw_zp = true) (hV : lw_V G M x m tp s kp) (hw : lw_ck (ab_w c) = true) (h2 : (ab_w c).all (fun q => !(Nat.beq q.1 1012)) = true) (hQ : ∀ z M', lw_V G M' x m tp s kp → M'.1 tp 1 = 0 → M'.1 m 2 = M.1 m 2 → ab_frm (ab_w c) G M M' → Q (some (.inl z)) G M') : mj_R mj_tab (dd + 1) (ab_y c) [.inr (.inr (some x))] G M Q := by
  obtain ⟨hI, ⟨g1, g2, g3, g4, g5⟩, ⟨r1, r2, r3⟩, -⟩ := id hV
  refine hok dd hd G M (1, hn_g [M.1 tp 1], 2, lw_w2 x tp) _ Q (by rw [hp]; exact hn_Y1 (by have := hI.1 tp 1; rw [g3] at this; exact this)) (by rw [hp]; exact lw_R2 g1 g3) (by
    rw [hp]
    intro e he
    cases he with
    | head => exact ⟨Nat.le_of_ble_eq_true rfl, x, 0, rfl, rfl, by decide, Nat.le_of_ble_eq_true rfl, r1⟩
    | tail _ he => cases he with
      | head => exact ⟨Nat.le_of_ble_eq_true rfl, tp, 1, rfl, rfl, by decide, hn_I (Nat.le_of_ble_eq_true rfl) rfl⟩
      | tail _ he => cases he) (by rw [hp]; exact ⟨_, _, rfl, ⟨Nat.le_of_ble_eq_true rfl, rfl⟩, rfl⟩) hI (fun r M' i f ⟨po, hpo, h⟩ => ?_)
  have hz := List.all_eq_true.mp hr po hpo
  unfold lw_zp at hz
  split at hz
  · obtain ⟨⟨z, rfl, -⟩, hm⟩ := h
    obtain ⟨a, ha, hx⟩ := hm _ (List.Mem.head _)
    cases ha
    exact hQ z M' (hV.fr i f hw) hx (f m 2 (by rw [g2]; exact hn_nt h2)).1 f
  · cases hz
theorem lc_X11_plain {d x m tp s kp : Nat} {G : mj_G} {M : mj_M} {Q : mj_P} (hV : lw_V G M x m tp s kp) (hQ : ∀ z M', lw_V G M' x m tp s kp → M'.1 tp 1 = 0 → M'.1 m 2 = M.1 m 2 → ab_frm (ab_w cx_X11_plain_z) G M M' → Q (some (.inl z)) G M') : mj_R mj_tab (d + 31) 138 [.inr (.inr (some x))] G M Q := lw_z (c := cx_X11_plain_z) (dd := d + 30) xo_X11_plain_z rfl (Nat.le_trans (by decide +kernel : ab_h cx_X11_plain_z ≤ 30) (Nat.le_add_left 30 d)) (by decide +kernel) hV (by decide +kernel) (by decide +kernel) hQ
theorem lc_X11_contracts {d x m tp s kp : Nat} {G : mj_G} {M : mj_M} {Q : mj_P} (hV : lw_V G M x m tp s kp) (hQ : ∀ z M', lw_V G M' x m tp s kp → M'.1 tp 1 = 0 → M'.1 m 2 = M.1 m 2 → ab_frm (ab_w cx_X11_contracts_z) G M M' → Q (some (.inl z)) G M') : mj_R mj_tab (d + 31) 117 [.inr (.inr (some x))] G M Q := lw_z (c := cx_X11_contracts_z) (dd := d + 30) xo_X11_contracts_z rfl (Nat.le_trans (by decide +kernel : ab_h cx_X11_contracts_z ≤ 30) (Nat.le_add_left 30 d)) (by decide +kernel) hV (by decide +kernel) (by decide +kernel) hQ
theorem lc_X11_sentence {d x m tp s kp : Nat} {G : mj_G} {M : mj_M} {Q : mj_P} (hV : lw_V G M x m tp s kp) (hQ : ∀ z M', lw_V G M' x m tp s kp → M'.1 tp 1 = 0 → M'.1 m 2 = M.1 m 2 → ab_frm (ab_w cx_X11_sentence_z) G M M' → Q (some (.inl z)) G M') : mj_R mj_tab (d + 31) 147 [.inr (.inr (some x))] G M Q := lw_z (c := cx_X11_sentence_z) (dd := d + 30) xo_X11_sentence_z rfl (Nat.le_trans (by decide +kernel : ab_h cx_X11_sentence_z ≤ 30) (Nat.le_add_left 30 d)) (by decide +kernel) hV (by decide +kernel) (by decide +kernel) hQ
theorem lc_X11_leaks {d x m tp s kp : Nat} {G : mj_G} {M : mj_M} {Q : mj_P} (hV : lw_V G M x m tp s kp) (hQ : ∀ z M', lw_V G M' x m tp s kp → M'.1 tp 1 = 0 → M'.1 m 2 = M.1 m 2 → ab_frm (ab_w cx_X11_leaks_z) G M M' → Q (some (.inl z)) G M') : mj_R mj_tab (d + 31) 132 [.inr (.inr (some x))] G M Q := lw_z (c := cx_X11_leaks_z) (dd := d + 30) xo_X11_leaks_z rfl (Nat.le_trans (by decide +kernel : ab_h cx_X11_leaks_z ≤ 30) (Nat.le_add_left 30 d)) (by decide +kernel) hV (by decide +kernel) (by decide +kernel) hQ
end
section
/-! ===== calls of the reference that empty its tape ===== -/
def lw_mp (po : ab_po) : Bool := match po with
  | (some (.inl _), [(0, 2, .inl (.ofNat 0))]) => true
  | _ => false
theorem lw_m {c : ab_co} {x m tp s kp dd : Nat} {G : mj_G} {M : mj_M} {Q : mj_P} (hok : ab_ok c) (hp : ab_p c = ([(.ofNat 0, .ofNat 940, [])], [(1012, 0)], [(0, 2, .inl (.inr (0, 1, .ofNat 0)))], [some (.inr (.inr 0))])) (hd : ab_h c ≤ dd) (hr : (ab_o c).all lw_mp = true) (hV : lw_V G M x m tp s kp) (hw : lw_ck (ab_w c) = true) (h2 : (ab_w c).all (fun q => !(Nat.beq q.1 1008)) = true) (hQ : ∀ z M', lw_V G M' x m tp s kp → M'.1 m 2 = 0 → M'.1 tp 1 = M.1 tp 1 → ab_frm (ab_w c) G M M' → Q (some (.inl z)) G M') : mj_R mj_tab (dd + 1) (ab_y c) [.inr (.inr (some m))] G M Q := by
  obtain ⟨hI, ⟨g1, g2, g3, g4, g5⟩, ⟨r1, r2, r3⟩, -⟩ := id hV
  refine hok dd hd G M (1, hn_g [M.1 m 2], 1, fun _ => some m) _ Q (by rw [hp]; exact hn_Y1 (by have := hI.1 m 2; rw [g2] at this; exact this)) (by rw [hp]; exact hn_RR g2) (by
    rw [hp]
    intro e he
    cases he with
    | head => exact ⟨Nat.le_of_ble_eq_true rfl, m, 2, rfl, rfl, by decide, hn_I (Nat.le_of_ble_eq_true rfl) rfl⟩
    | tail _ he => cases he) (by rw [hp]; exact ⟨_, _, rfl, ⟨Nat.le_of_ble_eq_true rfl, rfl⟩, rfl⟩) hI (fun r M' i f ⟨po, hpo, h⟩ => ?_)
  have hz := List.all_eq_true.mp hr po hpo
  unfold lw_mp at hz
  split at hz
  · obtain ⟨⟨z, rfl, -⟩, hm⟩ := h
    obtain ⟨a, ha, hx⟩ := hm _ (List.Mem.head _)
    cases ha
    exact hQ z M' (hV.fr i f hw) hx (f tp 1 (by rw [g3]; exact hn_nt h2)).1 f
  · cases hz
theorem lc_X12_contracts {d x m tp s kp : Nat} {G : mj_G} {M : mj_M} {Q : mj_P} (hV : lw_V G M x m tp s kp) (hQ : ∀ z M', lw_V G M' x m tp s kp → M'.1 m 2 = 0 → M'.1 tp 1 = M.1 tp 1 → ab_frm (ab_w cx_X12_contracts_z) G M M' → Q (some (.inl z)) G M') : mj_R mj_tab (d + 31) 177 [.inr (.inr (some m))] G M Q := lw_m (c := cx_X12_contracts_z) (dd := d + 30) xo_X12_contracts_z rfl (Nat.le_trans (by decide +kernel : ab_h cx_X12_contracts_z ≤ 30) (Nat.le_add_left 30 d)) (by decide +kernel) hV (by decide +kernel) (by decide +kernel) hQ
theorem lc_X12_leaks {d x m tp s kp : Nat} {G : mj_G} {M : mj_M} {Q : mj_P} (hV : lw_V G M x m tp s kp) (hQ : ∀ z M', lw_V G M' x m tp s kp → M'.1 m 2 = 0 → M'.1 tp 1 = M.1 tp 1 → ab_frm (ab_w cx_X12_leaks_z) G M M' → Q (some (.inl z)) G M') : mj_R mj_tab (d + 31) 210 [.inr (.inr (some m))] G M Q := lw_m (c := cx_X12_leaks_z) (dd := d + 30) xo_X12_leaks_z rfl (Nat.le_trans (by decide +kernel : ab_h cx_X12_leaks_z ≤ 30) (Nat.le_add_left 30 d)) (by decide +kernel) hV (by decide +kernel) (by decide +kernel) hQ
end
section
/-! ===== the reference's plain, sentence, said keep the loop's invariant ===== -/
def lw_ck2 (W : List (Nat × Nat × Nat)) : Bool := W.all (fun q => !(Nat.beq q.1 1011) && (!(Nat.beq q.1 1012 && (Nat.ble q.2.1 6 && Nat.ble 6 q.2.2)) && (!(Nat.beq q.1 1012 && (Nat.ble q.2.1 59 && Nat.ble 59 q.2.2)) && (!(Nat.beq q.1 1008) && !(Nat.beq q.1 70100)))))
theorem lw_V.fs {W : List (Nat × Nat × Nat)} {G : mj_G} {M M' : mj_M} {x m tp s kp : Nat} (hV : lw_V G M x m tp s kp) (hI : ab_Inv G M') (f : ab_frm W G M M') (hc : lw_ck2 W = true) (hF : hn_F M' s 356) : lw_V G M' x m tp s kp ∧ M'.1 tp 1 = M.1 tp 1 := by
  obtain ⟨-, ⟨g1, g2, g3, g4, g5⟩, ⟨r1, r2, r3⟩, f1, f2, f3⟩ := hV
  have ck : ∀ q ∈ W, q.1 ≠ 1011 ∧ ¬ (q.1 = 1012 ∧ q.2.1 ≤ 6 ∧ 6 ≤ q.2.2) ∧ ¬ (q.1 = 1012 ∧ q.2.1 ≤ 59 ∧ 59 ≤ q.2.2) ∧ q.1 ≠ 1008 ∧ q.1 ≠ 70100 := fun q hq => by
    have h := List.all_eq_true.mp hc q hq
    obtain ⟨h1, h⟩ := sx_nd h
    obtain ⟨h2, h⟩ := sx_nd h
    obtain ⟨h3, h⟩ := sx_nd h
    obtain ⟨h4, h5⟩ := sx_nd h
    refine ⟨fun e => lw_not h1 ?_, fun e => lw_not h2 ?_, fun e => lw_not h3 ?_, fun e => lw_not h4 ?_, fun e => lw_not h5 ?_⟩
    · rw [e]; rfl
    · rw [e.1, Nat.ble_eq_true_of_le e.2.1, Nat.ble_eq_true_of_le e.2.2]; rfl
    · rw [e.1, Nat.ble_eq_true_of_le e.2.1, Nat.ble_eq_true_of_le e.2.2]; rfl
    · rw [e]; rfl
    · rw [e]; rfl
  refine ⟨⟨hI, ⟨g1, g2, g3, g4, g5⟩, ⟨?_, ?_, ?_⟩, hF, ?_, ?_⟩, ?_⟩
  · rw [(f x 0 (by rw [g1]; rintro ⟨q, hq, q1, q2, q3⟩; exact (ck q hq).1 q1)).2]; exact r1
  · rw [(f m 6 (by rw [g2]; rintro ⟨q, hq, q1, q2, q3⟩; exact (ck q hq).2.1 ⟨q1, q2, q3⟩)).2]; exact r2
  · rw [(f m 59 (by rw [g2]; rintro ⟨q, hq, q1, q2, q3⟩; exact (ck q hq).2.2.1 ⟨q1, q2, q3⟩)).2]; exact r3
  · exact f2.cg (fun k hk => (f kp k (by rw [g5]; rintro ⟨q, hq, q1, q2, q3⟩; exact (ck q hq).2.2.2.2 q1)).1)
  · exact f3.cg (fun k hk => (f kp k (by rw [g5]; rintro ⟨q, hq, q1, q2, q3⟩; exact (ck q hq).2.2.2.2 q1)).1)
  · exact (f tp 1 (by rw [g3]; rintro ⟨q, hq, q1, q2, q3⟩; exact (ck q hq).2.2.2.1 q1)).1
theorem lc_X12_plain {d x m tp s kp : Nat} {G : mj_G} {M : mj_M} {Q : mj_P} (hV : lw_V G M x m tp s kp) (hQ : ∀ z M', lw_V G M' x m tp s kp → M'.1 m 2 = 0 → M'.1 tp 1 = M.1 tp 1 → ab_frm hn_WP G M M' → Q (some (.inl z)) G M') : mj_R mj_tab (d + 31) 226 [.inr (.inr (some m))] G M Q :=
  r_plain (d := d + 25) hV.2.1.2.1 hV.2.1.2.2.2.1 hV.2.2.1.2.1 hV.1 hV.2.2.2.1 (fun z M' i f e2 hF => hQ z M' (hV.fs i f (by decide +kernel) hF).1 e2 (hV.fs i f (by decide +kernel) hF).2 f)
theorem lc_X12_sentence {d x m tp s kp : Nat} {G : mj_G} {M : mj_M} {Q : mj_P} (hV : lw_V G M x m tp s kp) (hQ : ∀ z M', lw_V G M' x m tp s kp → M'.1 m 2 = 0 → M'.1 tp 1 = M.1 tp 1 → ab_frm hn_WX G M M' → Q (some (.inl z)) G M') : mj_R mj_tab (d + 31) 239 [.inr (.inr (some m))] G M Q :=
  r_sentence (d := d + 27) hV.2.1.2.1 hV.2.1.2.2.2.1 hV.2.2.1.2.1 hV.1 hV.2.2.2.1 (fun z M' i hX => hQ z M' (hV.fs i hX.1 (by decide +kernel) hX.2.2.1).1 hX.2.1 (hV.fs i hX.1 (by decide +kernel) hX.2.2.1).2 hX.1)
theorem lc_X12_said {d x m tp s kp : Nat} {z1 : Int} {G : mj_G} {M : mj_M} {Q : mj_P} (hV : lw_V G M x m tp s kp) (hQ : ∀ z M', lw_V G M' x m tp s kp → (M'.1 tp 1 = M.1 tp 1 ∧ M'.1 m 2 = M.1 m 2) → ab_frm hn_WD G M M' → Q (some (.inl z)) G M') : mj_R mj_tab (d + 31) 238 [.inr (.inr (some m)), .inl z1] G M Q :=
  r_said (d := d + 27) hV.2.1.2.1 hV.2.1.2.2.2.1 hV.2.2.1.2.1 hV.1 hV.2.2.2.1 (fun z M' i f => hQ z M' (hV.fr i f (by decide +kernel)) (hV.sz f (by decide +kernel)) f)
end
section
/-! ===== the reference's image and restore keep the loop's invariant ===== -/
theorem hn_F.mv {M M' : mj_M} {a a' p p' : Nat} (h : hn_F M a p) (hc : M.1 a p ≤ 45) (e : ∀ j, j ≤ 135 → M'.1 a' (p' + j) = M.1 a (p + j)) : hn_F M' a' p' := by
  obtain ⟨c, n, h1, h2⟩ := h
  refine ⟨c, n, (e 0 (by decide)).trans h1, h2.cg (fun j hj => ?_)⟩
  have q := e (1 + 3 * j) (by omega)
  rw [← Nat.add_assoc, ← Nat.add_assoc] at q
  exact q.symm
theorem lw_45 {G : mj_G} {M : mj_M} {s : Nat} (hI : ab_Inv G M) (hs : G s = (51100, 537)) : M.1 s 356 ≤ 45 := by
  have := (hI.1 s 356).2
  rw [hs] at this
  exact this
theorem lw_45k {G : mj_G} {M : mj_M} {kp k : Nat} (hI : ab_Inv G M) (hk : G kp = (70100, 1076)) (h : k ≤ 1) : M.1 kp (538 * k + 356) ≤ 45 := by
  have := (hI.1 kp (538 * k + 356)).2
  rw [hk] at this
  have this : M.1 kp (538 * k + 356) ≤ (ab_rg 70100 (538 * k + 356)).2 := this
  rw [hn_rk h (by decide)] at this
  exact this
theorem lc_X12_image {d x m tp s kp ik : Nat} {z1 : Int} {G : mj_G} {M : mj_M} {Q : mj_P} (hV : lw_V G M x m tp s kp) (hik : G ik = (72102, 2)) (h61 : M.2.2 m 61 = some ik) (hQ : ∀ z M', lw_V G M' x m tp s kp → (M'.1 tp 1 = M.1 tp 1 ∧ M'.1 m 2 = M.1 m 2) → ab_frm hn_WI G M M' → ((¬ (0 ≤ z1 ∧ z1 ≤ 1) ∧ z = 0 ∧ ∀ q, M'.1 ik q = M.1 ik q) ∨ (0 ≤ z1 ∧ z1 ≤ 1 ∧ z = 1 ∧ M'.1 ik z1.toNat = 1 ∧ ∀ q, q ≠ z1.toNat → M'.1 ik q = M.1 ik q)) → Q (some (.inl z)) G M') : mj_R mj_tab (d + 31) 195 [.inr (.inr (some m)), .inl z1] G M Q := by
  obtain ⟨hI, ⟨g1, g2, g3, g4, g5⟩, ⟨r1, r2, r3⟩, f1, f2, f3⟩ := id hV
  refine r_image (d := d + 29) g2 g4 g5 hik r2 r3 h61 hI (fun c0 => ?_) (fun k M' ek hk i e22 f h1 h2 k1 k2 => ?_)
  · have f0 : ab_frm [(1012, 0, 0)] G M (mj_p0 M m 0 0) := hn_f0 ab_frm.rf ⟨(1012, 0, 0), by decide, by rw [g2], by decide, by decide⟩
    exact hQ 0 _ (hV.fr (hI.p0 (by rw [g2]; exact ⟨by decide, by decide⟩)) f0 (by decide)) (hV.sz f0 (by decide)) (hn_up f0 (by decide)) (Or.inl ⟨c0, rfl, fun q => hn_n (Or.inl (hn_ne hik g2 (by decide)))⟩)
  · refine hQ 1 M' ⟨i, ⟨g1, g2, g3, g4, g5⟩, ⟨by rw [e22]; exact r1, by rw [e22]; exact r2, by rw [e22]; exact r3⟩, f1.cg (fun q _ => (f s q (by rw [g4]; exact hn_nt (by decide))).1), ?_, ?_⟩ (hV.sz f (by decide)) f (Or.inr ⟨by omega, by omega, rfl, by rw [ek]; exact k1, fun q hq => k2 q (fun e => hq (by rw [ek, e]; rfl))⟩)
    · by_cases e : k = 0
      · subst e
        exact f1.mv (lw_45 hI g4) (fun j hj => by have := h1 (356 + j) (by omega); rw [Nat.mul_zero, Nat.zero_add] at this; exact this)
      · exact f2.mv (lw_45k (k := 0) hI g5 (by decide)) (fun j hj => h2 (356 + j) (by omega))
    · by_cases e : k = 0
      · subst e
        exact f3.mv (lw_45k (k := 1) hI g5 (by decide)) (fun j hj => h2 (894 + j) (by omega))
      · have e1 : k = 1 := by omega
        subst e1
        exact f1.mv (lw_45 hI g4) (fun j hj => by have := h1 (356 + j) (by omega); rw [show 538 * 1 + (356 + j) = 894 + j by omega] at this; exact this)
theorem lc_X12_restore {d x m tp s kp ik : Nat} {z1 : Int} {G : mj_G} {M : mj_M} {Q : mj_P} (hV : lw_V G M x m tp s kp) (hik : G ik = (72102, 2)) (h61 : M.2.2 m 61 = some ik) (hQ : ∀ z M', lw_V G M' x m tp s kp → (M'.1 tp 1 = M.1 tp 1 ∧ M'.1 m 2 = M.1 m 2) → ab_frm hn_WR G M M' → (((¬ (0 ≤ z1 ∧ z1 ≤ 1) ∨ M.1 ik z1.toNat = 0) ∧ z = 0) ∨ (0 ≤ z1 ∧ z1 ≤ 1 ∧ M.1 ik z1.toNat ≠ 0 ∧ z = 1)) → Q (some (.inl z)) G M') : mj_R mj_tab (d + 31) 235 [.inr (.inr (some m)), .inl z1] G M Q := by
  obtain ⟨hI, ⟨g1, g2, g3, g4, g5⟩, ⟨r1, r2, r3⟩, f1, f2, f3⟩ := id hV
  refine r_restore (d := d + 29) g2 g4 g5 hik r2 r3 h61 hI (fun c0 => ?_) (fun k M' ek hk k0 i e22 f h1 => ?_)
  · have f0 : ab_frm [(1012, 0, 0)] G M (mj_p0 M m 0 0) := hn_f0 ab_frm.rf ⟨(1012, 0, 0), by decide, by rw [g2], by decide, by decide⟩
    exact hQ 0 _ (hV.fr (hI.p0 (by rw [g2]; exact ⟨by decide, by decide⟩)) f0 (by decide)) (hV.sz f0 (by decide)) (hn_up f0 (by decide)) (Or.inl ⟨c0.imp id (fun ⟨k, e1, e2, e3⟩ => by rw [e1]; exact e3), rfl⟩)
  · have hF : hn_F M' s 356 := by
      by_cases e : k = 0
      · subst e
        exact f2.mv (lw_45k (k := 0) hI g5 (by decide)) (fun j hj => by have := h1 (356 + j) (by omega); rw [Nat.mul_zero, Nat.zero_add] at this; exact this)
      · have e1 : k = 1 := by omega
        subst e1
        exact f3.mv (lw_45k (k := 1) hI g5 (by decide)) (fun j hj => by have := h1 (356 + j) (by omega); rw [show 538 * 1 + (356 + j) = 894 + j by omega] at this; exact this)
    exact hQ 1 M' (hV.fs i f (by decide) hF).1 (hV.sz f (by decide)) f (Or.inr ⟨by omega, by omega, by rw [ek]; exact k0, rfl⟩)
end
section
/-! ===== feed of both sides ===== -/
theorem lw_Y6 {z1 z2 z3 z4 z5 z6 lo hi : Int} {q : Nat × (Nat → Option Nat)} (h1 : mj_in z1) (h2 : mj_in z2) (h3 : mj_in z3) (h4 : mj_in z4) (h5 : mj_in z5) (h6 : lo ≤ z6 ∧ z6 ≤ hi) : ab_RY (6, hn_g [z1, z2, z3, z4, z5, z6], q) [lw_yy, lw_yy, lw_yy, lw_yy, lw_yy, (lo, hi, [])] := hn_Y (zs := [z1, z2, z3, z4, z5, z6]) rfl (fun i lo hi r e => by
  cases i with
  | zero => cases e; exact ⟨rfl, hn_ii h1⟩
  | succ i => cases i with
    | zero => cases e; exact ⟨rfl, hn_ii h2⟩
    | succ i => cases i with
      | zero => cases e; exact ⟨rfl, hn_ii h3⟩
      | succ i => cases i with
        | zero => cases e; exact ⟨rfl, hn_ii h4⟩
        | succ i => cases i with
          | zero => cases e; exact ⟨rfl, hn_ii h5⟩
          | succ i => cases i with
            | zero => cases e; exact ⟨rfl, h6⟩
            | succ i => cases e)
theorem lc_X11_feed {d x m tp s kp : Nat} {z1 z2 z3 z4 z5 : Int} {G : mj_G} {M : mj_M} {Q : mj_P} (hV : lw_V G M x m tp s kp) (h1 : mj_in z1) (h2 : mj_in z2) (h3 : mj_in z3) (h4 : mj_in z4) (h5 : mj_in z5) (hQ1 : M.1 tp 1 ≤ 920 → ∀ M', lw_V G M' x m tp s kp → M'.1 tp 1 = M.1 tp 1 + 20 → M'.1 m 2 = M.1 m 2 → ab_frm (ab_w cx_X11_feed_lo) G M M' → Q (some (.inl (M.1 tp 1 + 20))) G M') (hQ2 : 921 ≤ M.1 tp 1 → ∀ M', lw_V G M' x m tp s kp → M'.1 tp 1 = M.1 tp 1 → M'.1 m 2 = M.1 m 2 → ab_frm (ab_w cx_X11_feed_hi) G M M' → Q (some (.inl (-1))) G M') : mj_R mj_tab (d + 31) 124 [.inr (.inr (some x)), .inl z1, .inl z2, .inl z3, .inl z4, .inl z5] G M Q := by
  obtain ⟨hI, ⟨g1, g2, g3, g4, g5⟩, ⟨r1, r2, r3⟩, -⟩ := id hV
  have hb : 0 ≤ M.1 tp 1 ∧ M.1 tp 1 ≤ 940 := by
    have := hI.1 tp 1
    rw [g3] at this
    exact this
  by_cases hc : M.1 tp 1 ≤ 920
  · skip
    refine xo_X11_feed_lo (d + 30) (Nat.le_trans (by decide +kernel : ab_h cx_X11_feed_lo ≤ 30) (Nat.le_add_left 30 d)) G M (6, hn_g [z1, z2, z3, z4, z5, M.1 tp 1], 2, lw_w2 x tp) _ Q (lw_Y6 h1 h2 h3 h4 h5 ⟨hb.1, hc⟩) (lw_R2 g1 g3) (fun e he => by
      cases he with
      | head => exact ⟨Nat.le_of_ble_eq_true rfl, x, 0, rfl, rfl, by decide, Nat.le_of_ble_eq_true rfl, r1⟩
      | tail _ he => cases he with
        | head => exact ⟨Nat.le_of_ble_eq_true rfl, tp, 1, rfl, rfl, by decide, hn_I (Nat.le_of_ble_eq_true rfl) rfl⟩
        | tail _ he => cases he) ⟨_, _, rfl, ⟨Nat.le_of_ble_eq_true rfl, rfl⟩, _, _, rfl, ⟨_, rfl, hn_I (Nat.le_of_ble_eq_true rfl) rfl⟩, _, _, rfl, ⟨_, rfl, hn_I (Nat.le_of_ble_eq_true rfl) rfl⟩, _, _, rfl, ⟨_, rfl, hn_I (Nat.le_of_ble_eq_true rfl) rfl⟩, _, _, rfl, ⟨_, rfl, hn_I (Nat.le_of_ble_eq_true rfl) rfl⟩, _, _, rfl, ⟨_, rfl, hn_I (Nat.le_of_ble_eq_true rfl) rfl⟩, rfl⟩ hI (fun r M' i f ⟨po, hpo, h⟩ => ?_)
    cases hpo with
    | head =>
      obtain ⟨⟨z, rfl, hz⟩, hm⟩ := h
      obtain ⟨a, ha, hx⟩ := hm _ (List.Mem.head _)
      cases ha
      have hz : z = M.1 tp 1 + 20 := hz
      subst hz
      exact hQ1 hc M' (hV.fr i f (by decide +kernel)) hx (f m 2 (by rw [g2]; exact hn_nt (by decide +kernel))).1 f
    | tail _ hpo => cases hpo
  · skip
    refine xo_X11_feed_hi (d + 30) (Nat.le_trans (by decide +kernel : ab_h cx_X11_feed_hi ≤ 30) (Nat.le_add_left 30 d)) G M (6, hn_g [z1, z2, z3, z4, z5, M.1 tp 1], 2, lw_w2 x tp) _ Q (lw_Y6 h1 h2 h3 h4 h5 ⟨by show (921 : Int) ≤ _; omega, hb.2⟩) (lw_R2 g1 g3) (fun e he => by
      cases he with
      | head => exact ⟨Nat.le_of_ble_eq_true rfl, x, 0, rfl, rfl, by decide, Nat.le_of_ble_eq_true rfl, r1⟩
      | tail _ he => cases he with
        | head => exact ⟨Nat.le_of_ble_eq_true rfl, tp, 1, rfl, rfl, by decide, hn_I (Nat.le_of_ble_eq_true rfl) rfl⟩
        | tail _ he => cases he) ⟨_, _, rfl, ⟨Nat.le_of_ble_eq_true rfl, rfl⟩, _, _, rfl, ⟨_, rfl, hn_I (Nat.le_of_ble_eq_true rfl) rfl⟩, _, _, rfl, ⟨_, rfl, hn_I (Nat.le_of_ble_eq_true rfl) rfl⟩, _, _, rfl, ⟨_, rfl, hn_I (Nat.le_of_ble_eq_true rfl) rfl⟩, _, _, rfl, ⟨_, rfl, hn_I (Nat.le_of_ble_eq_true rfl) rfl⟩, _, _, rfl, ⟨_, rfl, hn_I (Nat.le_of_ble_eq_true rfl) rfl⟩, rfl⟩ hI (fun r M' i f ⟨po, hpo, h⟩ => ?_)
    cases hpo with
    | head =>
      obtain ⟨⟨z, rfl, hz⟩, hm⟩ := h
      obtain ⟨a, ha, hx⟩ := hm _ (List.Mem.head _)
      cases ha
      have hz : z = -1 := hz
      subst hz
      have hx : M'.1 tp 1 = M.1 tp 1 + 0 := hx
      exact hQ2 (by omega) M' (hV.fr i f (by decide +kernel)) (by omega) (f m 2 (by rw [g2]; exact hn_nt (by decide +kernel))).1 f
    | tail _ hpo => cases hpo
theorem lc_X12_feed {d x m tp s kp : Nat} {z1 z2 z3 z4 z5 : Int} {G : mj_G} {M : mj_M} {Q : mj_P} (hV : lw_V G M x m tp s kp) (h1 : mj_in z1) (h2 : mj_in z2) (h3 : mj_in z3) (h4 : mj_in z4) (h5 : mj_in z5) (hQ1 : M.1 m 2 ≤ 920 → ∀ M', lw_V G M' x m tp s kp → M'.1 m 2 = M.1 m 2 + 20 → M'.1 tp 1 = M.1 tp 1 → ab_frm (ab_w cx_X12_feed_lo) G M M' → Q (some (.inl (M.1 m 2 + 20))) G M') (hQ2 : 921 ≤ M.1 m 2 → ∀ M', lw_V G M' x m tp s kp → M'.1 m 2 = M.1 m 2 → M'.1 tp 1 = M.1 tp 1 → ab_frm (ab_w cx_X12_feed_hi) G M M' → Q (some (.inl (-1))) G M') : mj_R mj_tab (d + 31) 187 [.inr (.inr (some m)), .inl z1, .inl z2, .inl z3, .inl z4, .inl z5] G M Q := by
  obtain ⟨hI, ⟨g1, g2, g3, g4, g5⟩, ⟨r1, r2, r3⟩, -⟩ := id hV
  have hb : 0 ≤ M.1 m 2 ∧ M.1 m 2 ≤ 940 := by
    have := hI.1 m 2
    rw [g2] at this
    exact this
  by_cases hc : M.1 m 2 ≤ 920
  · skip
    refine xo_X12_feed_lo (d + 30) (Nat.le_trans (by decide +kernel : ab_h cx_X12_feed_lo ≤ 30) (Nat.le_add_left 30 d)) G M (6, hn_g [z1, z2, z3, z4, z5, M.1 m 2], 1, fun _ => some m) _ Q (lw_Y6 h1 h2 h3 h4 h5 ⟨hb.1, hc⟩) (hn_RR g2) (fun e he => by
      cases he with
      | head => exact ⟨Nat.le_of_ble_eq_true rfl, m, 2, rfl, rfl, by decide, hn_I (Nat.le_of_ble_eq_true rfl) rfl⟩
      | tail _ he => cases he) ⟨_, _, rfl, ⟨Nat.le_of_ble_eq_true rfl, rfl⟩, _, _, rfl, ⟨_, rfl, hn_I (Nat.le_of_ble_eq_true rfl) rfl⟩, _, _, rfl, ⟨_, rfl, hn_I (Nat.le_of_ble_eq_true rfl) rfl⟩, _, _, rfl, ⟨_, rfl, hn_I (Nat.le_of_ble_eq_true rfl) rfl⟩, _, _, rfl, ⟨_, rfl, hn_I (Nat.le_of_ble_eq_true rfl) rfl⟩, _, _, rfl, ⟨_, rfl, hn_I (Nat.le_of_ble_eq_true rfl) rfl⟩, rfl⟩ hI (fun r M' i f ⟨po, hpo, h⟩ => ?_)
    cases hpo with
    | head =>
      obtain ⟨⟨z, rfl, hz⟩, hm⟩ := h
      obtain ⟨a, ha, hx⟩ := hm _ (List.Mem.head _)
      cases ha
      have hz : z = M.1 m 2 + 20 := hz
      subst hz
      exact hQ1 hc M' (hV.fr i f (by decide +kernel)) hx (f tp 1 (by rw [g3]; exact hn_nt (by decide +kernel))).1 f
    | tail _ hpo => cases hpo
  · skip
    refine xo_X12_feed_hi (d + 30) (Nat.le_trans (by decide +kernel : ab_h cx_X12_feed_hi ≤ 30) (Nat.le_add_left 30 d)) G M (6, hn_g [z1, z2, z3, z4, z5, M.1 m 2], 1, fun _ => some m) _ Q (lw_Y6 h1 h2 h3 h4 h5 ⟨by show (921 : Int) ≤ _; omega, hb.2⟩) (hn_RR g2) (fun e he => by
      cases he with
      | head => exact ⟨Nat.le_of_ble_eq_true rfl, m, 2, rfl, rfl, by decide, hn_I (Nat.le_of_ble_eq_true rfl) rfl⟩
      | tail _ he => cases he) ⟨_, _, rfl, ⟨Nat.le_of_ble_eq_true rfl, rfl⟩, _, _, rfl, ⟨_, rfl, hn_I (Nat.le_of_ble_eq_true rfl) rfl⟩, _, _, rfl, ⟨_, rfl, hn_I (Nat.le_of_ble_eq_true rfl) rfl⟩, _, _, rfl, ⟨_, rfl, hn_I (Nat.le_of_ble_eq_true rfl) rfl⟩, _, _, rfl, ⟨_, rfl, hn_I (Nat.le_of_ble_eq_true rfl) rfl⟩, _, _, rfl, ⟨_, rfl, hn_I (Nat.le_of_ble_eq_true rfl) rfl⟩, rfl⟩ hI (fun r M' i f ⟨po, hpo, h⟩ => ?_)
    cases hpo with
    | head =>
      obtain ⟨⟨z, rfl, hz⟩, hm⟩ := h
      obtain ⟨a, ha, hx⟩ := hm _ (List.Mem.head _)
      cases ha
      have hz : z = -1 := hz
      subst hz
      have hx : M'.1 m 2 = M.1 m 2 + 0 := hx
      exact hQ2 (by omega) M' (hV.fr i f (by decide +kernel)) (by omega) (f tp 1 (by rw [g3]; exact hn_nt (by decide +kernel))).1 f
    | tail _ hpo => cases hpo
end
section
/-! ===== end of both sides ===== -/
theorem lc_X11_end {d x m tp s kp : Nat} {n : Int} {G : mj_G} {M : mj_M} {Q : mj_P} (hV : lw_V G M x m tp s kp) (hn : mj_in n) (hQ0 : (n < 0 ∨ M.1 tp 1 < n) → ∀ M', lw_V G M' x m tp s kp → M'.1 tp 1 = M.1 tp 1 → M'.1 m 2 = M.1 m 2 → ab_frm (ab_w cx_X11_end_neg) G M M' → Q (some (.inl 0)) G M') (hQ1 : 0 ≤ n → n ≤ M.1 tp 1 → ∀ M', lw_V G M' x m tp s kp → M'.1 tp 1 = n → M'.1 m 2 = M.1 m 2 → ab_frm (ab_w cx_X11_end_fit) G M M' → Q (some (.inl 1)) G M') : mj_R mj_tab (d + 31) (ab_y cx_X11_end_fit) [.inr (.inr (some x)), .inl n] G M Q := by
  obtain ⟨hI, ⟨g1, g2, g3, g4, g5⟩, ⟨r1, r2, r3⟩, -⟩ := id hV
  have hb : 0 ≤ M.1 tp 1 ∧ M.1 tp 1 ≤ 940 := by
    have := hI.1 tp 1
    rw [g3] at this
    exact this
  by_cases hc : n < 0
  · skip
    refine xo_X11_end_neg (d + 30) (Nat.le_trans (by decide +kernel : ab_h cx_X11_end_neg ≤ 30) (Nat.le_add_left 30 d)) G M (2, hn_g [n, M.1 tp 1], 2, lw_w2 x tp) _ Q ⟨rfl, fun i q e => by
      cases i with
      | zero => cases e; exact ⟨by show (-2147483648 : Int) ≤ n; exact hn.1, by show n ≤ (-1 : Int); omega, fun r hr => by cases hr⟩
      | succ i => cases i with
        | zero => cases e; exact ⟨by show (0 : Int) ≤ M.1 tp 1; omega, by show M.1 tp 1 ≤ (940 : Int); omega, fun r hr => by cases hr⟩
        | succ i => cases e⟩ (lw_R2 g1 g3) (fun e he => by
      cases he with
      | head => exact ⟨Nat.le_of_ble_eq_true rfl, x, 0, rfl, rfl, by decide, Nat.le_of_ble_eq_true rfl, r1⟩
      | tail _ he => cases he with
        | head => exact ⟨Nat.le_of_ble_eq_true rfl, tp, 1, rfl, rfl, by decide, hn_I (Nat.le_of_ble_eq_true rfl) rfl⟩
        | tail _ he => cases he) ⟨_, _, rfl, ⟨Nat.le_of_ble_eq_true rfl, rfl⟩, _, _, rfl, ⟨_, rfl, hn_I (Nat.le_of_ble_eq_true rfl) rfl⟩, rfl⟩ hI (fun r M' i f ⟨po, hpo, h⟩ => ?_)
    cases hpo with
    | head =>
      obtain ⟨⟨z, rfl, hz⟩, hm⟩ := h
      obtain ⟨a, ha, hx⟩ := hm _ (List.Mem.head _)
      cases ha
      have hz : z = 0 := hz
      subst hz
      have hx : M'.1 tp 1 = M.1 tp 1 + 0 := hx
      exact hQ0 (by omega) M' (hV.fr i f (by decide +kernel)) (by omega) (f m 2 (by rw [g2]; exact hn_nt (by decide +kernel))).1 f
    | tail _ hpo => cases hpo
  · by_cases hc2 : M.1 tp 1 < n
    · skip
      refine xo_X11_end_big (d + 30) (Nat.le_trans (by decide +kernel : ab_h cx_X11_end_big ≤ 30) (Nat.le_add_left 30 d)) G M (2, hn_g [n, M.1 tp 1], 2, lw_w2 x tp) _ Q ⟨rfl, fun i q e => by
        cases i with
        | zero => cases e; exact ⟨by show (1 : Int) ≤ n; omega, by show n ≤ (2147483647 : Int); have := hn.2; omega, fun r hr => by
          cases hr with
          | head => exact ⟨Nat.le_of_ble_eq_true rfl, by show M.1 tp 1 + 1 ≤ n; omega⟩
          | tail _ hr => cases hr⟩
        | succ i => cases i with
          | zero => cases e; exact ⟨by show (0 : Int) ≤ M.1 tp 1; omega, by show M.1 tp 1 ≤ (940 : Int); omega, fun r hr => by cases hr⟩
          | succ i => cases e⟩ (lw_R2 g1 g3) (fun e he => by
        cases he with
        | head => exact ⟨Nat.le_of_ble_eq_true rfl, x, 0, rfl, rfl, by decide, Nat.le_of_ble_eq_true rfl, r1⟩
        | tail _ he => cases he with
          | head => exact ⟨Nat.le_of_ble_eq_true rfl, tp, 1, rfl, rfl, by decide, hn_I (Nat.le_of_ble_eq_true rfl) rfl⟩
          | tail _ he => cases he) ⟨_, _, rfl, ⟨Nat.le_of_ble_eq_true rfl, rfl⟩, _, _, rfl, ⟨_, rfl, hn_I (Nat.le_of_ble_eq_true rfl) rfl⟩, rfl⟩ hI (fun r M' i f ⟨po, hpo, h⟩ => ?_)
      cases hpo with
      | head =>
        obtain ⟨⟨z, rfl, hz⟩, hm⟩ := h
        obtain ⟨a, ha, hx⟩ := hm _ (List.Mem.head _)
        cases ha
        have hz : z = 0 := hz
        subst hz
        have hx : M'.1 tp 1 = M.1 tp 1 + 0 := hx
        exact hQ0 (by omega) M' (hV.fr i f (by decide +kernel)) (by omega) (f m 2 (by rw [g2]; exact hn_nt (by decide +kernel))).1 f
      | tail _ hpo => cases hpo
    · skip
      refine xo_X11_end_fit (d + 30) (Nat.le_trans (by decide +kernel : ab_h cx_X11_end_fit ≤ 30) (Nat.le_add_left 30 d)) G M (2, hn_g [n, M.1 tp 1], 2, lw_w2 x tp) _ Q ⟨rfl, fun i q e => by
        cases i with
        | zero => cases e; exact ⟨by show (0 : Int) ≤ n; omega, by show n ≤ (940 : Int); omega, fun r hr => by cases hr⟩
        | succ i => cases i with
          | zero => cases e; exact ⟨by show (0 : Int) ≤ M.1 tp 1; omega, by show M.1 tp 1 ≤ (940 : Int); omega, fun r hr => by
          cases hr with
          | head => exact ⟨Nat.le_of_ble_eq_true rfl, by show n + 0 ≤ M.1 tp 1; omega⟩
          | tail _ hr => cases hr⟩
          | succ i => cases e⟩ (lw_R2 g1 g3) (fun e he => by
        cases he with
        | head => exact ⟨Nat.le_of_ble_eq_true rfl, x, 0, rfl, rfl, by decide, Nat.le_of_ble_eq_true rfl, r1⟩
        | tail _ he => cases he with
          | head => exact ⟨Nat.le_of_ble_eq_true rfl, tp, 1, rfl, rfl, by decide, hn_I (Nat.le_of_ble_eq_true rfl) rfl⟩
          | tail _ he => cases he) ⟨_, _, rfl, ⟨Nat.le_of_ble_eq_true rfl, rfl⟩, _, _, rfl, ⟨_, rfl, hn_I (Nat.le_of_ble_eq_true rfl) rfl⟩, rfl⟩ hI (fun r M' i f ⟨po, hpo, h⟩ => ?_)
      cases hpo with
      | head =>
        obtain ⟨⟨z, rfl, hz⟩, hm⟩ := h
        obtain ⟨a, ha, hx⟩ := hm _ (List.Mem.head _)
        cases ha
        have hz : z = 1 := hz
        subst hz
        have hx : M'.1 tp 1 = n + 0 := hx
        exact hQ1 (by omega) (by omega) M' (hV.fr i f (by decide +kernel)) (by omega) (f m 2 (by rw [g2]; exact hn_nt (by decide +kernel))).1 f
      | tail _ hpo => cases hpo
theorem lc_X12_end {d x m tp s kp : Nat} {n : Int} {G : mj_G} {M : mj_M} {Q : mj_P} (hV : lw_V G M x m tp s kp) (hn : mj_in n) (hQ0 : (n < 0 ∨ M.1 m 2 < n) → ∀ M', lw_V G M' x m tp s kp → M'.1 m 2 = M.1 m 2 → M'.1 tp 1 = M.1 tp 1 → ab_frm (ab_w cx_X12_end_neg) G M M' → Q (some (.inl 0)) G M') (hQ1 : 0 ≤ n → n ≤ M.1 m 2 → ∀ M', lw_V G M' x m tp s kp → M'.1 m 2 = n → M'.1 tp 1 = M.1 tp 1 → ab_frm (ab_w cx_X12_end_fit) G M M' → Q (some (.inl 1)) G M') : mj_R mj_tab (d + 31) (ab_y cx_X12_end_fit) [.inr (.inr (some m)), .inl n] G M Q := by
  obtain ⟨hI, ⟨g1, g2, g3, g4, g5⟩, ⟨r1, r2, r3⟩, -⟩ := id hV
  have hb : 0 ≤ M.1 m 2 ∧ M.1 m 2 ≤ 940 := by
    have := hI.1 m 2
    rw [g2] at this
    exact this
  by_cases hc : n < 0
  · skip
    refine xo_X12_end_neg (d + 30) (Nat.le_trans (by decide +kernel : ab_h cx_X12_end_neg ≤ 30) (Nat.le_add_left 30 d)) G M (2, hn_g [n, M.1 m 2], 1, fun _ => some m) _ Q ⟨rfl, fun i q e => by
      cases i with
      | zero => cases e; exact ⟨by show (-2147483648 : Int) ≤ n; exact hn.1, by show n ≤ (-1 : Int); omega, fun r hr => by cases hr⟩
      | succ i => cases i with
        | zero => cases e; exact ⟨by show (0 : Int) ≤ M.1 m 2; omega, by show M.1 m 2 ≤ (940 : Int); omega, fun r hr => by cases hr⟩
        | succ i => cases e⟩ (hn_RR g2) (fun e he => by
      cases he with
      | head => exact ⟨Nat.le_of_ble_eq_true rfl, m, 2, rfl, rfl, by decide, hn_I (Nat.le_of_ble_eq_true rfl) rfl⟩
      | tail _ he => cases he) ⟨_, _, rfl, ⟨Nat.le_of_ble_eq_true rfl, rfl⟩, _, _, rfl, ⟨_, rfl, hn_I (Nat.le_of_ble_eq_true rfl) rfl⟩, rfl⟩ hI (fun r M' i f ⟨po, hpo, h⟩ => ?_)
    cases hpo with
    | head =>
      obtain ⟨⟨z, rfl, hz⟩, hm⟩ := h
      obtain ⟨a, ha, hx⟩ := hm _ (List.Mem.head _)
      cases ha
      have hz : z = 0 := hz
      subst hz
      have hx : M'.1 m 2 = M.1 m 2 + 0 := hx
      exact hQ0 (by omega) M' (hV.fr i f (by decide +kernel)) (by omega) (f tp 1 (by rw [g3]; exact hn_nt (by decide +kernel))).1 f
    | tail _ hpo => cases hpo
  · by_cases hc2 : M.1 m 2 < n
    · skip
      refine xo_X12_end_big (d + 30) (Nat.le_trans (by decide +kernel : ab_h cx_X12_end_big ≤ 30) (Nat.le_add_left 30 d)) G M (2, hn_g [n, M.1 m 2], 1, fun _ => some m) _ Q ⟨rfl, fun i q e => by
        cases i with
        | zero => cases e; exact ⟨by show (1 : Int) ≤ n; omega, by show n ≤ (2147483647 : Int); have := hn.2; omega, fun r hr => by
          cases hr with
          | head => exact ⟨Nat.le_of_ble_eq_true rfl, by show M.1 m 2 + 1 ≤ n; omega⟩
          | tail _ hr => cases hr⟩
        | succ i => cases i with
          | zero => cases e; exact ⟨by show (0 : Int) ≤ M.1 m 2; omega, by show M.1 m 2 ≤ (940 : Int); omega, fun r hr => by cases hr⟩
          | succ i => cases e⟩ (hn_RR g2) (fun e he => by
        cases he with
        | head => exact ⟨Nat.le_of_ble_eq_true rfl, m, 2, rfl, rfl, by decide, hn_I (Nat.le_of_ble_eq_true rfl) rfl⟩
        | tail _ he => cases he) ⟨_, _, rfl, ⟨Nat.le_of_ble_eq_true rfl, rfl⟩, _, _, rfl, ⟨_, rfl, hn_I (Nat.le_of_ble_eq_true rfl) rfl⟩, rfl⟩ hI (fun r M' i f ⟨po, hpo, h⟩ => ?_)
      cases hpo with
      | head =>
        obtain ⟨⟨z, rfl, hz⟩, hm⟩ := h
        obtain ⟨a, ha, hx⟩ := hm _ (List.Mem.head _)
        cases ha
        have hz : z = 0 := hz
        subst hz
        have hx : M'.1 m 2 = M.1 m 2 + 0 := hx
        exact hQ0 (by omega) M' (hV.fr i f (by decide +kernel)) (by omega) (f tp 1 (by rw [g3]; exact hn_nt (by decide +kernel))).1 f
      | tail _ hpo => cases hpo
    · skip
      refine xo_X12_end_fit (d + 30) (Nat.le_trans (by decide +kernel : ab_h cx_X12_end_fit ≤ 30) (Nat.le_add_left 30 d)) G M (2, hn_g [n, M.1 m 2], 1, fun _ => some m) _ Q ⟨rfl, fun i q e => by
        cases i with
        | zero => cases e; exact ⟨by show (0 : Int) ≤ n; omega, by show n ≤ (940 : Int); omega, fun r hr => by cases hr⟩
        | succ i => cases i with
          | zero => cases e; exact ⟨by show (0 : Int) ≤ M.1 m 2; omega, by show M.1 m 2 ≤ (940 : Int); omega, fun r hr => by
          cases hr with
          | head => exact ⟨Nat.le_of_ble_eq_true rfl, by show n + 0 ≤ M.1 m 2; omega⟩
          | tail _ hr => cases hr⟩
          | succ i => cases e⟩ (hn_RR g2) (fun e he => by
        cases he with
        | head => exact ⟨Nat.le_of_ble_eq_true rfl, m, 2, rfl, rfl, by decide, hn_I (Nat.le_of_ble_eq_true rfl) rfl⟩
        | tail _ he => cases he) ⟨_, _, rfl, ⟨Nat.le_of_ble_eq_true rfl, rfl⟩, _, _, rfl, ⟨_, rfl, hn_I (Nat.le_of_ble_eq_true rfl) rfl⟩, rfl⟩ hI (fun r M' i f ⟨po, hpo, h⟩ => ?_)
      cases hpo with
      | head =>
        obtain ⟨⟨z, rfl, hz⟩, hm⟩ := h
        obtain ⟨a, ha, hx⟩ := hm _ (List.Mem.head _)
        cases ha
        have hz : z = 1 := hz
        subst hz
        have hx : M'.1 m 2 = n + 0 := hx
        exact hQ1 (by omega) (by omega) M' (hV.fr i f (by decide +kernel)) (by omega) (f tp 1 (by rw [g3]; exact hn_nt (by decide +kernel))).1 f
      | tail _ hpo => cases hpo
end
section
/-! ===== the class's image and restore: their answers, what is kept (laid by a program) ===== -/
theorem lw_R2k {G : mj_G} {x kc n : Nat} {f : Nat → Int} (hx : G x = (1011, 0)) (ht : G kc = (48102, 2)) : ab_RR (n, f, 2, lw_w2 x kc) G [(1011, 0), (48102, 2)] := ⟨rfl, fun i q h => by
  cases i with
  | zero =>
    cases h
    exact Or.inr (Or.inr (Or.inr ⟨by decide, by decide, by decide, x, rfl, hx⟩))
  | succ i => cases i with
    | zero =>
      cases h
      exact Or.inr (Or.inr (Or.inr ⟨by decide, by decide, by decide, kc, rfl, ht⟩))
    | succ i => cases h⟩
theorem lc_X11_image2 {d x m tp s kp kc : Nat} {z1 : Int} {G : mj_G} {M : mj_M} {Q : mj_P} (hV : lw_V G M x m tp s kp) (hz1 : mj_in z1) (hkc : G kc = (48102, 2)) (h4 : M.2.2 x 4 = some kc) (hQ : ∀ z M', lw_V G M' x m tp s kp → (M'.1 tp 1 = M.1 tp 1 ∧ M'.1 m 2 = M.1 m 2) → ab_frm (ab_w cd_111) G M M' → ((¬ (0 ≤ z1 ∧ z1 ≤ 1) ∧ z = 0 ∧ M'.1 kc 0 = M.1 kc 0 ∧ M'.1 kc 1 = M.1 kc 1) ∨ (z1 = 0 ∧ z = 1 ∧ M'.1 kc 0 = 1 ∧ M'.1 kc 1 = M.1 kc 1) ∨ (z1 = 1 ∧ z = 1 ∧ M'.1 kc 0 = M.1 kc 0 ∧ M'.1 kc 1 = 1)) → Q (some (.inl z)) G M') : mj_R mj_tab (d + 31) 127 [.inr (.inr (some x)), .inl z1] G M Q := by
  obtain ⟨hI, ⟨g1, g2, g3, g4, g5⟩, ⟨r1, r2, r3⟩, -⟩ := id hV
  have b0 : 0 ≤ M.1 kc 0 ∧ M.1 kc 0 ≤ 1 := by
    have := hI.1 kc 0
    rw [hkc] at this
    exact this
  have b1 : 0 ≤ M.1 kc 1 ∧ M.1 kc 1 ≤ 1 := by
    have := hI.1 kc 1
    rw [hkc] at this
    exact this
  have z0 := hz1.1
  have z9 := hz1.2
  by_cases c1 : z1 < 0
  · skip
    refine xo_X11_image_neg (d + 30) (Nat.le_trans (by decide +kernel : ab_h cx_X11_image_neg ≤ 30) (Nat.le_add_left 30 d)) G M (3, hn_g [z1, M.1 kc 0, M.1 kc 1], 2, lw_w2 x kc) _ Q ⟨rfl, fun i q e => by
      cases i with
      | zero => cases e; exact ⟨by show (-2147483648 : Int) ≤ z1; omega, by show z1 ≤ (-1 : Int); omega, fun r hr => by cases hr⟩
      | succ i =>
        cases i with
        | zero => cases e; exact ⟨by show (0 : Int) ≤ M.1 kc 0; omega, by show M.1 kc 0 ≤ (1 : Int); omega, fun r hr => by cases hr⟩
        | succ i =>
          cases i with
          | zero => cases e; exact ⟨by show (0 : Int) ≤ M.1 kc 1; omega, by show M.1 kc 1 ≤ (1 : Int); omega, fun r hr => by cases hr⟩
          | succ i =>
            cases e⟩ (lw_R2k g1 hkc) (fun e he => by
      cases he with
      | head => exact ⟨Nat.le_of_ble_eq_true rfl, x, 4, rfl, rfl, by decide, Nat.le_of_ble_eq_true rfl, h4⟩
      | tail _ he => cases he with
        | head => exact ⟨Nat.le_of_ble_eq_true rfl, kc, 0, rfl, rfl, by decide, hn_I (Nat.le_of_ble_eq_true rfl) rfl⟩
        | tail _ he => cases he with
          | head => exact ⟨Nat.le_of_ble_eq_true rfl, kc, 1, rfl, rfl, by decide, hn_I (Nat.le_of_ble_eq_true rfl) rfl⟩
          | tail _ he => cases he) ⟨_, _, rfl, ⟨Nat.le_of_ble_eq_true rfl, rfl⟩, _, _, rfl, ⟨_, rfl, hn_I (Nat.le_of_ble_eq_true rfl) rfl⟩, rfl⟩ hI (fun r M' i f ⟨po, hpo, h⟩ => ?_)
    cases hpo with
    | head =>
      obtain ⟨⟨z, rfl, hz⟩, hm⟩ := h
      obtain ⟨a, ha, hx0⟩ := hm _ (List.Mem.head _)
      cases ha
      obtain ⟨a, ha, hx1⟩ := hm _ (List.Mem.tail _ (List.Mem.head _))
      cases ha
      have hz : z = 0 := hz
      subst hz
      have hx0 : M'.1 kc 0 = M.1 kc 0 + 0 := hx0
      have hx1 : M'.1 kc 1 = M.1 kc 1 + 0 := hx1
      exact hQ 0 M' (hV.fr i f (by decide +kernel)) (hV.sz f (by decide +kernel)) (hn_up f (by decide +kernel)) (Or.inl ⟨by omega, rfl, by omega, by omega⟩)
    | tail _ hpo => cases hpo
  · by_cases c2 : z1 = 0
    · skip
      refine xo_X11_image_0 (d + 30) (Nat.le_trans (by decide +kernel : ab_h cx_X11_image_0 ≤ 30) (Nat.le_add_left 30 d)) G M (2, hn_g [M.1 kc 0, M.1 kc 1], 2, lw_w2 x kc) _ Q ⟨rfl, fun i q e => by
        cases i with
        | zero => cases e; exact ⟨by show (0 : Int) ≤ M.1 kc 0; omega, by show M.1 kc 0 ≤ (1 : Int); omega, fun r hr => by cases hr⟩
        | succ i =>
          cases i with
          | zero => cases e; exact ⟨by show (0 : Int) ≤ M.1 kc 1; omega, by show M.1 kc 1 ≤ (1 : Int); omega, fun r hr => by cases hr⟩
          | succ i =>
            cases e⟩ (lw_R2k g1 hkc) (fun e he => by
        cases he with
        | head => exact ⟨Nat.le_of_ble_eq_true rfl, x, 4, rfl, rfl, by decide, Nat.le_of_ble_eq_true rfl, h4⟩
        | tail _ he => cases he with
          | head => exact ⟨Nat.le_of_ble_eq_true rfl, kc, 0, rfl, rfl, by decide, hn_I (Nat.le_of_ble_eq_true rfl) rfl⟩
          | tail _ he => cases he with
            | head => exact ⟨Nat.le_of_ble_eq_true rfl, kc, 1, rfl, rfl, by decide, hn_I (Nat.le_of_ble_eq_true rfl) rfl⟩
            | tail _ he => cases he) ⟨_, _, rfl, ⟨Nat.le_of_ble_eq_true rfl, rfl⟩, _, _, rfl, ⟨_, rfl, (show (0 : Int) = z1 by omega)⟩, rfl⟩ hI (fun r M' i f ⟨po, hpo, h⟩ => ?_)
      cases hpo with
      | head =>
        obtain ⟨⟨z, rfl, hz⟩, hm⟩ := h
        obtain ⟨a, ha, hx0⟩ := hm _ (List.Mem.head _)
        cases ha
        obtain ⟨a, ha, hx1⟩ := hm _ (List.Mem.tail _ (List.Mem.head _))
        cases ha
        have hz : z = 1 := hz
        subst hz
        have hx0 : M'.1 kc 0 = 1 := hx0
        have hx1 : M'.1 kc 1 = M.1 kc 1 + 0 := hx1
        exact hQ 1 M' (hV.fr i f (by decide +kernel)) (hV.sz f (by decide +kernel)) (hn_up f (by decide +kernel)) (Or.inr (Or.inl ⟨c2, rfl, hx0, by omega⟩))
      | tail _ hpo => cases hpo
    · by_cases c3 : z1 = 1
      · skip
        refine xo_X11_image_1 (d + 30) (Nat.le_trans (by decide +kernel : ab_h cx_X11_image_1 ≤ 30) (Nat.le_add_left 30 d)) G M (2, hn_g [M.1 kc 0, M.1 kc 1], 2, lw_w2 x kc) _ Q ⟨rfl, fun i q e => by
          cases i with
          | zero => cases e; exact ⟨by show (0 : Int) ≤ M.1 kc 0; omega, by show M.1 kc 0 ≤ (1 : Int); omega, fun r hr => by cases hr⟩
          | succ i =>
            cases i with
            | zero => cases e; exact ⟨by show (0 : Int) ≤ M.1 kc 1; omega, by show M.1 kc 1 ≤ (1 : Int); omega, fun r hr => by cases hr⟩
            | succ i =>
              cases e⟩ (lw_R2k g1 hkc) (fun e he => by
          cases he with
          | head => exact ⟨Nat.le_of_ble_eq_true rfl, x, 4, rfl, rfl, by decide, Nat.le_of_ble_eq_true rfl, h4⟩
          | tail _ he => cases he with
            | head => exact ⟨Nat.le_of_ble_eq_true rfl, kc, 0, rfl, rfl, by decide, hn_I (Nat.le_of_ble_eq_true rfl) rfl⟩
            | tail _ he => cases he with
              | head => exact ⟨Nat.le_of_ble_eq_true rfl, kc, 1, rfl, rfl, by decide, hn_I (Nat.le_of_ble_eq_true rfl) rfl⟩
              | tail _ he => cases he) ⟨_, _, rfl, ⟨Nat.le_of_ble_eq_true rfl, rfl⟩, _, _, rfl, ⟨_, rfl, (show (1 : Int) = z1 by omega)⟩, rfl⟩ hI (fun r M' i f ⟨po, hpo, h⟩ => ?_)
        cases hpo with
        | head =>
          obtain ⟨⟨z, rfl, hz⟩, hm⟩ := h
          obtain ⟨a, ha, hx0⟩ := hm _ (List.Mem.head _)
          cases ha
          obtain ⟨a, ha, hx1⟩ := hm _ (List.Mem.tail _ (List.Mem.head _))
          cases ha
          have hz : z = 1 := hz
          subst hz
          have hx0 : M'.1 kc 0 = M.1 kc 0 + 0 := hx0
          have hx1 : M'.1 kc 1 = 1 := hx1
          exact hQ 1 M' (hV.fr i f (by decide +kernel)) (hV.sz f (by decide +kernel)) (hn_up f (by decide +kernel)) (Or.inr (Or.inr ⟨c3, rfl, by omega, hx1⟩))
        | tail _ hpo => cases hpo
      · skip
        refine xo_X11_image_big (d + 30) (Nat.le_trans (by decide +kernel : ab_h cx_X11_image_big ≤ 30) (Nat.le_add_left 30 d)) G M (3, hn_g [z1, M.1 kc 0, M.1 kc 1], 2, lw_w2 x kc) _ Q ⟨rfl, fun i q e => by
          cases i with
          | zero => cases e; exact ⟨by show (2 : Int) ≤ z1; omega, by show z1 ≤ (2147483647 : Int); omega, fun r hr => by cases hr⟩
          | succ i =>
            cases i with
            | zero => cases e; exact ⟨by show (0 : Int) ≤ M.1 kc 0; omega, by show M.1 kc 0 ≤ (1 : Int); omega, fun r hr => by cases hr⟩
            | succ i =>
              cases i with
              | zero => cases e; exact ⟨by show (0 : Int) ≤ M.1 kc 1; omega, by show M.1 kc 1 ≤ (1 : Int); omega, fun r hr => by cases hr⟩
              | succ i =>
                cases e⟩ (lw_R2k g1 hkc) (fun e he => by
          cases he with
          | head => exact ⟨Nat.le_of_ble_eq_true rfl, x, 4, rfl, rfl, by decide, Nat.le_of_ble_eq_true rfl, h4⟩
          | tail _ he => cases he with
            | head => exact ⟨Nat.le_of_ble_eq_true rfl, kc, 0, rfl, rfl, by decide, hn_I (Nat.le_of_ble_eq_true rfl) rfl⟩
            | tail _ he => cases he with
              | head => exact ⟨Nat.le_of_ble_eq_true rfl, kc, 1, rfl, rfl, by decide, hn_I (Nat.le_of_ble_eq_true rfl) rfl⟩
              | tail _ he => cases he) ⟨_, _, rfl, ⟨Nat.le_of_ble_eq_true rfl, rfl⟩, _, _, rfl, ⟨_, rfl, hn_I (Nat.le_of_ble_eq_true rfl) rfl⟩, rfl⟩ hI (fun r M' i f ⟨po, hpo, h⟩ => ?_)
        cases hpo with
        | head =>
          obtain ⟨⟨z, rfl, hz⟩, hm⟩ := h
          obtain ⟨a, ha, hx0⟩ := hm _ (List.Mem.head _)
          cases ha
          obtain ⟨a, ha, hx1⟩ := hm _ (List.Mem.tail _ (List.Mem.head _))
          cases ha
          have hz : z = 0 := hz
          subst hz
          have hx0 : M'.1 kc 0 = M.1 kc 0 + 0 := hx0
          have hx1 : M'.1 kc 1 = M.1 kc 1 + 0 := hx1
          exact hQ 0 M' (hV.fr i f (by decide +kernel)) (hV.sz f (by decide +kernel)) (hn_up f (by decide +kernel)) (Or.inl ⟨by omega, rfl, by omega, by omega⟩)
        | tail _ hpo => cases hpo
theorem lc_X11_restore2 {d x m tp s kp kc : Nat} {z1 : Int} {G : mj_G} {M : mj_M} {Q : mj_P} (hV : lw_V G M x m tp s kp) (hz1 : mj_in z1) (hkc : G kc = (48102, 2)) (h4 : M.2.2 x 4 = some kc) (hQ : ∀ z M', lw_V G M' x m tp s kp → (M'.1 tp 1 = M.1 tp 1 ∧ M'.1 m 2 = M.1 m 2) → ab_frm (ab_w cd_112) G M M' → ((((¬ (0 ≤ z1 ∧ z1 ≤ 1)) ∨ (z1 = 0 ∧ M.1 kc 0 = 0) ∨ (z1 = 1 ∧ M.1 kc 1 = 0)) ∧ z = 0) ∨ (((z1 = 0 ∧ M.1 kc 0 = 1) ∨ (z1 = 1 ∧ M.1 kc 1 = 1)) ∧ z = 1)) → Q (some (.inl z)) G M') : mj_R mj_tab (d + 31) 144 [.inr (.inr (some x)), .inl z1] G M Q := by
  obtain ⟨hI, ⟨g1, g2, g3, g4, g5⟩, ⟨r1, r2, r3⟩, -⟩ := id hV
  have b0 : 0 ≤ M.1 kc 0 ∧ M.1 kc 0 ≤ 1 := by
    have := hI.1 kc 0
    rw [hkc] at this
    exact this
  have b1 : 0 ≤ M.1 kc 1 ∧ M.1 kc 1 ≤ 1 := by
    have := hI.1 kc 1
    rw [hkc] at this
    exact this
  have z0 := hz1.1
  have z9 := hz1.2
  by_cases c1 : z1 < 0
  · skip
    refine xo_X11_restore_neg (d + 30) (Nat.le_trans (by decide +kernel : ab_h cx_X11_restore_neg ≤ 30) (Nat.le_add_left 30 d)) G M (3, hn_g [z1, M.1 kc 0, M.1 kc 1], 2, lw_w2 x kc) _ Q ⟨rfl, fun i q e => by
      cases i with
      | zero => cases e; exact ⟨by show (-2147483648 : Int) ≤ z1; omega, by show z1 ≤ (-1 : Int); omega, fun r hr => by cases hr⟩
      | succ i =>
        cases i with
        | zero => cases e; exact ⟨by show (0 : Int) ≤ M.1 kc 0; omega, by show M.1 kc 0 ≤ (1 : Int); omega, fun r hr => by cases hr⟩
        | succ i =>
          cases i with
          | zero => cases e; exact ⟨by show (0 : Int) ≤ M.1 kc 1; omega, by show M.1 kc 1 ≤ (1 : Int); omega, fun r hr => by cases hr⟩
          | succ i =>
            cases e⟩ (lw_R2k g1 hkc) (fun e he => by
      cases he with
      | head => exact ⟨Nat.le_of_ble_eq_true rfl, x, 4, rfl, rfl, by decide, Nat.le_of_ble_eq_true rfl, h4⟩
      | tail _ he => cases he with
        | head => exact ⟨Nat.le_of_ble_eq_true rfl, kc, 0, rfl, rfl, by decide, hn_I (Nat.le_of_ble_eq_true rfl) rfl⟩
        | tail _ he => cases he with
          | head => exact ⟨Nat.le_of_ble_eq_true rfl, kc, 1, rfl, rfl, by decide, hn_I (Nat.le_of_ble_eq_true rfl) rfl⟩
          | tail _ he => cases he) ⟨_, _, rfl, ⟨Nat.le_of_ble_eq_true rfl, rfl⟩, _, _, rfl, ⟨_, rfl, hn_I (Nat.le_of_ble_eq_true rfl) rfl⟩, rfl⟩ hI (fun r M' i f ⟨po, hpo, h⟩ => ?_)
    cases hpo with
    | head =>
      obtain ⟨⟨z, rfl, hz⟩, hm⟩ := h
      obtain ⟨a, ha, hx0⟩ := hm _ (List.Mem.head _)
      cases ha
      obtain ⟨a, ha, hx1⟩ := hm _ (List.Mem.tail _ (List.Mem.head _))
      cases ha
      have hz : z = 0 := hz
      subst hz
      have hx0 : M'.1 kc 0 = M.1 kc 0 + 0 := hx0
      have hx1 : M'.1 kc 1 = M.1 kc 1 + 0 := hx1
      exact hQ 0 M' (hV.fr i f (by decide +kernel)) (hV.sz f (by decide +kernel)) (hn_up f (by decide +kernel)) (Or.inl ⟨by omega, rfl⟩)
    | tail _ hpo => cases hpo
  · by_cases c2 : z1 = 0
    · by_cases c3 : M.1 kc 0 = 0
      · skip
        refine xo_X11_restore_00 (d + 30) (Nat.le_trans (by decide +kernel : ab_h cx_X11_restore_00 ≤ 30) (Nat.le_add_left 30 d)) G M (1, hn_g [M.1 kc 1], 2, lw_w2 x kc) _ Q ⟨rfl, fun i q e => by
          cases i with
          | zero => cases e; exact ⟨by show (0 : Int) ≤ M.1 kc 1; omega, by show M.1 kc 1 ≤ (1 : Int); omega, fun r hr => by cases hr⟩
          | succ i =>
            cases e⟩ (lw_R2k g1 hkc) (fun e he => by
          cases he with
          | head => exact ⟨Nat.le_of_ble_eq_true rfl, x, 4, rfl, rfl, by decide, Nat.le_of_ble_eq_true rfl, h4⟩
          | tail _ he => cases he with
            | head => exact ⟨Nat.le_of_ble_eq_true rfl, kc, 0, rfl, rfl, by decide, (show (0 : Int) = M.1 kc 0 by omega)⟩
            | tail _ he => cases he with
              | head => exact ⟨Nat.le_of_ble_eq_true rfl, kc, 1, rfl, rfl, by decide, hn_I (Nat.le_of_ble_eq_true rfl) rfl⟩
              | tail _ he => cases he) ⟨_, _, rfl, ⟨Nat.le_of_ble_eq_true rfl, rfl⟩, _, _, rfl, ⟨_, rfl, (show (0 : Int) = z1 by omega)⟩, rfl⟩ hI (fun r M' i f ⟨po, hpo, h⟩ => ?_)
        cases hpo with
        | head =>
          obtain ⟨⟨z, rfl, hz⟩, hm⟩ := h
          obtain ⟨a, ha, hx0⟩ := hm _ (List.Mem.head _)
          cases ha
          obtain ⟨a, ha, hx1⟩ := hm _ (List.Mem.tail _ (List.Mem.head _))
          cases ha
          have hz : z = 0 := hz
          subst hz
          have hx0 : M'.1 kc 0 = 0 := hx0
          have hx1 : M'.1 kc 1 = M.1 kc 1 + 0 := hx1
          exact hQ 0 M' (hV.fr i f (by decide +kernel)) (hV.sz f (by decide +kernel)) (hn_up f (by decide +kernel)) (Or.inl ⟨by omega, rfl⟩)
        | tail _ hpo => cases hpo
      · skip
        refine xo_X11_restore_01 (d + 30) (Nat.le_trans (by decide +kernel : ab_h cx_X11_restore_01 ≤ 30) (Nat.le_add_left 30 d)) G M (1, hn_g [M.1 kc 1], 2, lw_w2 x kc) _ Q ⟨rfl, fun i q e => by
          cases i with
          | zero => cases e; exact ⟨by show (0 : Int) ≤ M.1 kc 1; omega, by show M.1 kc 1 ≤ (1 : Int); omega, fun r hr => by cases hr⟩
          | succ i =>
            cases e⟩ (lw_R2k g1 hkc) (fun e he => by
          cases he with
          | head => exact ⟨Nat.le_of_ble_eq_true rfl, x, 4, rfl, rfl, by decide, Nat.le_of_ble_eq_true rfl, h4⟩
          | tail _ he => cases he with
            | head => exact ⟨Nat.le_of_ble_eq_true rfl, kc, 0, rfl, rfl, by decide, (show (1 : Int) = M.1 kc 0 by omega)⟩
            | tail _ he => cases he with
              | head => exact ⟨Nat.le_of_ble_eq_true rfl, kc, 1, rfl, rfl, by decide, hn_I (Nat.le_of_ble_eq_true rfl) rfl⟩
              | tail _ he => cases he) ⟨_, _, rfl, ⟨Nat.le_of_ble_eq_true rfl, rfl⟩, _, _, rfl, ⟨_, rfl, (show (0 : Int) = z1 by omega)⟩, rfl⟩ hI (fun r M' i f ⟨po, hpo, h⟩ => ?_)
        cases hpo with
        | head =>
          obtain ⟨⟨z, rfl, hz⟩, hm⟩ := h
          obtain ⟨a, ha, hx0⟩ := hm _ (List.Mem.head _)
          cases ha
          obtain ⟨a, ha, hx1⟩ := hm _ (List.Mem.tail _ (List.Mem.head _))
          cases ha
          have hz : z = 1 := hz
          subst hz
          have hx0 : M'.1 kc 0 = 1 := hx0
          have hx1 : M'.1 kc 1 = M.1 kc 1 + 0 := hx1
          exact hQ 1 M' (hV.fr i f (by decide +kernel)) (hV.sz f (by decide +kernel)) (hn_up f (by decide +kernel)) (Or.inr ⟨by omega, rfl⟩)
        | tail _ hpo => cases hpo
    · by_cases c4 : z1 = 1
      · by_cases c3 : M.1 kc 1 = 0
        · skip
          refine xo_X11_restore_10 (d + 30) (Nat.le_trans (by decide +kernel : ab_h cx_X11_restore_10 ≤ 30) (Nat.le_add_left 30 d)) G M (1, hn_g [M.1 kc 0], 2, lw_w2 x kc) _ Q ⟨rfl, fun i q e => by
            cases i with
            | zero => cases e; exact ⟨by show (0 : Int) ≤ M.1 kc 0; omega, by show M.1 kc 0 ≤ (1 : Int); omega, fun r hr => by cases hr⟩
            | succ i =>
              cases e⟩ (lw_R2k g1 hkc) (fun e he => by
            cases he with
            | head => exact ⟨Nat.le_of_ble_eq_true rfl, x, 4, rfl, rfl, by decide, Nat.le_of_ble_eq_true rfl, h4⟩
            | tail _ he => cases he with
              | head => exact ⟨Nat.le_of_ble_eq_true rfl, kc, 0, rfl, rfl, by decide, hn_I (Nat.le_of_ble_eq_true rfl) rfl⟩
              | tail _ he => cases he with
                | head => exact ⟨Nat.le_of_ble_eq_true rfl, kc, 1, rfl, rfl, by decide, (show (0 : Int) = M.1 kc 1 by omega)⟩
                | tail _ he => cases he) ⟨_, _, rfl, ⟨Nat.le_of_ble_eq_true rfl, rfl⟩, _, _, rfl, ⟨_, rfl, (show (1 : Int) = z1 by omega)⟩, rfl⟩ hI (fun r M' i f ⟨po, hpo, h⟩ => ?_)
          cases hpo with
          | head =>
            obtain ⟨⟨z, rfl, hz⟩, hm⟩ := h
            obtain ⟨a, ha, hx0⟩ := hm _ (List.Mem.head _)
            cases ha
            obtain ⟨a, ha, hx1⟩ := hm _ (List.Mem.tail _ (List.Mem.head _))
            cases ha
            have hz : z = 0 := hz
            subst hz
            have hx0 : M'.1 kc 0 = M.1 kc 0 + 0 := hx0
            have hx1 : M'.1 kc 1 = 0 := hx1
            exact hQ 0 M' (hV.fr i f (by decide +kernel)) (hV.sz f (by decide +kernel)) (hn_up f (by decide +kernel)) (Or.inl ⟨by omega, rfl⟩)
          | tail _ hpo => cases hpo
        · skip
          refine xo_X11_restore_11 (d + 30) (Nat.le_trans (by decide +kernel : ab_h cx_X11_restore_11 ≤ 30) (Nat.le_add_left 30 d)) G M (1, hn_g [M.1 kc 0], 2, lw_w2 x kc) _ Q ⟨rfl, fun i q e => by
            cases i with
            | zero => cases e; exact ⟨by show (0 : Int) ≤ M.1 kc 0; omega, by show M.1 kc 0 ≤ (1 : Int); omega, fun r hr => by cases hr⟩
            | succ i =>
              cases e⟩ (lw_R2k g1 hkc) (fun e he => by
            cases he with
            | head => exact ⟨Nat.le_of_ble_eq_true rfl, x, 4, rfl, rfl, by decide, Nat.le_of_ble_eq_true rfl, h4⟩
            | tail _ he => cases he with
              | head => exact ⟨Nat.le_of_ble_eq_true rfl, kc, 0, rfl, rfl, by decide, hn_I (Nat.le_of_ble_eq_true rfl) rfl⟩
              | tail _ he => cases he with
                | head => exact ⟨Nat.le_of_ble_eq_true rfl, kc, 1, rfl, rfl, by decide, (show (1 : Int) = M.1 kc 1 by omega)⟩
                | tail _ he => cases he) ⟨_, _, rfl, ⟨Nat.le_of_ble_eq_true rfl, rfl⟩, _, _, rfl, ⟨_, rfl, (show (1 : Int) = z1 by omega)⟩, rfl⟩ hI (fun r M' i f ⟨po, hpo, h⟩ => ?_)
          cases hpo with
          | head =>
            obtain ⟨⟨z, rfl, hz⟩, hm⟩ := h
            obtain ⟨a, ha, hx0⟩ := hm _ (List.Mem.head _)
            cases ha
            obtain ⟨a, ha, hx1⟩ := hm _ (List.Mem.tail _ (List.Mem.head _))
            cases ha
            have hz : z = 1 := hz
            subst hz
            have hx0 : M'.1 kc 0 = M.1 kc 0 + 0 := hx0
            have hx1 : M'.1 kc 1 = 1 := hx1
            exact hQ 1 M' (hV.fr i f (by decide +kernel)) (hV.sz f (by decide +kernel)) (hn_up f (by decide +kernel)) (Or.inr ⟨by omega, rfl⟩)
          | tail _ hpo => cases hpo
      · skip
        refine xo_X11_restore_big (d + 30) (Nat.le_trans (by decide +kernel : ab_h cx_X11_restore_big ≤ 30) (Nat.le_add_left 30 d)) G M (3, hn_g [z1, M.1 kc 0, M.1 kc 1], 2, lw_w2 x kc) _ Q ⟨rfl, fun i q e => by
          cases i with
          | zero => cases e; exact ⟨by show (2 : Int) ≤ z1; omega, by show z1 ≤ (2147483647 : Int); omega, fun r hr => by cases hr⟩
          | succ i =>
            cases i with
            | zero => cases e; exact ⟨by show (0 : Int) ≤ M.1 kc 0; omega, by show M.1 kc 0 ≤ (1 : Int); omega, fun r hr => by cases hr⟩
            | succ i =>
              cases i with
              | zero => cases e; exact ⟨by show (0 : Int) ≤ M.1 kc 1; omega, by show M.1 kc 1 ≤ (1 : Int); omega, fun r hr => by cases hr⟩
              | succ i =>
                cases e⟩ (lw_R2k g1 hkc) (fun e he => by
          cases he with
          | head => exact ⟨Nat.le_of_ble_eq_true rfl, x, 4, rfl, rfl, by decide, Nat.le_of_ble_eq_true rfl, h4⟩
          | tail _ he => cases he with
            | head => exact ⟨Nat.le_of_ble_eq_true rfl, kc, 0, rfl, rfl, by decide, hn_I (Nat.le_of_ble_eq_true rfl) rfl⟩
            | tail _ he => cases he with
              | head => exact ⟨Nat.le_of_ble_eq_true rfl, kc, 1, rfl, rfl, by decide, hn_I (Nat.le_of_ble_eq_true rfl) rfl⟩
              | tail _ he => cases he) ⟨_, _, rfl, ⟨Nat.le_of_ble_eq_true rfl, rfl⟩, _, _, rfl, ⟨_, rfl, hn_I (Nat.le_of_ble_eq_true rfl) rfl⟩, rfl⟩ hI (fun r M' i f ⟨po, hpo, h⟩ => ?_)
        cases hpo with
        | head =>
          obtain ⟨⟨z, rfl, hz⟩, hm⟩ := h
          obtain ⟨a, ha, hx0⟩ := hm _ (List.Mem.head _)
          cases ha
          obtain ⟨a, ha, hx1⟩ := hm _ (List.Mem.tail _ (List.Mem.head _))
          cases ha
          have hz : z = 0 := hz
          subst hz
          have hx0 : M'.1 kc 0 = M.1 kc 0 + 0 := hx0
          have hx1 : M'.1 kc 1 = M.1 kc 1 + 0 := hx1
          exact hQ 0 M' (hV.fr i f (by decide +kernel)) (hV.sz f (by decide +kernel)) (hn_up f (by decide +kernel)) (Or.inl ⟨by omega, rfl⟩)
        | tail _ hpo => cases hpo
/-- where the images' marks lie -/
def lw_K (G : mj_G) (M : mj_M) (x m kc kr : Nat) : Prop := G kc = (48102, 2) ∧ G kr = (72102, 2) ∧ M.2.2 x 4 = some kc ∧ M.2.2 m 61 = some kr
def lw_kx (W : List (Nat × Nat × Nat)) : Bool := W.all (fun q => !(Nat.beq q.1 1011 && (Nat.ble q.2.1 4 && Nat.ble 4 q.2.2)) && !(Nat.beq q.1 1012 && (Nat.ble q.2.1 61 && Nat.ble 61 q.2.2)))
theorem lw_K.fr {W : List (Nat × Nat × Nat)} {G : mj_G} {M M' : mj_M} {x m kc kr : Nat} (hK : lw_K G M x m kc kr) (hx : G x = (1011, 0)) (hm : G m = (1012, 0)) (f : ab_frm W G M M') (hc : lw_kx W = true) : lw_K G M' x m kc kr := by
  obtain ⟨k1, k2, k3, k4⟩ := hK
  refine ⟨k1, k2, ?_, ?_⟩
  · rw [(f x 4 (by rw [hx]; exact hn_nc (List.all_eq_true.mpr fun q hq => (sx_nd (List.all_eq_true.mp hc q hq)).1))).2]; exact k3
  · rw [(f m 61 (by rw [hm]; exact hn_nc (List.all_eq_true.mpr fun q hq => (sx_nd (List.all_eq_true.mp hc q hq)).2))).2]; exact k4
theorem lw_kc {W : List (Nat × Nat × Nat)} {G : mj_G} {M M' : mj_M} {kc : Nat} (hk : G kc = (48102, 2)) (f : ab_frm W G M M') (hc : W.all (fun q => !(Nat.beq q.1 48102)) = true) (j : Nat) : M'.1 kc j = M.1 kc j := (f kc j (by rw [hk]; exact hn_nt hc)).1
theorem lw_kr {W : List (Nat × Nat × Nat)} {G : mj_G} {M M' : mj_M} {kr : Nat} (hk : G kr = (72102, 2)) (f : ab_frm W G M M') (hc : W.all (fun q => !(Nat.beq q.1 72102)) = true) (j : Nat) : M'.1 kr j = M.1 kr j := (f kr j (by rw [hk]; exact hn_nt hc)).1
end
