/-! ===== the memory at the law's entry ===== -/
def lx_wf (ad : Nat → Nat) (a : Nat) : Nat → Nat × Nat
  | 0 => (0, 0)
  | k + 1 => if a = ad k then (900050 + 1000 * k, 0) else lx_wf ad a k
theorem lx_wf_no {ad : Nat → Nat} {a : Nat} : ∀ n, (∀ k, k < n → a ≠ ad k) → lx_wf ad a n = (0, 0)
  | 0, _ => rfl
  | n + 1, h => (if_neg (h n (Nat.lt_succ_self n))).trans (lx_wf_no n (fun k hk => h k (by omega)))
theorem lx_wf_at {ad : Nat → Nat} {k : Nat} : ∀ n, n ≤ 24 → (∀ i j, i < 24 → j < 24 → ad i = ad j → i = j) → k < n → lx_wf ad (ad k) n = (900050 + 1000 * k, 0)
  | 0, _, _, h => absurd h (Nat.not_lt_zero k)
  | n + 1, hn, hj, h => by
    show (if ad k = ad n then (900050 + 1000 * n, 0) else lx_wf ad (ad k) n) = _
    by_cases e : ad k = ad n
    · rw [if_pos e, hj k n (by omega) (by omega) e]
    · rw [if_neg e]
      exact lx_wf_at n (by omega) hj (by
        rcases Nat.lt_or_ge k n with q | q
        · exact q
        · exact absurd (by rw [show k = n by omega]) e)
theorem lx_wf_in {ad : Nat → Nat} {a t m : Nat} : ∀ n, lx_wf ad a n = (t, m) → t ≠ 0 → ∃ k, k < n ∧ t = 900050 + 1000 * k ∧ a = ad k
  | 0, h, ht => absurd (Prod.mk.inj h).1.symm ht
  | n + 1, h, ht => by
    have h : (if a = ad n then (900050 + 1000 * n, 0) else lx_wf ad a n) = (t, m) := h
    by_cases e : a = ad n
    · rw [if_pos e] at h
      exact ⟨n, by omega, (Prod.mk.inj h).1.symm, e⟩
    · rw [if_neg e] at h
      obtain ⟨k, h1, h2⟩ := lx_wf_in n h ht
      exact ⟨k, by omega, h2⟩
def lx_G (b al : Nat) (ad : Nat → Nat) : mj_G := fun a => if a = b then (901000, 0) else if a = al then (900105, 24) else lx_wf ad a 24
def lx_M (al : Nat) (ad : Nat → Nat) : mj_M := (fun _ _ => 0, fun _ _ => 0, fun a k => if a = al ∧ k < 24 then some (ad k) else none)
/-- the first cells lie apart -/
def lx_ap (b al : Nat) (ad : Nat → Nat) : Prop := b ≠ al ∧ (∀ k, k < 24 → b ≠ ad k) ∧ (∀ k, k < 24 → al ≠ ad k) ∧ ∀ i j, i < 24 → j < 24 → ad i = ad j → i = j
theorem lx_G_al {b al : Nat} {ad : Nat → Nat} (h : lx_ap b al ad) : lx_G b al ad al = (900105, 24) := (if_neg (fun q => h.1 q.symm)).trans (if_pos rfl)
theorem lx_G_ad {b al : Nat} {ad : Nat → Nat} {k : Nat} (h : lx_ap b al ad) (hk : k < 24) : lx_G b al ad (ad k) = (900050 + 1000 * k, 0) := (if_neg (fun q => h.2.1 k hk q.symm)).trans ((if_neg (fun q => h.2.2.1 k hk q.symm)).trans (lx_wf_at 24 (Nat.le_refl _) h.2.2.2 hk))
theorem lx_G_in {b al : Nat} {ad : Nat → Nat} {a t m : Nat} (h : lx_G b al ad a = (t, m)) (ht : t ≠ 0) : (a = b ∧ t = 901000) ∨ (a = al ∧ t = 900105 ∧ m = 24) ∨ ∃ k, k < 24 ∧ t = 900050 + 1000 * k ∧ a = ad k := by
  unfold lx_G at h
  by_cases e : a = b
  · rw [if_pos e] at h
    exact Or.inl ⟨e, (Prod.mk.inj h).1.symm⟩
  · rw [if_neg e] at h
    by_cases e2 : a = al
    · rw [if_pos e2] at h
      exact Or.inr (Or.inl ⟨e2, (Prod.mk.inj h).1.symm, (Prod.mk.inj h).2.symm⟩)
    · rw [if_neg e2] at h
      exact Or.inr (Or.inr (lx_wf_in 24 h ht))
theorem lx_H {D : va_G} {dA : Nat → ClassId} {s : State} {b al : Nat} {ad : Nat → Nat} {cell : Cell} (hap : lx_ap b al ad) (hb : b < s.heap.size) (had : ∀ k, k < 24 → ad k < s.heap.size) (hd1 : ∀ k, dA (100 + k) = ad k) (hd2 : dA 99 = al)
    (hc : s.heap[al]? = some cell) (c1 : ∀ k, cell.vm ≠ .statics k) (c2 : cell.vm ≠ .unknown) (c3 : cell.cls = dA 5) (c4 : 24 ≤ cell.slots.size ∧ cell.slots.size.toInt32 = Int32.ofNat 24) (c5 : ∀ k, k < 24 → cell.slots[k]? = some (.ref (ad k))) : mj_H D dA s.heap.size (lx_G b al ad) (lx_M al ad) s.heap := by
  have hal : al < s.heap.size := (Array.getElem?_eq_some_iff.mp hc).1
  refine ⟨fun a k => (show mj_in 0 from ⟨by decide, by decide⟩), ⟨fun x hx => ?_, fun k hk => ?_, fun a t n hG ht => ?_, ?_⟩, fun a t n hG ht => ?_⟩
  · unfold lx_G
    rw [if_neg (by omega), if_neg (by omega)]
    exact lx_wf_no 24 (fun k hk => by have := had k hk; omega)
  · rw [hd1]; exact lx_G_ad hap hk
  · rcases lx_G_in hG (by intro q; rw [q] at ht; simp at ht) with ⟨-, e⟩ | ⟨-, e, -⟩ | ⟨k, e1, e2, e3⟩
    · rw [e] at ht; simp at ht
    · rw [e] at ht; simp at ht
    · exact ⟨k, e1, e2, by rw [hd1]; exact e3⟩
  · rw [hd2]; exact lx_G_al hap
  · rcases lx_G_in hG ht with ⟨-, e⟩ | ⟨ea, e, en⟩ | ⟨k, e1, e2, e3⟩
    · subst e
      exact ⟨fun q => absurd q (by decide), fun ci r q => absurd q (by omega), fun j q => absurd q (by omega)⟩
    · subst e ea en
      refine ⟨fun q => absurd q (by decide), fun ci r q hr => ?_, fun j q => ?_⟩
      · have := (sz_vw hr).1
        omega
      · have e5 : j = 5 := by omega
        subst e5
        refine Or.inr ⟨by decide, by decide, cell, hc, c1, c2, c3, c4, fun k hk => ?_⟩
        rw [c5 k hk]
        show _ = some (va_rf (if a = a ∧ k < 24 then some (ad k) else none))
        rw [if_pos ⟨rfl, hk⟩]
        rfl
    · refine ⟨fun q => absurd q (by omega), fun ci r q hr => ?_, fun j q => absurd q (by omega)⟩
      have := (sz_vw hr).1
      omega
/-! the same as the makers' run has it -/
noncomputable def sz_tn (n : Nat) : Lean.RArray sx_c := Nat.rec (motive := fun _ => Lean.RArray sx_c) (sx_s 12 (.leaf (sx_nc 901000 0)) 25 (900105, 24, .leaf (.inl (.ofNat 0)), .leaf 0, Nat.rec (motive := fun _ => Lean.RArray (Option Nat)) (.leaf none) (fun k t => sx_s 12 t k (some (Nat.succ k))) 24)) (fun k t => sx_s 12 t (Nat.succ k) (sz_w0 k)) n
noncomputable def sz_rn (n : Nat) : Lean.RArray (Option Nat) := Nat.rec (motive := fun _ => Lean.RArray (Option Nat)) (.leaf none) (fun k t => sx_s 12 t k (some (Nat.succ k))) n
theorem sz_rn_at {j : Nat} (hj : j < 4096) : ∀ n, n ≤ 24 → sx_g (sz_rn n) j = if j < n then some (j + 1) else none
  | 0, _ => rfl
  | n + 1, h => by
    show sx_g (sx_s 12 (sz_rn n) n (some (n + 1))) j = _
    rw [sx_g12 _ _ (by omega) hj, sz_rn_at hj n (by omega)]
    by_cases e : j = n
    · rw [if_pos e, if_pos (by omega), e]
    · rw [if_neg e]
      by_cases e2 : j < n
      · rw [if_pos e2, if_pos (by omega)]
      · rw [if_neg e2, if_neg (by omega)]
theorem sz_tn_at {j : Nat} (hj : j < 4096) : ∀ n, n ≤ 24 → sx_g (sz_tn n) j = if 1 ≤ j ∧ j ≤ n then sz_w0 (j - 1) else if j = 25 then (900105, 24, .leaf (.inl (.ofNat 0)), .leaf 0, sz_rn 24) else sx_nc 901000 0
  | 0, _ => by
    show sx_g (sx_s 12 (.leaf (sx_nc 901000 0)) 25 (900105, 24, .leaf (.inl (.ofNat 0)), .leaf 0, sz_rn 24)) j = _
    rw [sx_g12 _ _ (by decide) hj, if_neg (c := 1 ≤ j ∧ j ≤ 0) (by omega)]
    rfl
  | n + 1, h => by
    show sx_g (sx_s 12 (sz_tn n) (n + 1) (sz_w0 n)) j = _
    rw [sx_g12 _ _ (by omega) hj, sz_tn_at hj n (by omega)]
    by_cases e : j = n + 1
    · rw [if_pos e, if_pos (by omega), e]; rfl
    · rw [if_neg e]
      by_cases e2 : 1 ≤ j ∧ j ≤ n
      · rw [if_pos e2, if_pos (by omega)]
      · rw [if_neg e2, if_neg (c := 1 ≤ j ∧ j ≤ n + 1) (by omega)]
theorem lx_RH {b al : Nat} {ad : Nat → Nat} {dA : Nat → ClassId} (hap : lx_ap b al ad) (hd1 : ∀ k, dA (100 + k) = ad k) (hd2 : dA 99 = al) : sx_RH (0, fun _ => 0, 26, sz_e b dA) sz_h0 (lx_G b al ad) (lx_M al ad) := by
  have e0 : sz_e b dA 0 = b := rfl
  have e1 : ∀ i, 1 ≤ i → i < 25 → sz_e b dA i = ad (i - 1) := fun i h1 h2 => by
    unfold sz_e
    rw [if_neg (by omega), if_pos h2, show 99 + i = 100 + (i - 1) by omega, hd1]
  have e2 : sz_e b dA 25 = al := hd2
  refine ⟨rfl, by decide, fun i hi => ?_, fun i j hi hj q => ?_⟩
  · have hi : i < 26 := hi
    have ht : sx_g sz_h0.2 i = if 1 ≤ i ∧ i ≤ 24 then sz_w0 (i - 1) else if i = 25 then (900105, 24, .leaf (.inl (.ofNat 0)), .leaf 0, sz_rn 24) else sx_nc 901000 0 := sz_tn_at (by omega) 24 (Nat.le_refl _)
    unfold sx_RC
    dsimp only
    rw [ht]
    by_cases c1 : 1 ≤ i ∧ i ≤ 24
    · rw [if_pos c1, e1 i c1.1 (by omega)]
      refine ⟨lx_G_ad hap (by omega), (by show 900050 + 1000 * (i - 1) ≠ 0; omega), fun k hk => ⟨rfl, rfl, ?_⟩⟩
      show (if ad (i - 1) = al ∧ k < 24 then some (ad k) else none) = none
      exact if_neg (fun q => hap.2.2.1 (i - 1) (by omega) q.1.symm)
    · rw [if_neg c1]
      by_cases c2 : i = 25
      · rw [if_pos c2, c2, e2]
        refine ⟨lx_G_al hap, (by show (900105 : Nat) ≠ 0; decide), fun k hk => ⟨rfl, rfl, ?_⟩⟩
        show sx_RO _ (sx_g (sz_rn 24) k) (if al = al ∧ k < 24 then some (ad k) else none)
        rw [sz_rn_at hk 24 (Nat.le_refl _)]
        by_cases c3 : k < 24
        · rw [if_pos c3, if_pos ⟨rfl, c3⟩]
          refine ⟨by show k + 1 < 26; omega, ?_⟩
          show some (ad k) = some (sz_e b dA (k + 1))
          rw [e1 (k + 1) (by omega) (by omega), Nat.add_sub_cancel]
        · rw [if_neg c3, if_neg (fun q => c3 q.2)]; rfl
      · have c3 : i = 0 := by omega
        rw [if_neg c2, c3, e0]
        refine ⟨if_pos rfl, (by show (901000 : Nat) ≠ 0; decide), fun k hk => ⟨rfl, rfl, ?_⟩⟩
        show (if b = al ∧ k < 24 then some (ad k) else none) = none
        exact if_neg (fun q => hap.1 q.1)
  · have hi : i < 26 := hi
    have hj : j < 26 := hj
    have q : sz_e b dA i = sz_e b dA j := q
    rcases Nat.lt_or_ge i 1 with a1 | a1
    · have a : i = 0 := by omega
      subst a
      rcases Nat.lt_or_ge j 1 with b1 | b1
      · omega
      · rcases Nat.lt_or_ge j 25 with b2 | b2
        · rw [e0, e1 j b1 b2] at q
          exact absurd q (hap.2.1 _ (by omega))
        · rw [e0, show j = 25 by omega, e2] at q
          exact absurd q hap.1
    · rcases Nat.lt_or_ge i 25 with a2 | a2
      · rcases Nat.lt_or_ge j 1 with b1 | b1
        · rw [show j = 0 by omega, e0, e1 i a1 a2] at q
          exact absurd q.symm (hap.2.1 _ (by omega))
        · rcases Nat.lt_or_ge j 25 with b2 | b2
          · rw [e1 i a1 a2, e1 j b1 b2] at q
            have := hap.2.2.2 _ _ (by omega) (by omega) q
            omega
          · rw [show j = 25 by omega, e2, e1 i a1 a2] at q
            exact absurd q.symm (hap.2.2.1 _ (by omega))
      · have a : i = 25 := by omega
        subst a
        rcases Nat.lt_or_ge j 1 with b1 | b1
        · rw [show j = 0 by omega, e0, e2] at q
          exact absurd q.symm hap.1
        · rcases Nat.lt_or_ge j 25 with b2 | b2
          · rw [e2, e1 j b1 b2] at q
            exact absurd q (hap.2.2.1 _ (by omega))
          · omega
