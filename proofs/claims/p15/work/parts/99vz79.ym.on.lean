/-! ===== begin, on of the reference (laid by a program) ===== -/
section YM
variable {G : mj_G} {M M' : mj_M} {s m : Nat} {H : Nat → Int}
theorem yq_L.th (h : yq_L G M s m H) : yq_L G (mj_p0 M m 0 0) s m H := ⟨h.1, h.2.1, h.2.2.1, fun j hj => (congrFun (wz_c h.sm) j).trans (h.2.2.2.1 j hj), (hn_n (Or.inr (by decide))).trans h.2.2.2.2⟩
theorem yq_T.S0 (hL : yq_L G M s m H) : yq_T s m (mj_p0 M m 0 0) (ye_S (M.1 s) 0) (mj_p0 M m 0 0) := by
  have e : (mj_p0 M m 0 0).1 s = M.1 s := wz_c hL.sm
  refine ⟨_, _, _, rfl, fun _ _ _ => rfl, fun _ _ _ _ => rfl, ⟨rfl, rfl, rfl⟩, fun _ _ => rfl, fun j _ _ => ?_, fun j _ => ⟨?_, ?_, ?_⟩, fun t u _ _ => ?_⟩
  · rw [e]; show M.1 s j = M.1 s (0 + j); rw [Nat.zero_add]
  · rw [e]; show _ = M.1 s (0 + (320 + 3 * j)); rw [Nat.zero_add]
  · rw [e]; show _ = M.1 s (0 + (321 + 3 * j)); rw [Nat.zero_add]
  · rw [e]; show _ = M.1 s (0 + (322 + 3 * j)); rw [Nat.zero_add]
  · rw [e]; show _ = M.1 s (0 + (232 + 11 * t + u)); rw [Nat.zero_add]
/-- s holds the YEAR T, the PLAIN and CONTRACTS as they were -/
def yw_R (s m : Nat) (run : Int) (T : ye_T) (M M' : mj_M) : Prop := (∀ j, j < 221 ∨ (356 ≤ j ∧ j < 537) → M'.1 s j = M.1 s j) ∧ M'.1 s 221 = run ∧ (∀ j, 222 ≤ j → j < 232 → M'.1 s j = T.1 j) ∧ (∀ j, j < 12 → M'.1 s (320 + 3 * j) = T.2.1 j ∧ M'.1 s (321 + 3 * j) = T.2.2.1 j ∧ M'.1 s (322 + 3 * j) = T.2.2.2.1 j) ∧ (∀ t u, t < 8 → u < 11 → M'.1 s (232 + 11 * t + u) = T.2.2.2.2 t u) ∧ M'.1 m 32 = M.1 m 32
theorem yq_T.wR {T : ye_T} (hL : yq_L G M s m H) (h : yq_T s m (mj_p0 M m 0 0) T M') (run : Int) (hr : M.1 s 221 = run) : yw_R s m run T M M' := by
  obtain ⟨L, O, P, c1, c2, c3, -, c5, c6, c7, c8⟩ := h
  have e : (mj_p0 M m 0 0).1 s = M.1 s := wz_c hL.sm
  rw [e] at c5
  exact ⟨fun j hj => c5 j (by omega), (c5 221 (by decide)).trans hr, c6, c7, c8, (c3 32 (by decide) (by decide) (by decide)).trans (hn_n (Or.inr (by decide)))⟩
end YM
theorem r_onR {G : mj_G} {M0 : mj_M} {s m : Nat} {H : Nat → Int} {Q : mj_P} {d : Nat} (hL : yq_L G M0 s m H) (hH : ye_H H) {T : ye_T} (hk : ye_okT H T) {n dn : Int} (hd : 0 ≤ dn ∧ dn ≤ 12 - T.1 222) : ∀ (f : Nat) (i : Int) (M : mj_M) (cb sb : Nat), i + f = dn → 0 ≤ i → yq_T s m M0 (ye_it H (fun _ => 0) T i.toNat) M → (∀ M, yq_T s m M0 (ye_it H (fun _ => 0) T dn.toNat) M → Q (some (.inl dn)) G M) → wz (d + 4) mt_X12_on.2.2.2.2.1 Q (mt_X12_on.2.2.2.2.1.drop 34) [some (.inr (.inr (some m))), some (.inl n), some (.inl dn), some (.inl i)] [] G M cb sb := by
  have dn12 : dn ≤ 12 := by have := hk.1.1; omega
  intro f
  induction f with
  | zero =>
    intro i M cb sb e i0 hT h
    obtain rfl : i = dn := by omega
    refine w_iln rfl ?_
    refine w_iln rfl ?_
    refine w_cmge (fun c1 => ?_) (fun c1 => ?_)
    · skip
      refine w_iln rfl ?_
      exact w_iret (fun q => by cases q) (h _ hT)
    · exfalso; omega
  | succ f ih =>
    intro i M cb sb e i0 hT h
    have hok := ye_it_ok hH hk (xs := fun _ => 0) (fun _ => ⟨Int.le_refl 0, by decide⟩) i.toNat (by omega)
    have et : (i + 1).toNat = i.toNat + 1 := by omega
    refine w_iln rfl ?_
    refine w_iln rfl ?_
    refine w_cmge (fun c1 => ?_) (fun c1 => ?_)
    · exfalso; omega
    · skip
      refine w_aln rfl ?_
      refine w_ic ?_
      refine w_cv (st := []) rfl hL.gm rfl (Nat.le_of_ble_eq_true rfl) (fun kk h => h) (r_monthT (d := d) hL hT hH hok.1 (by rw [hok.2]; omega) ⟨Int.le_refl 0, by decide⟩ (fun M1 hT1 => ?_))
      refine w_ii rfl ⟨by show (-2147483648 : Int) ≤ i + 1; omega, by show i + 1 < (2147483648 : Int); omega⟩ ?_
      show wz _ _ _ _ [some (.inr (.inr (some m))), some (.inl n), some (.inl dn), some (.inl (i + 1))] _ _ _ _ _
      refine w_goto ?_
      exact ih (i + 1) _ _ _ (by omega) (by omega) (by rw [et]; exact hT1) h
theorem r_X12_onY {G : mj_G} {M : mj_M} {s m : Nat} {Q : mj_P} (hL : yq_L G M s m (M.1 s)) (hH : ye_H2 (M.1 s)) {n : Int} (hr : M.1 s 221 = 0 ∨ M.1 s 221 = 1) (hk : M.1 s 221 = 1 → ye_okT (M.1 s) (ye_S (M.1 s) 0)) (h0 : ¬ (M.1 s 221 = 1 ∧ 0 ≤ n ∧ n ≤ 12) → Q (some (.inl (-1))) G (mj_p0 M m 0 0)) (h1 : M.1 s 221 = 1 ∧ 0 ≤ n ∧ n ≤ 12 → ∀ M1, yw_R s m 1 (ye_it (M.1 s) (fun _ => 0) (ye_S (M.1 s) 0) (lr_on (M.1 s) n).toNat) M M1 → Q (some (.inl (lr_on (M.1 s) n))) G M1) : mj_R mj_tab (35 + 5) 221 [.inr (.inr (some m)), .inl n] G M Q := by
  have b222 : M.1 s 221 = 1 → 0 ≤ M.1 s 222 ∧ M.1 s 222 ≤ 12 := fun c => by
    have q := (hk c).1
    have e : (ye_S (M.1 s) 0).1 222 = M.1 s 222 := by show M.1 s (0 + 222) = _; rw [Nat.zero_add]
    rw [e] at q; exact q
  refine ⟨Nat.le_of_ble_eq_true rfl, ?_⟩
  show wz 39 mt_X12_on.2.2.2.2.1 _ mt_X12_on.2.2.2.2.1 [some (.inr (.inr (some m))), some (.inl n), none, none] [] G M _ _
  refine w_aln rfl ?_
  refine w_ic ?_
  refine w_pi hL.gm rfl (by decide) rfl (fun q => by cases q) ?_
  refine w_aln rfl ?_
  refine w_gr hL.gm rfl (by decide) rfl (hL.m6) ?_
  refine w_sp ?_
  refine w_iald (v := (M.1 s 221)) hL.gs rfl (by show (0 : Int) ≤ 221; omega) (by show 221 < ((537 : Nat) : Int); omega) ((congrFun (wz_c hL.sm) _).trans (congrArg (M.1 s) (show (221 : Int).toNat = 221 by omega))) ?_
  refine w_ifeq (fun c1 => ?_) (fun c1 => ?_)
  · skip
    refine w_ic ?_
    exact w_iret (fun q => by cases q) (h0 (by omega))
  · skip
    refine w_iln rfl ?_
    refine w_ic ?_
    refine w_bp ?_
    refine w_cs (st := []) rfl (Nat.le_of_ble_eq_true rfl) (fun kk h => h) ⟨Nat.le_of_ble_eq_true rfl, ?_⟩
    show wz (35 + 3) mt_X12_isIn.2.2.2.2.1 _ mt_X12_isIn.2.2.2.2.1 [some (.inl n), some (.inl 0), some (.inl 12)] [] _ _ _ _
    refine w_iln rfl ?_
    refine w_iln rfl ?_
    refine w_cmlt (fun c2 => ?_) (fun c2 => ?_)
    · skip
      refine w_ic ?_
      refine w_iret (fun _ => Or.inl rfl) ?_
      refine w_ifne (fun c3 => ?_) (fun c3 => ?_)
      · exfalso; omega
      · skip
        refine w_ic ?_
        exact w_iret (fun q => by cases q) (h0 (by omega))
    · skip
      refine w_iln rfl ?_
      refine w_iln rfl ?_
      refine w_cmgt (fun c4 => ?_) (fun c4 => ?_)
      · skip
        refine w_ic ?_
        refine w_iret (fun _ => Or.inl rfl) ?_
        refine w_ifne (fun c5 => ?_) (fun c5 => ?_)
        · exfalso; omega
        · skip
          refine w_ic ?_
          exact w_iret (fun q => by cases q) (h0 (by omega))
      · skip
        refine w_ic ?_
        refine w_goto ?_
        refine w_iret (fun _ => Or.inr rfl) ?_
        refine w_ifne (fun c6 => ?_) (fun c6 => ?_)
        · skip
          have hb := b222 (by omega)
          refine w_iln rfl ?_
          refine w_bp ?_
          refine w_aln rfl ?_
          refine w_gr hL.gm rfl (by decide) rfl (hL.m6) ?_
          refine w_sp ?_
          refine w_iald (v := (M.1 s 222)) hL.gs rfl (by show (0 : Int) ≤ 222; omega) (by show 222 < ((537 : Nat) : Int); omega) ((congrFun (wz_c hL.sm) _).trans (congrArg (M.1 s) (show (222 : Int).toNat = 222 by omega))) ?_
          refine w_sub ⟨by show (-2147483648 : Int) ≤ 12 - (M.1 s 222); omega, by show 12 - (M.1 s 222) < (2147483648 : Int); omega⟩ ?_
          refine w_cmge (fun c7 => ?_) (fun c7 => ?_)
          · skip
            refine w_bp ?_
            refine w_aln rfl ?_
            refine w_gr hL.gm rfl (by decide) rfl (hL.m6) ?_
            refine w_sp ?_
            refine w_iald (v := (M.1 s 222)) hL.gs rfl (by show (0 : Int) ≤ 222; omega) (by show 222 < ((537 : Nat) : Int); omega) ((congrFun (wz_c hL.sm) _).trans (congrArg (M.1 s) (show (222 : Int).toNat = 222 by omega))) ?_
            refine w_sub ⟨by show (-2147483648 : Int) ≤ 12 - (M.1 s 222); omega, by show 12 - (M.1 s 222) < (2147483648 : Int); omega⟩ ?_
            refine w_isn ?_
            show wz _ _ _ _ [some (.inr (.inr (some m))), some (.inl n), some (.inl (12 - (M.1 s 222))), none] _ _ _ _ _
            refine w_ic ?_
            refine w_isn ?_
            show wz _ _ _ _ [some (.inr (.inr (some m))), some (.inl n), some (.inl (12 - (M.1 s 222))), some (.inl 0)] _ _ _ _ _
            have h1y : M.1 s 221 = 1 := by omega
            have e22 : (ye_S (M.1 s) 0).1 222 = M.1 s 222 := by show M.1 s (0 + 222) = _; rw [Nat.zero_add]
            have hb := b222 h1y
            have ed : lr_on (M.1 s) n = 12 - (M.1 s 222) := by unfold lr_on; rw [if_pos ⟨h1y, by omega, by omega⟩]; split <;> omega
            rw [← ed]
            refine r_onR (d := 35) hL.th hH.1 (hk h1y) (by rw [e22]; omega) (lr_on (M.1 s) n).toNat 0 _ _ _ (by omega) (by decide) (yq_T.S0 hL) (fun M1 hT1 => h1 ⟨h1y, by omega, by omega⟩ M1 (hT1.wR hL 1 h1y))
          · skip
            refine w_iln rfl ?_
            refine w_goto ?_
            refine w_isn ?_
            show wz _ _ _ _ [some (.inr (.inr (some m))), some (.inl n), some (.inl n), none] _ _ _ _ _
            refine w_ic ?_
            refine w_isn ?_
            show wz _ _ _ _ [some (.inr (.inr (some m))), some (.inl n), some (.inl n), some (.inl 0)] _ _ _ _ _
            have h1y : M.1 s 221 = 1 := by omega
            have e22 : (ye_S (M.1 s) 0).1 222 = M.1 s 222 := by show M.1 s (0 + 222) = _; rw [Nat.zero_add]
            have hb := b222 h1y
            have ed : lr_on (M.1 s) n = n := by unfold lr_on; rw [if_pos ⟨h1y, by omega, by omega⟩]; split <;> omega
            rw [← ed]
            refine r_onR (d := 35) hL.th hH.1 (hk h1y) (by rw [e22]; omega) (lr_on (M.1 s) n).toNat 0 _ _ _ (by omega) (by decide) (yq_T.S0 hL) (fun M1 hT1 => h1 ⟨h1y, by omega, by omega⟩ M1 (hT1.wR hL 1 h1y))
        · exfalso; omega
theorem r_X12_beginY {G : mj_G} {M : mj_M} {s m : Nat} {Q : mj_P} (hL : yq_L G M s m (M.1 s)) (hH : ye_H2 (M.1 s)) (h0 : M.1 s 0 = 0 → Q (some (.inl 0)) G (mj_p0 M m 0 0)) (h1 : M.1 s 0 ≠ 0 → ∀ M1, yw_R s m 1 (ye_fr (M.1 s)) M M1 → Q (some (.inl 1)) G M1) : mj_R mj_tab (37 + 3) 162 [.inr (.inr (some m))] G M Q := by
  refine ⟨Nat.le_of_ble_eq_true rfl, ?_⟩
  show wz 39 mt_X12_begin.2.2.2.2.1 _ mt_X12_begin.2.2.2.2.1 [some (.inr (.inr (some m)))] [] G M _ _
  refine w_aln rfl ?_
  refine w_ic ?_
  refine w_pi hL.gm rfl (by decide) rfl (fun q => by cases q) ?_
  refine w_aln rfl ?_
  refine w_gr hL.gm rfl (by decide) rfl (hL.m6) ?_
  refine w_ic ?_
  refine w_iald (v := (M.1 s 0)) hL.gs rfl (by show (0 : Int) ≤ 0; omega) (by show 0 < ((537 : Nat) : Int); omega) ((congrFun (wz_c hL.sm) _).trans (congrArg (M.1 s) (show (0 : Int).toNat = 0 by omega))) ?_
  refine w_ifne (fun c1 => ?_) (fun c1 => ?_)
  · skip
    refine w_aln rfl ?_
    refine w_cv (st := []) rfl hL.gm rfl (Nat.le_of_ble_eq_true rfl) (fun kk h => h) (r_X12_beginsC (d := 37) hL.gm hL.gs hL.m6 (fun j hj => hL.th.vn hj) hH.1.1 hH.2 (fun M1 hZ => ?_))
    refine w_ic ?_
    obtain ⟨z1, z2, z3, z4, z5, z6, z7⟩ := hZ
    have e : (mj_p0 M m 0 0).1 s = M.1 s := wz_c hL.sm
    rw [e] at z3
    exact w_iret (fun _ => Or.inr rfl) (h1 (by omega) _ ⟨z3, z4, z5, z6, z7, (congrFun (z2 m hL.sm.symm) 32).trans (hn_n (Or.inr (by decide)))⟩)
  · skip
    refine w_ic ?_
    exact w_iret (fun _ => Or.inl rfl) (h0 (by omega))
