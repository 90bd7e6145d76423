/-! ===== ROUNDS of the reference (laid by a program) ===== -/
abbrev ro_nr (w : Nat → Nat) (m : Nat) (a : Nat) : Prop := a ≠ m ∧ a ≠ w 349 ∧ a ≠ w 350
/-- the reference amid ROUNDS -/
def ro_D (w : Nat → Nat) (m s : Nat) (M0 : mj_M) (HM PR : Nat → Int) (M : mj_M) : Prop := M.2 = M0.2 ∧ (∀ a, ro_nr w m a → M.1 a = M0.1 a) ∧ (∀ k, k < 8 → M.1 (w 349) k = HM k) ∧ (∀ k, k < 12 → M.1 (w 350) k = PR k) ∧ (∀ j, j ≠ 0 → j ≠ 43 → j ≠ 44 → M.1 m j = M0.1 m j) ∧ M.1 m 43 = M0.1 s 0 ∧ M.1 m 44 = 1
section RDD
variable {G : mj_G} {w : Nat → Nat} {M0 M : mj_M} {HM PR : Nat → Int} {m s j a k b : Nat} {v z : Int}
theorem ro_D.r (h : ro_D w m s M0 HM PR M) (e : M0.2.2 a k = some b) : M.2.2 a k = some b := by rw [h.1]; exact e
theorem ro_D.i (h : ro_D w m s M0 HM PR M) (n : ro_nr w m a) (e : M0.1 a k = z) : M.1 a k = z := by rw [h.2.1 a n]; exact e
theorem ro_D.hh (h : ro_D w m s M0 HM PR M) (ga : ro_GA G w) (gm : G m = (1012, 0)) : ro_D w m s M0 (rv_up HM j v) PR (mj_p0 M (w 349) j v) :=
  ⟨h.1, fun a n => (wz_c n.2.1).trans (h.2.1 a n), ro_up h.2.2.1, fun k hk => (hn_n (Or.inl (hn_ne ga.2.2.2.2.2 ga.2.2.2.2.1 (by decide)))).trans (h.2.2.2.1 k hk), fun j a b c => (hn_n (Or.inl (hn_ne gm ga.2.2.2.2.1 (by decide)))).trans (h.2.2.2.2.1 j a b c), (hn_n (Or.inl (hn_ne gm ga.2.2.2.2.1 (by decide)))).trans h.2.2.2.2.2.1, (hn_n (Or.inl (hn_ne gm ga.2.2.2.2.1 (by decide)))).trans h.2.2.2.2.2.2⟩
theorem ro_D.hp (h : ro_D w m s M0 HM PR M) (ga : ro_GA G w) (gm : G m = (1012, 0)) : ro_D w m s M0 HM (rv_up PR j v) (mj_p0 M (w 350) j v) :=
  ⟨h.1, fun a n => (wz_c n.2.2).trans (h.2.1 a n), fun k hk => (hn_n (Or.inl (hn_ne ga.2.2.2.2.1 ga.2.2.2.2.2 (by decide)))).trans (h.2.2.1 k hk), ro_up h.2.2.2.1, fun j a b c => (hn_n (Or.inl (hn_ne gm ga.2.2.2.2.2 (by decide)))).trans (h.2.2.2.2.1 j a b c), (hn_n (Or.inl (hn_ne gm ga.2.2.2.2.2 (by decide)))).trans h.2.2.2.2.2.1, (hn_n (Or.inl (hn_ne gm ga.2.2.2.2.2 (by decide)))).trans h.2.2.2.2.2.2⟩
end RDD
theorem r_ho1 {G : mj_G} {M0 : mj_M} {x m s : Nat} {w : Nat → Nat} {Q : mj_P} {d : Nat} (ga : ro_GA G w) (gb : ro_GB M0 w x m) (gm : G m = (1012, 0)) (gs : G s = (51100, 537)) (m6 : M0.2.2 m 6 = some s) (hr : rv_r6 (M0.1 s) 0) {HM PR : Nat → Int} {M : mj_M} (hD : ro_D w m s M0 HM PR M) {v : Int} : ∀ (n : Nat) (k : Int) (cb sb : Nat), k + n = M0.1 s 0 → 0 ≤ k → Q (some (.inl (ro_h HM v n k))) G M → wz d mt_X12_holderOf.2.2.2.2.1 Q (mt_X12_holderOf.2.2.2.2.1.drop 2) [some (.inr (.inr (some m))), some (.inl v), some (.inl k)] [] G M cb sb := by
  have b0 := hr.1.1
  have ns : ro_nr w m s := ⟨hn_ne gs gm (by decide), hn_ne gs ga.2.2.2.2.1 (by decide), hn_ne gs ga.2.2.2.2.2 (by decide)⟩
  intro n
  induction n with
  | zero =>
    intro k cb sb e k0 h
    refine w_iln rfl ?_
    refine w_aln rfl ?_
    refine w_gr gm rfl (by decide) rfl (hD.r m6) ?_
    refine w_ic ?_
    refine w_iald (v := (M0.1 s 0)) gs rfl (by show (0 : Int) ≤ 0; omega) (by show 0 < ((537 : Nat) : Int); omega) (hD.i ns (congrArg (M0.1 s) (by show (0 : Int).toNat = 0; omega))) ?_
    refine w_cmge (fun c1 => ?_) (fun c1 => ?_)
    · skip
      refine w_ic ?_
      exact w_iret (fun q => by cases q) h
    · exfalso; omega
  | succ n ih =>
    intro k cb sb e k0 h
    refine w_iln rfl ?_
    refine w_aln rfl ?_
    refine w_gr gm rfl (by decide) rfl (hD.r m6) ?_
    refine w_ic ?_
    refine w_iald (v := (M0.1 s 0)) gs rfl (by show (0 : Int) ≤ 0; omega) (by show 0 < ((537 : Nat) : Int); omega) (hD.i ns (congrArg (M0.1 s) (by show (0 : Int).toNat = 0; omega))) ?_
    refine w_cmge (fun c1 => ?_) (fun c1 => ?_)
    · exfalso; omega
    · skip
      refine w_aln rfl ?_
      refine w_gr gm rfl (by decide) rfl (hD.r gb.2.2.2.2.1) ?_
      refine w_iln rfl ?_
      refine w_iald (v := (HM k.toNat)) ga.2.2.2.2.1 rfl (by show (0 : Int) ≤ k; omega) (by show k < ((8 : Nat) : Int); omega) (hD.2.2.1 _ (by show k.toNat < 8; omega)) ?_
      refine w_iln rfl ?_
      refine w_cmne (fun c2 => ?_) (fun c2 => ?_)
      · skip
        refine w_ii rfl ⟨by show (-2147483648 : Int) ≤ k + 1; omega, by show k + 1 < (2147483648 : Int); omega⟩ ?_
        show wz _ _ _ _ [some (.inr (.inr (some m))), some (.inl v), some (.inl (k + 1))] _ _ _ _ _
        refine w_goto ?_
        have e9 : ro_h HM v (n + 1) k = ro_h HM v n (k + 1) := if_neg (by omega)
        rw [e9] at h
        exact ih (k + 1) _ _ (by omega) (by omega) h
      · skip
        refine w_iln rfl ?_
        have e9 : ro_h HM v (n + 1) k = k := if_pos (by omega)
        rw [e9] at h
        exact w_iret (fun q => by cases q) h
theorem r_X12_holderOf {G : mj_G} {M0 : mj_M} {x m s : Nat} {w : Nat → Nat} {Q : mj_P} {d : Nat} (ga : ro_GA G w) (gb : ro_GB M0 w x m) (gm : G m = (1012, 0)) (gs : G s = (51100, 537)) (m6 : M0.2.2 m 6 = some s) (hr : rv_r6 (M0.1 s) 0) {HM PR : Nat → Int} {M : mj_M} (hD : ro_D w m s M0 HM PR M) {v : Int} {T : Nat} (hT : (T : Int) = M0.1 s 0) (h : Q (some (.inl (ro_HO HM T v))) G M) : mj_R mj_tab (d + 1) 194 [.inr (.inr (some m)), .inl v] G M Q := by
  refine ⟨Nat.le_of_ble_eq_true rfl, ?_⟩
  show wz d mt_X12_holderOf.2.2.2.2.1 Q mt_X12_holderOf.2.2.2.2.1 [some (.inr (.inr (some m))), some (.inl v), none] [] G M _ _
  refine w_ic ?_
  refine w_isn ?_
  exact r_ho1 ga gb gm gs m6 hr hD T 0 _ _ (by omega) (by decide) h
theorem r_rb2 {G : mj_G} {M0 : mj_M} {x m s : Nat} {w : Nat → Nat} {Q : mj_P} {d : Nat} (ga : ro_GA G w) (gb : ro_GB M0 w x m) (gm : G m = (1012, 0)) (gs : G s = (51100, 537)) (m6 : M0.2.2 m 6 = some s) (hr : rv_r6 (M0.1 s) 0) {HM PR : Nat → Int} {M : mj_M} (hD : ro_D w m s M0 HM PR M) {T : Nat} (hT : (T : Int) = M0.1 s 0) {st : Int} (s1 : 1 ≤ st) (s2 : st ≤ 99) (hP : ∀ m, m < 12 → 0 ≤ PR m ∧ PR m ≤ 999) {k n tk : Int} (k1 : 0 ≤ k) (k2 : k < 8) : ∀ (f : Nat) (mm b mo : Int) (v8 : Option mj_V) (cb sb : Nat), mm + f = 12 → 0 ≤ mm → 0 ≤ mo → mo ≤ 999 → (∀ (mo' mm' : Int) (v8 : Option mj_V) (cb sb : Nat), wz (d + 1) mt_X12_rounds.2.2.2.2.1 Q (mt_X12_rounds.2.2.2.2.1.drop 111) [some (.inr (.inr (some m))), some (.inl st), some (.inl n), some (.inl tk), some (.inl k), some (.inl (ro_b (M0.1 s) PR (ro_HO HM T) st k f mm b mo)), some (.inl mo'), some (.inl mm'), v8] [] G M cb sb) → wz (d + 1) mt_X12_rounds.2.2.2.2.1 Q (mt_X12_rounds.2.2.2.2.1.drop 80) [some (.inr (.inr (some m))), some (.inl st), some (.inl n), some (.inl tk), some (.inl k), some (.inl b), some (.inl mo), some (.inl mm), v8] [] G M cb sb := by
  have b0 := hr.1.1
  have ns : ro_nr w m s := ⟨hn_ne gs gm (by decide), hn_ne gs ga.2.2.2.2.1 (by decide), hn_ne gs ga.2.2.2.2.2 (by decide)⟩
  have hT8 : T ≤ 8 := by omega
  intro f
  induction f with
  | zero =>
    intro mm b mo v8 cb sb e m0 h0 h9 h
    refine w_il rfl ?_
    refine w_bp ?_
    refine w_cmge (fun c1 => ?_) (fun c1 => ?_)
    · skip
      exact h _ _ _ _ _
    · exfalso; omega
  | succ f ih =>
    intro mm b mo v8 cb sb e m0 h0 h9 h
    have pr := hP mm.toNat (by omega)
    have rbm := hr.b (j := (12 * k + mm + 88).toNat) (by omega) (by omega)
    refine w_il rfl ?_
    refine w_bp ?_
    refine w_cmge (fun c1 => ?_) (fun c1 => ?_)
    · exfalso; omega
    · skip
      refine w_aln rfl ?_
      refine w_il rfl ?_
      refine w_il rfl ?_
      refine w_cv (st := []) rfl gm rfl (Nat.le_of_ble_eq_true rfl) (fun kk h => h) ⟨Nat.le_of_ble_eq_true rfl, ?_⟩
      show wz (d) mt_X12_bidOf.2.2.2.2.1 _ mt_X12_bidOf.2.2.2.2.1 [some (.inr (.inr (some m))), some (.inl k), some (.inl mm)] [] _ _ _ _
      refine w_aln rfl ?_
      refine w_gr gm rfl (by decide) rfl (hD.r m6) ?_
      refine w_bp ?_
      refine w_bp ?_
      refine w_iln rfl ?_
      refine w_mul ⟨by show (-2147483648 : Int) ≤ 12 * k; omega, by show 12 * k < (2147483648 : Int); omega⟩ ?_
      refine w_add ⟨by show (-2147483648 : Int) ≤ 88 + (12 * k); omega, by show 88 + (12 * k) < (2147483648 : Int); omega⟩ ?_
      refine w_iln rfl ?_
      refine w_add ⟨by show (-2147483648 : Int) ≤ (88 + (12 * k)) + mm; omega, by show (88 + (12 * k)) + mm < (2147483648 : Int); omega⟩ ?_
      refine w_iald (v := (M0.1 s (12 * k + mm + 88).toNat)) gs rfl (by show (0 : Int) ≤ (88 + (12 * k)) + mm; omega) (by show (88 + (12 * k)) + mm < ((537 : Nat) : Int); omega) (hD.i ns (congrArg (M0.1 s) (by show ((88 + (12 * k)) + mm).toNat = (12 * k + mm + 88).toNat; omega))) ?_
      refine w_iret (fun q => by cases q) ?_
      refine w_aln rfl ?_
      refine w_gr gm rfl (by decide) rfl (hD.r gb.2.2.2.2.2) ?_
      refine w_il rfl ?_
      refine w_iald (v := (PR mm.toNat)) ga.2.2.2.2.2 rfl (by show (0 : Int) ≤ mm; omega) (by show mm < ((12 : Nat) : Int); omega) (hD.2.2.2.1 _ (by show mm.toNat < 12; omega)) ?_
      refine w_sub ⟨by show (-2147483648 : Int) ≤ (M0.1 s (12 * k + mm + 88).toNat) - (PR mm.toNat); omega, by show (M0.1 s (12 * k + mm + 88).toNat) - (PR mm.toNat) < (2147483648 : Int); omega⟩ ?_
      refine w_aln rfl ?_
      refine w_il rfl ?_
      refine w_cv (st := [.inl ((M0.1 s (12 * k + mm + 88).toNat) - (PR mm.toNat))]) rfl gm rfl (Nat.le_of_ble_eq_true rfl) (fun kk h => h) (r_X12_holderOf (d := d) ga gb gm gs m6 hr hD hT (v := mm) ?_)
      have ho2 := ro_HO_s HM T mm
      have hp3 : -1 ≤ (ro_HO HM T mm) ∧ (ro_HO HM T mm) ≤ 7 := by
        rcases ho2 with ⟨q1, q2⟩ | ⟨j, q1, q2, q3⟩ <;> omega
      refine w_iflt (fun c4 => ?_) (fun c4 => ?_)
      · skip
        refine w_ic ?_
        refine w_sub ⟨by show (-2147483648 : Int) ≤ ((M0.1 s (12 * k + mm + 88).toNat) - (PR mm.toNat)) - 0; omega, by show ((M0.1 s (12 * k + mm + 88).toNat) - (PR mm.toNat)) - 0 < (2147483648 : Int); omega⟩ ?_
        refine w_is ?_
        show wz _ _ _ _ [some (.inr (.inr (some m))), some (.inl st), some (.inl n), some (.inl tk), some (.inl k), some (.inl b), some (.inl mo), some (.inl mm), some (.inl (((M0.1 s (12 * k + mm + 88).toNat) - (PR mm.toNat)) - 0))] _ _ _ _ _
        refine w_il rfl ?_
        refine w_il rfl ?_
        refine w_cmgt (fun c5 => ?_) (fun c5 => ?_)
        · skip
          refine w_il rfl ?_
          refine w_is ?_
          show wz _ _ _ _ [some (.inr (.inr (some m))), some (.inl st), some (.inl n), some (.inl tk), some (.inl k), some (.inl b), some (.inl (((M0.1 s (12 * k + mm + 88).toNat) - (PR mm.toNat)) - 0)), some (.inl mm), some (.inl (((M0.1 s (12 * k + mm + 88).toNat) - (PR mm.toNat)) - 0))] _ _ _ _ _
          refine w_il rfl ?_
          refine w_is ?_
          show wz _ _ _ _ [some (.inr (.inr (some m))), some (.inl st), some (.inl n), some (.inl tk), some (.inl k), some (.inl mm), some (.inl (((M0.1 s (12 * k + mm + 88).toNat) - (PR mm.toNat)) - 0)), some (.inl mm), some (.inl (((M0.1 s (12 * k + mm + 88).toNat) - (PR mm.toNat)) - 0))] _ _ _ _ _
          refine w_ii rfl ⟨by show (-2147483648 : Int) ≤ mm + 1; omega, by show mm + 1 < (2147483648 : Int); omega⟩ ?_
          show wz _ _ _ _ [some (.inr (.inr (some m))), some (.inl st), some (.inl n), some (.inl tk), some (.inl k), some (.inl mm), some (.inl (((M0.1 s (12 * k + mm + 88).toNat) - (PR mm.toNat)) - 0)), some (.inl (mm + 1)), some (.inl (((M0.1 s (12 * k + mm + 88).toNat) - (PR mm.toNat)) - 0))] _ _ _ _ _
          refine w_goto ?_
          have ev : ro_v (M0.1 s) PR (ro_HO HM T) st k mm = ((M0.1 s (12 * k + mm + 88).toNat) - (PR mm.toNat)) - 0 := by
            unfold ro_v
            split <;> omega
          have e9 : ro_b (M0.1 s) PR (ro_HO HM T) st k (f + 1) mm b mo = ro_b (M0.1 s) PR (ro_HO HM T) st k f (mm + 1) mm (((M0.1 s (12 * k + mm + 88).toNat) - (PR mm.toNat)) - 0) := by
            show (if _ then _ else _) = _
            rw [ev, if_pos (by omega)]
          rw [e9] at h
          exact ih (mm + 1) mm (((M0.1 s (12 * k + mm + 88).toNat) - (PR mm.toNat)) - 0) _ _ _ (by omega) (by omega) (by omega) (by omega) h
        · skip
          refine w_goto ?_
          refine w_ii rfl ⟨by show (-2147483648 : Int) ≤ mm + 1; omega, by show mm + 1 < (2147483648 : Int); omega⟩ ?_
          show wz _ _ _ _ [some (.inr (.inr (some m))), some (.inl st), some (.inl n), some (.inl tk), some (.inl k), some (.inl b), some (.inl mo), some (.inl (mm + 1)), some (.inl (((M0.1 s (12 * k + mm + 88).toNat) - (PR mm.toNat)) - 0))] _ _ _ _ _
          refine w_goto ?_
          have ev : ro_v (M0.1 s) PR (ro_HO HM T) st k mm = ((M0.1 s (12 * k + mm + 88).toNat) - (PR mm.toNat)) - 0 := by
            unfold ro_v
            split <;> omega
          have e9 : ro_b (M0.1 s) PR (ro_HO HM T) st k (f + 1) mm b mo = ro_b (M0.1 s) PR (ro_HO HM T) st k f (mm + 1) b mo := by
            show (if _ then _ else _) = _
            rw [ev, if_neg (by omega)]
          rw [e9] at h
          exact ih (mm + 1) b mo _ _ _ (by omega) (by omega) (by omega) (by omega) h
      · skip
        refine w_iln rfl ?_
        refine w_goto ?_
        refine w_sub ⟨by show (-2147483648 : Int) ≤ ((M0.1 s (12 * k + mm + 88).toNat) - (PR mm.toNat)) - st; omega, by show ((M0.1 s (12 * k + mm + 88).toNat) - (PR mm.toNat)) - st < (2147483648 : Int); omega⟩ ?_
        refine w_is ?_
        show wz _ _ _ _ [some (.inr (.inr (some m))), some (.inl st), some (.inl n), some (.inl tk), some (.inl k), some (.inl b), some (.inl mo), some (.inl mm), some (.inl (((M0.1 s (12 * k + mm + 88).toNat) - (PR mm.toNat)) - st))] _ _ _ _ _
        refine w_il rfl ?_
        refine w_il rfl ?_
        refine w_cmgt (fun c6 => ?_) (fun c6 => ?_)
        · skip
          refine w_il rfl ?_
          refine w_is ?_
          show wz _ _ _ _ [some (.inr (.inr (some m))), some (.inl st), some (.inl n), some (.inl tk), some (.inl k), some (.inl b), some (.inl (((M0.1 s (12 * k + mm + 88).toNat) - (PR mm.toNat)) - st)), some (.inl mm), some (.inl (((M0.1 s (12 * k + mm + 88).toNat) - (PR mm.toNat)) - st))] _ _ _ _ _
          refine w_il rfl ?_
          refine w_is ?_
          show wz _ _ _ _ [some (.inr (.inr (some m))), some (.inl st), some (.inl n), some (.inl tk), some (.inl k), some (.inl mm), some (.inl (((M0.1 s (12 * k + mm + 88).toNat) - (PR mm.toNat)) - st)), some (.inl mm), some (.inl (((M0.1 s (12 * k + mm + 88).toNat) - (PR mm.toNat)) - st))] _ _ _ _ _
          refine w_ii rfl ⟨by show (-2147483648 : Int) ≤ mm + 1; omega, by show mm + 1 < (2147483648 : Int); omega⟩ ?_
          show wz _ _ _ _ [some (.inr (.inr (some m))), some (.inl st), some (.inl n), some (.inl tk), some (.inl k), some (.inl mm), some (.inl (((M0.1 s (12 * k + mm + 88).toNat) - (PR mm.toNat)) - st)), some (.inl (mm + 1)), some (.inl (((M0.1 s (12 * k + mm + 88).toNat) - (PR mm.toNat)) - st))] _ _ _ _ _
          refine w_goto ?_
          have ev : ro_v (M0.1 s) PR (ro_HO HM T) st k mm = ((M0.1 s (12 * k + mm + 88).toNat) - (PR mm.toNat)) - st := by
            unfold ro_v
            split <;> omega
          have e9 : ro_b (M0.1 s) PR (ro_HO HM T) st k (f + 1) mm b mo = ro_b (M0.1 s) PR (ro_HO HM T) st k f (mm + 1) mm (((M0.1 s (12 * k + mm + 88).toNat) - (PR mm.toNat)) - st) := by
            show (if _ then _ else _) = _
            rw [ev, if_pos (by omega)]
          rw [e9] at h
          exact ih (mm + 1) mm (((M0.1 s (12 * k + mm + 88).toNat) - (PR mm.toNat)) - st) _ _ _ (by omega) (by omega) (by omega) (by omega) h
        · skip
          refine w_goto ?_
          refine w_ii rfl ⟨by show (-2147483648 : Int) ≤ mm + 1; omega, by show mm + 1 < (2147483648 : Int); omega⟩ ?_
          show wz _ _ _ _ [some (.inr (.inr (some m))), some (.inl st), some (.inl n), some (.inl tk), some (.inl k), some (.inl b), some (.inl mo), some (.inl (mm + 1)), some (.inl (((M0.1 s (12 * k + mm + 88).toNat) - (PR mm.toNat)) - st))] _ _ _ _ _
          refine w_goto ?_
          have ev : ro_v (M0.1 s) PR (ro_HO HM T) st k mm = ((M0.1 s (12 * k + mm + 88).toNat) - (PR mm.toNat)) - st := by
            unfold ro_v
            split <;> omega
          have e9 : ro_b (M0.1 s) PR (ro_HO HM T) st k (f + 1) mm b mo = ro_b (M0.1 s) PR (ro_HO HM T) st k f (mm + 1) b mo := by
            show (if _ then _ else _) = _
            rw [ev, if_neg (by omega)]
          rw [e9] at h
          exact ih (mm + 1) b mo _ _ _ (by omega) (by omega) (by omega) (by omega) h
theorem r_rk2 {G : mj_G} {M0 : mj_M} {x m s : Nat} {w : Nat → Nat} {Q : mj_P} {d : Nat} (ga : ro_GA G w) (gb : ro_GB M0 w x m) (gm : G m = (1012, 0)) (gs : G s = (51100, 537)) (m6 : M0.2.2 m 6 = some s) (hr : rv_r6 (M0.1 s) 0) {T : Nat} (hT : (T : Int) = M0.1 s 0) {st : Int} (s1 : 1 ≤ st) (s2 : st ≤ 99) {n : Int} : ∀ (f : Nat) (k tk : Int) (HM PR : Nat → Int) (M : mj_M) (v5 v6 v7 v8 : Option mj_V) (cb sb : Nat), k + f = M0.1 s 0 → 0 ≤ k → ro_D w m s M0 HM PR M → ro_I T HM PR → (∀ (M' : mj_M) (k' : Int) (v5 v6 v7 v8 : Option mj_V) (cb sb : Nat), ro_D w m s M0 (ro_ks (M0.1 s) T st f k HM PR tk).1 (ro_ks (M0.1 s) T st f k HM PR tk).2.1 M' → ro_I T (ro_ks (M0.1 s) T st f k HM PR tk).1 (ro_ks (M0.1 s) T st f k HM PR tk).2.1 → wz (d + 1) mt_X12_rounds.2.2.2.2.1 Q (mt_X12_rounds.2.2.2.2.1.drop 142) [some (.inr (.inr (some m))), some (.inl st), some (.inl n), some (.inl (ro_ks (M0.1 s) T st f k HM PR tk).2.2), some (.inl k'), v5, v6, v7, v8] [] G M' cb sb) → wz (d + 1) mt_X12_rounds.2.2.2.2.1 Q (mt_X12_rounds.2.2.2.2.1.drop 62) [some (.inr (.inr (some m))), some (.inl st), some (.inl n), some (.inl tk), some (.inl k), v5, v6, v7, v8] [] G M cb sb := by
  have b0 := hr.1.1
  have ns : ro_nr w m s := ⟨hn_ne gs gm (by decide), hn_ne gs ga.2.2.2.2.1 (by decide), hn_ne gs ga.2.2.2.2.2 (by decide)⟩
  have hT8 : T ≤ 8 := by omega
  intro f
  induction f with
  | zero =>
    intro k tk HM PR M v5 v6 v7 v8 cb sb e k0 hD hI h
    refine w_il rfl ?_
    refine w_aln rfl ?_
    refine w_gr gm rfl (by decide) rfl (hD.r m6) ?_
    refine w_ic ?_
    refine w_iald (v := (M0.1 s 0)) gs rfl (by show (0 : Int) ≤ 0; omega) (by show 0 < ((537 : Nat) : Int); omega) (hD.i ns (congrArg (M0.1 s) (by show (0 : Int).toNat = 0; omega))) ?_
    refine w_cmge (fun c1 => ?_) (fun c1 => ?_)
    · skip
      exact h M k _ _ _ _ _ _ hD hI
    · exfalso; omega
  | succ f ih =>
    intro k tk HM PR M v5 v6 v7 v8 cb sb e k0 hD hI h
    have hm := hI.1 k.toNat (by omega)
    obtain ⟨bb, hbb⟩ : ∃ z, z = (ro_bb (M0.1 s) T st k HM PR) := ⟨_, rfl⟩
    have hb := ro_bb_s (H := M0.1 s) (T := T) (st := st) (k := k) (HM := HM) (PR := PR)
    rw [← hbb] at hb
    have hb1 : -1 ≤ bb ∧ bb ≤ 11 := by omega
    have pr : 0 ≤ bb → 0 ≤ PR bb.toNat ∧ PR bb.toNat ≤ 999 := fun q => hI.2.2 _ (by omega)
    refine w_il rfl ?_
    refine w_aln rfl ?_
    refine w_gr gm rfl (by decide) rfl (hD.r m6) ?_
    refine w_ic ?_
    refine w_iald (v := (M0.1 s 0)) gs rfl (by show (0 : Int) ≤ 0; omega) (by show 0 < ((537 : Nat) : Int); omega) (hD.i ns (congrArg (M0.1 s) (by show (0 : Int).toNat = 0; omega))) ?_
    refine w_cmge (fun c1 => ?_) (fun c1 => ?_)
    · exfalso; omega
    · skip
      refine w_aln rfl ?_
      refine w_gr gm rfl (by decide) rfl (hD.r gb.2.2.2.2.1) ?_
      refine w_il rfl ?_
      refine w_iald (v := (HM k.toNat)) ga.2.2.2.2.1 rfl (by show (0 : Int) ≤ k; omega) (by show k < ((8 : Nat) : Int); omega) (hD.2.2.1 _ (by show k.toNat < 8; omega)) ?_
      refine w_iflt (fun c2 => ?_) (fun c2 => ?_)
      · skip
        refine w_ic ?_
        refine w_is ?_
        show wz _ _ _ _ [some (.inr (.inr (some m))), some (.inl st), some (.inl n), some (.inl tk), some (.inl k), some (.inl (-1)), v6, v7, v8] _ _ _ _ _
        refine w_ic ?_
        refine w_is ?_
        show wz _ _ _ _ [some (.inr (.inr (some m))), some (.inl st), some (.inl n), some (.inl tk), some (.inl k), some (.inl (-1)), some (.inl 0), v7, v8] _ _ _ _ _
        refine w_ic ?_
        refine w_is ?_
        show wz _ _ _ _ [some (.inr (.inr (some m))), some (.inl st), some (.inl n), some (.inl tk), some (.inl k), some (.inl (-1)), some (.inl 0), some (.inl 0), v8] _ _ _ _ _
        refine r_rb2 (d := d) ga gb gm gs m6 hr hD hT s1 s2 hI.2.2 (by omega) (by omega) 12 0 (-1) 0 _ _ _ rfl (by decide) (by decide) (by decide) (fun mo' mm' v8 cb sb => ?_)
        show wz _ _ _ _ [some (.inr (.inr (some m))), some (.inl st), some (.inl n), some (.inl tk), some (.inl k), some (.inl (ro_bb (M0.1 s) T st k HM PR)), some (.inl mo'), some (.inl mm'), v8] _ _ _ _ _
        rw [← hbb]
        refine w_il rfl ?_
        refine w_ifge (fun c3 => ?_) (fun c3 => ?_)
        · skip
          refine w_aln rfl ?_
          refine w_il rfl ?_
          refine w_cv (st := []) rfl gm rfl (Nat.le_of_ble_eq_true rfl) (fun kk h => h) (r_X12_holderOf (d := d) ga gb gm gs m6 hr hD hT (v := bb) ?_)
          have ho4 := ro_HO_s HM T bb
          have hp5 : -1 ≤ (ro_HO HM T bb) ∧ (ro_HO HM T bb) ≤ 7 := by
            rcases ho4 with ⟨q1, q2⟩ | ⟨j, q1, q2, q3⟩ <;> omega
          refine w_is ?_
          show wz _ _ _ _ [some (.inr (.inr (some m))), some (.inl st), some (.inl n), some (.inl tk), some (.inl k), some (.inl bb), some (.inl mo'), some (.inl (ro_HO HM T bb)), v8] _ _ _ _ _
          refine w_il rfl ?_
          refine w_iflt (fun c6 => ?_) (fun c6 => ?_)
          · skip
            refine w_aln rfl ?_
            refine w_gr gm rfl (by decide) rfl (hD.r gb.2.2.2.2.1) ?_
            refine w_il rfl ?_
            refine w_il rfl ?_
            refine w_iast ga.2.2.2.2.1 rfl (by decide) (by show (0 : Int) ≤ k; omega) (by show k < ((8 : Nat) : Int); omega) ?_
            have hD7 := hD.hh (j := k.toNat) (v := bb) ga gm
            refine w_ic ?_
            refine w_isn ?_
            show wz _ _ _ _ [some (.inr (.inr (some m))), some (.inl st), some (.inl n), some (.inl 1), some (.inl k), some (.inl bb), some (.inl mo'), some (.inl (ro_HO HM T bb)), v8] _ _ _ _ _
            refine w_ii rfl ⟨by show (-2147483648 : Int) ≤ k + 1; omega, by show k + 1 < (2147483648 : Int); omega⟩ ?_
            show wz _ _ _ _ [some (.inr (.inr (some m))), some (.inl st), some (.inl n), some (.inl 1), some (.inl (k + 1)), some (.inl bb), some (.inl mo'), some (.inl (ro_HO HM T bb)), v8] _ _ _ _ _
            refine w_goto ?_
            have g : HM k.toNat < 0 ∧ 0 ≤ (ro_bb (M0.1 s) T st k HM PR) := ⟨by omega, by omega⟩
            have e9 : ro_ks (M0.1 s) T st (f + 1) k HM PR tk = ro_ks (M0.1 s) T st f (k + 1) (ro_HM (M0.1 s) T st k HM PR) (ro_PR (M0.1 s) T st k HM PR) 1 := by
              show ro_ks (M0.1 s) T st f (k + 1) _ _ (ro_tk (M0.1 s) T st k HM PR tk) = _
              rw [(ro_yes (tk := tk) g).2.2]
            rw [e9] at h
            refine ih (k + 1) 1 (ro_HM (M0.1 s) T st k HM PR) (ro_PR (M0.1 s) T st k HM PR) _ _ _ _ _ _ _ (by omega) (by omega) ?_ (hI.go hT8 k0 (by omega) (by omega) (fun j j0 j1 => (hr.b (by omega) (by omega)).2)) h
            rw [(ro_yes (tk := 0) g).1, (ro_yes (tk := 0) g).2.1, ← hbb, if_pos (by omega), if_pos (by omega)]
            have eP : rv_up PR bb.toNat (PR bb.toNat) = PR := funext fun j => by
              by_cases e : j = bb.toNat
              · rw [e, rv_up_s]
              · rw [rv_up_n e]
            rw [eP]
            exact hD7
          · skip
            refine w_aln rfl ?_
            refine w_gr gm rfl (by decide) rfl (hD.r gb.2.2.2.2.2) ?_
            refine w_il rfl ?_
            refine w_dup2 ?_
            refine w_iald (v := (PR bb.toNat)) ga.2.2.2.2.2 rfl (by show (0 : Int) ≤ bb; omega) (by show bb < ((12 : Nat) : Int); omega) (hD.2.2.2.1 _ (by show bb.toNat < 12; omega)) ?_
            refine w_iln rfl ?_
            refine w_add ⟨by show (-2147483648 : Int) ≤ (PR bb.toNat) + st; omega, by show (PR bb.toNat) + st < (2147483648 : Int); omega⟩ ?_
            refine w_iast ga.2.2.2.2.2 rfl (by decide) (by show (0 : Int) ≤ bb; omega) (by show bb < ((12 : Nat) : Int); omega) ?_
            have hD8 := hD.hp (j := bb.toNat) (v := (PR bb.toNat) + st) ga gm
            refine w_aln rfl ?_
            refine w_gr gm rfl (by decide) rfl (hD8.r gb.2.2.2.2.1) ?_
            refine w_il rfl ?_
            refine w_ic ?_
            refine w_iast ga.2.2.2.2.1 rfl (by decide) (by show (0 : Int) ≤ (ro_HO HM T bb); omega) (by show (ro_HO HM T bb) < ((8 : Nat) : Int); omega) ?_
            have hD9 := hD8.hh (j := (ro_HO HM T bb).toNat) (v := -1) ga gm
            refine w_aln rfl ?_
            refine w_gr gm rfl (by decide) rfl (hD9.r gb.2.2.2.2.1) ?_
            refine w_il rfl ?_
            refine w_il rfl ?_
            refine w_iast ga.2.2.2.2.1 rfl (by decide) (by show (0 : Int) ≤ k; omega) (by show k < ((8 : Nat) : Int); omega) ?_
            have hD10 := hD9.hh (j := k.toNat) (v := bb) ga gm
            refine w_ic ?_
            refine w_isn ?_
            show wz _ _ _ _ [some (.inr (.inr (some m))), some (.inl st), some (.inl n), some (.inl 1), some (.inl k), some (.inl bb), some (.inl mo'), some (.inl (ro_HO HM T bb)), v8] _ _ _ _ _
            refine w_ii rfl ⟨by show (-2147483648 : Int) ≤ k + 1; omega, by show k + 1 < (2147483648 : Int); omega⟩ ?_
            show wz _ _ _ _ [some (.inr (.inr (some m))), some (.inl st), some (.inl n), some (.inl 1), some (.inl (k + 1)), some (.inl bb), some (.inl mo'), some (.inl (ro_HO HM T bb)), v8] _ _ _ _ _
            refine w_goto ?_
            have g : HM k.toNat < 0 ∧ 0 ≤ (ro_bb (M0.1 s) T st k HM PR) := ⟨by omega, by omega⟩
            have e9 : ro_ks (M0.1 s) T st (f + 1) k HM PR tk = ro_ks (M0.1 s) T st f (k + 1) (ro_HM (M0.1 s) T st k HM PR) (ro_PR (M0.1 s) T st k HM PR) 1 := by
              show ro_ks (M0.1 s) T st f (k + 1) _ _ (ro_tk (M0.1 s) T st k HM PR tk) = _
              rw [(ro_yes (tk := tk) g).2.2]
            rw [e9] at h
            refine ih (k + 1) 1 (ro_HM (M0.1 s) T st k HM PR) (ro_PR (M0.1 s) T st k HM PR) _ _ _ _ _ _ _ (by omega) (by omega) ?_ (hI.go hT8 k0 (by omega) (by omega) (fun j j0 j1 => (hr.b (by omega) (by omega)).2)) h
            rw [(ro_yes (tk := 0) g).1, (ro_yes (tk := 0) g).2.1, ← hbb, if_neg (by omega), if_neg (by omega)]
            exact hD10
        · skip
          refine w_goto ?_
          refine w_ii rfl ⟨by show (-2147483648 : Int) ≤ k + 1; omega, by show k + 1 < (2147483648 : Int); omega⟩ ?_
          show wz _ _ _ _ [some (.inr (.inr (some m))), some (.inl st), some (.inl n), some (.inl tk), some (.inl (k + 1)), some (.inl bb), some (.inl mo'), some (.inl mm'), v8] _ _ _ _ _
          refine w_goto ?_
          have g : ¬ (HM k.toNat < 0 ∧ 0 ≤ (ro_bb (M0.1 s) T st k HM PR)) := by omega
          obtain ⟨g1, g2, g3⟩ := ro_no (tk := tk) g
          have e9 : ro_ks (M0.1 s) T st (f + 1) k HM PR tk = ro_ks (M0.1 s) T st f (k + 1) HM PR tk := by
            show ro_ks (M0.1 s) T st f (k + 1) (ro_HM (M0.1 s) T st k HM PR) (ro_PR (M0.1 s) T st k HM PR) (ro_tk (M0.1 s) T st k HM PR tk) = _
            rw [g1, g2, g3]
          rw [e9] at h
          exact ih (k + 1) tk HM PR M _ _ _ _ _ _ (by omega) (by omega) hD hI h
      · skip
        refine w_goto ?_
        refine w_ii rfl ⟨by show (-2147483648 : Int) ≤ k + 1; omega, by show k + 1 < (2147483648 : Int); omega⟩ ?_
        show wz _ _ _ _ [some (.inr (.inr (some m))), some (.inl st), some (.inl n), some (.inl tk), some (.inl (k + 1)), v5, v6, v7, v8] _ _ _ _ _
        refine w_goto ?_
        have g : ¬ (HM k.toNat < 0 ∧ 0 ≤ (ro_bb (M0.1 s) T st k HM PR)) := by omega
        obtain ⟨g1, g2, g3⟩ := ro_no (tk := tk) g
        have e9 : ro_ks (M0.1 s) T st (f + 1) k HM PR tk = ro_ks (M0.1 s) T st f (k + 1) HM PR tk := by
          show ro_ks (M0.1 s) T st f (k + 1) (ro_HM (M0.1 s) T st k HM PR) (ro_PR (M0.1 s) T st k HM PR) (ro_tk (M0.1 s) T st k HM PR tk) = _
          rw [g1, g2, g3]
        rw [e9] at h
        exact ih (k + 1) tk HM PR M _ _ _ _ _ _ (by omega) (by omega) hD hI h
theorem r_rr2 {G : mj_G} {M0 : mj_M} {x m s : Nat} {w : Nat → Nat} {Q : mj_P} {d : Nat} (ga : ro_GA G w) (gb : ro_GB M0 w x m) (gm : G m = (1012, 0)) (gs : G s = (51100, 537)) (m6 : M0.2.2 m 6 = some s) (hr : rv_r6 (M0.1 s) 0) {T : Nat} (hT : (T : Int) = M0.1 s 0) {st : Int} (s1 : 1 ≤ st) (s2 : st ≤ 99) : ∀ (f : Nat) (n tk : Int) (HM PR : Nat → Int) (M : mj_M) (v4 v5 v6 v7 v8 : Option mj_V) (cb sb : Nat), n + f = 1000 → 0 ≤ n → tk ≠ 0 → ro_D w m s M0 HM PR M → ro_I T HM PR → (∀ M', ro_D w m s M0 (ro_rs (M0.1 s) T st f n HM PR).2.1 (ro_rs (M0.1 s) T st f n HM PR).2.2 M' → ro_I T (ro_rs (M0.1 s) T st f n HM PR).2.1 (ro_rs (M0.1 s) T st f n HM PR).2.2 → Q (some (.inl (ro_rs (M0.1 s) T st f n HM PR).1)) G M') → wz (d + 1) mt_X12_rounds.2.2.2.2.1 Q (mt_X12_rounds.2.2.2.2.1.drop 52) [some (.inr (.inr (some m))), some (.inl st), some (.inl n), some (.inl tk), v4, v5, v6, v7, v8] [] G M cb sb := by
  have b0 := hr.1.1
  have ns : ro_nr w m s := ⟨hn_ne gs gm (by decide), hn_ne gs ga.2.2.2.2.1 (by decide), hn_ne gs ga.2.2.2.2.2 (by decide)⟩
  intro f
  induction f with
  | zero =>
    intro n tk HM PR M v4 v5 v6 v7 v8 cb sb e n0 t0 hD hI h
    refine w_iln rfl ?_
    refine w_ifeq (fun c1 => ?_) (fun c1 => ?_)
    · exfalso; omega
    · skip
      refine w_iln rfl ?_
      refine w_sp ?_
      refine w_cmge (fun c2 => ?_) (fun c2 => ?_)
      · skip
        refine w_iln rfl ?_
        exact w_iret (fun q => by cases q) (h M hD hI)
      · exfalso; omega
  | succ f ih =>
    intro n tk HM PR M v4 v5 v6 v7 v8 cb sb e n0 t0 hD hI h
    refine w_iln rfl ?_
    refine w_ifeq (fun c1 => ?_) (fun c1 => ?_)
    · exfalso; omega
    · skip
      refine w_iln rfl ?_
      refine w_sp ?_
      refine w_cmge (fun c2 => ?_) (fun c2 => ?_)
      · exfalso; omega
      · skip
        refine w_ic ?_
        refine w_isn ?_
        show wz _ _ _ _ [some (.inr (.inr (some m))), some (.inl st), some (.inl n), some (.inl 0), v4, v5, v6, v7, v8] _ _ _ _ _
        refine w_ii rfl ⟨by show (-2147483648 : Int) ≤ n + 1; omega, by show n + 1 < (2147483648 : Int); omega⟩ ?_
        show wz _ _ _ _ [some (.inr (.inr (some m))), some (.inl st), some (.inl (n + 1)), some (.inl 0), v4, v5, v6, v7, v8] _ _ _ _ _
        refine w_ic ?_
        refine w_is ?_
        show wz _ _ _ _ [some (.inr (.inr (some m))), some (.inl st), some (.inl (n + 1)), some (.inl 0), some (.inl 0), v5, v6, v7, v8] _ _ _ _ _
        refine r_rk2 (d := d) ga gb gm gs m6 hr hT s1 s2 (n := n + 1) T 0 0 HM PR M _ _ _ _ _ _ (by omega) (by decide) hD hI (fun M' k' v5 v6 v7 v8 cb sb hD' hI' => ?_)
        obtain ⟨kq, hkq⟩ : ∃ z, z = ro_ks (M0.1 s) T st T 0 HM PR 0 := ⟨_, rfl⟩
        rw [← hkq] at hD' hI' ⊢
        refine w_goto ?_
        by_cases c0 : kq.2.2 = 0
        · skip
          refine w_iln rfl ?_
          refine w_ifeq (fun c3 => ?_) (fun c3 => ?_)
          · skip
            refine w_iln rfl ?_
            have e1 : (ro_rs (M0.1 s) T st (f + 1) n HM PR) = (n + 1, kq.1, kq.2.1) := by
              show (if (ro_ks (M0.1 s) T st T 0 HM PR 0).2.2 = 0 then _ else _) = _
              rw [← hkq, if_pos c0]
            have q1 := h M'
            rw [e1] at q1
            exact w_iret (fun q => by cases q) (q1 hD' hI')
          · exfalso; omega
        · skip
          have e9 : (ro_rs (M0.1 s) T st (f + 1) n HM PR) = ro_rs (M0.1 s) T st f (n + 1) kq.1 kq.2.1 := by
            show (if (ro_ks (M0.1 s) T st T 0 HM PR 0).2.2 = 0 then _ else _) = _
            rw [← hkq, if_neg c0]
          rw [e9] at h
          exact ih (n + 1) kq.2.2 kq.1 kq.2.1 M' _ _ _ _ _ _ _ (by omega) (by omega) c0 hD' hI' h
theorem r_in1 {G : mj_G} {M0 : mj_M} {x m s : Nat} {w : Nat → Nat} {Q : mj_P} {d : Nat} (ga : ro_GA G w) (gb : ro_GB M0 w x m) (gm : G m = (1012, 0)) (gs : G s = (51100, 537)) (m6 : M0.2.2 m 6 = some s) (hr : rv_r6 (M0.1 s) 0) {st : Int} : ∀ (n : Nat) (i : Int) (M : mj_M) (cb sb : Nat), i + n = 8 → 0 ≤ i → M.2 = M0.2 → (∀ a, ro_nr w m a → M.1 a = M0.1 a) → (∀ j, j ≠ 0 → M.1 m j = M0.1 m j) → (∀ k : Nat, (k : Int) < i → M.1 (w 349) k = -1) → (∀ (M' : mj_M) (cb sb : Nat), M'.2 = M0.2 → (∀ a, ro_nr w m a → M'.1 a = M0.1 a) → (∀ j, j ≠ 0 → M'.1 m j = M0.1 m j) → (∀ k : Nat, k < 8 → M'.1 (w 349) k = -1) → wz d mt_X12_rounds.2.2.2.2.1 Q (mt_X12_rounds.2.2.2.2.1.drop 27) [some (.inr (.inr (some m))), some (.inl st), some (.inl 8), none, none, none, none, none, none] [] G M' cb sb) → wz d mt_X12_rounds.2.2.2.2.1 Q (mt_X12_rounds.2.2.2.2.1.drop 17) [some (.inr (.inr (some m))), some (.inl st), some (.inl i), none, none, none, none, none, none] [] G M cb sb := by
  have b0 := hr.1.1
  have ns : ro_nr w m s := ⟨hn_ne gs gm (by decide), hn_ne gs ga.2.2.2.2.1 (by decide), hn_ne gs ga.2.2.2.2.2 (by decide)⟩
  intro n
  induction n with
  | zero =>
    intro i M cb sb e i0 h2 hn hj hk h
    obtain rfl : i = 8 := by omega
    refine w_iln rfl ?_
    refine w_bp ?_
    refine w_cmge (fun c1 => ?_) (fun c1 => ?_)
    · skip
      exact h _ _ _ h2 hn hj (fun k hk8 => hk k (by omega))
    · exfalso; omega
  | succ n ih =>
    intro i M cb sb e i0 h2 hn hj hk h
    refine w_iln rfl ?_
    refine w_bp ?_
    refine w_cmge (fun c1 => ?_) (fun c1 => ?_)
    · exfalso; omega
    · skip
      refine w_aln rfl ?_
      refine w_gr gm rfl (by decide) rfl ((congrArg (fun z => z.2 m 41) h2).trans gb.2.2.2.2.1) ?_
      refine w_iln rfl ?_
      refine w_ic ?_
      refine w_iast ga.2.2.2.2.1 rfl (by decide) (by show (0 : Int) ≤ i; omega) (by show i < ((8 : Nat) : Int); omega) ?_
      refine w_ii rfl ⟨by show (-2147483648 : Int) ≤ i + 1; omega, by show i + 1 < (2147483648 : Int); omega⟩ ?_
      show wz _ _ _ _ [some (.inr (.inr (some m))), some (.inl st), some (.inl (i + 1)), none, none, none, none, none, none] _ _ _ _ _
      refine w_goto ?_
      exact ih (i + 1) _ _ _ (by omega) (by omega) h2 (fun a q => (wz_c q.2.1).trans (hn a q)) (fun j q => (hn_n (Or.inl (hn_ne gm ga.2.2.2.2.1 (by decide)))).trans (hj j q)) (fun k hk1 => by
        by_cases e5 : k = i.toNat
        · rw [e5]; exact hn_s
        · exact (hn_n (Or.inr e5)).trans (hk k (by omega))) h
theorem r_in2 {G : mj_G} {M0 : mj_M} {x m s : Nat} {w : Nat → Nat} {Q : mj_P} {d : Nat} (ga : ro_GA G w) (gb : ro_GB M0 w x m) (gm : G m = (1012, 0)) (gs : G s = (51100, 537)) (m6 : M0.2.2 m 6 = some s) (hr : rv_r6 (M0.1 s) 0) {st : Int} : ∀ (n : Nat) (i : Int) (M : mj_M) (cb sb : Nat), i + n = 12 → 0 ≤ i → M.2 = M0.2 → (∀ a, ro_nr w m a → M.1 a = M0.1 a) → (∀ j, j ≠ 0 → M.1 m j = M0.1 m j) → (∀ k : Nat, k < 8 → M.1 (w 349) k = -1) → (∀ k : Nat, (k : Int) < i → M.1 (w 350) k = 0) → (∀ (M' : mj_M) (cb sb : Nat), ro_D w m s M0 (fun _ => -1) (fun _ => 0) M' → wz d mt_X12_rounds.2.2.2.2.1 Q (mt_X12_rounds.2.2.2.2.1.drop 48) [some (.inr (.inr (some m))), some (.inl st), some (.inl 12), none, none, none, none, none, none] [] G M' cb sb) → wz d mt_X12_rounds.2.2.2.2.1 Q (mt_X12_rounds.2.2.2.2.1.drop 29) [some (.inr (.inr (some m))), some (.inl st), some (.inl i), none, none, none, none, none, none] [] G M cb sb := by
  have b0 := hr.1.1
  have ns : ro_nr w m s := ⟨hn_ne gs gm (by decide), hn_ne gs ga.2.2.2.2.1 (by decide), hn_ne gs ga.2.2.2.2.2 (by decide)⟩
  intro n
  induction n with
  | zero =>
    intro i M cb sb e i0 h2 hn hj h9 hk h
    obtain rfl : i = 12 := by omega
    refine w_iln rfl ?_
    refine w_bp ?_
    refine w_cmge (fun c1 => ?_) (fun c1 => ?_)
    · skip
      refine w_aln rfl ?_
      refine w_ic ?_
      refine w_pi gm rfl (by decide) rfl (fun _ => by omega) ?_
      refine w_aln rfl ?_
      refine w_aln rfl ?_
      refine w_gr gm rfl (by decide) rfl ((congrArg (fun z => z.2 m 6) h2).trans m6) ?_
      refine w_ic ?_
      refine w_iald (v := (M0.1 s 0)) gs rfl (by show (0 : Int) ≤ 0; omega) (by show 0 < ((537 : Nat) : Int); omega) ((hn_n (Or.inl (hn_ne gs gm (by decide)))).trans (by rw [hn s ns]; exact congrArg (M0.1 s) (by show (0 : Int).toNat = 0; omega))) ?_
      refine w_pi gm rfl (by decide) rfl (fun q => by cases q) ?_
      exact h _ _ _ ⟨h2, fun a q => (wz_c q.1).trans ((wz_c q.1).trans (hn a q)), fun k hk8 => (hn_n (Or.inl (hn_ne ga.2.2.2.2.1 gm (by decide)))).trans ((hn_n (Or.inl (hn_ne ga.2.2.2.2.1 gm (by decide)))).trans (h9 k hk8)), fun k hk8 => (hn_n (Or.inl (hn_ne ga.2.2.2.2.2 gm (by decide)))).trans ((hn_n (Or.inl (hn_ne ga.2.2.2.2.2 gm (by decide)))).trans (hk k (by omega))), fun j j0 j1 j2 => (hn_n (Or.inr j1)).trans ((hn_n (Or.inr j2)).trans (hj j j0)), hn_s, (hn_n (Or.inr (by decide))).trans hn_s⟩
    · exfalso; omega
  | succ n ih =>
    intro i M cb sb e i0 h2 hn hj h9 hk h
    refine w_iln rfl ?_
    refine w_bp ?_
    refine w_cmge (fun c1 => ?_) (fun c1 => ?_)
    · exfalso; omega
    · skip
      refine w_aln rfl ?_
      refine w_gr gm rfl (by decide) rfl ((congrArg (fun z => z.2 m 42) h2).trans gb.2.2.2.2.2) ?_
      refine w_iln rfl ?_
      refine w_ic ?_
      refine w_iast ga.2.2.2.2.2 rfl (by decide) (by show (0 : Int) ≤ i; omega) (by show i < ((12 : Nat) : Int); omega) ?_
      refine w_ii rfl ⟨by show (-2147483648 : Int) ≤ i + 1; omega, by show i + 1 < (2147483648 : Int); omega⟩ ?_
      show wz _ _ _ _ [some (.inr (.inr (some m))), some (.inl st), some (.inl (i + 1)), none, none, none, none, none, none] _ _ _ _ _
      refine w_goto ?_
      exact ih (i + 1) _ _ _ (by omega) (by omega) h2 (fun a q => (wz_c q.2.2).trans (hn a q)) (fun j q => (hn_n (Or.inl (hn_ne gm ga.2.2.2.2.2 (by decide)))).trans (hj j q)) (fun k hk8 => (hn_n (Or.inl (hn_ne ga.2.2.2.2.1 ga.2.2.2.2.2 (by decide)))).trans (h9 k hk8)) (fun k hk1 => by
        by_cases e5 : k = i.toNat
        · rw [e5]; exact hn_s
        · exact (hn_n (Or.inr e5)).trans (hk k (by omega))) h
theorem r_X12_rounds {G : mj_G} {M0 : mj_M} {x m s : Nat} {w : Nat → Nat} {Q : mj_P} {d : Nat} (ga : ro_GA G w) (gb : ro_GB M0 w x m) (gm : G m = (1012, 0)) (gs : G s = (51100, 537)) (m6 : M0.2.2 m 6 = some s) (hr : rv_r6 (M0.1 s) 0) {z1 : Int} (hz1 : mj_in z1) (h0 : ¬ ((1 ≤ z1 ∧ z1 ≤ 99) ∧ M0.1 s 0 ≠ 0) → Q (some (.inl (-1))) G (mj_p0 M0 m 0 0)) (h1 : (1 ≤ z1 ∧ z1 ≤ 99) ∧ M0.1 s 0 ≠ 0 → ∀ M', ro_D w m s M0 (ro_rs (M0.1 s) (M0.1 s 0).toNat z1 1000 0 (fun _ => -1) (fun _ => 0)).2.1 (ro_rs (M0.1 s) (M0.1 s 0).toNat z1 1000 0 (fun _ => -1) (fun _ => 0)).2.2 M' → ro_I (M0.1 s 0).toNat (ro_rs (M0.1 s) (M0.1 s 0).toNat z1 1000 0 (fun _ => -1) (fun _ => 0)).2.1 (ro_rs (M0.1 s) (M0.1 s 0).toNat z1 1000 0 (fun _ => -1) (fun _ => 0)).2.2 → Q (some (.inl (ro_rs (M0.1 s) (M0.1 s 0).toNat z1 1000 0 (fun _ => -1) (fun _ => 0)).1)) G M') : mj_R mj_tab (d + 2) 236 [.inr (.inr (some m)), .inl z1] G M0 Q := by
  have b0 := hr.1.1
  have ns : ro_nr w m s := ⟨hn_ne gs gm (by decide), hn_ne gs ga.2.2.2.2.1 (by decide), hn_ne gs ga.2.2.2.2.2 (by decide)⟩
  have bz1 : (-2147483648 : Int) ≤ z1 ∧ z1 < 2147483648 := hz1
  have h2 : M0.2 = M0.2 := rfl
  refine ⟨Nat.le_of_ble_eq_true rfl, ?_⟩
  show wz (d + 1) mt_X12_rounds.2.2.2.2.1 Q mt_X12_rounds.2.2.2.2.1 [some (.inr (.inr (some m))), some (.inl z1), none, none, none, none, none, none, none] [] G M0 _ _
  refine w_aln rfl ?_
  refine w_ic ?_
  refine w_pi gm rfl (by decide) rfl (fun q => by cases q) ?_
  refine w_iln rfl ?_
  refine w_ic ?_
  refine w_bp ?_
  refine w_cs (st := []) rfl (Nat.le_of_ble_eq_true rfl) (fun kk h => h) ⟨Nat.le_of_ble_eq_true rfl, ?_⟩
  show wz (d) mt_X12_isIn.2.2.2.2.1 _ mt_X12_isIn.2.2.2.2.1 [some (.inl z1), some (.inl 1), some (.inl 99)] [] _ _ _ _
  refine w_iln rfl ?_
  refine w_iln rfl ?_
  refine w_cmlt (fun c1 => ?_) (fun c1 => ?_)
  · skip
    refine w_ic ?_
    refine w_iret (fun _ => Or.inl rfl) ?_
    refine w_ifeq (fun c2 => ?_) (fun c2 => ?_)
    · skip
      refine w_ic ?_
      exact w_iret (fun q => by cases q) (h0 (by omega))
    · exfalso; omega
  · skip
    refine w_iln rfl ?_
    refine w_iln rfl ?_
    refine w_cmgt (fun c3 => ?_) (fun c3 => ?_)
    · skip
      refine w_ic ?_
      refine w_iret (fun _ => Or.inl rfl) ?_
      refine w_ifeq (fun c4 => ?_) (fun c4 => ?_)
      · skip
        refine w_ic ?_
        exact w_iret (fun q => by cases q) (h0 (by omega))
      · exfalso; omega
    · skip
      refine w_ic ?_
      refine w_goto ?_
      refine w_iret (fun _ => Or.inr rfl) ?_
      refine w_ifeq (fun c5 => ?_) (fun c5 => ?_)
      · exfalso; omega
      · skip
        refine w_aln rfl ?_
        refine w_gr gm rfl (by decide) rfl (m6) ?_
        refine w_ic ?_
        refine w_iald (v := (M0.1 s 0)) gs rfl (by show (0 : Int) ≤ 0; omega) (by show 0 < ((537 : Nat) : Int); omega) ((hn_n (Or.inl (hn_ne gs gm (by decide)))).trans (congrArg (M0.1 s) (by show (0 : Int).toNat = 0; omega))) ?_
        refine w_ifne (fun c6 => ?_) (fun c6 => ?_)
        · skip
          refine w_ic ?_
          refine w_isn ?_
          show wz _ _ _ _ [some (.inr (.inr (some m))), some (.inl z1), some (.inl 0), none, none, none, none, none, none] _ _ _ _ _
          refine r_in1 (d := d + 1) ga gb gm gs m6 hr (st := z1) 8 0 _ _ _ rfl (by decide) rfl (fun a q => wz_c q.1) (fun j q => hn_n (Or.inr q)) (fun k hk => by omega) (fun M1 cb sb h2 hn hj h9 => ?_)
          refine w_ic ?_
          refine w_isn ?_
          refine r_in2 (d := d + 1) ga gb gm gs m6 hr (st := z1) 12 0 M1 _ _ rfl (by decide) h2 hn hj h9 (fun k hk => by omega) (fun M2 cb sb hD => ?_)
          refine w_ic ?_
          refine w_isn ?_
          refine w_ic ?_
          refine w_isn ?_
          exact r_rr2 (d := d) ga gb gm gs m6 hr (T := (M0.1 s 0).toNat) (by omega) (by omega) (by omega) 1000 0 1 (fun _ => -1) (fun _ => 0) M2 none none none none none _ _ rfl (by decide) (by decide) hD (ro_I0 _) (h1 ⟨⟨by omega, by omega⟩, by omega⟩)
        · skip
          refine w_ic ?_
          exact w_iret (fun q => by cases q) (h0 (by omega))
