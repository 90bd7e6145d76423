section
/-! ===== the reference's next (laid by a program) ===== -/
theorem rv_nl_1 {B : Nat → Int} {q : Nat} (h : rv_le (B q) = true) : ∀ k, 1 ≤ k → 1 ≤ rv_nl B q k
  | 0, g => absurd g (by decide)
  | 1, _ => by rw [rv_nl_s (k := 0) h]; omega
  | k + 2, _ => by
    have := rv_nl_1 h (k + 1) (by omega)
    show 1 ≤ rv_nl B q (k + 1) + _
    omega
theorem rv_nl_0 {B : Nat → Int} {q : Nat} (h : rv_le (B q) = false) : ∀ k, 1 ≤ k → rv_nl B q k < k
  | 0, g => absurd g (by decide)
  | 1, _ => by rw [rv_nl_n (k := 0) h]; exact Nat.zero_lt_one
  | k + 2, _ => by
    have := rv_nl_0 h (k + 1) (by omega)
    show rv_nl B q (k + 1) + (if _ then 1 else 0) < k + 2
    split <;> omega
/-- what next leaves of a run of k bytes from q on -/
def rv_nr (B : Nat → Int) (m q k : Nat) (M' : mj_M) : Prop := (rv_nl B q k = k ∧ k ≤ 8 ∧ M'.1 m 11 = 1 ∧ M'.2.1 m 17 = rv_w8 B q k) ∨ (¬ (rv_nl B q k = k ∧ k ≤ 8) ∧ rv_nl B q k = 0 ∧ k ≤ 3 ∧ M'.1 m 11 = 2 ∧ rv_nk B q k (M'.1 m 14)) ∨ (¬ (rv_nl B q k = k ∧ k ≤ 8) ∧ ¬ (rv_nl B q k = 0 ∧ k ≤ 3) ∧ M'.1 m 11 = 4)
/-- what next leaves, the blanks ending at q -/
def rv_nx (B : Nat → Int) (n lim m q : Nat) (M M' : mj_M) : Prop := rv_o m [4, 11, 12, 13, 14] M M' ∧ (∀ a j, ¬ (a = m ∧ j = 17) → M'.2.1 a j = M.2.1 a j) ∧ M'.2.2 = M.2.2 ∧
  ((lim < n ∧ lim ≤ q ∧ M'.1 m 11 = 4 ∧ M'.1 m 12 = (lim : Int)) ∨ (¬ (lim < n ∧ lim ≤ q) ∧ M'.1 m 12 = (q : Int) ∧ ((n ≤ q ∧ M'.1 m 11 = 0) ∨ (q < n ∧ ¬ rv_an (B q) = true ∧ M'.1 m 14 = B q ∧ M'.1 m 4 = ((q + 1 : Nat) : Int) ∧ ((M'.1 m 11 = 3 ∧ (B q = 59 ∨ B q = 40 ∨ B q = 41 ∨ (60 ≤ B q ∧ B q ≤ 62))) ∨ (M'.1 m 11 = 4 ∧ ¬ (B q = 59 ∨ B q = 40 ∨ B q = 41 ∨ (60 ≤ B q ∧ B q ≤ 62))))) ∨ (q < n ∧ rv_an (B q) = true ∧ ∃ k, 1 ≤ k ∧ rv_rn B n (n - q) q = q + k ∧ q + k ≤ n ∧ M'.1 m 4 = ((q + k : Nat) : Int) ∧ rv_nr B m q k M'))))
theorem r_X12_next {d m br n lim p : Nat} {B : Nat → Int} {G : mj_G} {M : mj_M} {Q : mj_P} (hm : G m = (1012, 0)) (hb : G br = (50101, 940)) (hn : n ≤ 940) (f1 : M.2.2 m 1 = some br) (fs : M.1 m 3 = (n : Int)) (fm : M.1 m 5 = (lim : Int)) (fh : M.1 m 4 = (p : Int)) (fb : ∀ k, rv_u8 (M.1 br k) = B k) (hQ : ∀ M', rv_nx B n lim m (rv_sk B n (n - p) p) M M' → Q none G M') : mj_R mj_tab (d + 2) 216 [.inr (.inr (some m))] G M Q := by
  have ne : br ≠ m := hn_ne hb hm (by decide)
  refine ⟨Nat.le_of_ble_eq_true rfl, ?_⟩
  show wz (d + 1) mt_X12_next.2.2.2.2.1 Q mt_X12_next.2.2.2.2.1 [some (.inr (.inr (some m))), none, none, none] [] G M _ _
  refine r_nxt1 (B := B) hm hb hn (n - p) p M _ _ (by omega) f1 fs fh fb (fun M1 g1 g2 g3 => ?_)
  generalize hq : rv_sk B n (n - p) p = q at *
  have g22 : M1.2.2 = M.2.2 := by rw [g3]
  have g21 : ∀ a j, M1.2.1 a j = M.2.1 a j := fun a j => by rw [g3]
  have f11 : M1.2.2 m 1 = some br := by rw [g22]; exact f1
  have fs1 : M1.1 m 3 = (n : Int) := (g2 m 3 (by rintro ⟨-, h⟩; revert h; decide)).trans fs
  have fm1 : M1.1 m 5 = (lim : Int) := (g2 m 5 (by rintro ⟨-, h⟩; revert h; decide)).trans fm
  have fb1 : ∀ k, rv_u8 (M1.1 br k) = B k := fun k => by rw [g2 br k (fun h => ne h.1)]; exact fb k
  have ub := rv_u8_in (M1.1 br q)
  rw [fb1 q] at ub
  have o1 : rv_o m [4, 11, 12, 13, 14] M M1 := g2.up (by decide)
  refine w_aln rfl ?_
  refine w_aln rfl ?_
  refine w_gi hm rfl (by decide) rfl (g1) ?_
  refine w_pi hm rfl (by decide) rfl (fun q => by cases q) ?_
  refine w_aln rfl ?_
  refine w_ic ?_
  refine w_pi hm rfl (by decide) rfl (fun q => by cases q) ?_
  refine w_aln rfl ?_
  refine w_gi hm rfl (by decide) rfl ((hn_n (Or.inr (by decide))).trans ((hn_n (Or.inr (by decide))).trans (fs1))) ?_
  refine w_aln rfl ?_
  refine w_gi hm rfl (by decide) rfl ((hn_n (Or.inr (by decide))).trans ((hn_n (Or.inr (by decide))).trans (fm1))) ?_
  refine w_cmle (fun c1 => ?_) (fun c1 => ?_)
  · skip
    refine w_aln rfl ?_
    refine w_cv (st := []) rfl hm rfl (Nat.le_of_ble_eq_true rfl) (fun kk h => h) (r_X12_peek (d := d) (p := q) (B := B) hm hb hn f11 ((hn_n (Or.inr (by decide))).trans ((hn_n (Or.inr (by decide))).trans (fs1))) ((hn_n (Or.inr (by decide))).trans ((hn_n (Or.inr (by decide))).trans (g1))) (fun j => Eq.trans (congrArg rv_u8 ((hn_n (Or.inl ne)).trans ((hn_n (Or.inl ne))))) (fb1 j)) (fun ci => ?_) (fun ci => ?_))
    · skip
      refine w_isn ?_
      refine w_iln rfl ?_
      refine w_ifge (fun c2 => ?_) (fun c2 => ?_)
      · skip
        refine w_iln rfl ?_
        refine w_cs (st := []) rfl (Nat.le_of_ble_eq_true rfl) (fun kk h => h) (r_X12_isSmall (d := d) (fun l1 l2 => ?_) (fun l0 => ?_))
        · skip
          refine w_ifne (fun c3 => ?_) (fun c3 => ?_)
          · skip
            refine w_iln rfl ?_
            refine w_cs (st := []) rfl (Nat.le_of_ble_eq_true rfl) (fun kk h => h) (r_X12_isSmall (d := d) (fun a b => ?_) (fun a => by exfalso; omega))
            · skip
              refine w_isn ?_
              refine w_ic ?_
              refine w_isn ?_
              refine w_aln rfl ?_
              refine w_lc ?_
              refine w_pl hm rfl (by decide) rfl ?_
              refine w_aln rfl ?_
              refine w_ic ?_
              refine w_pi hm rfl (by decide) rfl (fun q => by cases q) ?_
              have cq : q < n := by omega
              refine r_nxt2 (q := q) (B := B) hm hb hn (n - q) 0 1 _ _ _ (by omega) (by omega) f11 ((hn_n (Or.inr (by decide))).trans ((hn_n (Or.inr (by decide))).trans ((hn_n (Or.inr (by decide))).trans (fs1)))) ((hn_n (Or.inr (by decide))).trans ((hn_n (Or.inr (by decide))).trans ((hn_n (Or.inr (by decide))).trans (g1)))) ((hn_n (Or.inr (by decide))).trans (hn_s)) ⟨Or.inr rfl, by decide, fun _ _ => rfl, fun _ h => absurd h (by decide), fun _ _ => rfl, fun _ h => absurd h (by decide)⟩ (fun _ => wz_sl) (fun _ _ => ⟨hn_s, Int.le_of_eq (hn_s).symm, fun _ => Int.le_of_eq (hn_s), fun _ => by rw [show _ = (0 : Int) from hn_s]; decide, fun _ => by rw [show _ = (0 : Int) from hn_s]; decide, by rw [show _ = (0 : Int) from hn_s]; decide⟩) (fun j => Eq.trans (congrArg rv_u8 ((hn_n (Or.inl ne)).trans ((hn_n (Or.inl ne)).trans ((hn_n (Or.inl ne)))))) (fb1 j)) (fun k al M2 r0 rn r4 r13 ra rw rnk ro r22 r21 => ?_)
              have k1 : 1 ≤ k := by
                have h1 : rv_rn B n (n - q) q = rv_rn B n (n - q - 1) (q + 1) := by
                  rw [show n - q = (n - q - 1) + 1 by omega]; exact if_pos ⟨cq, rv_an_l l1 l2⟩
                have h2 := rv_rn_ge B n (n - q - 1) (q + 1)
                have h3 : rv_rn B n (n - q) q = q + k := r0
                omega
              have hle := rv_nl_1 (rv_le_t l1 l2) k k1
              have hl := rv_nl_le B q k
              obtain ⟨a1, a2, a3, a4, a5, a6⟩ := ra
              have o2 := rv_o.tr (rv_o.tr (rv_o.tr (rv_o.tr o1 (rv_o.st (a := m) (j := 12) (by decide))) (rv_o.st (a := m) (j := 13) (by decide))) (rv_o.st (a := m) (j := 14) (by decide))) (ro.up (by decide))
              have l2x : ∀ a j, ¬ (a = m ∧ j = 17) → M2.2.1 a j = M.2.1 a j := fun a j g => (r21 a j g).trans ((wz_nl (Decidable.not_and_iff_or_not.mp g)).trans (g21 a j))
              have r12 : M2.1 m 12 = (q : Int) := (ro m 12 (by rintro ⟨-, h⟩; revert h; decide)).trans ((hn_n (Or.inr (by decide))).trans ((hn_n (Or.inr (by decide))).trans (hn_s)))
              refine w_aln rfl ?_
              refine w_iln rfl ?_
              refine w_ifeq (fun c101 => ?_) (fun c101 => ?_)
              · skip
                refine w_ic ?_
                refine w_goto ?_
                refine w_pi hm rfl (by decide) rfl (fun q => by cases q) ?_
                exact w_ret (hQ _ ⟨(rv_o.tr o2 (rv_o.st (a := m) (j := 11) (by decide))), l2x, r22.trans g22, Or.inr ⟨by omega, (hn_n (Or.inr (by decide))).trans (r12), Or.inr (Or.inr ⟨cq, rv_an_l l1 l2, k, k1, r0, rn, (hn_n (Or.inr (by decide))).trans (r4), Or.inr (Or.inr ⟨by omega, by omega, hn_s⟩)⟩)⟩⟩)
              · skip
                refine w_aln rfl ?_
                refine w_gi hm rfl (by decide) rfl (r13) ?_
                refine w_iln rfl ?_
                refine w_ifeq (fun c102 => ?_) (fun c102 => ?_)
                · exfalso; omega
                · skip
                  refine w_bp ?_
                  refine w_goto ?_
                  refine w_cmle (fun c103 => ?_) (fun c103 => ?_)
                  · skip
                    refine w_iln rfl ?_
                    refine w_ifeq (fun c104 => ?_) (fun c104 => ?_)
                    · exfalso; omega
                    · skip
                      refine w_ic ?_
                      refine w_goto ?_
                      refine w_pi hm rfl (by decide) rfl (fun q => by cases q) ?_
                      exact w_ret (hQ _ ⟨(rv_o.tr o2 (rv_o.st (a := m) (j := 11) (by decide))), l2x, r22.trans g22, Or.inr ⟨by omega, (hn_n (Or.inr (by decide))).trans (r12), Or.inr (Or.inr ⟨cq, rv_an_l l1 l2, k, k1, r0, rn, (hn_n (Or.inr (by decide))).trans (r4), Or.inl ⟨by omega, by omega, hn_s, rw (by omega)⟩⟩)⟩⟩)
                  · skip
                    refine w_ic ?_
                    refine w_goto ?_
                    refine w_pi hm rfl (by decide) rfl (fun q => by cases q) ?_
                    exact w_ret (hQ _ ⟨(rv_o.tr o2 (rv_o.st (a := m) (j := 11) (by decide))), l2x, r22.trans g22, Or.inr ⟨by omega, (hn_n (Or.inr (by decide))).trans (r12), Or.inr (Or.inr ⟨cq, rv_an_l l1 l2, k, k1, r0, rn, (hn_n (Or.inr (by decide))).trans (r4), Or.inr (Or.inr ⟨by omega, by omega, hn_s⟩)⟩)⟩⟩)
          · exfalso; omega
        · skip
          refine w_ifne (fun c4 => ?_) (fun c4 => ?_)
          · exfalso; omega
          · skip
            refine w_iln rfl ?_
            refine w_cs (st := []) rfl (Nat.le_of_ble_eq_true rfl) (fun kk h => h) (r_X12_isDigit (d := d) (fun d1 d2 => ?_) (fun d0 => ?_))
            · skip
              refine w_ifne (fun c5 => ?_) (fun c5 => ?_)
              · skip
                refine w_iln rfl ?_
                refine w_cs (st := []) rfl (Nat.le_of_ble_eq_true rfl) (fun kk h => h) (r_X12_isSmall (d := d) (fun a b => by exfalso; omega) (fun a => ?_))
                · skip
                  refine w_isn ?_
                  refine w_ic ?_
                  refine w_isn ?_
                  refine w_aln rfl ?_
                  refine w_lc ?_
                  refine w_pl hm rfl (by decide) rfl ?_
                  refine w_aln rfl ?_
                  refine w_ic ?_
                  refine w_pi hm rfl (by decide) rfl (fun q => by cases q) ?_
                  have cq : q < n := by omega
                  refine r_nxt2 (q := q) (B := B) hm hb hn (n - q) 0 1 _ _ _ (by omega) (by omega) f11 ((hn_n (Or.inr (by decide))).trans ((hn_n (Or.inr (by decide))).trans ((hn_n (Or.inr (by decide))).trans (fs1)))) ((hn_n (Or.inr (by decide))).trans ((hn_n (Or.inr (by decide))).trans ((hn_n (Or.inr (by decide))).trans (g1)))) ((hn_n (Or.inr (by decide))).trans (hn_s)) ⟨Or.inr rfl, by decide, fun _ _ => rfl, fun _ h => absurd h (by decide), fun _ _ => rfl, fun _ h => absurd h (by decide)⟩ (fun _ => wz_sl) (fun _ _ => ⟨hn_s, Int.le_of_eq (hn_s).symm, fun _ => Int.le_of_eq (hn_s), fun _ => by rw [show _ = (0 : Int) from hn_s]; decide, fun _ => by rw [show _ = (0 : Int) from hn_s]; decide, by rw [show _ = (0 : Int) from hn_s]; decide⟩) (fun j => Eq.trans (congrArg rv_u8 ((hn_n (Or.inl ne)).trans ((hn_n (Or.inl ne)).trans ((hn_n (Or.inl ne)))))) (fb1 j)) (fun k al M2 r0 rn r4 r13 ra rw rnk ro r22 r21 => ?_)
                  have k1 : 1 ≤ k := by
                    have h1 : rv_rn B n (n - q) q = rv_rn B n (n - q - 1) (q + 1) := by
                      rw [show n - q = (n - q - 1) + 1 by omega]; exact if_pos ⟨cq, rv_an_d d1 d2⟩
                    have h2 := rv_rn_ge B n (n - q - 1) (q + 1)
                    have h3 : rv_rn B n (n - q) q = q + k := r0
                    omega
                  have hle := rv_nl_0 (rv_le_f l0) k k1
                  have hl := rv_nl_le B q k
                  obtain ⟨a1, a2, a3, a4, a5, a6⟩ := ra
                  have o2 := rv_o.tr (rv_o.tr (rv_o.tr (rv_o.tr o1 (rv_o.st (a := m) (j := 12) (by decide))) (rv_o.st (a := m) (j := 13) (by decide))) (rv_o.st (a := m) (j := 14) (by decide))) (ro.up (by decide))
                  have l2x : ∀ a j, ¬ (a = m ∧ j = 17) → M2.2.1 a j = M.2.1 a j := fun a j g => (r21 a j g).trans ((wz_nl (Decidable.not_and_iff_or_not.mp g)).trans (g21 a j))
                  have r12 : M2.1 m 12 = (q : Int) := (ro m 12 (by rintro ⟨-, h⟩; revert h; decide)).trans ((hn_n (Or.inr (by decide))).trans ((hn_n (Or.inr (by decide))).trans (hn_s)))
                  refine w_aln rfl ?_
                  refine w_iln rfl ?_
                  refine w_ifeq (fun c101 => ?_) (fun c101 => ?_)
                  · skip
                    refine w_ic ?_
                    refine w_goto ?_
                    refine w_pi hm rfl (by decide) rfl (fun q => by cases q) ?_
                    exact w_ret (hQ _ ⟨(rv_o.tr o2 (rv_o.st (a := m) (j := 11) (by decide))), l2x, r22.trans g22, Or.inr ⟨by omega, (hn_n (Or.inr (by decide))).trans (r12), Or.inr (Or.inr ⟨cq, rv_an_d d1 d2, k, k1, r0, rn, (hn_n (Or.inr (by decide))).trans (r4), Or.inr (Or.inr ⟨by omega, by omega, hn_s⟩)⟩)⟩⟩)
                  · skip
                    refine w_aln rfl ?_
                    refine w_gi hm rfl (by decide) rfl (r13) ?_
                    refine w_iln rfl ?_
                    refine w_ifeq (fun c102 => ?_) (fun c102 => ?_)
                    · skip
                      refine w_ic ?_
                      refine w_cmle (fun c103 => ?_) (fun c103 => ?_)
                      · skip
                        refine w_iln rfl ?_
                        refine w_ifeq (fun c104 => ?_) (fun c104 => ?_)
                        · skip
                          refine w_ic ?_
                          refine w_pi hm rfl (by decide) rfl (fun q => by cases q) ?_
                          exact w_ret (hQ _ ⟨(rv_o.tr o2 (rv_o.st (a := m) (j := 11) (by decide))), l2x, r22.trans g22, Or.inr ⟨by omega, (hn_n (Or.inr (by decide))).trans (r12), Or.inr (Or.inr ⟨cq, rv_an_d d1 d2, k, k1, r0, rn, (hn_n (Or.inr (by decide))).trans (r4), Or.inr (Or.inl ⟨by omega, by omega, by omega, hn_s, by rw [show (mj_p0 M2 m 11 2).1 m 14 = M2.1 m 14 from hn_n (Or.inr (by decide))]; exact rnk (by omega) (by omega)⟩)⟩)⟩⟩)
                        · exfalso; omega
                      · skip
                        refine w_ic ?_
                        refine w_goto ?_
                        refine w_pi hm rfl (by decide) rfl (fun q => by cases q) ?_
                        exact w_ret (hQ _ ⟨(rv_o.tr o2 (rv_o.st (a := m) (j := 11) (by decide))), l2x, r22.trans g22, Or.inr ⟨by omega, (hn_n (Or.inr (by decide))).trans (r12), Or.inr (Or.inr ⟨cq, rv_an_d d1 d2, k, k1, r0, rn, (hn_n (Or.inr (by decide))).trans (r4), Or.inr (Or.inr ⟨by omega, by omega, hn_s⟩)⟩)⟩⟩)
                    · exfalso; omega
              · exfalso; omega
            · skip
              refine w_ifne (fun c6 => ?_) (fun c6 => ?_)
              · exfalso; omega
              · skip
                refine w_aln rfl ?_
                refine w_iln rfl ?_
                refine w_bp ?_
                refine w_cmeq (fun c7 => ?_) (fun c7 => ?_)
                · skip
                  refine w_ic ?_
                  refine w_goto ?_
                  refine w_pi hm rfl (by decide) rfl (fun q => by cases q) ?_
                  refine w_aln rfl ?_
                  refine w_iln rfl ?_
                  refine w_pi hm rfl (by decide) rfl (fun q => by cases q) ?_
                  refine w_aln rfl ?_
                  refine w_dupr ?_
                  refine w_gi hm rfl (by decide) rfl ((hn_n (Or.inr (by decide))).trans ((hn_n (Or.inr (by decide))).trans ((hn_n (Or.inr (by decide))).trans ((hn_n (Or.inr (by decide))).trans (g1))))) ?_
                  refine w_ic ?_
                  refine w_add ⟨by show (-2147483648 : Int) ≤ (q : Int) + 1; omega, by show (q : Int) + 1 < (2147483648 : Int); omega⟩ ?_
                  refine w_pi hm rfl (by decide) rfl (fun q => by cases q) ?_
                  exact w_ret (hQ _ ⟨(rv_o.tr (rv_o.tr (rv_o.tr (rv_o.tr (rv_o.tr o1 (rv_o.st (a := m) (j := 12) (by decide))) (rv_o.st (a := m) (j := 13) (by decide))) (rv_o.st (a := m) (j := 11) (by decide))) (rv_o.st (a := m) (j := 14) (by decide))) (rv_o.st (a := m) (j := 4) (by decide))), fun a j _ => g21 a j, g22, Or.inr ⟨by omega, (hn_n (Or.inr (by decide))).trans ((hn_n (Or.inr (by decide))).trans ((hn_n (Or.inr (by decide))).trans ((hn_n (Or.inr (by decide))).trans (hn_s)))), Or.inr (Or.inl ⟨by omega, rv_an_n l0 d0, (hn_n (Or.inr (by decide))).trans (hn_s), (hn_s).trans (by omega), Or.inl ⟨(hn_n (Or.inr (by decide))).trans ((hn_n (Or.inr (by decide))).trans (hn_s)), by omega⟩⟩)⟩⟩)
                · skip
                  refine w_iln rfl ?_
                  refine w_bp ?_
                  refine w_cmeq (fun c8 => ?_) (fun c8 => ?_)
                  · skip
                    refine w_ic ?_
                    refine w_goto ?_
                    refine w_pi hm rfl (by decide) rfl (fun q => by cases q) ?_
                    refine w_aln rfl ?_
                    refine w_iln rfl ?_
                    refine w_pi hm rfl (by decide) rfl (fun q => by cases q) ?_
                    refine w_aln rfl ?_
                    refine w_dupr ?_
                    refine w_gi hm rfl (by decide) rfl ((hn_n (Or.inr (by decide))).trans ((hn_n (Or.inr (by decide))).trans ((hn_n (Or.inr (by decide))).trans ((hn_n (Or.inr (by decide))).trans (g1))))) ?_
                    refine w_ic ?_
                    refine w_add ⟨by show (-2147483648 : Int) ≤ (q : Int) + 1; omega, by show (q : Int) + 1 < (2147483648 : Int); omega⟩ ?_
                    refine w_pi hm rfl (by decide) rfl (fun q => by cases q) ?_
                    exact w_ret (hQ _ ⟨(rv_o.tr (rv_o.tr (rv_o.tr (rv_o.tr (rv_o.tr o1 (rv_o.st (a := m) (j := 12) (by decide))) (rv_o.st (a := m) (j := 13) (by decide))) (rv_o.st (a := m) (j := 11) (by decide))) (rv_o.st (a := m) (j := 14) (by decide))) (rv_o.st (a := m) (j := 4) (by decide))), fun a j _ => g21 a j, g22, Or.inr ⟨by omega, (hn_n (Or.inr (by decide))).trans ((hn_n (Or.inr (by decide))).trans ((hn_n (Or.inr (by decide))).trans ((hn_n (Or.inr (by decide))).trans (hn_s)))), Or.inr (Or.inl ⟨by omega, rv_an_n l0 d0, (hn_n (Or.inr (by decide))).trans (hn_s), (hn_s).trans (by omega), Or.inl ⟨(hn_n (Or.inr (by decide))).trans ((hn_n (Or.inr (by decide))).trans (hn_s)), by omega⟩⟩)⟩⟩)
                  · skip
                    refine w_iln rfl ?_
                    refine w_bp ?_
                    refine w_cmeq (fun c9 => ?_) (fun c9 => ?_)
                    · skip
                      refine w_ic ?_
                      refine w_goto ?_
                      refine w_pi hm rfl (by decide) rfl (fun q => by cases q) ?_
                      refine w_aln rfl ?_
                      refine w_iln rfl ?_
                      refine w_pi hm rfl (by decide) rfl (fun q => by cases q) ?_
                      refine w_aln rfl ?_
                      refine w_dupr ?_
                      refine w_gi hm rfl (by decide) rfl ((hn_n (Or.inr (by decide))).trans ((hn_n (Or.inr (by decide))).trans ((hn_n (Or.inr (by decide))).trans ((hn_n (Or.inr (by decide))).trans (g1))))) ?_
                      refine w_ic ?_
                      refine w_add ⟨by show (-2147483648 : Int) ≤ (q : Int) + 1; omega, by show (q : Int) + 1 < (2147483648 : Int); omega⟩ ?_
                      refine w_pi hm rfl (by decide) rfl (fun q => by cases q) ?_
                      exact w_ret (hQ _ ⟨(rv_o.tr (rv_o.tr (rv_o.tr (rv_o.tr (rv_o.tr o1 (rv_o.st (a := m) (j := 12) (by decide))) (rv_o.st (a := m) (j := 13) (by decide))) (rv_o.st (a := m) (j := 11) (by decide))) (rv_o.st (a := m) (j := 14) (by decide))) (rv_o.st (a := m) (j := 4) (by decide))), fun a j _ => g21 a j, g22, Or.inr ⟨by omega, (hn_n (Or.inr (by decide))).trans ((hn_n (Or.inr (by decide))).trans ((hn_n (Or.inr (by decide))).trans ((hn_n (Or.inr (by decide))).trans (hn_s)))), Or.inr (Or.inl ⟨by omega, rv_an_n l0 d0, (hn_n (Or.inr (by decide))).trans (hn_s), (hn_s).trans (by omega), Or.inl ⟨(hn_n (Or.inr (by decide))).trans ((hn_n (Or.inr (by decide))).trans (hn_s)), by omega⟩⟩)⟩⟩)
                    · skip
                      refine w_iln rfl ?_
                      refine w_bp ?_
                      refine w_cmlt (fun c10 => ?_) (fun c10 => ?_)
                      · skip
                        refine w_ic ?_
                        refine w_pi hm rfl (by decide) rfl (fun q => by cases q) ?_
                        refine w_aln rfl ?_
                        refine w_iln rfl ?_
                        refine w_pi hm rfl (by decide) rfl (fun q => by cases q) ?_
                        refine w_aln rfl ?_
                        refine w_dupr ?_
                        refine w_gi hm rfl (by decide) rfl ((hn_n (Or.inr (by decide))).trans ((hn_n (Or.inr (by decide))).trans ((hn_n (Or.inr (by decide))).trans ((hn_n (Or.inr (by decide))).trans (g1))))) ?_
                        refine w_ic ?_
                        refine w_add ⟨by show (-2147483648 : Int) ≤ (q : Int) + 1; omega, by show (q : Int) + 1 < (2147483648 : Int); omega⟩ ?_
                        refine w_pi hm rfl (by decide) rfl (fun q => by cases q) ?_
                        exact w_ret (hQ _ ⟨(rv_o.tr (rv_o.tr (rv_o.tr (rv_o.tr (rv_o.tr o1 (rv_o.st (a := m) (j := 12) (by decide))) (rv_o.st (a := m) (j := 13) (by decide))) (rv_o.st (a := m) (j := 11) (by decide))) (rv_o.st (a := m) (j := 14) (by decide))) (rv_o.st (a := m) (j := 4) (by decide))), fun a j _ => g21 a j, g22, Or.inr ⟨by omega, (hn_n (Or.inr (by decide))).trans ((hn_n (Or.inr (by decide))).trans ((hn_n (Or.inr (by decide))).trans ((hn_n (Or.inr (by decide))).trans (hn_s)))), Or.inr (Or.inl ⟨by omega, rv_an_n l0 d0, (hn_n (Or.inr (by decide))).trans (hn_s), (hn_s).trans (by omega), Or.inr ⟨(hn_n (Or.inr (by decide))).trans ((hn_n (Or.inr (by decide))).trans (hn_s)), by omega⟩⟩)⟩⟩)
                      · skip
                        refine w_iln rfl ?_
                        refine w_bp ?_
                        refine w_cmgt (fun c11 => ?_) (fun c11 => ?_)
                        · skip
                          refine w_ic ?_
                          refine w_pi hm rfl (by decide) rfl (fun q => by cases q) ?_
                          refine w_aln rfl ?_
                          refine w_iln rfl ?_
                          refine w_pi hm rfl (by decide) rfl (fun q => by cases q) ?_
                          refine w_aln rfl ?_
                          refine w_dupr ?_
                          refine w_gi hm rfl (by decide) rfl ((hn_n (Or.inr (by decide))).trans ((hn_n (Or.inr (by decide))).trans ((hn_n (Or.inr (by decide))).trans ((hn_n (Or.inr (by decide))).trans (g1))))) ?_
                          refine w_ic ?_
                          refine w_add ⟨by show (-2147483648 : Int) ≤ (q : Int) + 1; omega, by show (q : Int) + 1 < (2147483648 : Int); omega⟩ ?_
                          refine w_pi hm rfl (by decide) rfl (fun q => by cases q) ?_
                          exact w_ret (hQ _ ⟨(rv_o.tr (rv_o.tr (rv_o.tr (rv_o.tr (rv_o.tr o1 (rv_o.st (a := m) (j := 12) (by decide))) (rv_o.st (a := m) (j := 13) (by decide))) (rv_o.st (a := m) (j := 11) (by decide))) (rv_o.st (a := m) (j := 14) (by decide))) (rv_o.st (a := m) (j := 4) (by decide))), fun a j _ => g21 a j, g22, Or.inr ⟨by omega, (hn_n (Or.inr (by decide))).trans ((hn_n (Or.inr (by decide))).trans ((hn_n (Or.inr (by decide))).trans ((hn_n (Or.inr (by decide))).trans (hn_s)))), Or.inr (Or.inl ⟨by omega, rv_an_n l0 d0, (hn_n (Or.inr (by decide))).trans (hn_s), (hn_s).trans (by omega), Or.inr ⟨(hn_n (Or.inr (by decide))).trans ((hn_n (Or.inr (by decide))).trans (hn_s)), by omega⟩⟩)⟩⟩)
                        · skip
                          refine w_ic ?_
                          refine w_goto ?_
                          refine w_pi hm rfl (by decide) rfl (fun q => by cases q) ?_
                          refine w_aln rfl ?_
                          refine w_iln rfl ?_
                          refine w_pi hm rfl (by decide) rfl (fun q => by cases q) ?_
                          refine w_aln rfl ?_
                          refine w_dupr ?_
                          refine w_gi hm rfl (by decide) rfl ((hn_n (Or.inr (by decide))).trans ((hn_n (Or.inr (by decide))).trans ((hn_n (Or.inr (by decide))).trans ((hn_n (Or.inr (by decide))).trans (g1))))) ?_
                          refine w_ic ?_
                          refine w_add ⟨by show (-2147483648 : Int) ≤ (q : Int) + 1; omega, by show (q : Int) + 1 < (2147483648 : Int); omega⟩ ?_
                          refine w_pi hm rfl (by decide) rfl (fun q => by cases q) ?_
                          exact w_ret (hQ _ ⟨(rv_o.tr (rv_o.tr (rv_o.tr (rv_o.tr (rv_o.tr o1 (rv_o.st (a := m) (j := 12) (by decide))) (rv_o.st (a := m) (j := 13) (by decide))) (rv_o.st (a := m) (j := 11) (by decide))) (rv_o.st (a := m) (j := 14) (by decide))) (rv_o.st (a := m) (j := 4) (by decide))), fun a j _ => g21 a j, g22, Or.inr ⟨by omega, (hn_n (Or.inr (by decide))).trans ((hn_n (Or.inr (by decide))).trans ((hn_n (Or.inr (by decide))).trans ((hn_n (Or.inr (by decide))).trans (hn_s)))), Or.inr (Or.inl ⟨by omega, rv_an_n l0 d0, (hn_n (Or.inr (by decide))).trans (hn_s), (hn_s).trans (by omega), Or.inl ⟨(hn_n (Or.inr (by decide))).trans ((hn_n (Or.inr (by decide))).trans (hn_s)), by omega⟩⟩)⟩⟩)
      · skip
        refine w_aln rfl ?_
        refine w_ic ?_
        refine w_pi hm rfl (by decide) rfl (fun q => by cases q) ?_
        exact w_ret (hQ _ ⟨(rv_o.tr (rv_o.tr (rv_o.tr o1 (rv_o.st (a := m) (j := 12) (by decide))) (rv_o.st (a := m) (j := 13) (by decide))) (rv_o.st (a := m) (j := 11) (by decide))), fun a j _ => g21 a j, g22, Or.inr ⟨by omega, (hn_n (Or.inr (by decide))).trans ((hn_n (Or.inr (by decide))).trans (hn_s)), Or.inl ⟨by omega, hn_s⟩⟩⟩)
    · skip
      refine w_isn ?_
      refine w_iln rfl ?_
      refine w_ifge (fun c12 => ?_) (fun c12 => ?_)
      · exfalso; omega
      · skip
        refine w_aln rfl ?_
        refine w_ic ?_
        refine w_pi hm rfl (by decide) rfl (fun q => by cases q) ?_
        exact w_ret (hQ _ ⟨(rv_o.tr (rv_o.tr (rv_o.tr o1 (rv_o.st (a := m) (j := 12) (by decide))) (rv_o.st (a := m) (j := 13) (by decide))) (rv_o.st (a := m) (j := 11) (by decide))), fun a j _ => g21 a j, g22, Or.inr ⟨by omega, (hn_n (Or.inr (by decide))).trans ((hn_n (Or.inr (by decide))).trans (hn_s)), Or.inl ⟨by omega, hn_s⟩⟩⟩)
  · skip
    refine w_aln rfl ?_
    refine w_gi hm rfl (by decide) rfl ((hn_n (Or.inr (by decide))).trans ((hn_n (Or.inr (by decide))).trans (g1))) ?_
    refine w_aln rfl ?_
    refine w_gi hm rfl (by decide) rfl ((hn_n (Or.inr (by decide))).trans ((hn_n (Or.inr (by decide))).trans (fm1))) ?_
    refine w_cmlt (fun c13 => ?_) (fun c13 => ?_)
    · skip
      refine w_aln rfl ?_
      refine w_cv (st := []) rfl hm rfl (Nat.le_of_ble_eq_true rfl) (fun kk h => h) (r_X12_peek (d := d) (p := q) (B := B) hm hb hn f11 ((hn_n (Or.inr (by decide))).trans ((hn_n (Or.inr (by decide))).trans (fs1))) ((hn_n (Or.inr (by decide))).trans ((hn_n (Or.inr (by decide))).trans (g1))) (fun j => Eq.trans (congrArg rv_u8 ((hn_n (Or.inl ne)).trans ((hn_n (Or.inl ne))))) (fb1 j)) (fun ci => ?_) (fun ci => ?_))
      · skip
        refine w_isn ?_
        refine w_iln rfl ?_
        refine w_ifge (fun c14 => ?_) (fun c14 => ?_)
        · skip
          refine w_iln rfl ?_
          refine w_cs (st := []) rfl (Nat.le_of_ble_eq_true rfl) (fun kk h => h) (r_X12_isSmall (d := d) (fun l1 l2 => ?_) (fun l0 => ?_))
          · skip
            refine w_ifne (fun c15 => ?_) (fun c15 => ?_)
            · skip
              refine w_iln rfl ?_
              refine w_cs (st := []) rfl (Nat.le_of_ble_eq_true rfl) (fun kk h => h) (r_X12_isSmall (d := d) (fun a b => ?_) (fun a => by exfalso; omega))
              · skip
                refine w_isn ?_
                refine w_ic ?_
                refine w_isn ?_
                refine w_aln rfl ?_
                refine w_lc ?_
                refine w_pl hm rfl (by decide) rfl ?_
                refine w_aln rfl ?_
                refine w_ic ?_
                refine w_pi hm rfl (by decide) rfl (fun q => by cases q) ?_
                have cq : q < n := by omega
                refine r_nxt2 (q := q) (B := B) hm hb hn (n - q) 0 1 _ _ _ (by omega) (by omega) f11 ((hn_n (Or.inr (by decide))).trans ((hn_n (Or.inr (by decide))).trans ((hn_n (Or.inr (by decide))).trans (fs1)))) ((hn_n (Or.inr (by decide))).trans ((hn_n (Or.inr (by decide))).trans ((hn_n (Or.inr (by decide))).trans (g1)))) ((hn_n (Or.inr (by decide))).trans (hn_s)) ⟨Or.inr rfl, by decide, fun _ _ => rfl, fun _ h => absurd h (by decide), fun _ _ => rfl, fun _ h => absurd h (by decide)⟩ (fun _ => wz_sl) (fun _ _ => ⟨hn_s, Int.le_of_eq (hn_s).symm, fun _ => Int.le_of_eq (hn_s), fun _ => by rw [show _ = (0 : Int) from hn_s]; decide, fun _ => by rw [show _ = (0 : Int) from hn_s]; decide, by rw [show _ = (0 : Int) from hn_s]; decide⟩) (fun j => Eq.trans (congrArg rv_u8 ((hn_n (Or.inl ne)).trans ((hn_n (Or.inl ne)).trans ((hn_n (Or.inl ne)))))) (fb1 j)) (fun k al M2 r0 rn r4 r13 ra rw rnk ro r22 r21 => ?_)
                have k1 : 1 ≤ k := by
                  have h1 : rv_rn B n (n - q) q = rv_rn B n (n - q - 1) (q + 1) := by
                    rw [show n - q = (n - q - 1) + 1 by omega]; exact if_pos ⟨cq, rv_an_l l1 l2⟩
                  have h2 := rv_rn_ge B n (n - q - 1) (q + 1)
                  have h3 : rv_rn B n (n - q) q = q + k := r0
                  omega
                have hle := rv_nl_1 (rv_le_t l1 l2) k k1
                have hl := rv_nl_le B q k
                obtain ⟨a1, a2, a3, a4, a5, a6⟩ := ra
                have o2 := rv_o.tr (rv_o.tr (rv_o.tr (rv_o.tr o1 (rv_o.st (a := m) (j := 12) (by decide))) (rv_o.st (a := m) (j := 13) (by decide))) (rv_o.st (a := m) (j := 14) (by decide))) (ro.up (by decide))
                have l2x : ∀ a j, ¬ (a = m ∧ j = 17) → M2.2.1 a j = M.2.1 a j := fun a j g => (r21 a j g).trans ((wz_nl (Decidable.not_and_iff_or_not.mp g)).trans (g21 a j))
                have r12 : M2.1 m 12 = (q : Int) := (ro m 12 (by rintro ⟨-, h⟩; revert h; decide)).trans ((hn_n (Or.inr (by decide))).trans ((hn_n (Or.inr (by decide))).trans (hn_s)))
                refine w_aln rfl ?_
                refine w_iln rfl ?_
                refine w_ifeq (fun c101 => ?_) (fun c101 => ?_)
                · skip
                  refine w_ic ?_
                  refine w_goto ?_
                  refine w_pi hm rfl (by decide) rfl (fun q => by cases q) ?_
                  exact w_ret (hQ _ ⟨(rv_o.tr o2 (rv_o.st (a := m) (j := 11) (by decide))), l2x, r22.trans g22, Or.inr ⟨by omega, (hn_n (Or.inr (by decide))).trans (r12), Or.inr (Or.inr ⟨cq, rv_an_l l1 l2, k, k1, r0, rn, (hn_n (Or.inr (by decide))).trans (r4), Or.inr (Or.inr ⟨by omega, by omega, hn_s⟩)⟩)⟩⟩)
                · skip
                  refine w_aln rfl ?_
                  refine w_gi hm rfl (by decide) rfl (r13) ?_
                  refine w_iln rfl ?_
                  refine w_ifeq (fun c102 => ?_) (fun c102 => ?_)
                  · exfalso; omega
                  · skip
                    refine w_bp ?_
                    refine w_goto ?_
                    refine w_cmle (fun c103 => ?_) (fun c103 => ?_)
                    · skip
                      refine w_iln rfl ?_
                      refine w_ifeq (fun c104 => ?_) (fun c104 => ?_)
                      · exfalso; omega
                      · skip
                        refine w_ic ?_
                        refine w_goto ?_
                        refine w_pi hm rfl (by decide) rfl (fun q => by cases q) ?_
                        exact w_ret (hQ _ ⟨(rv_o.tr o2 (rv_o.st (a := m) (j := 11) (by decide))), l2x, r22.trans g22, Or.inr ⟨by omega, (hn_n (Or.inr (by decide))).trans (r12), Or.inr (Or.inr ⟨cq, rv_an_l l1 l2, k, k1, r0, rn, (hn_n (Or.inr (by decide))).trans (r4), Or.inl ⟨by omega, by omega, hn_s, rw (by omega)⟩⟩)⟩⟩)
                    · skip
                      refine w_ic ?_
                      refine w_goto ?_
                      refine w_pi hm rfl (by decide) rfl (fun q => by cases q) ?_
                      exact w_ret (hQ _ ⟨(rv_o.tr o2 (rv_o.st (a := m) (j := 11) (by decide))), l2x, r22.trans g22, Or.inr ⟨by omega, (hn_n (Or.inr (by decide))).trans (r12), Or.inr (Or.inr ⟨cq, rv_an_l l1 l2, k, k1, r0, rn, (hn_n (Or.inr (by decide))).trans (r4), Or.inr (Or.inr ⟨by omega, by omega, hn_s⟩)⟩)⟩⟩)
            · exfalso; omega
          · skip
            refine w_ifne (fun c16 => ?_) (fun c16 => ?_)
            · exfalso; omega
            · skip
              refine w_iln rfl ?_
              refine w_cs (st := []) rfl (Nat.le_of_ble_eq_true rfl) (fun kk h => h) (r_X12_isDigit (d := d) (fun d1 d2 => ?_) (fun d0 => ?_))
              · skip
                refine w_ifne (fun c17 => ?_) (fun c17 => ?_)
                · skip
                  refine w_iln rfl ?_
                  refine w_cs (st := []) rfl (Nat.le_of_ble_eq_true rfl) (fun kk h => h) (r_X12_isSmall (d := d) (fun a b => by exfalso; omega) (fun a => ?_))
                  · skip
                    refine w_isn ?_
                    refine w_ic ?_
                    refine w_isn ?_
                    refine w_aln rfl ?_
                    refine w_lc ?_
                    refine w_pl hm rfl (by decide) rfl ?_
                    refine w_aln rfl ?_
                    refine w_ic ?_
                    refine w_pi hm rfl (by decide) rfl (fun q => by cases q) ?_
                    have cq : q < n := by omega
                    refine r_nxt2 (q := q) (B := B) hm hb hn (n - q) 0 1 _ _ _ (by omega) (by omega) f11 ((hn_n (Or.inr (by decide))).trans ((hn_n (Or.inr (by decide))).trans ((hn_n (Or.inr (by decide))).trans (fs1)))) ((hn_n (Or.inr (by decide))).trans ((hn_n (Or.inr (by decide))).trans ((hn_n (Or.inr (by decide))).trans (g1)))) ((hn_n (Or.inr (by decide))).trans (hn_s)) ⟨Or.inr rfl, by decide, fun _ _ => rfl, fun _ h => absurd h (by decide), fun _ _ => rfl, fun _ h => absurd h (by decide)⟩ (fun _ => wz_sl) (fun _ _ => ⟨hn_s, Int.le_of_eq (hn_s).symm, fun _ => Int.le_of_eq (hn_s), fun _ => by rw [show _ = (0 : Int) from hn_s]; decide, fun _ => by rw [show _ = (0 : Int) from hn_s]; decide, by rw [show _ = (0 : Int) from hn_s]; decide⟩) (fun j => Eq.trans (congrArg rv_u8 ((hn_n (Or.inl ne)).trans ((hn_n (Or.inl ne)).trans ((hn_n (Or.inl ne)))))) (fb1 j)) (fun k al M2 r0 rn r4 r13 ra rw rnk ro r22 r21 => ?_)
                    have k1 : 1 ≤ k := by
                      have h1 : rv_rn B n (n - q) q = rv_rn B n (n - q - 1) (q + 1) := by
                        rw [show n - q = (n - q - 1) + 1 by omega]; exact if_pos ⟨cq, rv_an_d d1 d2⟩
                      have h2 := rv_rn_ge B n (n - q - 1) (q + 1)
                      have h3 : rv_rn B n (n - q) q = q + k := r0
                      omega
                    have hle := rv_nl_0 (rv_le_f l0) k k1
                    have hl := rv_nl_le B q k
                    obtain ⟨a1, a2, a3, a4, a5, a6⟩ := ra
                    have o2 := rv_o.tr (rv_o.tr (rv_o.tr (rv_o.tr o1 (rv_o.st (a := m) (j := 12) (by decide))) (rv_o.st (a := m) (j := 13) (by decide))) (rv_o.st (a := m) (j := 14) (by decide))) (ro.up (by decide))
                    have l2x : ∀ a j, ¬ (a = m ∧ j = 17) → M2.2.1 a j = M.2.1 a j := fun a j g => (r21 a j g).trans ((wz_nl (Decidable.not_and_iff_or_not.mp g)).trans (g21 a j))
                    have r12 : M2.1 m 12 = (q : Int) := (ro m 12 (by rintro ⟨-, h⟩; revert h; decide)).trans ((hn_n (Or.inr (by decide))).trans ((hn_n (Or.inr (by decide))).trans (hn_s)))
                    refine w_aln rfl ?_
                    refine w_iln rfl ?_
                    refine w_ifeq (fun c101 => ?_) (fun c101 => ?_)
                    · skip
                      refine w_ic ?_
                      refine w_goto ?_
                      refine w_pi hm rfl (by decide) rfl (fun q => by cases q) ?_
                      exact w_ret (hQ _ ⟨(rv_o.tr o2 (rv_o.st (a := m) (j := 11) (by decide))), l2x, r22.trans g22, Or.inr ⟨by omega, (hn_n (Or.inr (by decide))).trans (r12), Or.inr (Or.inr ⟨cq, rv_an_d d1 d2, k, k1, r0, rn, (hn_n (Or.inr (by decide))).trans (r4), Or.inr (Or.inr ⟨by omega, by omega, hn_s⟩)⟩)⟩⟩)
                    · skip
                      refine w_aln rfl ?_
                      refine w_gi hm rfl (by decide) rfl (r13) ?_
                      refine w_iln rfl ?_
                      refine w_ifeq (fun c102 => ?_) (fun c102 => ?_)
                      · skip
                        refine w_ic ?_
                        refine w_cmle (fun c103 => ?_) (fun c103 => ?_)
                        · skip
                          refine w_iln rfl ?_
                          refine w_ifeq (fun c104 => ?_) (fun c104 => ?_)
                          · skip
                            refine w_ic ?_
                            refine w_pi hm rfl (by decide) rfl (fun q => by cases q) ?_
                            exact w_ret (hQ _ ⟨(rv_o.tr o2 (rv_o.st (a := m) (j := 11) (by decide))), l2x, r22.trans g22, Or.inr ⟨by omega, (hn_n (Or.inr (by decide))).trans (r12), Or.inr (Or.inr ⟨cq, rv_an_d d1 d2, k, k1, r0, rn, (hn_n (Or.inr (by decide))).trans (r4), Or.inr (Or.inl ⟨by omega, by omega, by omega, hn_s, by rw [show (mj_p0 M2 m 11 2).1 m 14 = M2.1 m 14 from hn_n (Or.inr (by decide))]; exact rnk (by omega) (by omega)⟩)⟩)⟩⟩)
                          · exfalso; omega
                        · skip
                          refine w_ic ?_
                          refine w_goto ?_
                          refine w_pi hm rfl (by decide) rfl (fun q => by cases q) ?_
                          exact w_ret (hQ _ ⟨(rv_o.tr o2 (rv_o.st (a := m) (j := 11) (by decide))), l2x, r22.trans g22, Or.inr ⟨by omega, (hn_n (Or.inr (by decide))).trans (r12), Or.inr (Or.inr ⟨cq, rv_an_d d1 d2, k, k1, r0, rn, (hn_n (Or.inr (by decide))).trans (r4), Or.inr (Or.inr ⟨by omega, by omega, hn_s⟩)⟩)⟩⟩)
                      · exfalso; omega
                · exfalso; omega
              · skip
                refine w_ifne (fun c18 => ?_) (fun c18 => ?_)
                · exfalso; omega
                · skip
                  refine w_aln rfl ?_
                  refine w_iln rfl ?_
                  refine w_bp ?_
                  refine w_cmeq (fun c19 => ?_) (fun c19 => ?_)
                  · skip
                    refine w_ic ?_
                    refine w_goto ?_
                    refine w_pi hm rfl (by decide) rfl (fun q => by cases q) ?_
                    refine w_aln rfl ?_
                    refine w_iln rfl ?_
                    refine w_pi hm rfl (by decide) rfl (fun q => by cases q) ?_
                    refine w_aln rfl ?_
                    refine w_dupr ?_
                    refine w_gi hm rfl (by decide) rfl ((hn_n (Or.inr (by decide))).trans ((hn_n (Or.inr (by decide))).trans ((hn_n (Or.inr (by decide))).trans ((hn_n (Or.inr (by decide))).trans (g1))))) ?_
                    refine w_ic ?_
                    refine w_add ⟨by show (-2147483648 : Int) ≤ (q : Int) + 1; omega, by show (q : Int) + 1 < (2147483648 : Int); omega⟩ ?_
                    refine w_pi hm rfl (by decide) rfl (fun q => by cases q) ?_
                    exact w_ret (hQ _ ⟨(rv_o.tr (rv_o.tr (rv_o.tr (rv_o.tr (rv_o.tr o1 (rv_o.st (a := m) (j := 12) (by decide))) (rv_o.st (a := m) (j := 13) (by decide))) (rv_o.st (a := m) (j := 11) (by decide))) (rv_o.st (a := m) (j := 14) (by decide))) (rv_o.st (a := m) (j := 4) (by decide))), fun a j _ => g21 a j, g22, Or.inr ⟨by omega, (hn_n (Or.inr (by decide))).trans ((hn_n (Or.inr (by decide))).trans ((hn_n (Or.inr (by decide))).trans ((hn_n (Or.inr (by decide))).trans (hn_s)))), Or.inr (Or.inl ⟨by omega, rv_an_n l0 d0, (hn_n (Or.inr (by decide))).trans (hn_s), (hn_s).trans (by omega), Or.inl ⟨(hn_n (Or.inr (by decide))).trans ((hn_n (Or.inr (by decide))).trans (hn_s)), by omega⟩⟩)⟩⟩)
                  · skip
                    refine w_iln rfl ?_
                    refine w_bp ?_
                    refine w_cmeq (fun c20 => ?_) (fun c20 => ?_)
                    · skip
                      refine w_ic ?_
                      refine w_goto ?_
                      refine w_pi hm rfl (by decide) rfl (fun q => by cases q) ?_
                      refine w_aln rfl ?_
                      refine w_iln rfl ?_
                      refine w_pi hm rfl (by decide) rfl (fun q => by cases q) ?_
                      refine w_aln rfl ?_
                      refine w_dupr ?_
                      refine w_gi hm rfl (by decide) rfl ((hn_n (Or.inr (by decide))).trans ((hn_n (Or.inr (by decide))).trans ((hn_n (Or.inr (by decide))).trans ((hn_n (Or.inr (by decide))).trans (g1))))) ?_
                      refine w_ic ?_
                      refine w_add ⟨by show (-2147483648 : Int) ≤ (q : Int) + 1; omega, by show (q : Int) + 1 < (2147483648 : Int); omega⟩ ?_
                      refine w_pi hm rfl (by decide) rfl (fun q => by cases q) ?_
                      exact w_ret (hQ _ ⟨(rv_o.tr (rv_o.tr (rv_o.tr (rv_o.tr (rv_o.tr o1 (rv_o.st (a := m) (j := 12) (by decide))) (rv_o.st (a := m) (j := 13) (by decide))) (rv_o.st (a := m) (j := 11) (by decide))) (rv_o.st (a := m) (j := 14) (by decide))) (rv_o.st (a := m) (j := 4) (by decide))), fun a j _ => g21 a j, g22, Or.inr ⟨by omega, (hn_n (Or.inr (by decide))).trans ((hn_n (Or.inr (by decide))).trans ((hn_n (Or.inr (by decide))).trans ((hn_n (Or.inr (by decide))).trans (hn_s)))), Or.inr (Or.inl ⟨by omega, rv_an_n l0 d0, (hn_n (Or.inr (by decide))).trans (hn_s), (hn_s).trans (by omega), Or.inl ⟨(hn_n (Or.inr (by decide))).trans ((hn_n (Or.inr (by decide))).trans (hn_s)), by omega⟩⟩)⟩⟩)
                    · skip
                      refine w_iln rfl ?_
                      refine w_bp ?_
                      refine w_cmeq (fun c21 => ?_) (fun c21 => ?_)
                      · skip
                        refine w_ic ?_
                        refine w_goto ?_
                        refine w_pi hm rfl (by decide) rfl (fun q => by cases q) ?_
                        refine w_aln rfl ?_
                        refine w_iln rfl ?_
                        refine w_pi hm rfl (by decide) rfl (fun q => by cases q) ?_
                        refine w_aln rfl ?_
                        refine w_dupr ?_
                        refine w_gi hm rfl (by decide) rfl ((hn_n (Or.inr (by decide))).trans ((hn_n (Or.inr (by decide))).trans ((hn_n (Or.inr (by decide))).trans ((hn_n (Or.inr (by decide))).trans (g1))))) ?_
                        refine w_ic ?_
                        refine w_add ⟨by show (-2147483648 : Int) ≤ (q : Int) + 1; omega, by show (q : Int) + 1 < (2147483648 : Int); omega⟩ ?_
                        refine w_pi hm rfl (by decide) rfl (fun q => by cases q) ?_
                        exact w_ret (hQ _ ⟨(rv_o.tr (rv_o.tr (rv_o.tr (rv_o.tr (rv_o.tr o1 (rv_o.st (a := m) (j := 12) (by decide))) (rv_o.st (a := m) (j := 13) (by decide))) (rv_o.st (a := m) (j := 11) (by decide))) (rv_o.st (a := m) (j := 14) (by decide))) (rv_o.st (a := m) (j := 4) (by decide))), fun a j _ => g21 a j, g22, Or.inr ⟨by omega, (hn_n (Or.inr (by decide))).trans ((hn_n (Or.inr (by decide))).trans ((hn_n (Or.inr (by decide))).trans ((hn_n (Or.inr (by decide))).trans (hn_s)))), Or.inr (Or.inl ⟨by omega, rv_an_n l0 d0, (hn_n (Or.inr (by decide))).trans (hn_s), (hn_s).trans (by omega), Or.inl ⟨(hn_n (Or.inr (by decide))).trans ((hn_n (Or.inr (by decide))).trans (hn_s)), by omega⟩⟩)⟩⟩)
                      · skip
                        refine w_iln rfl ?_
                        refine w_bp ?_
                        refine w_cmlt (fun c22 => ?_) (fun c22 => ?_)
                        · skip
                          refine w_ic ?_
                          refine w_pi hm rfl (by decide) rfl (fun q => by cases q) ?_
                          refine w_aln rfl ?_
                          refine w_iln rfl ?_
                          refine w_pi hm rfl (by decide) rfl (fun q => by cases q) ?_
                          refine w_aln rfl ?_
                          refine w_dupr ?_
                          refine w_gi hm rfl (by decide) rfl ((hn_n (Or.inr (by decide))).trans ((hn_n (Or.inr (by decide))).trans ((hn_n (Or.inr (by decide))).trans ((hn_n (Or.inr (by decide))).trans (g1))))) ?_
                          refine w_ic ?_
                          refine w_add ⟨by show (-2147483648 : Int) ≤ (q : Int) + 1; omega, by show (q : Int) + 1 < (2147483648 : Int); omega⟩ ?_
                          refine w_pi hm rfl (by decide) rfl (fun q => by cases q) ?_
                          exact w_ret (hQ _ ⟨(rv_o.tr (rv_o.tr (rv_o.tr (rv_o.tr (rv_o.tr o1 (rv_o.st (a := m) (j := 12) (by decide))) (rv_o.st (a := m) (j := 13) (by decide))) (rv_o.st (a := m) (j := 11) (by decide))) (rv_o.st (a := m) (j := 14) (by decide))) (rv_o.st (a := m) (j := 4) (by decide))), fun a j _ => g21 a j, g22, Or.inr ⟨by omega, (hn_n (Or.inr (by decide))).trans ((hn_n (Or.inr (by decide))).trans ((hn_n (Or.inr (by decide))).trans ((hn_n (Or.inr (by decide))).trans (hn_s)))), Or.inr (Or.inl ⟨by omega, rv_an_n l0 d0, (hn_n (Or.inr (by decide))).trans (hn_s), (hn_s).trans (by omega), Or.inr ⟨(hn_n (Or.inr (by decide))).trans ((hn_n (Or.inr (by decide))).trans (hn_s)), by omega⟩⟩)⟩⟩)
                        · skip
                          refine w_iln rfl ?_
                          refine w_bp ?_
                          refine w_cmgt (fun c23 => ?_) (fun c23 => ?_)
                          · skip
                            refine w_ic ?_
                            refine w_pi hm rfl (by decide) rfl (fun q => by cases q) ?_
                            refine w_aln rfl ?_
                            refine w_iln rfl ?_
                            refine w_pi hm rfl (by decide) rfl (fun q => by cases q) ?_
                            refine w_aln rfl ?_
                            refine w_dupr ?_
                            refine w_gi hm rfl (by decide) rfl ((hn_n (Or.inr (by decide))).trans ((hn_n (Or.inr (by decide))).trans ((hn_n (Or.inr (by decide))).trans ((hn_n (Or.inr (by decide))).trans (g1))))) ?_
                            refine w_ic ?_
                            refine w_add ⟨by show (-2147483648 : Int) ≤ (q : Int) + 1; omega, by show (q : Int) + 1 < (2147483648 : Int); omega⟩ ?_
                            refine w_pi hm rfl (by decide) rfl (fun q => by cases q) ?_
                            exact w_ret (hQ _ ⟨(rv_o.tr (rv_o.tr (rv_o.tr (rv_o.tr (rv_o.tr o1 (rv_o.st (a := m) (j := 12) (by decide))) (rv_o.st (a := m) (j := 13) (by decide))) (rv_o.st (a := m) (j := 11) (by decide))) (rv_o.st (a := m) (j := 14) (by decide))) (rv_o.st (a := m) (j := 4) (by decide))), fun a j _ => g21 a j, g22, Or.inr ⟨by omega, (hn_n (Or.inr (by decide))).trans ((hn_n (Or.inr (by decide))).trans ((hn_n (Or.inr (by decide))).trans ((hn_n (Or.inr (by decide))).trans (hn_s)))), Or.inr (Or.inl ⟨by omega, rv_an_n l0 d0, (hn_n (Or.inr (by decide))).trans (hn_s), (hn_s).trans (by omega), Or.inr ⟨(hn_n (Or.inr (by decide))).trans ((hn_n (Or.inr (by decide))).trans (hn_s)), by omega⟩⟩)⟩⟩)
                          · skip
                            refine w_ic ?_
                            refine w_goto ?_
                            refine w_pi hm rfl (by decide) rfl (fun q => by cases q) ?_
                            refine w_aln rfl ?_
                            refine w_iln rfl ?_
                            refine w_pi hm rfl (by decide) rfl (fun q => by cases q) ?_
                            refine w_aln rfl ?_
                            refine w_dupr ?_
                            refine w_gi hm rfl (by decide) rfl ((hn_n (Or.inr (by decide))).trans ((hn_n (Or.inr (by decide))).trans ((hn_n (Or.inr (by decide))).trans ((hn_n (Or.inr (by decide))).trans (g1))))) ?_
                            refine w_ic ?_
                            refine w_add ⟨by show (-2147483648 : Int) ≤ (q : Int) + 1; omega, by show (q : Int) + 1 < (2147483648 : Int); omega⟩ ?_
                            refine w_pi hm rfl (by decide) rfl (fun q => by cases q) ?_
                            exact w_ret (hQ _ ⟨(rv_o.tr (rv_o.tr (rv_o.tr (rv_o.tr (rv_o.tr o1 (rv_o.st (a := m) (j := 12) (by decide))) (rv_o.st (a := m) (j := 13) (by decide))) (rv_o.st (a := m) (j := 11) (by decide))) (rv_o.st (a := m) (j := 14) (by decide))) (rv_o.st (a := m) (j := 4) (by decide))), fun a j _ => g21 a j, g22, Or.inr ⟨by omega, (hn_n (Or.inr (by decide))).trans ((hn_n (Or.inr (by decide))).trans ((hn_n (Or.inr (by decide))).trans ((hn_n (Or.inr (by decide))).trans (hn_s)))), Or.inr (Or.inl ⟨by omega, rv_an_n l0 d0, (hn_n (Or.inr (by decide))).trans (hn_s), (hn_s).trans (by omega), Or.inl ⟨(hn_n (Or.inr (by decide))).trans ((hn_n (Or.inr (by decide))).trans (hn_s)), by omega⟩⟩)⟩⟩)
        · skip
          refine w_aln rfl ?_
          refine w_ic ?_
          refine w_pi hm rfl (by decide) rfl (fun q => by cases q) ?_
          exact w_ret (hQ _ ⟨(rv_o.tr (rv_o.tr (rv_o.tr o1 (rv_o.st (a := m) (j := 12) (by decide))) (rv_o.st (a := m) (j := 13) (by decide))) (rv_o.st (a := m) (j := 11) (by decide))), fun a j _ => g21 a j, g22, Or.inr ⟨by omega, (hn_n (Or.inr (by decide))).trans ((hn_n (Or.inr (by decide))).trans (hn_s)), Or.inl ⟨by omega, hn_s⟩⟩⟩)
      · skip
        refine w_isn ?_
        refine w_iln rfl ?_
        refine w_ifge (fun c24 => ?_) (fun c24 => ?_)
        · exfalso; omega
        · skip
          refine w_aln rfl ?_
          refine w_ic ?_
          refine w_pi hm rfl (by decide) rfl (fun q => by cases q) ?_
          exact w_ret (hQ _ ⟨(rv_o.tr (rv_o.tr (rv_o.tr o1 (rv_o.st (a := m) (j := 12) (by decide))) (rv_o.st (a := m) (j := 13) (by decide))) (rv_o.st (a := m) (j := 11) (by decide))), fun a j _ => g21 a j, g22, Or.inr ⟨by omega, (hn_n (Or.inr (by decide))).trans ((hn_n (Or.inr (by decide))).trans (hn_s)), Or.inl ⟨by omega, hn_s⟩⟩⟩)
    · skip
      refine w_aln rfl ?_
      refine w_aln rfl ?_
      refine w_gi hm rfl (by decide) rfl ((hn_n (Or.inr (by decide))).trans ((hn_n (Or.inr (by decide))).trans (fm1))) ?_
      refine w_pi hm rfl (by decide) rfl (fun q => by cases q) ?_
      refine w_aln rfl ?_
      refine w_ic ?_
      refine w_pi hm rfl (by decide) rfl (fun q => by cases q) ?_
      exact w_ret (hQ _ ⟨(rv_o.tr (rv_o.tr (rv_o.tr (rv_o.tr o1 (rv_o.st (a := m) (j := 12) (by decide))) (rv_o.st (a := m) (j := 13) (by decide))) (rv_o.st (a := m) (j := 12) (by decide))) (rv_o.st (a := m) (j := 11) (by decide))), fun a j _ => g21 a j, g22, Or.inl ⟨by omega, by omega, hn_s, (hn_n (Or.inr (by decide))).trans (hn_s)⟩⟩)
end
section
/-! ===== bytes that come: by >>> or by >>, they are the same ===== -/
theorem rv_bk (x : BitVec 32) (s : Nat) (hs : s ≤ 24) : (x >>> s).setWidth 8 = (x.sshiftRight s).setWidth 8 := by
  apply BitVec.eq_of_getLsbD_eq
  intro i hi
  rw [BitVec.getLsbD_setWidth, BitVec.getLsbD_setWidth, BitVec.getLsbD_ushiftRight, BitVec.getLsbD_sshiftRight]
  have h1 : decide (32 ≤ i) = false := decide_eq_false (by omega)
  have h2 : s + i < 32 := by omega
  simp [h1, h2]
  try omega
theorem rv_kk (x s : Int32) (u : UInt32) (i : Nat) (hi : i ≤ 24) (hu : u.toBitVec % 32 = BitVec.ofNat 32 i) (hs : s.toBitVec.smod 32 = BitVec.ofNat 32 i) : ((x.toUInt32 >>> u).toInt32).toInt8 = (x >>> s).toInt8 := by
  apply Int8.toBitVec_inj.mp
  rw [Int32.toBitVec_toInt8, Int32.toBitVec_toInt8, UInt32.toBitVec_toInt32, UInt32.toBitVec_shiftRight, Int32.toBitVec_shiftRight, hu, hs, BitVec.signExtend_eq_setWidth_of_le _ (by decide), BitVec.signExtend_eq_setWidth_of_le _ (by decide)]
  have e : (BitVec.ofNat 32 i).toNat = i := by rw [BitVec.toNat_ofNat]; exact Nat.mod_eq_of_lt (by omega)
  show (x.toBitVec >>> (BitVec.ofNat 32 i).toNat).setWidth 8 = (x.toBitVec.sshiftRight (BitVec.ofNat 32 i).toNat).setWidth 8
  rw [e]
  exact rv_bk _ _ hi
theorem rv_b712 (v : Int) : ∀ j, j < 4 → rv_b7 v j = rv_b12 v j := by
  intro j hj
  unfold rv_b7 rv_b12 rv_s7 rv_s12
  rw [mj_it, mj_it]
  have h : j = 0 ∨ j = 1 ∨ j = 2 ∨ j = 3 := by omega
  rcases h with rfl | rfl | rfl | rfl
  · rw [rv_kk (Int32.ofInt v) (Int32.ofInt (24 - 8 * ((0 : Nat) : Int)) &&& 31) _ 24 (by decide) (by decide) (by decide)]
  · rw [rv_kk (Int32.ofInt v) (Int32.ofInt (24 - 8 * ((1 : Nat) : Int)) &&& 31) _ 16 (by decide) (by decide) (by decide)]
  · rw [rv_kk (Int32.ofInt v) (Int32.ofInt (24 - 8 * ((2 : Nat) : Int)) &&& 31) _ 8 (by decide) (by decide) (by decide)]
  · rw [rv_kk (Int32.ofInt v) (Int32.ofInt (24 - 8 * ((3 : Nat) : Int)) &&& 31) _ 0 (by decide) (by decide) (by decide)]
end
section
/-! ===== tokens as pure things ===== -/
/-- the letters of a run of k bytes from q on, the last first -/
def rv_wls (B : Nat → Int) (q : Nat) : Nat → List Int
  | 0 => []
  | k + 1 => B (q + k) :: rv_wls B q k
/-- codes of five and of eight bits a letter -/
def rv_5 : List Int → Int64
  | [] => 0
  | x :: t => rv_5 t <<< ((Int32.ofInt 5).toInt64 &&& 63) ||| (Int32.ofInt (x - 96)).toInt64
def rv_8 : List Int → Int64
  | [] => 0
  | x :: t => rv_8 t <<< ((Int32.ofInt 8).toInt64 &&& 63) ||| (Int32.ofInt x).toInt64
theorem rv_c55 (B : Nat → Int) (q : Nat) : ∀ k, rv_c5 B q k = rv_5 (rv_wls B q k)
  | 0 => rfl
  | k + 1 => by
    show rv_c5 B q k <<< _ ||| _ = rv_5 (rv_wls B q k) <<< _ ||| _
    rw [rv_c55 B q k]
theorem rv_w88 (B : Nat → Int) (q : Nat) : ∀ k, rv_w8 B q k = rv_8 (rv_wls B q k)
  | 0 => rfl
  | k + 1 => by
    show rv_w8 B q k <<< _ ||| _ = rv_8 (rv_wls B q k) <<< _ ||| _
    rw [rv_w88 B q k]
/-- a word: eight letters at most -/
def rv_wo (w : List Int) : Prop := w.length ≤ 8 ∧ ∀ x ∈ w, 97 ≤ x ∧ x ≤ 122
def rv_5n : List Int → Nat
  | [] => 0
  | x :: t => rv_5n t * 32 + (x - 96).toNat
def rv_8n : List Int → Nat
  | [] => 0
  | x :: t => rv_8n t * 256 + x.toNat
theorem rv_6n (a : Nat) (h : a < 2 ^ 63) : (Int64.ofNat a).toInt = a := Int64.toInt_ofNat_of_lt h
theorem rv_6i {a b : Nat} (ha : a < 2 ^ 63) (hb : b < 2 ^ 63) (h : Int64.ofNat a = Int64.ofNat b) : a = b := by
  have := congrArg Int64.toInt h
  rw [rv_6n a ha, rv_6n b hb] at this
  exact Int.ofNat.inj this
theorem rv_sb {N y i : Nat} (s : Int64) (hs : s.toBitVec.smod 64 = BitVec.ofNat 64 i) (hi : i < 64) (h : N * 2 ^ i + y < 2 ^ 63) (hy : y < 2 ^ i) : Int64.ofNat N <<< s ||| Int64.ofNat y = Int64.ofNat (N * 2 ^ i + y) := by
  apply Int64.toBitVec_inj.mp
  rw [Int64.toBitVec_or, Int64.toBitVec_shiftLeft, hs]
  apply BitVec.eq_of_toNat_eq
  have hN : N < 2 ^ 63 := Nat.lt_of_le_of_lt (Nat.le_trans (Nat.le_mul_of_pos_right N (Nat.two_pow_pos i)) (Nat.le_add_right _ _)) h
  have hy2 : y < 2 ^ 63 := Nat.lt_of_le_of_lt (Nat.le_add_left _ _) h
  have e1 : (Int64.ofNat N).toBitVec.toNat = N := by
    show (BitVec.ofNat 64 N).toNat = N
    rw [BitVec.toNat_ofNat]; exact Nat.mod_eq_of_lt (by omega)
  have e2 : (Int64.ofNat y).toBitVec.toNat = y := by
    show (BitVec.ofNat 64 y).toNat = y
    rw [BitVec.toNat_ofNat]; exact Nat.mod_eq_of_lt (by omega)
  have e3 : (Int64.ofNat (N * 2 ^ i + y)).toBitVec.toNat = N * 2 ^ i + y := by
    show (BitVec.ofNat 64 _).toNat = _
    rw [BitVec.toNat_ofNat]; exact Nat.mod_eq_of_lt (by omega)
  rw [BitVec.toNat_or, e3, e2, BitVec.shiftLeft_eq', BitVec.toNat_shiftLeft, e1, BitVec.toNat_ofNat, Nat.mod_eq_of_lt (show i < 2 ^ 64 by omega), Nat.mod_eq_of_lt (show N <<< i < 2 ^ 64 by rw [Nat.shiftLeft_eq]; omega), ← Nat.shiftLeft_add_eq_or_of_lt hy, Nat.shiftLeft_eq]
theorem rv_il (z : Int) (h0 : 0 ≤ z) (h1 : z < 2147483648) : (Int32.ofInt z).toInt64 = Int64.ofNat z.toNat := by
  apply Int64.toInt_inj.mp
  rw [Int32.toInt_toInt64, mj_ti ⟨by omega, h1⟩, rv_6n _ (by omega)]
  omega
theorem rv_5e : ∀ w : List Int, (∀ x ∈ w, 97 ≤ x ∧ x ≤ 122) → w.length ≤ 8 → rv_5 w = Int64.ofNat (rv_5n w) ∧ rv_5n w < 2 ^ (5 * w.length)
  | [], _, _ => ⟨rfl, by decide⟩
  | x :: t, h, hl => by
    have hl' : t.length + 1 ≤ 8 := hl
    obtain ⟨e, b⟩ := rv_5e t (fun y hy => h y (List.mem_cons_of_mem _ hy)) (by omega)
    have hx := h x List.mem_cons_self
    have p1 : 2 ^ (5 * t.length) * 32 = 2 ^ (5 * (x :: t).length) := by
      rw [show 5 * (x :: t).length = 5 * t.length + 5 from by show 5 * (t.length + 1) = _; omega, Nat.pow_add]
    have p2 : 2 ^ (5 * (x :: t).length) ≤ 2 ^ 40 := Nat.pow_le_pow_right (by decide) (by show 5 * (t.length + 1) ≤ 40; omega)
    have y1 : (x - 96).toNat < 32 := by omega
    have r : rv_5n t * 32 + (x - 96).toNat < 2 ^ (5 * (x :: t).length) := by
      have : (rv_5n t + 1) * 32 ≤ 2 ^ (5 * t.length) * 32 := Nat.mul_le_mul_right 32 b
      rw [p1] at this
      omega
    refine ⟨?_, r⟩
    show rv_5 t <<< ((Int32.ofInt 5).toInt64 &&& 63) ||| (Int32.ofInt (x - 96)).toInt64 = Int64.ofNat (rv_5n t * 32 + (x - 96).toNat)
    rw [e, rv_il (x - 96) (by omega) (by omega)]
    exact rv_sb (N := rv_5n t) (i := 5) ((Int32.ofInt 5).toInt64 &&& 63) (by decide) (by decide) (by omega) y1
theorem rv_8e : ∀ w : List Int, (∀ x ∈ w, 97 ≤ x ∧ x ≤ 122) → w.length ≤ 8 → rv_8 w = Int64.ofNat (rv_8n w) ∧ 2 * rv_8n w < 2 ^ (8 * w.length)
  | [], _, _ => ⟨rfl, by decide⟩
  | x :: t, h, hl => by
    have hl' : t.length + 1 ≤ 8 := hl
    obtain ⟨e, b⟩ := rv_8e t (fun y hy => h y (List.mem_cons_of_mem _ hy)) (by omega)
    have hx := h x List.mem_cons_self
    have p1 : 2 ^ (8 * t.length) * 256 = 2 ^ (8 * (x :: t).length) := by
      rw [show 8 * (x :: t).length = 8 * t.length + 8 from by show 8 * (t.length + 1) = _; omega, Nat.pow_add]
    have p2 : 2 ^ (8 * (x :: t).length) ≤ 2 ^ 64 := Nat.pow_le_pow_right (by decide) (by show 8 * (t.length + 1) ≤ 64; omega)
    have y1 : x.toNat < 256 := by omega
    have r : 2 * (rv_8n t * 256 + x.toNat) < 2 ^ (8 * (x :: t).length) := by
      have : (2 * rv_8n t + 1) * 256 ≤ 2 ^ (8 * t.length) * 256 := Nat.mul_le_mul_right 256 b
      rw [p1] at this
      omega
    refine ⟨?_, r⟩
    show rv_8 t <<< ((Int32.ofInt 8).toInt64 &&& 63) ||| (Int32.ofInt x).toInt64 = Int64.ofNat (rv_8n t * 256 + x.toNat)
    rw [e, rv_il x (by omega) (by omega)]
    exact rv_sb (N := rv_8n t) (i := 8) ((Int32.ofInt 8).toInt64 &&& 63) (by decide) (by decide) (by omega) y1
theorem rv_5u : ∀ w w' : List Int, (∀ x ∈ w, 97 ≤ x ∧ x ≤ 122) → (∀ x ∈ w', 97 ≤ x ∧ x ≤ 122) → rv_5n w = rv_5n w' → w = w'
  | [], [], _, _, _ => rfl
  | [], y :: u, _, h', e => by
    have := h' y List.mem_cons_self
    have e : 0 = rv_5n u * 32 + (y - 96).toNat := e
    omega
  | x :: t, [], h, _, e => by
    have := h x List.mem_cons_self
    have e : rv_5n t * 32 + (x - 96).toNat = 0 := e
    omega
  | x :: t, y :: u, h, h', e => by
    have hx := h x List.mem_cons_self
    have hy := h' y List.mem_cons_self
    have e : rv_5n t * 32 + (x - 96).toNat = rv_5n u * 32 + (y - 96).toNat := e
    have e1 : rv_5n t = rv_5n u := by omega
    have e2 : x = y := by omega
    rw [e2, rv_5u t u (fun z hz => h z (List.mem_cons_of_mem _ hz)) (fun z hz => h' z (List.mem_cons_of_mem _ hz)) e1]
theorem rv_8u : ∀ w w' : List Int, (∀ x ∈ w, 97 ≤ x ∧ x ≤ 122) → (∀ x ∈ w', 97 ≤ x ∧ x ≤ 122) → rv_8n w = rv_8n w' → w = w'
  | [], [], _, _, _ => rfl
  | [], y :: u, _, h', e => by
    have := h' y List.mem_cons_self
    have e : 0 = rv_8n u * 256 + y.toNat := e
    omega
  | x :: t, [], h, _, e => by
    have := h x List.mem_cons_self
    have e : rv_8n t * 256 + x.toNat = 0 := e
    omega
  | x :: t, y :: u, h, h', e => by
    have hx := h x List.mem_cons_self
    have hy := h' y List.mem_cons_self
    have e : rv_8n t * 256 + x.toNat = rv_8n u * 256 + y.toNat := e
    have e1 : rv_8n t = rv_8n u := by omega
    have e2 : x = y := by omega
    rw [e2, rv_8u t u (fun z hz => h z (List.mem_cons_of_mem _ hz)) (fun z hz => h' z (List.mem_cons_of_mem _ hz)) e1]
theorem rv_5i {w w' : List Int} (h : rv_wo w) (h' : rv_wo w') (e : rv_5 w = rv_5 w') : w = w' := by
  obtain ⟨e1, b1⟩ := rv_5e w h.2 h.1
  obtain ⟨e2, b2⟩ := rv_5e w' h'.2 h'.1
  have p1 : 2 ^ (5 * w.length) ≤ 2 ^ 40 := Nat.pow_le_pow_right (by decide) (by have := h.1; omega)
  have p2 : 2 ^ (5 * w'.length) ≤ 2 ^ 40 := Nat.pow_le_pow_right (by decide) (by have := h'.1; omega)
  rw [e1, e2] at e
  exact rv_5u w w' h.2 h'.2 (rv_6i (by omega) (by omega) e)
theorem rv_8i {w w' : List Int} (h : rv_wo w) (h' : rv_wo w') (e : rv_8 w = rv_8 w') : w = w' := by
  obtain ⟨e1, b1⟩ := rv_8e w h.2 h.1
  obtain ⟨e2, b2⟩ := rv_8e w' h'.2 h'.1
  have p1 : 2 ^ (8 * w.length) ≤ 2 ^ 64 := Nat.pow_le_pow_right (by decide) (by have := h.1; omega)
  have p2 : 2 ^ (8 * w'.length) ≤ 2 ^ 64 := Nat.pow_le_pow_right (by decide) (by have := h'.1; omega)
  rw [e1, e2] at e
  exact rv_8u w w' h.2 h'.2 (rv_6i (by omega) (by omega) e)
/-- the words that texts know -/
def rv_rs : List (List Int) := [[110, 119, 111, 116], [114, 101, 116, 97, 119], [100, 105, 98], [100, 101, 101, 110], [108, 108, 105, 109], [101, 103, 100, 105, 114, 98], [100, 108, 101, 105, 102], [101, 118, 111, 109], [104, 115, 105, 102], [101, 99, 110, 101, 105, 116, 97, 112], [116, 101, 108], [97, 101, 115], [114, 111], [100, 110, 97], [116, 111, 110], [101, 114, 111, 104, 115], [121, 116, 115, 114, 105, 104, 116], [100, 110, 111, 112], [101, 115, 114, 117, 112], [100, 105, 97, 112], [121, 114, 100], [115, 116, 101, 108], [110, 101, 101, 114, 103], [101, 99, 97, 108, 112]]
theorem rv_rs_o : ∀ j, j < 24 → rv_wo (rv_rs.getD j []) := by
  intro j hj
  have h : ∀ j : Fin 24, (rv_rs.getD j.val []).length ≤ 8 ∧ ∀ x ∈ rv_rs.getD j.val [], 97 ≤ x ∧ x ≤ 122 := by decide +kernel
  exact h ⟨j, hj⟩
theorem rv_rs_5 : ∀ j, j < 24 → rv_5 (rv_rs.getD j []) = mj_wc.getD j 0 := by
  intro j hj
  have h : ∀ j : Fin 24, rv_5 (rv_rs.getD j.val []) = mj_wc.getD j.val 0 := by decide +kernel
  exact h ⟨j, hj⟩
theorem rv_rs_i : ∀ i, i < 24 → ∀ j, j < 24 → rv_rs.getD i [] = rv_rs.getD j [] → i = j := by
  intro i hi j hj e
  have h : ∀ i j : Fin 24, rv_rs.getD i.val [] = rv_rs.getD j.val [] → i.val = j.val := by decide +kernel
  exact h ⟨i, hi⟩ ⟨j, hj⟩ e
/-- a word is a NAME if texts don't know it -/
def rv_nam (w : List Int) : Prop := ∀ j, j < 24 → rv_rs.getD j [] ≠ w
theorem rv_nam5 {w : List Int} (h : rv_wo w) : rv_nam w ↔ ∀ j, j < 24 → mj_wc.getD j 0 ≠ rv_5 w := by
  refine ⟨fun q j hj e => q j hj (rv_5i (rv_rs_o j hj) h (by rw [rv_rs_5 j hj]; exact e)), fun q j hj e => q j hj (by rw [← rv_rs_5 j hj, e])⟩
/-- a run's letters are a word -/
theorem rv_nl_all {B : Nat → Int} {q : Nat} : ∀ k, rv_nl B q k = k → ∀ x ∈ rv_wls B q k, 97 ≤ x ∧ x ≤ 122
  | 0, _, x, hx => by cases hx
  | k + 1, h, x, hx => by
    have h1 := rv_nl_le B q k
    have h : rv_nl B q k + (if rv_le (B (q + k)) = true then 1 else 0) = k + 1 := h
    by_cases c : rv_le (B (q + k)) = true
    · rw [if_pos c] at h
      rcases List.mem_cons.mp hx with e | e
      · rw [e]; exact of_decide_eq_true c
      · exact rv_nl_all k (by omega) x e
    · rw [if_neg c] at h; omega
theorem rv_wls_len {B : Nat → Int} {q : Nat} : ∀ k, (rv_wls B q k).length = k
  | 0 => rfl
  | k + 1 => by show (rv_wls B q k).length + 1 = _; rw [rv_wls_len k]
/-- the token that a run of k bytes from q on is -/
def rv_Tr (B : Nat → Int) (q k : Nat) : Nat × Nat × Int × List Int × Nat := (if rv_nl B q k = k ∧ k ≤ 8 then 1 else if rv_nl B q k = 0 ∧ k ≤ 3 then 2 else 4, q, rv_nu B q k, rv_wls B q k, q + k)
/-- the token from p on: kind (0 the end, 1 a word, 2 a number, 3 a sign, 4 a bad run, 5 the most bytes are over), where, its number or sign, its letters, what is behind it -/
def rv_T (B : Nat → Int) (n lim p : Nat) : Nat × Nat × Int × List Int × Nat :=
  if min n lim ≤ rv_sk B (min n lim) (min n lim - p) p then (if n ≤ lim then 0 else 5, min n lim, 0, [], rv_sk B (min n lim) (min n lim - p) p)
  else if rv_an (B (rv_sk B (min n lim) (min n lim - p) p)) = true then rv_Tr B (rv_sk B (min n lim) (min n lim - p) p) (rv_rn B n (n - rv_sk B (min n lim) (min n lim - p) p) (rv_sk B (min n lim) (min n lim - p) p) - rv_sk B (min n lim) (min n lim - p) p)
  else (3, rv_sk B (min n lim) (min n lim - p) p, B (rv_sk B (min n lim) (min n lim - p) p), [], rv_sk B (min n lim) (min n lim - p) p + 1)
section TT
variable {B : Nat → Int} {n lim p q k : Nat} (hq : rv_sk B (min n lim) (min n lim - p) p = q)
theorem rv_T_e (hq : rv_sk B (min n lim) (min n lim - p) p = q) (c1 : min n lim ≤ q) : rv_T B n lim p = (if n ≤ lim then 0 else 5, min n lim, 0, [], q) := by
  unfold rv_T; rw [hq, if_pos c1]
theorem rv_T_r (hq : rv_sk B (min n lim) (min n lim - p) p = q) (c1 : q < min n lim) (c2 : rv_an (B q) = true) (hk : rv_rn B n (n - q) q = q + k) : rv_T B n lim p = rv_Tr B q k := by
  unfold rv_T; rw [hq, if_neg (Nat.not_le.mpr c1), if_pos c2, hk, Nat.add_sub_cancel_left]
theorem rv_T_s (hq : rv_sk B (min n lim) (min n lim - p) p = q) (c1 : q < min n lim) (c2 : ¬ rv_an (B q) = true) : rv_T B n lim p = (3, q, B q, [], q + 1) := by
  unfold rv_T; rw [hq, if_neg (Nat.not_le.mpr c1), if_neg c2]
theorem rv_Tr_1 (c : rv_nl B q k = k ∧ k ≤ 8) : rv_Tr B q k = (1, q, rv_nu B q k, rv_wls B q k, q + k) := by unfold rv_Tr; rw [if_pos c]
theorem rv_Tr_2 (c : ¬ (rv_nl B q k = k ∧ k ≤ 8)) (c2 : rv_nl B q k = 0 ∧ k ≤ 3) : rv_Tr B q k = (2, q, rv_nu B q k, rv_wls B q k, q + k) := by unfold rv_Tr; rw [if_neg c, if_pos c2]
theorem rv_Tr_4 (c : ¬ (rv_nl B q k = k ∧ k ≤ 8)) (c2 : ¬ (rv_nl B q k = 0 ∧ k ≤ 3)) : rv_Tr B q k = (4, q, rv_nu B q k, rv_wls B q k, q + k) := by unfold rv_Tr; rw [if_neg c, if_neg c2]
end TT
/-- the token of the tape of the class -/
def rv_tc (G : mj_G) (t : Nat × Nat × Int × List Int × Nat) (tp : Nat) (M : mj_M) : Prop :=
  ((t.1 = 5 ∧ M.1 tp 4 = 0) ∨ (t.1 ≠ 5 ∧ M.1 tp 4 = (t.1 : Int))) ∧ M.1 tp 5 = (t.2.1 : Int) ∧ M.1 tp 11 = (t.2.2.2.2 : Int) ∧ (t.1 = 2 → M.1 tp 6 = t.2.2.1 ∧ 0 ≤ t.2.2.1 ∧ t.2.2.1 ≤ 999) ∧ (t.1 = 3 → M.1 tp 7 = t.2.2.1) ∧ (t.1 = 1 → M.2.1 tp 8 = rv_5 t.2.2.2.1 ∧ rv_wd G (rv_5 t.2.2.2.1) (M.2.2 tp 9)) ∧ (t.1 ≠ 1 → M.2.2 tp 9 = none)
theorem rv_adv_T {G : mj_G} {B : Nat → Int} {n lim tp p : Nat} {M M' : mj_M} (h : rv_adv G B n (min n lim) tp p (rv_sk B (min n lim) (min n lim - p) p) M M') : rv_tc G (rv_T B n lim p) tp M' := by
  obtain ⟨-, -, -, h⟩ := h
  generalize hq : rv_sk B (min n lim) (min n lim - p) p = q at h
  rcases h with ⟨c1, h4, h5, h11, h9⟩ | ⟨c1, c2, h5, k, hk, hkn, h11, hr⟩ | ⟨c1, c2, h5, h4, h7, h11, h9⟩
  · rw [rv_T_e hq c1]
    refine ⟨?_, h5, h11, ?_, ?_, ?_, fun _ => h9⟩
    · by_cases c : n ≤ lim
      · rw [if_pos c]; exact Or.inr ⟨by show (0 : Nat) ≠ 5; decide, h4⟩
      · rw [if_neg c]; exact Or.inl ⟨rfl, h4⟩
    · intro e; revert e; show (if n ≤ lim then 0 else 5) = 2 → _; split <;> intro e <;> exact absurd e (by decide)
    · intro e; revert e; show (if n ≤ lim then 0 else 5) = 3 → _; split <;> intro e <;> exact absurd e (by decide)
    · intro e; revert e; show (if n ≤ lim then 0 else 5) = 1 → _; split <;> intro e <;> exact absurd e (by decide)
  · rw [rv_T_r hq c1 c2 hk]
    rcases hr with ⟨d1, d2, h4, h8, h9⟩ | ⟨d1, d2, d3, h4, h6, h9⟩ | ⟨d1, d2, h4, h9⟩
    · rw [rv_Tr_1 ⟨d1, d2⟩]
      exact ⟨Or.inr ⟨by show (1 : Nat) ≠ 5; decide, h4⟩, h5, h11, fun e => absurd e (by show (1 : Nat) ≠ 2; decide), fun e => absurd e (by show (1 : Nat) ≠ 3; decide), fun _ => ⟨h8.trans (rv_c55 B q k), by show rv_wd G (rv_5 (rv_wls B q k)) _; rw [← rv_c55 B q k]; exact h9⟩, fun e => absurd rfl e⟩
    · rw [rv_Tr_2 d1 ⟨d2, d3⟩]
      exact ⟨Or.inr ⟨by show (2 : Nat) ≠ 5; decide, h4⟩, h5, h11, fun _ => ⟨h6.1, by show 0 ≤ rv_nu B q k; rw [← h6.1]; exact h6.2.1, by show rv_nu B q k ≤ 999; rw [← h6.1]; exact h6.2.2.2.2.2⟩, fun e => absurd e (by show (2 : Nat) ≠ 3; decide), fun e => absurd e (by show (2 : Nat) ≠ 1; decide), fun _ => h9⟩
    · rw [rv_Tr_4 d1 d2]
      exact ⟨Or.inr ⟨by show (4 : Nat) ≠ 5; decide, h4⟩, h5, h11, fun e => absurd e (by show (4 : Nat) ≠ 2; decide), fun e => absurd e (by show (4 : Nat) ≠ 3; decide), fun e => absurd e (by show (4 : Nat) ≠ 1; decide), fun _ => h9⟩
  · rw [rv_T_s hq c1 c2]
    exact ⟨Or.inr ⟨by show (3 : Nat) ≠ 5; decide, h4⟩, h5, h11, fun e => absurd e (by show (3 : Nat) ≠ 2; decide), fun _ => h7, fun e => absurd e (by show (3 : Nat) ≠ 1; decide), fun _ => h9⟩
/-- what holds of a token -/
def rv_tw (n p : Nat) (t : Nat × Nat × Int × List Int × Nat) : Prop :=
  t.1 ≤ 5 ∧ p ≤ t.2.2.2.2 ∧ t.2.1 ≤ n ∧ (t.1 ≠ 0 → t.1 ≠ 5 → p < t.2.2.2.2) ∧ (t.1 = 1 → rv_wo t.2.2.2.1) ∧ t.2.2.2.2 ≤ n
theorem rv_T_w {B : Nat → Int} {n lim p : Nat} (hp : p ≤ n) : rv_tw n p (rv_T B n lim p) := by
  generalize hq : rv_sk B (min n lim) (min n lim - p) p = q
  have q1 : p ≤ q := by rw [← hq]; exact rv_sk_ge _ _ _ _
  have q2 : q ≤ n := by
    rw [← hq]
    rcases Nat.le_total p (min n lim) with c | c
    · have := rv_sk_le B (min n lim) (min n lim - p) p c; omega
    · rw [show min n lim - p = 0 by omega]; exact hp
  rcases Nat.lt_or_ge q (min n lim) with c1 | c1
  · by_cases c2 : rv_an (B q) = true
    · have r1 : rv_rn B n (n - q) q = rv_rn B n (n - q - 1) (q + 1) := by
        rw [show n - q = (n - q - 1) + 1 by omega]; exact if_pos ⟨by omega, c2⟩
      have r2 := rv_rn_ge B n (n - q - 1) (q + 1)
      have r3 := rv_rn_le B n (n - q) q q2
      have hk : rv_rn B n (n - q) q = q + (rv_rn B n (n - q) q - q) := by omega
      generalize rv_rn B n (n - q) q - q = k at hk
      rw [rv_T_r hq c1 c2 hk]
      refine ⟨?_, by show p ≤ q + k; omega, q2, fun _ _ => by show p < q + k; omega, ?_, by show q + k ≤ n; omega⟩
      · show (if _ then 1 else if _ then 2 else 4) ≤ 5
        split
        · decide
        · split <;> decide
      · show (if _ then 1 else if _ then 2 else 4) = 1 → rv_wo (rv_wls B q k)
        split
        · rename_i c
          exact fun _ => ⟨by rw [rv_wls_len]; exact c.2, rv_nl_all k c.1⟩
        · split <;> intro e <;> exact absurd e (by decide)
    · rw [rv_T_s hq c1 c2]
      exact ⟨by show 3 ≤ 5; decide, by show p ≤ q + 1; omega, q2, fun _ _ => by show p < q + 1; omega, fun e => absurd e (by show (3 : Nat) ≠ 1; decide), by show q + 1 ≤ n; omega⟩
  · rw [rv_T_e hq c1]
    refine ⟨?_, q1, by show min n lim ≤ n; omega, ?_, ?_, q2⟩
    · show (if n ≤ lim then 0 else 5) ≤ 5
      split <;> decide
    · show (if n ≤ lim then 0 else 5) ≠ 0 → (if n ≤ lim then 0 else 5) ≠ 5 → _
      split
      · intro e; exact absurd rfl e
      · intro _ e; exact absurd rfl e
    · show (if n ≤ lim then 0 else 5) = 1 → _
      split <;> intro e <;> exact absurd e (by decide)
/-- the blanks are skipped alike, by the one up to e, by the other up to n -/
theorem rv_sk_2 {B : Nat → Int} {e n : Nat} (he : e ≤ n) : ∀ f p, p + f = e → (rv_sk B e f p < e → rv_sk B n (n - p) p = rv_sk B e f p) ∧ (e ≤ rv_sk B e f p → e ≤ rv_sk B n (n - p) p)
  | 0, p, h => ⟨fun c => absurd c (by show ¬ p < e; omega), fun _ => Nat.le_trans (by omega) (rv_sk_ge B n (n - p) p)⟩
  | f + 1, p, h => by
    have h1 := rv_sk_2 (B := B) he f (p + 1) (by omega)
    unfold rv_sk
    rw [show n - p = (n - (p + 1)) + 1 by omega]
    show (_ → (if p < n ∧ (B p = 32 ∨ B p = 10) then rv_sk B n (n - (p + 1)) (p + 1) else p) = _) ∧ (_ → e ≤ (if p < n ∧ (B p = 32 ∨ B p = 10) then rv_sk B n (n - (p + 1)) (p + 1) else p))
    by_cases c : B p = 32 ∨ B p = 10
    · rw [if_pos ⟨by omega, c⟩, if_pos ⟨by omega, c⟩]; exact h1
    · rw [if_neg (fun q => c q.2), if_neg (fun q => c q.2)]; exact ⟨fun _ => rfl, fun q => q⟩
/-- the token of the reference -/
def rv_tr (t : Nat × Nat × Int × List Int × Nat) (m : Nat) (M : mj_M) : Prop :=
  (t.1 = 0 → M.1 m 11 = 0) ∧ (t.1 = 1 → M.1 m 11 = 1 ∧ M.2.1 m 17 = rv_8 t.2.2.2.1) ∧ (t.1 = 2 → M.1 m 11 = 2 ∧ M.1 m 14 = t.2.2.1 ∧ 0 ≤ t.2.2.1 ∧ t.2.2.1 ≤ 999) ∧ (t.1 = 3 → M.1 m 14 = t.2.2.1 ∧ ((M.1 m 11 = 3 ∧ (t.2.2.1 = 59 ∨ t.2.2.1 = 40 ∨ t.2.2.1 = 41 ∨ (60 ≤ t.2.2.1 ∧ t.2.2.1 ≤ 62))) ∨ (M.1 m 11 = 4 ∧ ¬ (t.2.2.1 = 59 ∨ t.2.2.1 = 40 ∨ t.2.2.1 = 41 ∨ (60 ≤ t.2.2.1 ∧ t.2.2.1 ≤ 62))))) ∧ (t.1 = 4 → M.1 m 11 = 4) ∧ (t.1 = 5 → M.1 m 11 = 4) ∧ M.1 m 12 = (t.2.1 : Int) ∧ (t.1 ≠ 0 → t.1 ≠ 5 → M.1 m 4 = (t.2.2.2.2 : Int))
theorem rv_nx_T {B : Nat → Int} {n lim m p : Nat} {M M' : mj_M} (hp : p ≤ n) (h : rv_nx B n lim m (rv_sk B n (n - p) p) M M') : rv_tr (rv_T B n lim p) m M' := by
  obtain ⟨-, -, -, h⟩ := h
  have key : (∃ q, q < min n lim ∧ rv_sk B (min n lim) (min n lim - p) p = q ∧ rv_sk B n (n - p) p = q) ∨ (min n lim ≤ rv_sk B (min n lim) (min n lim - p) p ∧ min n lim ≤ rv_sk B n (n - p) p) := by
    rcases Nat.le_total p (min n lim) with c | c
    · have h2 := rv_sk_2 (B := B) (e := min n lim) (n := n) (by omega) (min n lim - p) p (by omega)
      rcases Nat.lt_or_ge (rv_sk B (min n lim) (min n lim - p) p) (min n lim) with c1 | c1
      · exact Or.inl ⟨_, c1, rfl, h2.1 c1⟩
      · exact Or.inr ⟨c1, h2.2 c1⟩
    · exact Or.inr ⟨Nat.le_trans c (rv_sk_ge _ _ _ _), Nat.le_trans c (rv_sk_ge _ _ _ _)⟩
  rcases key with ⟨q, c1, e1, e2⟩ | ⟨c1, c2⟩
  · rw [e2] at h
    rcases h with ⟨g1, g2, -⟩ | ⟨-, h12, h⟩
    · exfalso; omega
    · rcases h with ⟨g, -⟩ | ⟨g1, g2, h14, h4, hs⟩ | ⟨g1, g2, k, k1, hk, hkn, h4, hr⟩
      · exfalso; omega
      · rw [rv_T_s e1 c1 g2]
        exact ⟨fun e => absurd e (by show (3 : Nat) ≠ 0; decide), fun e => absurd e (by show (3 : Nat) ≠ 1; decide), fun e => absurd e (by show (3 : Nat) ≠ 2; decide), fun _ => ⟨h14, hs⟩, fun e => absurd e (by show (3 : Nat) ≠ 4; decide), fun e => absurd e (by show (3 : Nat) ≠ 5; decide), h12, fun _ _ => h4⟩
      · rw [rv_T_r e1 c1 g2 hk]
        rcases hr with ⟨d1, d2, h11, h17⟩ | ⟨d1, d2, d3, h11, h14⟩ | ⟨d1, d2, h11⟩
        · rw [rv_Tr_1 ⟨d1, d2⟩]
          exact ⟨fun e => absurd e (by show (1 : Nat) ≠ 0; decide), fun _ => ⟨h11, h17.trans (rv_w88 B q k)⟩, fun e => absurd e (by show (1 : Nat) ≠ 2; decide), fun e => absurd e (by show (1 : Nat) ≠ 3; decide), fun e => absurd e (by show (1 : Nat) ≠ 4; decide), fun e => absurd e (by show (1 : Nat) ≠ 5; decide), h12, fun _ _ => h4⟩
        · rw [rv_Tr_2 d1 ⟨d2, d3⟩]
          exact ⟨fun e => absurd e (by show (2 : Nat) ≠ 0; decide), fun e => absurd e (by show (2 : Nat) ≠ 1; decide), fun _ => ⟨h11, h14.1, by show 0 ≤ rv_nu B q k; rw [← h14.1]; exact h14.2.1, by show rv_nu B q k ≤ 999; rw [← h14.1]; exact h14.2.2.2.2.2⟩, fun e => absurd e (by show (2 : Nat) ≠ 3; decide), fun e => absurd e (by show (2 : Nat) ≠ 4; decide), fun e => absurd e (by show (2 : Nat) ≠ 5; decide), h12, fun _ _ => h4⟩
        · rw [rv_Tr_4 d1 d2]
          exact ⟨fun e => absurd e (by show (4 : Nat) ≠ 0; decide), fun e => absurd e (by show (4 : Nat) ≠ 1; decide), fun e => absurd e (by show (4 : Nat) ≠ 2; decide), fun e => absurd e (by show (4 : Nat) ≠ 3; decide), fun _ => h11, fun e => absurd e (by show (4 : Nat) ≠ 5; decide), h12, fun _ _ => h4⟩
  · rw [rv_T_e rfl c1]
    by_cases c : n ≤ lim
    · rw [if_pos c]
      rcases h with ⟨g1, -⟩ | ⟨-, h12, h⟩
      · exfalso; omega
      · rcases h with ⟨g, h11⟩ | ⟨g, -⟩ | ⟨g, -⟩
        · have g2 := rv_sk_le B n (n - p) p hp
          exact ⟨fun _ => h11, fun e => absurd e (by show (0 : Nat) ≠ 1; decide), fun e => absurd e (by show (0 : Nat) ≠ 2; decide), fun e => absurd e (by show (0 : Nat) ≠ 3; decide), fun e => absurd e (by show (0 : Nat) ≠ 4; decide), fun e => absurd e (by show (0 : Nat) ≠ 5; decide), by show M'.1 m 12 = ((min n lim : Nat) : Int); rw [h12]; omega, fun e => absurd rfl e⟩
        · exfalso; omega
        · exfalso; omega
    · rw [if_neg c]
      rcases h with ⟨g1, g2, h11, h12⟩ | ⟨g, -⟩
      · exact ⟨fun e => absurd e (by show (5 : Nat) ≠ 0; decide), fun e => absurd e (by show (5 : Nat) ≠ 1; decide), fun e => absurd e (by show (5 : Nat) ≠ 2; decide), fun e => absurd e (by show (5 : Nat) ≠ 3; decide), fun e => absurd e (by show (5 : Nat) ≠ 4; decide), fun _ => h11, by show M'.1 m 12 = ((min n lim : Nat) : Int); rw [h12]; omega, fun _ e => absurd rfl e⟩
      · exfalso; omega
end
