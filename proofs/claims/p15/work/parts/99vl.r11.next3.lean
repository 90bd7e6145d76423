/-! ===== the reference's next (laid by a program) ===== -/
theorem rv_nl_1 {B : Nat → Int} {q : Nat} (h : rv_le (B q) = true) : ∀ k, 1 ≤ k → 1 ≤ rv_nl B q k
  | 0, g => absurd g (by decide)
  | 1, _ => by rw [rv_nl_s (k := 0) h]; omega
  | k + 2, _ => by
    have := rv_nl_1 h (k + 1) (by omega)
    show 1 ≤ rv_nl B q (k + 1) + _
    omega
theorem rv_nl_0 {B : Nat → Int} {q : Nat} (h : rv_le (B q) = false) : ∀ k, 1 ≤ k → rv_nl B q k < k
  | 0, g => absurd g (by decide)
  | 1, _ => by rw [rv_nl_n (k := 0) h]; exact Nat.zero_lt_one
  | k + 2, _ => by
    have := rv_nl_0 h (k + 1) (by omega)
    show rv_nl B q (k + 1) + (if _ then 1 else 0) < k + 2
    split <;> omega
/-- what next leaves of a run of k bytes from q on -/
def rv_nr (B : Nat → Int) (m q k : Nat) (M' : mj_M) : Prop := (rv_nl B q k = k ∧ k ≤ 8 ∧ M'.1 m 11 = 1 ∧ M'.2.1 m 17 = rv_w8 B q k) ∨ (¬ (rv_nl B q k = k ∧ k ≤ 8) ∧ rv_nl B q k = 0 ∧ k ≤ 3 ∧ M'.1 m 11 = 2 ∧ rv_nk B q k (M'.1 m 14)) ∨ (¬ (rv_nl B q k = k ∧ k ≤ 8) ∧ ¬ (rv_nl B q k = 0 ∧ k ≤ 3) ∧ M'.1 m 11 = 4)
/-- what next leaves, the blanks ending at q -/
def rv_nx (B : Nat → Int) (n lim m q : Nat) (M M' : mj_M) : Prop := rv_o m [4, 11, 12, 13, 14] M M' ∧ (∀ a j, ¬ (a = m ∧ j = 17) → M'.2.1 a j = M.2.1 a j) ∧ M'.2.2 = M.2.2 ∧
  ((lim < n ∧ lim ≤ q ∧ M'.1 m 11 = 4 ∧ M'.1 m 12 = (lim : Int)) ∨ (¬ (lim < n ∧ lim ≤ q) ∧ M'.1 m 12 = (q : Int) ∧ ((n ≤ q ∧ M'.1 m 11 = 0) ∨ (q < n ∧ ¬ rv_an (B q) = true ∧ M'.1 m 14 = B q ∧ M'.1 m 4 = ((q + 1 : Nat) : Int) ∧ ((M'.1 m 11 = 3 ∧ (B q = 59 ∨ B q = 40 ∨ B q = 41 ∨ (60 ≤ B q ∧ B q ≤ 62))) ∨ (M'.1 m 11 = 4 ∧ ¬ (B q = 59 ∨ B q = 40 ∨ B q = 41 ∨ (60 ≤ B q ∧ B q ≤ 62))))) ∨ (q < n ∧ rv_an (B q) = true ∧ ∃ k, 1 ≤ k ∧ rv_rn B n (n - q) q = q + k ∧ q + k ≤ n ∧ M'.1 m 4 = ((q + k : Nat) : Int) ∧ rv_nr B m q k M'))))
theorem r_X12_next {d m br n lim p : Nat} {B : Nat → Int} {G : mj_G} {M : mj_M} {Q : mj_P} (hm : G m = (1012, 0)) (hb : G br = (50101, 940)) (hn : n ≤ 940) (f1 : M.2.2 m 1 = some br) (fs : M.1 m 3 = (n : Int)) (fm : M.1 m 5 = (lim : Int)) (fh : M.1 m 4 = (p : Int)) (fb : ∀ k, rv_u8 (M.1 br k) = B k) (hQ : ∀ M', rv_nx B n lim m (rv_sk B n (n - p) p) M M' → Q none G M') : mj_R mj_tab (d + 2) 216 [.inr (.inr (some m))] G M Q := by
  have ne : br ≠ m := hn_ne hb hm (by decide)
  refine ⟨Nat.le_of_ble_eq_true rfl, ?_⟩
  show wz (d + 1) mt_X12_next.2.2.2.2.1 Q mt_X12_next.2.2.2.2.1 [some (.inr (.inr (some m))), none, none, none] [] G M _ _
  refine r_nxt1 (B := B) hm hb hn (n - p) p M _ _ (by omega) f1 fs fh fb (fun M1 g1 g2 g3 => ?_)
  generalize hq : rv_sk B n (n - p) p = q at *
  have g22 : M1.2.2 = M.2.2 := by rw [g3]
  have g21 : ∀ a j, M1.2.1 a j = M.2.1 a j := fun a j => by rw [g3]
  have f11 : M1.2.2 m 1 = some br := by rw [g22]; exact f1
  have fs1 : M1.1 m 3 = (n : Int) := (g2 m 3 (by rintro ⟨-, h⟩; revert h; decide)).trans fs
  have fm1 : M1.1 m 5 = (lim : Int) := (g2 m 5 (by rintro ⟨-, h⟩; revert h; decide)).trans fm
  have fb1 : ∀ k, rv_u8 (M1.1 br k) = B k := fun k => by rw [g2 br k (fun h => ne h.1)]; exact fb k
  have ub := rv_u8_in (M1.1 br q)
  rw [fb1 q] at ub
  have o1 : rv_o m [4, 11, 12, 13, 14] M M1 := g2.up (by decide)
  refine w_aln rfl ?_
  refine w_aln rfl ?_
  refine w_gi hm rfl (by decide) rfl (g1) ?_
  refine w_pi hm rfl (by decide) rfl (fun q => by cases q) ?_
  refine w_aln rfl ?_
  refine w_ic ?_
  refine w_pi hm rfl (by decide) rfl (fun q => by cases q) ?_
  refine w_aln rfl ?_
  refine w_gi hm rfl (by decide) rfl ((hn_n (Or.inr (by decide))).trans ((hn_n (Or.inr (by decide))).trans (fs1))) ?_
  refine w_aln rfl ?_
  refine w_gi hm rfl (by decide) rfl ((hn_n (Or.inr (by decide))).trans ((hn_n (Or.inr (by decide))).trans (fm1))) ?_
  refine w_cmle (fun c1 => ?_) (fun c1 => ?_)
  · skip
    refine w_aln rfl ?_
    refine w_cv (st := []) rfl hm rfl (Nat.le_of_ble_eq_true rfl) (fun kk h => h) (r_X12_peek (d := d) (p := q) (B := B) hm hb hn f11 ((hn_n (Or.inr (by decide))).trans ((hn_n (Or.inr (by decide))).trans (fs1))) ((hn_n (Or.inr (by decide))).trans ((hn_n (Or.inr (by decide))).trans (g1))) (fun j => Eq.trans (congrArg rv_u8 ((hn_n (Or.inl ne)).trans ((hn_n (Or.inl ne))))) (fb1 j)) (fun ci => ?_) (fun ci => ?_))
    · skip
      refine w_isn ?_
      refine w_iln rfl ?_
      refine w_ifge (fun c2 => ?_) (fun c2 => ?_)
      · skip
        refine w_iln rfl ?_
        refine w_cs (st := []) rfl (Nat.le_of_ble_eq_true rfl) (fun kk h => h) (r_X12_isSmall (d := d) (fun l1 l2 => ?_) (fun l0 => ?_))
        · skip
          refine w_ifne (fun c3 => ?_) (fun c3 => ?_)
          · skip
            refine w_iln rfl ?_
            refine w_cs (st := []) rfl (Nat.le_of_ble_eq_true rfl) (fun kk h => h) (r_X12_isSmall (d := d) (fun a b => ?_) (fun a => by exfalso; omega))
            · skip
              refine w_isn ?_
              refine w_ic ?_
              refine w_isn ?_
              refine w_aln rfl ?_
              refine w_lc ?_
              refine w_pl hm rfl (by decide) rfl ?_
              refine w_aln rfl ?_
              refine w_ic ?_
              refine w_pi hm rfl (by decide) rfl (fun q => by cases q) ?_
              have cq : q < n := by omega
              refine r_nxt2 (q := q) (B := B) hm hb hn (n - q) 0 1 _ _ _ (by omega) (by omega) f11 ((hn_n (Or.inr (by decide))).trans ((hn_n (Or.inr (by decide))).trans ((hn_n (Or.inr (by decide))).trans (fs1)))) ((hn_n (Or.inr (by decide))).trans ((hn_n (Or.inr (by decide))).trans ((hn_n (Or.inr (by decide))).trans (g1)))) ((hn_n (Or.inr (by decide))).trans (hn_s)) ⟨Or.inr rfl, by decide, fun _ _ => rfl, fun _ h => absurd h (by decide), fun _ _ => rfl, fun _ h => absurd h (by decide)⟩ (fun _ => wz_sl) (fun _ _ => ⟨hn_s, Int.le_of_eq (hn_s).symm, fun _ => Int.le_of_eq (hn_s), fun _ => by rw [show _ = (0 : Int) from hn_s]; decide, fun _ => by rw [show _ = (0 : Int) from hn_s]; decide, by rw [show _ = (0 : Int) from hn_s]; decide⟩) (fun j => Eq.trans (congrArg rv_u8 ((hn_n (Or.inl ne)).trans ((hn_n (Or.inl ne)).trans ((hn_n (Or.inl ne)))))) (fb1 j)) (fun k al M2 r0 rn r4 r13 ra rw rnk ro r22 r21 => ?_)
              have k1 : 1 ≤ k := by
                have h1 : rv_rn B n (n - q) q = rv_rn B n (n - q - 1) (q + 1) := by
                  rw [show n - q = (n - q - 1) + 1 by omega]; exact if_pos ⟨cq, rv_an_l l1 l2⟩
                have h2 := rv_rn_ge B n (n - q - 1) (q + 1)
                have h3 : rv_rn B n (n - q) q = q + k := r0
                omega
              have hle := rv_nl_1 (rv_le_t l1 l2) k k1
              have hl := rv_nl_le B q k
              obtain ⟨a1, a2, a3, a4, a5, a6⟩ := ra
              have o2 := rv_o.tr (rv_o.tr (rv_o.tr (rv_o.tr o1 (rv_o.st (a := m) (j := 12) (by decide))) (rv_o.st (a := m) (j := 13) (by decide))) (rv_o.st (a := m) (j := 14) (by decide))) (ro.up (by decide))
              have l2x : ∀ a j, ¬ (a = m ∧ j = 17) → M2.2.1 a j = M.2.1 a j := fun a j g => (r21 a j g).trans ((wz_nl (Decidable.not_and_iff_or_not.mp g)).trans (g21 a j))
              have r12 : M2.1 m 12 = (q : Int) := (ro m 12 (by rintro ⟨-, h⟩; revert h; decide)).trans ((hn_n (Or.inr (by decide))).trans ((hn_n (Or.inr (by decide))).trans (hn_s)))
              refine w_aln rfl ?_
              refine w_iln rfl ?_
              refine w_ifeq (fun c101 => ?_) (fun c101 => ?_)
              · skip
                refine w_ic ?_
                refine w_goto ?_
                refine w_pi hm rfl (by decide) rfl (fun q => by cases q) ?_
                exact w_ret (hQ _ ⟨(rv_o.tr o2 (rv_o.st (a := m) (j := 11) (by decide))), l2x, r22.trans g22, Or.inr ⟨by omega, (hn_n (Or.inr (by decide))).trans (r12), Or.inr (Or.inr ⟨cq, rv_an_l l1 l2, k, k1, r0, rn, (hn_n (Or.inr (by decide))).trans (r4), Or.inr (Or.inr ⟨by omega, by omega, hn_s⟩)⟩)⟩⟩)
              · skip
                refine w_aln rfl ?_
                refine w_gi hm rfl (by decide) rfl (r13) ?_
                refine w_iln rfl ?_
                refine w_ifeq (fun c102 => ?_) (fun c102 => ?_)
                · exfalso; omega
                · skip
                  refine w_bp ?_
                  refine w_goto ?_
                  refine w_cmle (fun c103 => ?_) (fun c103 => ?_)
                  · skip
                    refine w_iln rfl ?_
                    refine w_ifeq (fun c104 => ?_) (fun c104 => ?_)
                    · exfalso; omega
                    · skip
                      refine w_ic ?_
                      refine w_goto ?_
                      refine w_pi hm rfl (by decide) rfl (fun q => by cases q) ?_
                      exact w_ret (hQ _ ⟨(rv_o.tr o2 (rv_o.st (a := m) (j := 11) (by decide))), l2x, r22.trans g22, Or.inr ⟨by omega, (hn_n (Or.inr (by decide))).trans (r12), Or.inr (Or.inr ⟨cq, rv_an_l l1 l2, k, k1, r0, rn, (hn_n (Or.inr (by decide))).trans (r4), Or.inl ⟨by omega, by omega, hn_s, rw (by omega)⟩⟩)⟩⟩)
                  · skip
                    refine w_ic ?_
                    refine w_goto ?_
                    refine w_pi hm rfl (by decide) rfl (fun q => by cases q) ?_
                    exact w_ret (hQ _ ⟨(rv_o.tr o2 (rv_o.st (a := m) (j := 11) (by decide))), l2x, r22.trans g22, Or.inr ⟨by omega, (hn_n (Or.inr (by decide))).trans (r12), Or.inr (Or.inr ⟨cq, rv_an_l l1 l2, k, k1, r0, rn, (hn_n (Or.inr (by decide))).trans (r4), Or.inr (Or.inr ⟨by omega, by omega, hn_s⟩)⟩)⟩⟩)
          · exfalso; omega
        · skip
          refine w_ifne (fun c4 => ?_) (fun c4 => ?_)
          · exfalso; omega
          · skip
            refine w_iln rfl ?_
            refine w_cs (st := []) rfl (Nat.le_of_ble_eq_true rfl) (fun kk h => h) (r_X12_isDigit (d := d) (fun d1 d2 => ?_) (fun d0 => ?_))
            · skip
              refine w_ifne (fun c5 => ?_) (fun c5 => ?_)
              · skip
                refine w_iln rfl ?_
                refine w_cs (st := []) rfl (Nat.le_of_ble_eq_true rfl) (fun kk h => h) (r_X12_isSmall (d := d) (fun a b => by exfalso; omega) (fun a => ?_))
                · skip
                  refine w_isn ?_
                  refine w_ic ?_
                  refine w_isn ?_
                  refine w_aln rfl ?_
                  refine w_lc ?_
                  refine w_pl hm rfl (by decide) rfl ?_
                  refine w_aln rfl ?_
                  refine w_ic ?_
                  refine w_pi hm rfl (by decide) rfl (fun q => by cases q) ?_
                  have cq : q < n := by omega
                  refine r_nxt2 (q := q) (B := B) hm hb hn (n - q) 0 1 _ _ _ (by omega) (by omega) f11 ((hn_n (Or.inr (by decide))).trans ((hn_n (Or.inr (by decide))).trans ((hn_n (Or.inr (by decide))).trans (fs1)))) ((hn_n (Or.inr (by decide))).trans ((hn_n (Or.inr (by decide))).trans ((hn_n (Or.inr (by decide))).trans (g1)))) ((hn_n (Or.inr (by decide))).trans (hn_s)) ⟨Or.inr rfl, by decide, fun _ _ => rfl, fun _ h => absurd h (by decide), fun _ _ => rfl, fun _ h => absurd h (by decide)⟩ (fun _ => wz_sl) (fun _ _ => ⟨hn_s, Int.le_of_eq (hn_s).symm, fun _ => Int.le_of_eq (hn_s), fun _ => by rw [show _ = (0 : Int) from hn_s]; decide, fun _ => by rw [show _ = (0 : Int) from hn_s]; decide, by rw [show _ = (0 : Int) from hn_s]; decide⟩) (fun j => Eq.trans (congrArg rv_u8 ((hn_n (Or.inl ne)).trans ((hn_n (Or.inl ne)).trans ((hn_n (Or.inl ne)))))) (fb1 j)) (fun k al M2 r0 rn r4 r13 ra rw rnk ro r22 r21 => ?_)
                  have k1 : 1 ≤ k := by
                    have h1 : rv_rn B n (n - q) q = rv_rn B n (n - q - 1) (q + 1) := by
                      rw [show n - q = (n - q - 1) + 1 by omega]; exact if_pos ⟨cq, rv_an_d d1 d2⟩
                    have h2 := rv_rn_ge B n (n - q - 1) (q + 1)
                    have h3 : rv_rn B n (n - q) q = q + k := r0
                    omega
                  have hle := rv_nl_0 (rv_le_f l0) k k1
                  have hl := rv_nl_le B q k
                  obtain ⟨a1, a2, a3, a4, a5, a6⟩ := ra
                  have o2 := rv_o.tr (rv_o.tr (rv_o.tr (rv_o.tr o1 (rv_o.st (a := m) (j := 12) (by decide))) (rv_o.st (a := m) (j := 13) (by decide))) (rv_o.st (a := m) (j := 14) (by decide))) (ro.up (by decide))
                  have l2x : ∀ a j, ¬ (a = m ∧ j = 17) → M2.2.1 a j = M.2.1 a j := fun a j g => (r21 a j g).trans ((wz_nl (Decidable.not_and_iff_or_not.mp g)).trans (g21 a j))
                  have r12 : M2.1 m 12 = (q : Int) := (ro m 12 (by rintro ⟨-, h⟩; revert h; decide)).trans ((hn_n (Or.inr (by decide))).trans ((hn_n (Or.inr (by decide))).trans (hn_s)))
                  refine w_aln rfl ?_
                  refine w_iln rfl ?_
                  refine w_ifeq (fun c101 => ?_) (fun c101 => ?_)
                  · skip
                    refine w_ic ?_
                    refine w_goto ?_
                    refine w_pi hm rfl (by decide) rfl (fun q => by cases q) ?_
                    exact w_ret (hQ _ ⟨(rv_o.tr o2 (rv_o.st (a := m) (j := 11) (by decide))), l2x, r22.trans g22, Or.inr ⟨by omega, (hn_n (Or.inr (by decide))).trans (r12), Or.inr (Or.inr ⟨cq, rv_an_d d1 d2, k, k1, r0, rn, (hn_n (Or.inr (by decide))).trans (r4), Or.inr (Or.inr ⟨by omega, by omega, hn_s⟩)⟩)⟩⟩)
                  · skip
                    refine w_aln rfl ?_
                    refine w_gi hm rfl (by decide) rfl (r13) ?_
                    refine w_iln rfl ?_
                    refine w_ifeq (fun c102 => ?_) (fun c102 => ?_)
                    · skip
                      refine w_ic ?_
                      refine w_cmle (fun c103 => ?_) (fun c103 => ?_)
                      · skip
                        refine w_iln rfl ?_
                        refine w_ifeq (fun c104 => ?_) (fun c104 => ?_)
                        · skip
                          refine w_ic ?_
                          refine w_pi hm rfl (by decide) rfl (fun q => by cases q) ?_
                          exact w_ret (hQ _ ⟨(rv_o.tr o2 (rv_o.st (a := m) (j := 11) (by decide))), l2x, r22.trans g22, Or.inr ⟨by omega, (hn_n (Or.inr (by decide))).trans (r12), Or.inr (Or.inr ⟨cq, rv_an_d d1 d2, k, k1, r0, rn, (hn_n (Or.inr (by decide))).trans (r4), Or.inr (Or.inl ⟨by omega, by omega, by omega, hn_s, by rw [show (mj_p0 M2 m 11 2).1 m 14 = M2.1 m 14 from hn_n (Or.inr (by decide))]; exact rnk (by omega) (by omega)⟩)⟩)⟩⟩)
                        · exfalso; omega
                      · skip
                        refine w_ic ?_
                        refine w_goto ?_
                        refine w_pi hm rfl (by decide) rfl (fun q => by cases q) ?_
                        exact w_ret (hQ _ ⟨(rv_o.tr o2 (rv_o.st (a := m) (j := 11) (by decide))), l2x, r22.trans g22, Or.inr ⟨by omega, (hn_n (Or.inr (by decide))).trans (r12), Or.inr (Or.inr ⟨cq, rv_an_d d1 d2, k, k1, r0, rn, (hn_n (Or.inr (by decide))).trans (r4), Or.inr (Or.inr ⟨by omega, by omega, hn_s⟩)⟩)⟩⟩)
                    · exfalso; omega
              · exfalso; omega
            · skip
              refine w_ifne (fun c6 => ?_) (fun c6 => ?_)
              · exfalso; omega
              · skip
                refine w_aln rfl ?_
                refine w_iln rfl ?_
                refine w_bp ?_
                refine w_cmeq (fun c7 => ?_) (fun c7 => ?_)
                · skip
                  refine w_ic ?_
                  refine w_goto ?_
                  refine w_pi hm rfl (by decide) rfl (fun q => by cases q) ?_
                  refine w_aln rfl ?_
                  refine w_iln rfl ?_
                  refine w_pi hm rfl (by decide) rfl (fun q => by cases q) ?_
                  refine w_aln rfl ?_
                  refine w_dupr ?_
                  refine w_gi hm rfl (by decide) rfl ((hn_n (Or.inr (by decide))).trans ((hn_n (Or.inr (by decide))).trans ((hn_n (Or.inr (by decide))).trans ((hn_n (Or.inr (by decide))).trans (g1))))) ?_
                  refine w_ic ?_
                  refine w_add ⟨by show (-2147483648 : Int) ≤ (q : Int) + 1; omega, by show (q : Int) + 1 < (2147483648 : Int); omega⟩ ?_
                  refine w_pi hm rfl (by decide) rfl (fun q => by cases q) ?_
                  exact w_ret (hQ _ ⟨(rv_o.tr (rv_o.tr (rv_o.tr (rv_o.tr (rv_o.tr o1 (rv_o.st (a := m) (j := 12) (by decide))) (rv_o.st (a := m) (j := 13) (by decide))) (rv_o.st (a := m) (j := 11) (by decide))) (rv_o.st (a := m) (j := 14) (by decide))) (rv_o.st (a := m) (j := 4) (by decide))), fun a j _ => g21 a j, g22, Or.inr ⟨by omega, (hn_n (Or.inr (by decide))).trans ((hn_n (Or.inr (by decide))).trans ((hn_n (Or.inr (by decide))).trans ((hn_n (Or.inr (by decide))).trans (hn_s)))), Or.inr (Or.inl ⟨by omega, rv_an_n l0 d0, (hn_n (Or.inr (by decide))).trans (hn_s), (hn_s).trans (by omega), Or.inl ⟨(hn_n (Or.inr (by decide))).trans ((hn_n (Or.inr (by decide))).trans (hn_s)), by omega⟩⟩)⟩⟩)
                · skip
                  refine w_iln rfl ?_
                  refine w_bp ?_
                  refine w_cmeq (fun c8 => ?_) (fun c8 => ?_)
                  · skip
                    refine w_ic ?_
                    refine w_goto ?_
                    refine w_pi hm rfl (by decide) rfl (fun q => by cases q) ?_
                    refine w_aln rfl ?_
                    refine w_iln rfl ?_
                    refine w_pi hm rfl (by decide) rfl (fun q => by cases q) ?_
                    refine w_aln rfl ?_
                    refine w_dupr ?_
                    refine w_gi hm rfl (by decide) rfl ((hn_n (Or.inr (by decide))).trans ((hn_n (Or.inr (by decide))).trans ((hn_n (Or.inr (by decide))).trans ((hn_n (Or.inr (by decide))).trans (g1))))) ?_
                    refine w_ic ?_
                    refine w_add ⟨by show (-2147483648 : Int) ≤ (q : Int) + 1; omega, by show (q : Int) + 1 < (2147483648 : Int); omega⟩ ?_
                    refine w_pi hm rfl (by decide) rfl (fun q => by cases q) ?_
                    exact w_ret (hQ _ ⟨(rv_o.tr (rv_o.tr (rv_o.tr (rv_o.tr (rv_o.tr o1 (rv_o.st (a := m) (j := 12) (by decide))) (rv_o.st (a := m) (j := 13) (by decide))) (rv_o.st (a := m) (j := 11) (by decide))) (rv_o.st (a := m) (j := 14) (by decide))) (rv_o.st (a := m) (j := 4) (by decide))), fun a j _ => g21 a j, g22, Or.inr ⟨by omega, (hn_n (Or.inr (by decide))).trans ((hn_n (Or.inr (by decide))).trans ((hn_n (Or.inr (by decide))).trans ((hn_n (Or.inr (by decide))).trans (hn_s)))), Or.inr (Or.inl ⟨by omega, rv_an_n l0 d0, (hn_n (Or.inr (by decide))).trans (hn_s), (hn_s).trans (by omega), Or.inl ⟨(hn_n (Or.inr (by decide))).trans ((hn_n (Or.inr (by decide))).trans (hn_s)), by omega⟩⟩)⟩⟩)
                  · skip
                    refine w_iln rfl ?_
                    refine w_bp ?_
                    refine w_cmeq (fun c9 => ?_) (fun c9 => ?_)
                    · skip
                      refine w_ic ?_
                      refine w_goto ?_
                      refine w_pi hm rfl (by decide) rfl (fun q => by cases q) ?_
                      refine w_aln rfl ?_
                      refine w_iln rfl ?_
                      refine w_pi hm rfl (by decide) rfl (fun q => by cases q) ?_
                      refine w_aln rfl ?_
                      refine w_dupr ?_
                      refine w_gi hm rfl (by decide) rfl ((hn_n (Or.inr (by decide))).trans ((hn_n (Or.inr (by decide))).trans ((hn_n (Or.inr (by decide))).trans ((hn_n (Or.inr (by decide))).trans (g1))))) ?_
                      refine w_ic ?_
                      refine w_add ⟨by show (-2147483648 : Int) ≤ (q : Int) + 1; omega, by show (q : Int) + 1 < (2147483648 : Int); omega⟩ ?_
                      refine w_pi hm rfl (by decide) rfl (fun q => by cases q) ?_
                      exact w_ret (hQ _ ⟨(rv_o.tr (rv_o.tr (rv_o.tr (rv_o.tr (rv_o.tr o1 (rv_o.st (a := m) (j := 12) (by decide))) (rv_o.st (a := m) (j := 13) (by decide))) (rv_o.st (a := m) (j := 11) (by decide))) (rv_o.st (a := m) (j := 14) (by decide))) (rv_o.st (a := m) (j := 4) (by decide))), fun a j _ => g21 a j, g22, Or.inr ⟨by omega, (hn_n (Or.inr (by decide))).trans ((hn_n (Or.inr (by decide))).trans ((hn_n (Or.inr (by decide))).trans ((hn_n (Or.inr (by decide))).trans (hn_s)))), Or.inr (Or.inl ⟨by omega, rv_an_n l0 d0, (hn_n (Or.inr (by decide))).trans (hn_s), (hn_s).trans (by omega), Or.inl ⟨(hn_n (Or.inr (by decide))).trans ((hn_n (Or.inr (by decide))).trans (hn_s)), by omega⟩⟩)⟩⟩)
                    · skip
                      refine w_iln rfl ?_
                      refine w_bp ?_
                      refine w_cmlt (fun c10 => ?_) (fun c10 => ?_)
                      · skip
                        refine w_ic ?_
                        refine w_pi hm rfl (by decide) rfl (fun q => by cases q) ?_
                        refine w_aln rfl ?_
                        refine w_iln rfl ?_
                        refine w_pi hm rfl (by decide) rfl (fun q => by cases q) ?_
                        refine w_aln rfl ?_
                        refine w_dupr ?_
                        refine w_gi hm rfl (by decide) rfl ((hn_n (Or.inr (by decide))).trans ((hn_n (Or.inr (by decide))).trans ((hn_n (Or.inr (by decide))).trans ((hn_n (Or.inr (by decide))).trans (g1))))) ?_
                        refine w_ic ?_
                        refine w_add ⟨by show (-2147483648 : Int) ≤ (q : Int) + 1; omega, by show (q : Int) + 1 < (2147483648 : Int); omega⟩ ?_
                        refine w_pi hm rfl (by decide) rfl (fun q => by cases q) ?_
                        exact w_ret (hQ _ ⟨(rv_o.tr (rv_o.tr (rv_o.tr (rv_o.tr (rv_o.tr o1 (rv_o.st (a := m) (j := 12) (by decide))) (rv_o.st (a := m) (j := 13) (by decide))) (rv_o.st (a := m) (j := 11) (by decide))) (rv_o.st (a := m) (j := 14) (by decide))) (rv_o.st (a := m) (j := 4) (by decide))), fun a j _ => g21 a j, g22, Or.inr ⟨by omega, (hn_n (Or.inr (by decide))).trans ((hn_n (Or.inr (by decide))).trans ((hn_n (Or.inr (by decide))).trans ((hn_n (Or.inr (by decide))).trans (hn_s)))), Or.inr (Or.inl ⟨by omega, rv_an_n l0 d0, (hn_n (Or.inr (by decide))).trans (hn_s), (hn_s).trans (by omega), Or.inr ⟨(hn_n (Or.inr (by decide))).trans ((hn_n (Or.inr (by decide))).trans (hn_s)), by omega⟩⟩)⟩⟩)
                      · skip
                        refine w_iln rfl ?_
                        refine w_bp ?_
                        refine w_cmgt (fun c11 => ?_) (fun c11 => ?_)
                        · skip
                          refine w_ic ?_
                          refine w_pi hm rfl (by decide) rfl (fun q => by cases q) ?_
                          refine w_aln rfl ?_
                          refine w_iln rfl ?_
                          refine w_pi hm rfl (by decide) rfl (fun q => by cases q) ?_
                          refine w_aln rfl ?_
                          refine w_dupr ?_
                          refine w_gi hm rfl (by decide) rfl ((hn_n (Or.inr (by decide))).trans ((hn_n (Or.inr (by decide))).trans ((hn_n (Or.inr (by decide))).trans ((hn_n (Or.inr (by decide))).trans (g1))))) ?_
                          refine w_ic ?_
                          refine w_add ⟨by show (-2147483648 : Int) ≤ (q : Int) + 1; omega, by show (q : Int) + 1 < (2147483648 : Int); omega⟩ ?_
                          refine w_pi hm rfl (by decide) rfl (fun q => by cases q) ?_
                          exact w_ret (hQ _ ⟨(rv_o.tr (rv_o.tr (rv_o.tr (rv_o.tr (rv_o.tr o1 (rv_o.st (a := m) (j := 12) (by decide))) (rv_o.st (a := m) (j := 13) (by decide))) (rv_o.st (a := m) (j := 11) (by decide))) (rv_o.st (a := m) (j := 14) (by decide))) (rv_o.st (a := m) (j := 4) (by decide))), fun a j _ => g21 a j, g22, Or.inr ⟨by omega, (hn_n (Or.inr (by decide))).trans ((hn_n (Or.inr (by decide))).trans ((hn_n (Or.inr (by decide))).trans ((hn_n (Or.inr (by decide))).trans (hn_s)))), Or.inr (Or.inl ⟨by omega, rv_an_n l0 d0, (hn_n (Or.inr (by decide))).trans (hn_s), (hn_s).trans (by omega), Or.inr ⟨(hn_n (Or.inr (by decide))).trans ((hn_n (Or.inr (by decide))).trans (hn_s)), by omega⟩⟩)⟩⟩)
                        · skip
                          refine w_ic ?_
                          refine w_goto ?_
                          refine w_pi hm rfl (by decide) rfl (fun q => by cases q) ?_
                          refine w_aln rfl ?_
                          refine w_iln rfl ?_
                          refine w_pi hm rfl (by decide) rfl (fun q => by cases q) ?_
                          refine w_aln rfl ?_
                          refine w_dupr ?_
                          refine w_gi hm rfl (by decide) rfl ((hn_n (Or.inr (by decide))).trans ((hn_n (Or.inr (by decide))).trans ((hn_n (Or.inr (by decide))).trans ((hn_n (Or.inr (by decide))).trans (g1))))) ?_
                          refine w_ic ?_
                          refine w_add ⟨by show (-2147483648 : Int) ≤ (q : Int) + 1; omega, by show (q : Int) + 1 < (2147483648 : Int); omega⟩ ?_
                          refine w_pi hm rfl (by decide) rfl (fun q => by cases q) ?_
                          exact w_ret (hQ _ ⟨(rv_o.tr (rv_o.tr (rv_o.tr (rv_o.tr (rv_o.tr o1 (rv_o.st (a := m) (j := 12) (by decide))) (rv_o.st (a := m) (j := 13) (by decide))) (rv_o.st (a := m) (j := 11) (by decide))) (rv_o.st (a := m) (j := 14) (by decide))) (rv_o.st (a := m) (j := 4) (by decide))), fun a j _ => g21 a j, g22, Or.inr ⟨by omega, (hn_n (Or.inr (by decide))).trans ((hn_n (Or.inr (by decide))).trans ((hn_n (Or.inr (by decide))).trans ((hn_n (Or.inr (by decide))).trans (hn_s)))), Or.inr (Or.inl ⟨by omega, rv_an_n l0 d0, (hn_n (Or.inr (by decide))).trans (hn_s), (hn_s).trans (by omega), Or.inl ⟨(hn_n (Or.inr (by decide))).trans ((hn_n (Or.inr (by decide))).trans (hn_s)), by omega⟩⟩)⟩⟩)
      · skip
        refine w_aln rfl ?_
        refine w_ic ?_
        refine w_pi hm rfl (by decide) rfl (fun q => by cases q) ?_
        exact w_ret (hQ _ ⟨(rv_o.tr (rv_o.tr (rv_o.tr o1 (rv_o.st (a := m) (j := 12) (by decide))) (rv_o.st (a := m) (j := 13) (by decide))) (rv_o.st (a := m) (j := 11) (by decide))), fun a j _ => g21 a j, g22, Or.inr ⟨by omega, (hn_n (Or.inr (by decide))).trans ((hn_n (Or.inr (by decide))).trans (hn_s)), Or.inl ⟨by omega, hn_s⟩⟩⟩)
    · skip
      refine w_isn ?_
      refine w_iln rfl ?_
      refine w_ifge (fun c12 => ?_) (fun c12 => ?_)
      · exfalso; omega
      · skip
        refine w_aln rfl ?_
        refine w_ic ?_
        refine w_pi hm rfl (by decide) rfl (fun q => by cases q) ?_
        exact w_ret (hQ _ ⟨(rv_o.tr (rv_o.tr (rv_o.tr o1 (rv_o.st (a := m) (j := 12) (by decide))) (rv_o.st (a := m) (j := 13) (by decide))) (rv_o.st (a := m) (j := 11) (by decide))), fun a j _ => g21 a j, g22, Or.inr ⟨by omega, (hn_n (Or.inr (by decide))).trans ((hn_n (Or.inr (by decide))).trans (hn_s)), Or.inl ⟨by omega, hn_s⟩⟩⟩)
  · skip
    refine w_aln rfl ?_
    refine w_gi hm rfl (by decide) rfl ((hn_n (Or.inr (by decide))).trans ((hn_n (Or.inr (by decide))).trans (g1))) ?_
    refine w_aln rfl ?_
    refine w_gi hm rfl (by decide) rfl ((hn_n (Or.inr (by decide))).trans ((hn_n (Or.inr (by decide))).trans (fm1))) ?_
    refine w_cmlt (fun c13 => ?_) (fun c13 => ?_)
    · skip
      refine w_aln rfl ?_
      refine w_cv (st := []) rfl hm rfl (Nat.le_of_ble_eq_true rfl) (fun kk h => h) (r_X12_peek (d := d) (p := q) (B := B) hm hb hn f11 ((hn_n (Or.inr (by decide))).trans ((hn_n (Or.inr (by decide))).trans (fs1))) ((hn_n (Or.inr (by decide))).trans ((hn_n (Or.inr (by decide))).trans (g1))) (fun j => Eq.trans (congrArg rv_u8 ((hn_n (Or.inl ne)).trans ((hn_n (Or.inl ne))))) (fb1 j)) (fun ci => ?_) (fun ci => ?_))
      · skip
        refine w_isn ?_
        refine w_iln rfl ?_
        refine w_ifge (fun c14 => ?_) (fun c14 => ?_)
        · skip
          refine w_iln rfl ?_
          refine w_cs (st := []) rfl (Nat.le_of_ble_eq_true rfl) (fun kk h => h) (r_X12_isSmall (d := d) (fun l1 l2 => ?_) (fun l0 => ?_))
          · skip
            refine w_ifne (fun c15 => ?_) (fun c15 => ?_)
            · skip
              refine w_iln rfl ?_
              refine w_cs (st := []) rfl (Nat.le_of_ble_eq_true rfl) (fun kk h => h) (r_X12_isSmall (d := d) (fun a b => ?_) (fun a => by exfalso; omega))
              · skip
                refine w_isn ?_
                refine w_ic ?_
                refine w_isn ?_
                refine w_aln rfl ?_
                refine w_lc ?_
                refine w_pl hm rfl (by decide) rfl ?_
                refine w_aln rfl ?_
                refine w_ic ?_
                refine w_pi hm rfl (by decide) rfl (fun q => by cases q) ?_
                have cq : q < n := by omega
                refine r_nxt2 (q := q) (B := B) hm hb hn (n - q) 0 1 _ _ _ (by omega) (by omega) f11 ((hn_n (Or.inr (by decide))).trans ((hn_n (Or.inr (by decide))).trans ((hn_n (Or.inr (by decide))).trans (fs1)))) ((hn_n (Or.inr (by decide))).trans ((hn_n (Or.inr (by decide))).trans ((hn_n (Or.inr (by decide))).trans (g1)))) ((hn_n (Or.inr (by decide))).trans (hn_s)) ⟨Or.inr rfl, by decide, fun _ _ => rfl, fun _ h => absurd h (by decide), fun _ _ => rfl, fun _ h => absurd h (by decide)⟩ (fun _ => wz_sl) (fun _ _ => ⟨hn_s, Int.le_of_eq (hn_s).symm, fun _ => Int.le_of_eq (hn_s), fun _ => by rw [show _ = (0 : Int) from hn_s]; decide, fun _ => by rw [show _ = (0 : Int) from hn_s]; decide, by rw [show _ = (0 : Int) from hn_s]; decide⟩) (fun j => Eq.trans (congrArg rv_u8 ((hn_n (Or.inl ne)).trans ((hn_n (Or.inl ne)).trans ((hn_n (Or.inl ne)))))) (fb1 j)) (fun k al M2 r0 rn r4 r13 ra rw rnk ro r22 r21 => ?_)
                have k1 : 1 ≤ k := by
                  have h1 : rv_rn B n (n - q) q = rv_rn B n (n - q - 1) (q + 1) := by
                    rw [show n - q = (n - q - 1) + 1 by omega]; exact if_pos ⟨cq, rv_an_l l1 l2⟩
                  have h2 := rv_rn_ge B n (n - q - 1) (q + 1)
                  have h3 : rv_rn B n (n - q) q = q + k := r0
                  omega
                have hle := rv_nl_1 (rv_le_t l1 l2) k k1
                have hl := rv_nl_le B q k
                obtain ⟨a1, a2, a3, a4, a5, a6⟩ := ra
                have o2 := rv_o.tr (rv_o.tr (rv_o.tr (rv_o.tr o1 (rv_o.st (a := m) (j := 12) (by decide))) (rv_o.st (a := m) (j := 13) (by decide))) (rv_o.st (a := m) (j := 14) (by decide))) (ro.up (by decide))
                have l2x : ∀ a j, ¬ (a = m ∧ j = 17) → M2.2.1 a j = M.2.1 a j := fun a j g => (r21 a j g).trans ((wz_nl (Decidable.not_and_iff_or_not.mp g)).trans (g21 a j))
                have r12 : M2.1 m 12 = (q : Int) := (ro m 12 (by rintro ⟨-, h⟩; revert h; decide)).trans ((hn_n (Or.inr (by decide))).trans ((hn_n (Or.inr (by decide))).trans (hn_s)))
                refine w_aln rfl ?_
                refine w_iln rfl ?_
                refine w_ifeq (fun c101 => ?_) (fun c101 => ?_)
                · skip
                  refine w_ic ?_
                  refine w_goto ?_
                  refine w_pi hm rfl (by decide) rfl (fun q => by cases q) ?_
                  exact w_ret (hQ _ ⟨(rv_o.tr o2 (rv_o.st (a := m) (j := 11) (by decide))), l2x, r22.trans g22, Or.inr ⟨by omega, (hn_n (Or.inr (by decide))).trans (r12), Or.inr (Or.inr ⟨cq, rv_an_l l1 l2, k, k1, r0, rn, (hn_n (Or.inr (by decide))).trans (r4), Or.inr (Or.inr ⟨by omega, by omega, hn_s⟩)⟩)⟩⟩)
                · skip
                  refine w_aln rfl ?_
                  refine w_gi hm rfl (by decide) rfl (r13) ?_
                  refine w_iln rfl ?_
                  refine w_ifeq (fun c102 => ?_) (fun c102 => ?_)
                  · exfalso; omega
                  · skip
                    refine w_bp ?_
                    refine w_goto ?_
                    refine w_cmle (fun c103 => ?_) (fun c103 => ?_)
                    · skip
                      refine w_iln rfl ?_
                      refine w_ifeq (fun c104 => ?_) (fun c104 => ?_)
                      · exfalso; omega
                      · skip
                        refine w_ic ?_
                        refine w_goto ?_
                        refine w_pi hm rfl (by decide) rfl (fun q => by cases q) ?_
                        exact w_ret (hQ _ ⟨(rv_o.tr o2 (rv_o.st (a := m) (j := 11) (by decide))), l2x, r22.trans g22, Or.inr ⟨by omega, (hn_n (Or.inr (by decide))).trans (r12), Or.inr (Or.inr ⟨cq, rv_an_l l1 l2, k, k1, r0, rn, (hn_n (Or.inr (by decide))).trans (r4), Or.inl ⟨by omega, by omega, hn_s, rw (by omega)⟩⟩)⟩⟩)
                    · skip
                      refine w_ic ?_
                      refine w_goto ?_
                      refine w_pi hm rfl (by decide) rfl (fun q => by cases q) ?_
                      exact w_ret (hQ _ ⟨(rv_o.tr o2 (rv_o.st (a := m) (j := 11) (by decide))), l2x, r22.trans g22, Or.inr ⟨by omega, (hn_n (Or.inr (by decide))).trans (r12), Or.inr (Or.inr ⟨cq, rv_an_l l1 l2, k, k1, r0, rn, (hn_n (Or.inr (by decide))).trans (r4), Or.inr (Or.inr ⟨by omega, by omega, hn_s⟩)⟩)⟩⟩)
            · exfalso; omega
          · skip
            refine w_ifne (fun c16 => ?_) (fun c16 => ?_)
            · exfalso; omega
            · skip
              refine w_iln rfl ?_
              refine w_cs (st := []) rfl (Nat.le_of_ble_eq_true rfl) (fun kk h => h) (r_X12_isDigit (d := d) (fun d1 d2 => ?_) (fun d0 => ?_))
              · skip
                refine w_ifne (fun c17 => ?_) (fun c17 => ?_)
                · skip
                  refine w_iln rfl ?_
                  refine w_cs (st := []) rfl (Nat.le_of_ble_eq_true rfl) (fun kk h => h) (r_X12_isSmall (d := d) (fun a b => by exfalso; omega) (fun a => ?_))
                  · skip
                    refine w_isn ?_
                    refine w_ic ?_
                    refine w_isn ?_
                    refine w_aln rfl ?_
                    refine w_lc ?_
                    refine w_pl hm rfl (by decide) rfl ?_
                    refine w_aln rfl ?_
                    refine w_ic ?_
                    refine w_pi hm rfl (by decide) rfl (fun q => by cases q) ?_
                    have cq : q < n := by omega
                    refine r_nxt2 (q := q) (B := B) hm hb hn (n - q) 0 1 _ _ _ (by omega) (by omega) f11 ((hn_n (Or.inr (by decide))).trans ((hn_n (Or.inr (by decide))).trans ((hn_n (Or.inr (by decide))).trans (fs1)))) ((hn_n (Or.inr (by decide))).trans ((hn_n (Or.inr (by decide))).trans ((hn_n (Or.inr (by decide))).trans (g1)))) ((hn_n (Or.inr (by decide))).trans (hn_s)) ⟨Or.inr rfl, by decide, fun _ _ => rfl, fun _ h => absurd h (by decide), fun _ _ => rfl, fun _ h => absurd h (by decide)⟩ (fun _ => wz_sl) (fun _ _ => ⟨hn_s, Int.le_of_eq (hn_s).symm, fun _ => Int.le_of_eq (hn_s), fun _ => by rw [show _ = (0 : Int) from hn_s]; decide, fun _ => by rw [show _ = (0 : Int) from hn_s]; decide, by rw [show _ = (0 : Int) from hn_s]; decide⟩) (fun j => Eq.trans (congrArg rv_u8 ((hn_n (Or.inl ne)).trans ((hn_n (Or.inl ne)).trans ((hn_n (Or.inl ne)))))) (fb1 j)) (fun k al M2 r0 rn r4 r13 ra rw rnk ro r22 r21 => ?_)
                    have k1 : 1 ≤ k := by
                      have h1 : rv_rn B n (n - q) q = rv_rn B n (n - q - 1) (q + 1) := by
                        rw [show n - q = (n - q - 1) + 1 by omega]; exact if_pos ⟨cq, rv_an_d d1 d2⟩
                      have h2 := rv_rn_ge B n (n - q - 1) (q + 1)
                      have h3 : rv_rn B n (n - q) q = q + k := r0
                      omega
                    have hle := rv_nl_0 (rv_le_f l0) k k1
                    have hl := rv_nl_le B q k
                    obtain ⟨a1, a2, a3, a4, a5, a6⟩ := ra
                    have o2 := rv_o.tr (rv_o.tr (rv_o.tr (rv_o.tr o1 (rv_o.st (a := m) (j := 12) (by decide))) (rv_o.st (a := m) (j := 13) (by decide))) (rv_o.st (a := m) (j := 14) (by decide))) (ro.up (by decide))
                    have l2x : ∀ a j, ¬ (a = m ∧ j = 17) → M2.2.1 a j = M.2.1 a j := fun a j g => (r21 a j g).trans ((wz_nl (Decidable.not_and_iff_or_not.mp g)).trans (g21 a j))
                    have r12 : M2.1 m 12 = (q : Int) := (ro m 12 (by rintro ⟨-, h⟩; revert h; decide)).trans ((hn_n (Or.inr (by decide))).trans ((hn_n (Or.inr (by decide))).trans (hn_s)))
                    refine w_aln rfl ?_
                    refine w_iln rfl ?_
                    refine w_ifeq (fun c101 => ?_) (fun c101 => ?_)
                    · skip
                      refine w_ic ?_
                      refine w_goto ?_
                      refine w_pi hm rfl (by decide) rfl (fun q => by cases q) ?_
                      exact w_ret (hQ _ ⟨(rv_o.tr o2 (rv_o.st (a := m) (j := 11) (by decide))), l2x, r22.trans g22, Or.inr ⟨by omega, (hn_n (Or.inr (by decide))).trans (r12), Or.inr (Or.inr ⟨cq, rv_an_d d1 d2, k, k1, r0, rn, (hn_n (Or.inr (by decide))).trans (r4), Or.inr (Or.inr ⟨by omega, by omega, hn_s⟩)⟩)⟩⟩)
                    · skip
                      refine w_aln rfl ?_
                      refine w_gi hm rfl (by decide) rfl (r13) ?_
                      refine w_iln rfl ?_
                      refine w_ifeq (fun c102 => ?_) (fun c102 => ?_)
                      · skip
                        refine w_ic ?_
                        refine w_cmle (fun c103 => ?_) (fun c103 => ?_)
                        · skip
                          refine w_iln rfl ?_
                          refine w_ifeq (fun c104 => ?_) (fun c104 => ?_)
                          · skip
                            refine w_ic ?_
                            refine w_pi hm rfl (by decide) rfl (fun q => by cases q) ?_
                            exact w_ret (hQ _ ⟨(rv_o.tr o2 (rv_o.st (a := m) (j := 11) (by decide))), l2x, r22.trans g22, Or.inr ⟨by omega, (hn_n (Or.inr (by decide))).trans (r12), Or.inr (Or.inr ⟨cq, rv_an_d d1 d2, k, k1, r0, rn, (hn_n (Or.inr (by decide))).trans (r4), Or.inr (Or.inl ⟨by omega, by omega, by omega, hn_s, by rw [show (mj_p0 M2 m 11 2).1 m 14 = M2.1 m 14 from hn_n (Or.inr (by decide))]; exact rnk (by omega) (by omega)⟩)⟩)⟩⟩)
                          · exfalso; omega
                        · skip
                          refine w_ic ?_
                          refine w_goto ?_
                          refine w_pi hm rfl (by decide) rfl (fun q => by cases q) ?_
                          exact w_ret (hQ _ ⟨(rv_o.tr o2 (rv_o.st (a := m) (j := 11) (by decide))), l2x, r22.trans g22, Or.inr ⟨by omega, (hn_n (Or.inr (by decide))).trans (r12), Or.inr (Or.inr ⟨cq, rv_an_d d1 d2, k, k1, r0, rn, (hn_n (Or.inr (by decide))).trans (r4), Or.inr (Or.inr ⟨by omega, by omega, hn_s⟩)⟩)⟩⟩)
                      · exfalso; omega
                · exfalso; omega
              · skip
                refine w_ifne (fun c18 => ?_) (fun c18 => ?_)
                · exfalso; omega
                · skip
                  refine w_aln rfl ?_
                  refine w_iln rfl ?_
                  refine w_bp ?_
                  refine w_cmeq (fun c19 => ?_) (fun c19 => ?_)
                  · skip
                    refine w_ic ?_
                    refine w_goto ?_
                    refine w_pi hm rfl (by decide) rfl (fun q => by cases q) ?_
                    refine w_aln rfl ?_
                    refine w_iln rfl ?_
                    refine w_pi hm rfl (by decide) rfl (fun q => by cases q) ?_
                    refine w_aln rfl ?_
                    refine w_dupr ?_
                    refine w_gi hm rfl (by decide) rfl ((hn_n (Or.inr (by decide))).trans ((hn_n (Or.inr (by decide))).trans ((hn_n (Or.inr (by decide))).trans ((hn_n (Or.inr (by decide))).trans (g1))))) ?_
                    refine w_ic ?_
                    refine w_add ⟨by show (-2147483648 : Int) ≤ (q : Int) + 1; omega, by show (q : Int) + 1 < (2147483648 : Int); omega⟩ ?_
                    refine w_pi hm rfl (by decide) rfl (fun q => by cases q) ?_
                    exact w_ret (hQ _ ⟨(rv_o.tr (rv_o.tr (rv_o.tr (rv_o.tr (rv_o.tr o1 (rv_o.st (a := m) (j := 12) (by decide))) (rv_o.st (a := m) (j := 13) (by decide))) (rv_o.st (a := m) (j := 11) (by decide))) (rv_o.st (a := m) (j := 14) (by decide))) (rv_o.st (a := m) (j := 4) (by decide))), fun a j _ => g21 a j, g22, Or.inr ⟨by omega, (hn_n (Or.inr (by decide))).trans ((hn_n (Or.inr (by decide))).trans ((hn_n (Or.inr (by decide))).trans ((hn_n (Or.inr (by decide))).trans (hn_s)))), Or.inr (Or.inl ⟨by omega, rv_an_n l0 d0, (hn_n (Or.inr (by decide))).trans (hn_s), (hn_s).trans (by omega), Or.inl ⟨(hn_n (Or.inr (by decide))).trans ((hn_n (Or.inr (by decide))).trans (hn_s)), by omega⟩⟩)⟩⟩)
                  · skip
                    refine w_iln rfl ?_
                    refine w_bp ?_
                    refine w_cmeq (fun c20 => ?_) (fun c20 => ?_)
                    · skip
                      refine w_ic ?_
                      refine w_goto ?_
                      refine w_pi hm rfl (by decide) rfl (fun q => by cases q) ?_
                      refine w_aln rfl ?_
                      refine w_iln rfl ?_
                      refine w_pi hm rfl (by decide) rfl (fun q => by cases q) ?_
                      refine w_aln rfl ?_
                      refine w_dupr ?_
                      refine w_gi hm rfl (by decide) rfl ((hn_n (Or.inr (by decide))).trans ((hn_n (Or.inr (by decide))).trans ((hn_n (Or.inr (by decide))).trans ((hn_n (Or.inr (by decide))).trans (g1))))) ?_
                      refine w_ic ?_
                      refine w_add ⟨by show (-2147483648 : Int) ≤ (q : Int) + 1; omega, by show (q : Int) + 1 < (2147483648 : Int); omega⟩ ?_
                      refine w_pi hm rfl (by decide) rfl (fun q => by cases q) ?_
                      exact w_ret (hQ _ ⟨(rv_o.tr (rv_o.tr (rv_o.tr (rv_o.tr (rv_o.tr o1 (rv_o.st (a := m) (j := 12) (by decide))) (rv_o.st (a := m) (j := 13) (by decide))) (rv_o.st (a := m) (j := 11) (by decide))) (rv_o.st (a := m) (j := 14) (by decide))) (rv_o.st (a := m) (j := 4) (by decide))), fun a j _ => g21 a j, g22, Or.inr ⟨by omega, (hn_n (Or.inr (by decide))).trans ((hn_n (Or.inr (by decide))).trans ((hn_n (Or.inr (by decide))).trans ((hn_n (Or.inr (by decide))).trans (hn_s)))), Or.inr (Or.inl ⟨by omega, rv_an_n l0 d0, (hn_n (Or.inr (by decide))).trans (hn_s), (hn_s).trans (by omega), Or.inl ⟨(hn_n (Or.inr (by decide))).trans ((hn_n (Or.inr (by decide))).trans (hn_s)), by omega⟩⟩)⟩⟩)
                    · skip
                      refine w_iln rfl ?_
                      refine w_bp ?_
                      refine w_cmeq (fun c21 => ?_) (fun c21 => ?_)
                      · skip
                        refine w_ic ?_
                        refine w_goto ?_
                        refine w_pi hm rfl (by decide) rfl (fun q => by cases q) ?_
                        refine w_aln rfl ?_
                        refine w_iln rfl ?_
                        refine w_pi hm rfl (by decide) rfl (fun q => by cases q) ?_
                        refine w_aln rfl ?_
                        refine w_dupr ?_
                        refine w_gi hm rfl (by decide) rfl ((hn_n (Or.inr (by decide))).trans ((hn_n (Or.inr (by decide))).trans ((hn_n (Or.inr (by decide))).trans ((hn_n (Or.inr (by decide))).trans (g1))))) ?_
                        refine w_ic ?_
                        refine w_add ⟨by show (-2147483648 : Int) ≤ (q : Int) + 1; omega, by show (q : Int) + 1 < (2147483648 : Int); omega⟩ ?_
                        refine w_pi hm rfl (by decide) rfl (fun q => by cases q) ?_
                        exact w_ret (hQ _ ⟨(rv_o.tr (rv_o.tr (rv_o.tr (rv_o.tr (rv_o.tr o1 (rv_o.st (a := m) (j := 12) (by decide))) (rv_o.st (a := m) (j := 13) (by decide))) (rv_o.st (a := m) (j := 11) (by decide))) (rv_o.st (a := m) (j := 14) (by decide))) (rv_o.st (a := m) (j := 4) (by decide))), fun a j _ => g21 a j, g22, Or.inr ⟨by omega, (hn_n (Or.inr (by decide))).trans ((hn_n (Or.inr (by decide))).trans ((hn_n (Or.inr (by decide))).trans ((hn_n (Or.inr (by decide))).trans (hn_s)))), Or.inr (Or.inl ⟨by omega, rv_an_n l0 d0, (hn_n (Or.inr (by decide))).trans (hn_s), (hn_s).trans (by omega), Or.inl ⟨(hn_n (Or.inr (by decide))).trans ((hn_n (Or.inr (by decide))).trans (hn_s)), by omega⟩⟩)⟩⟩)
                      · skip
                        refine w_iln rfl ?_
                        refine w_bp ?_
                        refine w_cmlt (fun c22 => ?_) (fun c22 => ?_)
                        · skip
                          refine w_ic ?_
                          refine w_pi hm rfl (by decide) rfl (fun q => by cases q) ?_
                          refine w_aln rfl ?_
                          refine w_iln rfl ?_
                          refine w_pi hm rfl (by decide) rfl (fun q => by cases q) ?_
                          refine w_aln rfl ?_
                          refine w_dupr ?_
                          refine w_gi hm rfl (by decide) rfl ((hn_n (Or.inr (by decide))).trans ((hn_n (Or.inr (by decide))).trans ((hn_n (Or.inr (by decide))).trans ((hn_n (Or.inr (by decide))).trans (g1))))) ?_
                          refine w_ic ?_
                          refine w_add ⟨by show (-2147483648 : Int) ≤ (q : Int) + 1; omega, by show (q : Int) + 1 < (2147483648 : Int); omega⟩ ?_
                          refine w_pi hm rfl (by decide) rfl (fun q => by cases q) ?_
                          exact w_ret (hQ _ ⟨(rv_o.tr (rv_o.tr (rv_o.tr (rv_o.tr (rv_o.tr o1 (rv_o.st (a := m) (j := 12) (by decide))) (rv_o.st (a := m) (j := 13) (by decide))) (rv_o.st (a := m) (j := 11) (by decide))) (rv_o.st (a := m) (j := 14) (by decide))) (rv_o.st (a := m) (j := 4) (by decide))), fun a j _ => g21 a j, g22, Or.inr ⟨by omega, (hn_n (Or.inr (by decide))).trans ((hn_n (Or.inr (by decide))).trans ((hn_n (Or.inr (by decide))).trans ((hn_n (Or.inr (by decide))).trans (hn_s)))), Or.inr (Or.inl ⟨by omega, rv_an_n l0 d0, (hn_n (Or.inr (by decide))).trans (hn_s), (hn_s).trans (by omega), Or.inr ⟨(hn_n (Or.inr (by decide))).trans ((hn_n (Or.inr (by decide))).trans (hn_s)), by omega⟩⟩)⟩⟩)
                        · skip
                          refine w_iln rfl ?_
                          refine w_bp ?_
                          refine w_cmgt (fun c23 => ?_) (fun c23 => ?_)
                          · skip
                            refine w_ic ?_
                            refine w_pi hm rfl (by decide) rfl (fun q => by cases q) ?_
                            refine w_aln rfl ?_
                            refine w_iln rfl ?_
                            refine w_pi hm rfl (by decide) rfl (fun q => by cases q) ?_
                            refine w_aln rfl ?_
                            refine w_dupr ?_
                            refine w_gi hm rfl (by decide) rfl ((hn_n (Or.inr (by decide))).trans ((hn_n (Or.inr (by decide))).trans ((hn_n (Or.inr (by decide))).trans ((hn_n (Or.inr (by decide))).trans (g1))))) ?_
                            refine w_ic ?_
                            refine w_add ⟨by show (-2147483648 : Int) ≤ (q : Int) + 1; omega, by show (q : Int) + 1 < (2147483648 : Int); omega⟩ ?_
                            refine w_pi hm rfl (by decide) rfl (fun q => by cases q) ?_
                            exact w_ret (hQ _ ⟨(rv_o.tr (rv_o.tr (rv_o.tr (rv_o.tr (rv_o.tr o1 (rv_o.st (a := m) (j := 12) (by decide))) (rv_o.st (a := m) (j := 13) (by decide))) (rv_o.st (a := m) (j := 11) (by decide))) (rv_o.st (a := m) (j := 14) (by decide))) (rv_o.st (a := m) (j := 4) (by decide))), fun a j _ => g21 a j, g22, Or.inr ⟨by omega, (hn_n (Or.inr (by decide))).trans ((hn_n (Or.inr (by decide))).trans ((hn_n (Or.inr (by decide))).trans ((hn_n (Or.inr (by decide))).trans (hn_s)))), Or.inr (Or.inl ⟨by omega, rv_an_n l0 d0, (hn_n (Or.inr (by decide))).trans (hn_s), (hn_s).trans (by omega), Or.inr ⟨(hn_n (Or.inr (by decide))).trans ((hn_n (Or.inr (by decide))).trans (hn_s)), by omega⟩⟩)⟩⟩)
                          · skip
                            refine w_ic ?_
                            refine w_goto ?_
                            refine w_pi hm rfl (by decide) rfl (fun q => by cases q) ?_
                            refine w_aln rfl ?_
                            refine w_iln rfl ?_
                            refine w_pi hm rfl (by decide) rfl (fun q => by cases q) ?_
                            refine w_aln rfl ?_
                            refine w_dupr ?_
                            refine w_gi hm rfl (by decide) rfl ((hn_n (Or.inr (by decide))).trans ((hn_n (Or.inr (by decide))).trans ((hn_n (Or.inr (by decide))).trans ((hn_n (Or.inr (by decide))).trans (g1))))) ?_
                            refine w_ic ?_
                            refine w_add ⟨by show (-2147483648 : Int) ≤ (q : Int) + 1; omega, by show (q : Int) + 1 < (2147483648 : Int); omega⟩ ?_
                            refine w_pi hm rfl (by decide) rfl (fun q => by cases q) ?_
                            exact w_ret (hQ _ ⟨(rv_o.tr (rv_o.tr (rv_o.tr (rv_o.tr (rv_o.tr o1 (rv_o.st (a := m) (j := 12) (by decide))) (rv_o.st (a := m) (j := 13) (by decide))) (rv_o.st (a := m) (j := 11) (by decide))) (rv_o.st (a := m) (j := 14) (by decide))) (rv_o.st (a := m) (j := 4) (by decide))), fun a j _ => g21 a j, g22, Or.inr ⟨by omega, (hn_n (Or.inr (by decide))).trans ((hn_n (Or.inr (by decide))).trans ((hn_n (Or.inr (by decide))).trans ((hn_n (Or.inr (by decide))).trans (hn_s)))), Or.inr (Or.inl ⟨by omega, rv_an_n l0 d0, (hn_n (Or.inr (by decide))).trans (hn_s), (hn_s).trans (by omega), Or.inl ⟨(hn_n (Or.inr (by decide))).trans ((hn_n (Or.inr (by decide))).trans (hn_s)), by omega⟩⟩)⟩⟩)
        · skip
          refine w_aln rfl ?_
          refine w_ic ?_
          refine w_pi hm rfl (by decide) rfl (fun q => by cases q) ?_
          exact w_ret (hQ _ ⟨(rv_o.tr (rv_o.tr (rv_o.tr o1 (rv_o.st (a := m) (j := 12) (by decide))) (rv_o.st (a := m) (j := 13) (by decide))) (rv_o.st (a := m) (j := 11) (by decide))), fun a j _ => g21 a j, g22, Or.inr ⟨by omega, (hn_n (Or.inr (by decide))).trans ((hn_n (Or.inr (by decide))).trans (hn_s)), Or.inl ⟨by omega, hn_s⟩⟩⟩)
      · skip
        refine w_isn ?_
        refine w_iln rfl ?_
        refine w_ifge (fun c24 => ?_) (fun c24 => ?_)
        · exfalso; omega
        · skip
          refine w_aln rfl ?_
          refine w_ic ?_
          refine w_pi hm rfl (by decide) rfl (fun q => by cases q) ?_
          exact w_ret (hQ _ ⟨(rv_o.tr (rv_o.tr (rv_o.tr o1 (rv_o.st (a := m) (j := 12) (by decide))) (rv_o.st (a := m) (j := 13) (by decide))) (rv_o.st (a := m) (j := 11) (by decide))), fun a j _ => g21 a j, g22, Or.inr ⟨by omega, (hn_n (Or.inr (by decide))).trans ((hn_n (Or.inr (by decide))).trans (hn_s)), Or.inl ⟨by omega, hn_s⟩⟩⟩)
    · skip
      refine w_aln rfl ?_
      refine w_aln rfl ?_
      refine w_gi hm rfl (by decide) rfl ((hn_n (Or.inr (by decide))).trans ((hn_n (Or.inr (by decide))).trans (fm1))) ?_
      refine w_pi hm rfl (by decide) rfl (fun q => by cases q) ?_
      refine w_aln rfl ?_
      refine w_ic ?_
      refine w_pi hm rfl (by decide) rfl (fun q => by cases q) ?_
      exact w_ret (hQ _ ⟨(rv_o.tr (rv_o.tr (rv_o.tr (rv_o.tr o1 (rv_o.st (a := m) (j := 12) (by decide))) (rv_o.st (a := m) (j := 13) (by decide))) (rv_o.st (a := m) (j := 12) (by decide))) (rv_o.st (a := m) (j := 11) (by decide))), fun a j _ => g21 a j, g22, Or.inl ⟨by omega, by omega, hn_s, (hn_n (Or.inr (by decide))).trans (hn_s)⟩⟩)
