/-! ===== the reference's row (laid by a program) ===== -/
theorem rv_R.bb {M0 M : mj_M} {n lim m bt ha hd ns rs sx : Nat} {t : Nat × Nat × Int × List Int × Nat} {PL WA OA : Nat → Int} {TO BI : Nat → Nat → Int} {nm : Nat → List Int} {b b' g z r : Int} (e : b = b') (h : rv_R M0 n lim m bt ha hd ns rs sx t PL WA OA TO BI nm b g z r M) : rv_R M0 n lim m bt ha hd ns rs sx t PL WA OA TO BI nm b' g z r M := by subst e; exact h
theorem rv_up2_c {f : Nat → Nat → Int} {t i j : Nat} {a b : Int} (h : i ≠ j) : rv_up2 (rv_up2 f t i a) t j b = rv_up2 (rv_up2 f t j b) t i a := by
  funext s k
  by_cases c : s = t
  · rw [c]
    by_cases c1 : k = j
    · rw [c1, rv_up2_s, rv_up2_n (fun e => h e.symm), rv_up2_s]
    · rw [rv_up2_n c1]
      by_cases c2 : k = i
      · rw [c2, rv_up2_s, rv_up2_s]
      · rw [rv_up2_n c2, rv_up2_n c2, rv_up2_n c1]
  · rw [rv_up2_o c, rv_up2_o c, rv_up2_o c, rv_up2_o c]
set_option maxHeartbeats 4000000 in
theorem r_rR_0 {G : mj_G} {M0 M : mj_M} {B : Nat → Int} {n lim m bt ha hd ns rs sx : Nat} {T : Nat → Nat × Nat × Int × List Int × Nat} {PL WA OA : Nat → Int} {TO BI : Nat → Nat → Int} {nm : Nat → List Int} {g z r : Int} {Q : mj_P} {d q : Nat} (hB : rv_BT G M0 B n lim m bt ha hd ns rs sx T) (hS : rv_R M0 n lim m bt ha hd ns rs sx (T q) PL WA OA TO BI nm (PL 4) g z r M) (hqn : q ≤ n) (hb : rv_pb PL) (hk1 : (T q).1 = 1) (hj : rv_rs.getD 0 [] = (T q).2.2.2.1) (h : sp_town T PL WA OA TO BI nm q (fun f a => ∀ M', rv_FR M0 m sx ha f a M' → Q (some (.inl 0)) G M') (fun PL WA OA TO BI nm q' => q ≤ q' → q' ≤ n → rv_pb PL → ∀ g z M', rv_R M0 n lim m bt ha hd ns rs sx (T (rv_x T q')) PL WA OA TO BI nm (PL 4) g z r M' → Q (some (.inl 1)) G M')) : mj_R mj_tab (d + 6) 237 [.inr (.inr (some m))] G M Q := by
  obtain ⟨⟨gm, gbt, gha, ghd, gns, grs, r1, r7, r23, r9, r10, rb, rr, n1, n2, gsx, r6⟩, hT⟩ := id hB
  obtain ⟨b1, b2, b3, b4⟩ := id hb
  unfold sp_town at h
  refine ⟨Nat.le_of_ble_eq_true rfl, ?_⟩
  show wz (d + 5) mt_X12_row.2.2.2.2.1 Q mt_X12_row.2.2.2.2.1 [some (.inr (.inr (some m))), none] [] G M _ _
  refine w_aln rfl ?_
  refine w_l2 ?_
  refine w_cv (st := []) rfl gm rfl (Nat.le_of_ble_eq_true rfl) (fun kk h => h) (r_isWord1 (d := d + 4) (i := 0) hB hS hqn (by decide) (by decide +kernel) ⟨hk1, hj⟩ ?_)
  refine w_ifeq (fun c1 => ?_) (fun c1 => ?_)
  · exfalso; omega
  · skip
    refine w_aln rfl ?_
    refine w_cv (st := []) rfl gm rfl (Nat.le_of_ble_eq_true rfl) (fun kk h => h) ⟨Nat.le_of_ble_eq_true rfl, ?_⟩
    show wz (d + 4) mt_X12_readTown.2.2.2.2.1 _ mt_X12_readTown.2.2.2.2.1 [some (.inr (.inr (some m))), none, none] [] _ _ _ _
    refine w_aln rfl ?_
    refine w_gr gm rfl (by decide) rfl ((congrFun (congrFun hS.2.2.2.2.2.1 m) 7).trans r7) ?_
    refine w_ic ?_
    refine w_iald (v := PL 4) gha rfl (by show (0 : Int) ≤ 0; omega) (by show 0 < ((221 : Nat) : Int); omega) (hS.2.2.1.1.trans (rfl)) ?_
    refine w_isn ?_
    show wz _ _ _ _ [some (.inr (.inr (some m))), some (.inl (PL 4)), none] _ _ _ _ _
    refine w_iln rfl ?_
    refine w_bp ?_
    refine w_cmne (fun c2 => ?_) (fun c2 => ?_)
    · skip
      refine w_aln rfl ?_
      refine w_cv (st := []) rfl gm rfl (Nat.le_of_ble_eq_true rfl) (fun kk h => h) (r_nxtT (d := d + 2) hB hS (by omega) (by omega) hqn (fun Ms3 s3 => ?_))
      refine w_aln rfl ?_
      have h4 := h.2 (by omega)
      clear h
      refine w_cv (st := []) rfl gm rfl (Nat.le_of_ble_eq_true rfl) (fun kk h => h) (r_X12_isName2 (d := d + 3) hB s3 (rv_y_le hB hqn) (fun bk5 ck5 => ?_) (fun ck5 => ?_))
      · skip
        have hvk5 := (h4.1 bk5).1 ck5
        refine w_ifne (fun c6 => ?_) (fun c6 => ?_)
        · skip
          refine w_aln rfl ?_
          refine w_bp ?_
          refine w_iln rfl ?_
          refine w_cv (st := []) rfl gm rfl (Nat.le_of_ble_eq_true rfl) (fun kk h => h) (r_X12_find2 (d := d + 3) hB s3 hb (by omega) (by omega) (rv_y_wo hB (rv_y_le hB hqn) (by omega)) (sp_find.mono hvk5 (fun rk7 lk7 ck7 mk7 hvk7 => ?_) (fun mk7 hvk7 => ?_)))
          · skip
            refine w_iflt (fun c8 => ?_) (fun c8 => ?_)
            · exfalso; omega
            · skip
              refine w_aln rfl ?_
              refine w_ic ?_
              have h10 := hvk7.2 (by omega)
              clear hvk7
              refine w_cv (st := []) rfl gm rfl (Nat.le_of_ble_eq_true rfl) (fun kk h => h) (r_X12_bad2 (d := d + 3) hB s3 (fun MF9 F9 => ?_))
              refine w_iret (fun _ => Or.inl rfl) ?_
              exact w_iret (fun _ => Or.inl rfl) (h10 _ F9)
          · skip
            refine w_iflt (fun c11 => ?_) (fun c11 => ?_)
            · skip
              refine w_aln rfl ?_
              refine w_gr gm rfl (by decide) rfl ((congrFun (congrFun s3.2.2.2.2.2.1 m) 9).trans r9) ?_
              refine w_bp ?_
              refine w_iln rfl ?_
              refine w_add ⟨by show (-2147483648 : Int) ≤ 8 + (PL 4); omega, by show 8 + (PL 4) < (2147483648 : Int); omega⟩ ?_
              refine w_aln rfl ?_
              refine w_gl gm rfl (by decide) rfl ((s3.2.1.2.2.1 (by omega))) ?_
              refine w_last gns rfl (by decide) (by show (0 : Int) ≤ 8 + (PL 4); omega) (by show 8 + (PL 4) < ((16 : Nat) : Int); omega) ?_
              have s12 := s3.snm (j := (8 + (PL 4)).toNat) (k := (PL 4).toNat) (w := (T (rv_x T q)).2.2.2.1) hB.1 (by omega) (by omega) (rv_y_wo hB (rv_y_le hB hqn) (by omega))
              refine w_aln rfl ?_
              refine w_cv (st := []) rfl gm rfl (Nat.le_of_ble_eq_true rfl) (fun kk h => h) (r_nxtT (d := d + 2) hB s12 (by omega) (by omega) (rv_y_le hB hqn) (fun Ms13 s13 => ?_))
              refine w_ic ?_
              refine w_isn ?_
              show wz _ _ _ _ [some (.inr (.inr (some m))), some (.inl (PL 4)), some (.inl 0)] _ _ _ _ _
              refine w_iln rfl ?_
              refine w_ic ?_
              refine w_cmge (fun c14 => ?_) (fun c14 => ?_)
              · exfalso; omega
              · skip
                refine w_aln rfl ?_
                refine w_ic ?_
                refine w_iln rfl ?_
                refine w_ic ?_
                refine w_rem (by decide) ?_
                intro z15 hz15 ez15
                obtain rfl : z15 = 0 := ez15.trans (by decide)
                refine w_ifne (fun c16 => ?_) (fun c16 => ?_)
                · exfalso; omega
                · skip
                  refine w_bp ?_
                  refine w_goto ?_
                  have h17 := hvk7.1 (by omega)
                  clear hvk7
                  refine w_cv (st := []) rfl gm rfl (Nat.le_of_ble_eq_true rfl) (fun kk h => h) (r_X12_takes2 (d := d + 1) hB s13 (rv_y_le hB (rv_y_le hB hqn)) (sp_num.mono h17 (fun fk18 ak18 hfk18 Mk18 Fk18 => ?_) (fun bk18 ck18 ek18 hvk18 Mk18 sk18 => ?_)))
                  · skip
                    refine w_ifne (fun c19 => ?_) (fun c19 => ?_)
                    · exfalso; omega
                    · skip
                      refine w_ic ?_
                      refine w_iret (fun _ => Or.inl rfl) ?_
                      exact w_iret (fun _ => Or.inl rfl) (hfk18 _ Fk18)
                  · skip
                    refine w_ifne (fun c20 => ?_) (fun c20 => ?_)
                    · skip
                      refine w_aln rfl ?_
                      refine w_gr gm rfl (by decide) rfl ((congrFun (congrFun sk18.2.2.2.2.2.1 m) 7).trans r7) ?_
                      refine w_ic ?_
                      refine w_bp ?_
                      refine w_iln rfl ?_
                      refine w_mul ⟨by show (-2147483648 : Int) ≤ 9 * (PL 4); omega, by show 9 * (PL 4) < (2147483648 : Int); omega⟩ ?_
                      refine w_add ⟨by show (-2147483648 : Int) ≤ 4 + (9 * (PL 4)); omega, by show 4 + (9 * (PL 4)) < (2147483648 : Int); omega⟩ ?_
                      refine w_iln rfl ?_
                      refine w_add ⟨by show (-2147483648 : Int) ≤ (4 + (9 * (PL 4))) + 0; omega, by show (4 + (9 * (PL 4))) + 0 < (2147483648 : Int); omega⟩ ?_
                      refine w_aln rfl ?_
                      refine w_gi gm rfl (by decide) rfl (sk18.1.2.2.2.2.2.1) ?_
                      refine w_iast gha rfl (by decide) (by show (0 : Int) ≤ (4 + (9 * (PL 4))) + 0; omega) (by show (4 + (9 * (PL 4))) + 0 < ((221 : Nat) : Int); omega) ?_
                      have s21 := sk18.htold (j := ((4 + (9 * (PL 4))) + 0).toNat) (k := (PL 4).toNat) (i := 0) (v := (T (rv_x T (rv_x T q))).2.2.1) hB.1 (by omega) (by omega) (by omega)
                      refine w_ii rfl ⟨by show (-2147483648 : Int) ≤ 1; omega, by show 1 < (2147483648 : Int); omega⟩ ?_
                      show wz _ _ _ _ [some (.inr (.inr (some m))), some (.inl (PL 4)), some (.inl 1)] _ _ _ _ _
                      refine w_goto ?_
                      refine w_iln rfl ?_
                      refine w_ic ?_
                      refine w_cmge (fun c22 => ?_) (fun c22 => ?_)
                      · exfalso; omega
                      · skip
                        refine w_aln rfl ?_
                        refine w_ic ?_
                        refine w_iln rfl ?_
                        refine w_ic ?_
                        refine w_rem (by decide) ?_
                        intro z23 hz23 ez23
                        obtain rfl : z23 = 1 := ez23.trans (by decide)
                        refine w_ifne (fun c24 => ?_) (fun c24 => ?_)
                        · skip
                          refine w_sp ?_
                          refine w_cv (st := []) rfl gm rfl (Nat.le_of_ble_eq_true rfl) (fun kk h => h) (r_X12_takes2 (d := d + 1) hB s21 (rv_y_le hB (rv_y_le hB (rv_y_le hB hqn))) (sp_num.mono hvk18 (fun fk25 ak25 hfk25 Mk25 Fk25 => ?_) (fun bk25 ck25 ek25 hvk25 Mk25 sk25 => ?_)))
                          · skip
                            refine w_ifne (fun c26 => ?_) (fun c26 => ?_)
                            · exfalso; omega
                            · skip
                              refine w_ic ?_
                              refine w_iret (fun _ => Or.inl rfl) ?_
                              exact w_iret (fun _ => Or.inl rfl) (hfk25 _ Fk25)
                          · skip
                            refine w_ifne (fun c27 => ?_) (fun c27 => ?_)
                            · skip
                              refine w_aln rfl ?_
                              refine w_gr gm rfl (by decide) rfl ((congrFun (congrFun sk25.2.2.2.2.2.1 m) 7).trans r7) ?_
                              refine w_ic ?_
                              refine w_bp ?_
                              refine w_iln rfl ?_
                              refine w_mul ⟨by show (-2147483648 : Int) ≤ 9 * (PL 4); omega, by show 9 * (PL 4) < (2147483648 : Int); omega⟩ ?_
                              refine w_add ⟨by show (-2147483648 : Int) ≤ 4 + (9 * (PL 4)); omega, by show 4 + (9 * (PL 4)) < (2147483648 : Int); omega⟩ ?_
                              refine w_iln rfl ?_
                              refine w_add ⟨by show (-2147483648 : Int) ≤ (4 + (9 * (PL 4))) + 1; omega, by show (4 + (9 * (PL 4))) + 1 < (2147483648 : Int); omega⟩ ?_
                              refine w_aln rfl ?_
                              refine w_gi gm rfl (by decide) rfl (sk25.1.2.2.2.2.2.1) ?_
                              refine w_iast gha rfl (by decide) (by show (0 : Int) ≤ (4 + (9 * (PL 4))) + 1; omega) (by show (4 + (9 * (PL 4))) + 1 < ((221 : Nat) : Int); omega) ?_
                              have s28 := sk25.htold (j := ((4 + (9 * (PL 4))) + 1).toNat) (k := (PL 4).toNat) (i := 1) (v := (T (rv_x T (rv_x T (rv_x T q)))).2.2.1) hB.1 (by omega) (by omega) (by omega)
                              refine w_ii rfl ⟨by show (-2147483648 : Int) ≤ 2; omega, by show 2 < (2147483648 : Int); omega⟩ ?_
                              show wz _ _ _ _ [some (.inr (.inr (some m))), some (.inl (PL 4)), some (.inl 2)] _ _ _ _ _
                              refine w_goto ?_
                              refine w_iln rfl ?_
                              refine w_ic ?_
                              refine w_cmge (fun c29 => ?_) (fun c29 => ?_)
                              · exfalso; omega
                              · skip
                                refine w_aln rfl ?_
                                refine w_ic ?_
                                refine w_iln rfl ?_
                                refine w_ic ?_
                                refine w_rem (by decide) ?_
                                intro z30 hz30 ez30
                                obtain rfl : z30 = 0 := ez30.trans (by decide)
                                refine w_ifne (fun c31 => ?_) (fun c31 => ?_)
                                · exfalso; omega
                                · skip
                                  refine w_bp ?_
                                  refine w_goto ?_
                                  refine w_cv (st := []) rfl gm rfl (Nat.le_of_ble_eq_true rfl) (fun kk h => h) (r_X12_takes2 (d := d + 1) hB s28 (rv_y_le hB (rv_y_le hB (rv_y_le hB (rv_y_le hB hqn)))) (sp_num.mono hvk25 (fun fk32 ak32 hfk32 Mk32 Fk32 => ?_) (fun bk32 ck32 ek32 hvk32 Mk32 sk32 => ?_)))
                                  · skip
                                    refine w_ifne (fun c33 => ?_) (fun c33 => ?_)
                                    · exfalso; omega
                                    · skip
                                      refine w_ic ?_
                                      refine w_iret (fun _ => Or.inl rfl) ?_
                                      exact w_iret (fun _ => Or.inl rfl) (hfk32 _ Fk32)
                                  · skip
                                    refine w_ifne (fun c34 => ?_) (fun c34 => ?_)
                                    · skip
                                      refine w_aln rfl ?_
                                      refine w_gr gm rfl (by decide) rfl ((congrFun (congrFun sk32.2.2.2.2.2.1 m) 7).trans r7) ?_
                                      refine w_ic ?_
                                      refine w_bp ?_
                                      refine w_iln rfl ?_
                                      refine w_mul ⟨by show (-2147483648 : Int) ≤ 9 * (PL 4); omega, by show 9 * (PL 4) < (2147483648 : Int); omega⟩ ?_
                                      refine w_add ⟨by show (-2147483648 : Int) ≤ 4 + (9 * (PL 4)); omega, by show 4 + (9 * (PL 4)) < (2147483648 : Int); omega⟩ ?_
                                      refine w_iln rfl ?_
                                      refine w_add ⟨by show (-2147483648 : Int) ≤ (4 + (9 * (PL 4))) + 2; omega, by show (4 + (9 * (PL 4))) + 2 < (2147483648 : Int); omega⟩ ?_
                                      refine w_aln rfl ?_
                                      refine w_gi gm rfl (by decide) rfl (sk32.1.2.2.2.2.2.1) ?_
                                      refine w_iast gha rfl (by decide) (by show (0 : Int) ≤ (4 + (9 * (PL 4))) + 2; omega) (by show (4 + (9 * (PL 4))) + 2 < ((221 : Nat) : Int); omega) ?_
                                      have s35 := sk32.htold (j := ((4 + (9 * (PL 4))) + 2).toNat) (k := (PL 4).toNat) (i := 2) (v := (T (rv_x T (rv_x T (rv_x T (rv_x T q))))).2.2.1) hB.1 (by omega) (by omega) (by omega)
                                      refine w_ii rfl ⟨by show (-2147483648 : Int) ≤ 3; omega, by show 3 < (2147483648 : Int); omega⟩ ?_
                                      show wz _ _ _ _ [some (.inr (.inr (some m))), some (.inl (PL 4)), some (.inl 3)] _ _ _ _ _
                                      refine w_goto ?_
                                      refine w_iln rfl ?_
                                      refine w_ic ?_
                                      refine w_cmge (fun c36 => ?_) (fun c36 => ?_)
                                      · exfalso; omega
                                      · skip
                                        refine w_aln rfl ?_
                                        refine w_ic ?_
                                        refine w_iln rfl ?_
                                        refine w_ic ?_
                                        refine w_rem (by decide) ?_
                                        intro z37 hz37 ez37
                                        obtain rfl : z37 = 1 := ez37.trans (by decide)
                                        refine w_ifne (fun c38 => ?_) (fun c38 => ?_)
                                        · skip
                                          refine w_sp ?_
                                          refine w_cv (st := []) rfl gm rfl (Nat.le_of_ble_eq_true rfl) (fun kk h => h) (r_X12_takes2 (d := d + 1) hB s35 (rv_y_le hB (rv_y_le hB (rv_y_le hB (rv_y_le hB (rv_y_le hB hqn))))) (sp_num.mono hvk32 (fun fk39 ak39 hfk39 Mk39 Fk39 => ?_) (fun bk39 ck39 ek39 hvk39 Mk39 sk39 => ?_)))
                                          · skip
                                            refine w_ifne (fun c40 => ?_) (fun c40 => ?_)
                                            · exfalso; omega
                                            · skip
                                              refine w_ic ?_
                                              refine w_iret (fun _ => Or.inl rfl) ?_
                                              exact w_iret (fun _ => Or.inl rfl) (hfk39 _ Fk39)
                                          · skip
                                            refine w_ifne (fun c41 => ?_) (fun c41 => ?_)
                                            · skip
                                              refine w_aln rfl ?_
                                              refine w_gr gm rfl (by decide) rfl ((congrFun (congrFun sk39.2.2.2.2.2.1 m) 7).trans r7) ?_
                                              refine w_ic ?_
                                              refine w_bp ?_
                                              refine w_iln rfl ?_
                                              refine w_mul ⟨by show (-2147483648 : Int) ≤ 9 * (PL 4); omega, by show 9 * (PL 4) < (2147483648 : Int); omega⟩ ?_
                                              refine w_add ⟨by show (-2147483648 : Int) ≤ 4 + (9 * (PL 4)); omega, by show 4 + (9 * (PL 4)) < (2147483648 : Int); omega⟩ ?_
                                              refine w_iln rfl ?_
                                              refine w_add ⟨by show (-2147483648 : Int) ≤ (4 + (9 * (PL 4))) + 3; omega, by show (4 + (9 * (PL 4))) + 3 < (2147483648 : Int); omega⟩ ?_
                                              refine w_aln rfl ?_
                                              refine w_gi gm rfl (by decide) rfl (sk39.1.2.2.2.2.2.1) ?_
                                              refine w_iast gha rfl (by decide) (by show (0 : Int) ≤ (4 + (9 * (PL 4))) + 3; omega) (by show (4 + (9 * (PL 4))) + 3 < ((221 : Nat) : Int); omega) ?_
                                              have s42 := sk39.htold (j := ((4 + (9 * (PL 4))) + 3).toNat) (k := (PL 4).toNat) (i := 3) (v := (T (rv_x T (rv_x T (rv_x T (rv_x T (rv_x T q)))))).2.2.1) hB.1 (by omega) (by omega) (by omega)
                                              refine w_ii rfl ⟨by show (-2147483648 : Int) ≤ 4; omega, by show 4 < (2147483648 : Int); omega⟩ ?_
                                              show wz _ _ _ _ [some (.inr (.inr (some m))), some (.inl (PL 4)), some (.inl 4)] _ _ _ _ _
                                              refine w_goto ?_
                                              refine w_iln rfl ?_
                                              refine w_ic ?_
                                              refine w_cmge (fun c43 => ?_) (fun c43 => ?_)
                                              · skip
                                                refine w_aln rfl ?_
                                                refine w_gr gm rfl (by decide) rfl ((congrFun (congrFun s42.2.2.2.2.2.1 m) 7).trans r7) ?_
                                                refine w_ic ?_
                                                refine w_dup2 ?_
                                                refine w_iald (v := PL 4) gha rfl (by show (0 : Int) ≤ 0; omega) (by show 0 < ((221 : Nat) : Int); omega) (s42.2.2.1.1.trans (rfl)) ?_
                                                refine w_ic ?_
                                                refine w_add ⟨by show (-2147483648 : Int) ≤ (PL 4) + 1; omega, by show (PL 4) + 1 < (2147483648 : Int); omega⟩ ?_
                                                refine w_iast gha rfl (by decide) (by show (0 : Int) ≤ 0; omega) (by show 0 < ((221 : Nat) : Int); omega) ?_
                                                have s44 := s42.htow (j := (0 : Int).toNat) (v := (PL 4) + 1) hB.1 rfl
                                                refine w_ic ?_
                                                refine w_iret (fun _ => Or.inr rfl) ?_
                                                exact w_iret (fun _ => Or.inr rfl) (hvk39 (Nat.le_trans (Nat.le_trans (Nat.le_trans (Nat.le_trans (Nat.le_trans (Nat.le_refl q) (rv_y_ge hB hqn)) (rv_y_ge hB (rv_y_le hB hqn))) (rv_y_ge hB (rv_y_le hB (rv_y_le hB hqn)))) (rv_y_ge hB (rv_y_le hB (rv_y_le hB (rv_y_le hB hqn))))) (rv_y_ge hB (rv_y_le hB (rv_y_le hB (rv_y_le hB (rv_y_le hB hqn)))))) (rv_y_le hB (rv_y_le hB (rv_y_le hB (rv_y_le hB (rv_y_le hB hqn))))) ⟨by rw [show (rv_up PL 4 ((PL 4) + 1)) 4 = (PL 4) + 1 from rv_up_s]; omega, by rw [show (rv_up PL 4 ((PL 4) + 1)) 4 = (PL 4) + 1 from rv_up_s]; omega, by rw [show (rv_up PL 4 ((PL 4) + 1)) 5 = PL 5 from (rv_up_n (by decide))]; omega, by rw [show (rv_up PL 4 ((PL 4) + 1)) 5 = PL 5 from (rv_up_n (by decide))]; omega⟩ _ _ _ (rv_R.bb (by rw [show (rv_up PL 4 ((PL 4) + 1)) 4 = (PL 4) + 1 from rv_up_s]; omega) s44))
                                              · exfalso; omega
                                            · exfalso; omega
                                        · exfalso; omega
                                    · exfalso; omega
                            · exfalso; omega
                        · exfalso; omega
                    · exfalso; omega
            · exfalso; omega
        · exfalso; omega
      · skip
        have hvk5 := sp_nam.bad h4 ck5
        refine w_ifne (fun c45 => ?_) (fun c45 => ?_)
        · exfalso; omega
        · skip
          refine w_aln rfl ?_
          refine w_ic ?_
          refine w_cv (st := []) rfl gm rfl (Nat.le_of_ble_eq_true rfl) (fun kk h => h) (r_X12_bad2 (d := d + 3) hB s3 (fun MF46 F46 => ?_))
          refine w_iret (fun _ => Or.inl rfl) ?_
          exact w_iret (fun _ => Or.inl rfl) (hvk5 _ F46)
    · skip
      refine w_aln rfl ?_
      refine w_ic ?_
      have h48 := h.1 (by omega)
      clear h
      refine w_cv (st := []) rfl gm rfl (Nat.le_of_ble_eq_true rfl) (fun kk h => h) (r_X12_bad2 (d := d + 3) hB hS (fun MF47 F47 => ?_))
      refine w_iret (fun _ => Or.inl rfl) ?_
      exact w_iret (fun _ => Or.inl rfl) (h48 _ F47)
set_option maxHeartbeats 4000000 in
theorem r_rR_1 {G : mj_G} {M0 M : mj_M} {B : Nat → Int} {n lim m bt ha hd ns rs sx : Nat} {T : Nat → Nat × Nat × Int × List Int × Nat} {PL WA OA : Nat → Int} {TO BI : Nat → Nat → Int} {nm : Nat → List Int} {g z r : Int} {Q : mj_P} {d q : Nat} (hB : rv_BT G M0 B n lim m bt ha hd ns rs sx T) (hS : rv_R M0 n lim m bt ha hd ns rs sx (T q) PL WA OA TO BI nm (PL 4) g z r M) (hqn : q ≤ n) (hb : rv_pb PL) (hk1 : (T q).1 = 1) (hj : rv_rs.getD 1 [] = (T q).2.2.2.1) (h : sp_water T PL WA OA TO BI nm q (fun f a => ∀ M', rv_FR M0 m sx ha f a M' → Q (some (.inl 0)) G M') (fun PL WA OA TO BI nm q' => q ≤ q' → q' ≤ n → rv_pb PL → ∀ g z M', rv_R M0 n lim m bt ha hd ns rs sx (T (rv_x T q')) PL WA OA TO BI nm (PL 4) g z r M' → Q (some (.inl 1)) G M')) : mj_R mj_tab (d + 6) 237 [.inr (.inr (some m))] G M Q := by
  obtain ⟨⟨gm, gbt, gha, ghd, gns, grs, r1, r7, r23, r9, r10, rb, rr, n1, n2, gsx, r6⟩, hT⟩ := id hB
  obtain ⟨b1, b2, b3, b4⟩ := id hb
  unfold sp_water at h
  refine ⟨Nat.le_of_ble_eq_true rfl, ?_⟩
  show wz (d + 5) mt_X12_row.2.2.2.2.1 Q mt_X12_row.2.2.2.2.1 [some (.inr (.inr (some m))), none] [] G M _ _
  refine w_aln rfl ?_
  refine w_l2 ?_
  refine w_cv (st := []) rfl gm rfl (Nat.le_of_ble_eq_true rfl) (fun kk h => h) (r_isWord0 (d := d + 4) (i := 0) hB hS hqn (by decide) (by decide +kernel) (fun e => absurd (rv_rs_i 0 (by decide) 1 (by decide) (e.2.trans hj.symm)) (by decide)) ?_)
  refine w_ifeq (fun c1 => ?_) (fun c1 => ?_)
  · skip
    refine w_aln rfl ?_
    refine w_l2 ?_
    refine w_cv (st := []) rfl gm rfl (Nat.le_of_ble_eq_true rfl) (fun kk h => h) (r_isWord1 (d := d + 4) (i := 1) hB hS hqn (by decide) (by decide +kernel) ⟨hk1, hj⟩ ?_)
    refine w_ifeq (fun c2 => ?_) (fun c2 => ?_)
    · exfalso; omega
    · skip
      refine w_aln rfl ?_
      refine w_cv (st := []) rfl gm rfl (Nat.le_of_ble_eq_true rfl) (fun kk h => h) (r_nxtT (d := d + 3) hB hS (by omega) (by omega) hqn (fun Ms3 s3 => ?_))
      refine w_aln rfl ?_
      have t4 := rv_tkc_f (rv_y_w hB (rv_y_le hB hqn)).1
      refine w_gi gm rfl (by decide) rfl (s3.2.1.1) ?_
      refine w_ic ?_
      refine w_cmeq (fun c5 => ?_) (fun c5 => ?_)
      · skip
        refine w_aln rfl ?_
        have nn6 := s3.2.1.2.2.2.1 (by omega)
        refine w_gi gm rfl (by decide) rfl ((s3.2.1.2.2.2.1 (by omega)).1) ?_
        refine w_bp ?_
        refine w_cmle (fun c7 => ?_) (fun c7 => ?_)
        · skip
          refine w_aln rfl ?_
          refine w_gi gm rfl (by decide) rfl (s3.1.2.2.2.1.trans (rfl)) ?_
          refine w_aln rfl ?_
          have nn8 := s3.2.1.2.2.2.1 (by omega)
          refine w_gi gm rfl (by decide) rfl ((s3.2.1.2.2.2.1 (by omega)).1) ?_
          refine w_cs (st := []) rfl (Nat.le_of_ble_eq_true rfl) (fun kk h => h) ⟨Nat.le_of_ble_eq_true rfl, ?_⟩
          show wz (d + 4) mt_X12_bitOf.2.2.2.2.1 _ mt_X12_bitOf.2.2.2.2.1 [some (.inl (PL 11)), some (.inl ((T (rv_x T q)).2.2.1))] [] _ _ _ _
          refine w_iln rfl ?_
          refine w_iln rfl ?_
          refine w_shr ?_
          intro z9 hz9 ez9
          refine w_ic ?_
          refine w_and ?_
          intro z10 hz10 ez10
          obtain rfl : z10 = rv_bt (PL 11) ((T (rv_x T q)).2.2.1) := by rw [ez10, ez9]; rfl
          have hz10 := rv_bt_01 (PL 11) ((T (rv_x T q)).2.2.1)
          refine w_ic ?_
          refine w_cmne (fun c11 => ?_) (fun c11 => ?_)
          · skip
            refine w_ic ?_
            refine w_iret (fun _ => Or.inl rfl) ?_
            refine w_ifeq (fun c12 => ?_) (fun c12 => ?_)
            · skip
              refine w_aln rfl ?_
              refine w_dupr ?_
              refine w_gi gm rfl (by decide) rfl (s3.1.2.2.2.1.trans (rfl)) ?_
              refine w_ic ?_
              refine w_aln rfl ?_
              have nn13 := s3.2.1.2.2.2.1 (by omega)
              refine w_gi gm rfl (by decide) rfl ((s3.2.1.2.2.2.1 (by omega)).1) ?_
              refine w_shl ?_
              intro z14 hz14 ez14
              refine w_or ?_
              intro z15 hz15 ez15
              obtain rfl : z15 = rv_bs (PL 11) ((T (rv_x T q)).2.2.1) := by rw [ez15, ez14]; rfl
              refine w_pi gm rfl (by decide) rfl (fun q => by cases q) ?_
              have s16 := s3.srain (v := (rv_bs (PL 11) ((T (rv_x T q)).2.2.1))) hB.1
              refine w_aln rfl ?_
              have nn17 := s16.2.1.2.2.2.1 (by omega)
              refine w_gi gm rfl (by decide) rfl ((s16.2.1.2.2.2.1 (by omega)).1) ?_
              refine w_isn ?_
              show wz _ _ _ _ [some (.inr (.inr (some m))), some (.inl ((T (rv_x T q)).2.2.1))] _ _ _ _ _
              refine w_aln rfl ?_
              refine w_cv (st := []) rfl gm rfl (Nat.le_of_ble_eq_true rfl) (fun kk h => h) (r_nxtT (d := d + 3) hB s16 (by omega) (by omega) (rv_y_le hB hqn) (fun Ms18 s18 => ?_))
              refine w_aln rfl ?_
              refine w_ic ?_
              refine w_sp ?_
              have h19 := h.1 (by omega)
              clear h
              have h20 := h19.1 (by omega)
              clear h19
              have h21 := h20.1 (by omega)
              clear h20
              have h22 := h21.1 (by omega)
              clear h21
              refine w_cv (st := []) rfl gm rfl (Nat.le_of_ble_eq_true rfl) (fun kk h => h) (r_X12_takes2 (d := d + 2) hB s18 (rv_y_le hB (rv_y_le hB hqn)) (sp_num.mono h22 (fun fk23 ak23 hfk23 Mk23 Fk23 => ?_) (fun bk23 ck23 ek23 hvk23 Mk23 sk23 => ?_)))
              · skip
                refine w_ifne (fun c24 => ?_) (fun c24 => ?_)
                · exfalso; omega
                · skip
                  refine w_ic ?_
                  exact w_iret (fun _ => Or.inl rfl) (hfk23 _ Fk23)
              · skip
                refine w_ifne (fun c25 => ?_) (fun c25 => ?_)
                · skip
                  refine w_aln rfl ?_
                  refine w_gr gm rfl (by decide) rfl ((congrFun (congrFun sk23.2.2.2.2.2.1 m) 7).trans r7) ?_
                  refine w_bp ?_
                  refine w_iln rfl ?_
                  refine w_add ⟨by show (-2147483648 : Int) ≤ 76 + ((T (rv_x T q)).2.2.1); omega, by show 76 + ((T (rv_x T q)).2.2.1) < (2147483648 : Int); omega⟩ ?_
                  refine w_aln rfl ?_
                  refine w_gi gm rfl (by decide) rfl (sk23.1.2.2.2.2.2.1) ?_
                  refine w_iast gha rfl (by decide) (by show (0 : Int) ≤ 76 + ((T (rv_x T q)).2.2.1); omega) (by show 76 + ((T (rv_x T q)).2.2.1) < ((221 : Nat) : Int); omega) ?_
                  have s26 := sk23.hwat (j := (76 + ((T (rv_x T q)).2.2.1)).toNat) (i := ((T (rv_x T q)).2.2.1).toNat) (v := (T (rv_x T (rv_x T q))).2.2.1) hB.1 (by omega) (by omega)
                  refine w_ic ?_
                  exact w_iret (fun _ => Or.inr rfl) (hvk23 (Nat.le_trans (Nat.le_trans (Nat.le_refl q) (rv_y_ge hB hqn)) (rv_y_ge hB (rv_y_le hB hqn))) (rv_y_le hB (rv_y_le hB hqn)) ⟨by rw [show (rv_up PL 11 (rv_bs (PL 11) ((T (rv_x T q)).2.2.1))) 4 = PL 4 from (rv_up_n (by decide))]; omega, by rw [show (rv_up PL 11 (rv_bs (PL 11) ((T (rv_x T q)).2.2.1))) 4 = PL 4 from (rv_up_n (by decide))]; omega, by rw [show (rv_up PL 11 (rv_bs (PL 11) ((T (rv_x T q)).2.2.1))) 5 = PL 5 from (rv_up_n (by decide))]; omega, by rw [show (rv_up PL 11 (rv_bs (PL 11) ((T (rv_x T q)).2.2.1))) 5 = PL 5 from (rv_up_n (by decide))]; omega⟩ _ _ _ (rv_R.bb (show (rv_up PL 11 (rv_bs (PL 11) ((T (rv_x T q)).2.2.1))) 4 = PL 4 from (rv_up_n (by decide))).symm s26))
                · exfalso; omega
            · exfalso; omega
          · skip
            refine w_ic ?_
            refine w_goto ?_
            refine w_iret (fun _ => Or.inr rfl) ?_
            refine w_ifeq (fun c27 => ?_) (fun c27 => ?_)
            · exfalso; omega
            · skip
              refine w_aln rfl ?_
              refine w_ic ?_
              have h29 := h.1 (by omega)
              clear h
              have h30 := h29.1 (by omega)
              clear h29
              have h31 := h30.1 (by omega)
              clear h30
              have h32 := h31.2 (by omega)
              clear h31
              refine w_cv (st := []) rfl gm rfl (Nat.le_of_ble_eq_true rfl) (fun kk h => h) (r_X12_bad2 (d := d + 4) hB s3 (fun MF28 F28 => ?_))
              exact w_iret (fun _ => Or.inl rfl) (h32 _ F28)
        · skip
          refine w_aln rfl ?_
          refine w_ic ?_
          have h34 := h.1 (by omega)
          clear h
          have h35 := h34.1 (by omega)
          clear h34
          have h36 := h35.2 (by omega)
          clear h35
          refine w_cv (st := []) rfl gm rfl (Nat.le_of_ble_eq_true rfl) (fun kk h => h) (r_X12_bad2 (d := d + 4) hB s3 (fun MF33 F33 => ?_))
          exact w_iret (fun _ => Or.inl rfl) (h36 _ F33)
      · skip
        refine w_aln rfl ?_
        refine w_ic ?_
        have h38 := h.2 (by omega)
        clear h
        refine w_cv (st := []) rfl gm rfl (Nat.le_of_ble_eq_true rfl) (fun kk h => h) (r_X12_bad2 (d := d + 4) hB s3 (fun MF37 F37 => ?_))
        exact w_iret (fun _ => Or.inl rfl) (h38 _ F37)
  · exfalso; omega
set_option maxHeartbeats 4000000 in
theorem r_rR_2 {G : mj_G} {M0 M : mj_M} {B : Nat → Int} {n lim m bt ha hd ns rs sx : Nat} {T : Nat → Nat × Nat × Int × List Int × Nat} {PL WA OA : Nat → Int} {TO BI : Nat → Nat → Int} {nm : Nat → List Int} {g z r : Int} {Q : mj_P} {d q : Nat} (hB : rv_BT G M0 B n lim m bt ha hd ns rs sx T) (hS : rv_R M0 n lim m bt ha hd ns rs sx (T q) PL WA OA TO BI nm (PL 4) g z r M) (hqn : q ≤ n) (hb : rv_pb PL) (hk1 : (T q).1 = 1) (hj : rv_rs.getD 2 [] = (T q).2.2.2.1) (h : sp_bid T PL WA OA TO BI nm q (fun f a => ∀ M', rv_FR M0 m sx ha f a M' → Q (some (.inl 0)) G M') (fun PL WA OA TO BI nm q' => q ≤ q' → q' ≤ n → rv_pb PL → ∀ g z M', rv_R M0 n lim m bt ha hd ns rs sx (T (rv_x T q')) PL WA OA TO BI nm (PL 4) g z r M' → Q (some (.inl 1)) G M')) : mj_R mj_tab (d + 6) 237 [.inr (.inr (some m))] G M Q := by
  obtain ⟨⟨gm, gbt, gha, ghd, gns, grs, r1, r7, r23, r9, r10, rb, rr, n1, n2, gsx, r6⟩, hT⟩ := id hB
  obtain ⟨b1, b2, b3, b4⟩ := id hb
  unfold sp_bid at h
  refine ⟨Nat.le_of_ble_eq_true rfl, ?_⟩
  show wz (d + 5) mt_X12_row.2.2.2.2.1 Q mt_X12_row.2.2.2.2.1 [some (.inr (.inr (some m))), none] [] G M _ _
  refine w_aln rfl ?_
  refine w_l2 ?_
  refine w_cv (st := []) rfl gm rfl (Nat.le_of_ble_eq_true rfl) (fun kk h => h) (r_isWord0 (d := d + 4) (i := 0) hB hS hqn (by decide) (by decide +kernel) (fun e => absurd (rv_rs_i 0 (by decide) 2 (by decide) (e.2.trans hj.symm)) (by decide)) ?_)
  refine w_ifeq (fun c1 => ?_) (fun c1 => ?_)
  · skip
    refine w_aln rfl ?_
    refine w_l2 ?_
    refine w_cv (st := []) rfl gm rfl (Nat.le_of_ble_eq_true rfl) (fun kk h => h) (r_isWord0 (d := d + 4) (i := 1) hB hS hqn (by decide) (by decide +kernel) (fun e => absurd (rv_rs_i 1 (by decide) 2 (by decide) (e.2.trans hj.symm)) (by decide)) ?_)
    refine w_ifeq (fun c2 => ?_) (fun c2 => ?_)
    · skip
      refine w_aln rfl ?_
      refine w_l2 ?_
      refine w_cv (st := []) rfl gm rfl (Nat.le_of_ble_eq_true rfl) (fun kk h => h) (r_isWord1 (d := d + 4) (i := 2) hB hS hqn (by decide) (by decide +kernel) ⟨hk1, hj⟩ ?_)
      refine w_ifeq (fun c3 => ?_) (fun c3 => ?_)
      · exfalso; omega
      · skip
        refine w_aln rfl ?_
        refine w_cv (st := []) rfl gm rfl (Nat.le_of_ble_eq_true rfl) (fun kk h => h) ⟨Nat.le_of_ble_eq_true rfl, ?_⟩
        show wz (d + 4) mt_X12_readBid.2.2.2.2.1 _ mt_X12_readBid.2.2.2.2.1 [some (.inr (.inr (some m))), none, none] [] _ _ _ _
        refine w_aln rfl ?_
        refine w_gi gm rfl (by decide) rfl (hS.1.2.2.1.trans (rfl)) ?_
        refine w_bp ?_
        refine w_cmne (fun c4 => ?_) (fun c4 => ?_)
        · skip
          refine w_aln rfl ?_
          refine w_cv (st := []) rfl gm rfl (Nat.le_of_ble_eq_true rfl) (fun kk h => h) (r_nxtT (d := d + 2) hB hS (by omega) (by omega) hqn (fun Ms5 s5 => ?_))
          refine w_aln rfl ?_
          have h6 := h.2 (by omega)
          clear h
          refine w_cv (st := []) rfl gm rfl (Nat.le_of_ble_eq_true rfl) (fun kk h => h) (r_X12_isName2 (d := d + 3) hB s5 (rv_y_le hB hqn) (fun bk7 ck7 => ?_) (fun ck7 => ?_))
          · skip
            have hvk7 := (h6.1 bk7).1 ck7
            refine w_ifne (fun c8 => ?_) (fun c8 => ?_)
            · skip
              refine w_aln rfl ?_
              refine w_bp ?_
              refine w_aln rfl ?_
              refine w_gr gm rfl (by decide) rfl ((congrFun (congrFun s5.2.2.2.2.2.1 m) 7).trans r7) ?_
              refine w_ic ?_
              refine w_iald (v := PL 4) gha rfl (by show (0 : Int) ≤ 0; omega) (by show 0 < ((221 : Nat) : Int); omega) (s5.2.2.1.1.trans (rfl)) ?_
              refine w_cv (st := []) rfl gm rfl (Nat.le_of_ble_eq_true rfl) (fun kk h => h) (r_X12_find2 (d := d + 3) hB s5 hb (by omega) (by omega) (rv_y_wo hB (rv_y_le hB hqn) (by omega)) (sp_find.mono hvk7 (fun rk9 lk9 ck9 mk9 hvk9 => ?_) (fun mk9 hvk9 => ?_)))
              · skip
                refine w_isn ?_
                show wz _ _ _ _ [some (.inr (.inr (some m))), some (.inl ((rk9 : Nat) : Int)), none] _ _ _ _ _
                refine w_iln rfl ?_
                refine w_ifge (fun c10 => ?_) (fun c10 => ?_)
                · skip
                  refine w_aln rfl ?_
                  refine w_cv (st := []) rfl gm rfl (Nat.le_of_ble_eq_true rfl) (fun kk h => h) (r_nxtT (d := d + 2) hB s5 (by omega) (by omega) (rv_y_le hB hqn) (fun Ms11 s11 => ?_))
                  refine w_aln rfl ?_
                  have t12 := rv_tkc_f (rv_y_w hB (rv_y_le hB (rv_y_le hB hqn))).1
                  refine w_gi gm rfl (by decide) rfl (s11.2.1.1) ?_
                  refine w_ic ?_
                  refine w_cmeq (fun c13 => ?_) (fun c13 => ?_)
                  · skip
                    refine w_aln rfl ?_
                    have nn14 := s11.2.1.2.2.2.1 (by omega)
                    refine w_gi gm rfl (by decide) rfl ((s11.2.1.2.2.2.1 (by omega)).1) ?_
                    refine w_bp ?_
                    refine w_cmle (fun c15 => ?_) (fun c15 => ?_)
                    · skip
                      refine w_aln rfl ?_
                      have nn16 := s11.2.1.2.2.2.1 (by omega)
                      refine w_gi gm rfl (by decide) rfl ((s11.2.1.2.2.2.1 (by omega)).1) ?_
                      refine w_isn ?_
                      show wz _ _ _ _ [some (.inr (.inr (some m))), some (.inl ((rk9 : Nat) : Int)), some (.inl ((T (rv_x T (rv_x T q))).2.2.1))] _ _ _ _ _
                      refine w_aln rfl ?_
                      refine w_gr gm rfl (by decide) rfl ((congrFun (congrFun s11.2.2.2.2.2.1 m) 7).trans r7) ?_
                      refine w_bp ?_
                      refine w_bp ?_
                      refine w_iln rfl ?_
                      refine w_mul ⟨by show (-2147483648 : Int) ≤ 12 * ((rk9 : Nat) : Int); omega, by show 12 * ((rk9 : Nat) : Int) < (2147483648 : Int); omega⟩ ?_
                      refine w_add ⟨by show (-2147483648 : Int) ≤ 88 + (12 * ((rk9 : Nat) : Int)); omega, by show 88 + (12 * ((rk9 : Nat) : Int)) < (2147483648 : Int); omega⟩ ?_
                      refine w_iln rfl ?_
                      refine w_add ⟨by show (-2147483648 : Int) ≤ (88 + (12 * ((rk9 : Nat) : Int))) + ((T (rv_x T (rv_x T q))).2.2.1); omega, by show (88 + (12 * ((rk9 : Nat) : Int))) + ((T (rv_x T (rv_x T q))).2.2.1) < (2147483648 : Int); omega⟩ ?_
                      have b17 : 0 ≤ (BI (((rk9 : Nat) : Int).toNat) (((T (rv_x T (rv_x T q))).2.2.1).toNat)) := (s11.2.2.1.2.2.2.2.2.2 _ _ (by omega) (by omega)).2
                      refine w_iald (v := (BI (((rk9 : Nat) : Int).toNat) (((T (rv_x T (rv_x T q))).2.2.1).toNat))) gha rfl (by show (0 : Int) ≤ (88 + (12 * ((rk9 : Nat) : Int))) + ((T (rv_x T (rv_x T q))).2.2.1); omega) (by show (88 + (12 * ((rk9 : Nat) : Int))) + ((T (rv_x T (rv_x T q))).2.2.1) < ((221 : Nat) : Int); omega) (by rw [show ((88 + (12 * ((rk9 : Nat) : Int))) + ((T (rv_x T (rv_x T q))).2.2.1)).toNat = 88 + 12 * ((rk9 : Nat) : Int).toNat + ((T (rv_x T (rv_x T q))).2.2.1).toNat by omega]; exact (s11.2.2.1.2.2.2.2.2.2 _ _ (by omega) (by omega)).1) ?_
                      refine w_ifle (fun c18 => ?_) (fun c18 => ?_)
                      · skip
                        refine w_aln rfl ?_
                        refine w_cv (st := []) rfl gm rfl (Nat.le_of_ble_eq_true rfl) (fun kk h => h) (r_nxtT (d := d + 2) hB s11 (by omega) (by omega) (rv_y_le hB (rv_y_le hB hqn)) (fun Ms19 s19 => ?_))
                        refine w_aln rfl ?_
                        refine w_ic ?_
                        refine w_sp ?_
                        have h20 := hvk9.2 (by omega)
                        clear hvk9
                        have h21 := h20.1 (by omega)
                        clear h20
                        have h22 := h21.1 (by omega)
                        clear h21
                        have h23 := h22.1 (by omega)
                        clear h22
                        have h24 := h23.1 (by omega)
                        clear h23
                        refine w_cv (st := []) rfl gm rfl (Nat.le_of_ble_eq_true rfl) (fun kk h => h) (r_X12_takes2 (d := d + 1) hB s19 (rv_y_le hB (rv_y_le hB (rv_y_le hB hqn))) (sp_num.mono h24 (fun fk25 ak25 hfk25 Mk25 Fk25 => ?_) (fun bk25 ck25 ek25 hvk25 Mk25 sk25 => ?_)))
                        · skip
                          refine w_ifne (fun c26 => ?_) (fun c26 => ?_)
                          · exfalso; omega
                          · skip
                            refine w_ic ?_
                            refine w_iret (fun _ => Or.inl rfl) ?_
                            exact w_iret (fun _ => Or.inl rfl) (hfk25 _ Fk25)
                        · skip
                          refine w_ifne (fun c27 => ?_) (fun c27 => ?_)
                          · skip
                            refine w_aln rfl ?_
                            refine w_gr gm rfl (by decide) rfl ((congrFun (congrFun sk25.2.2.2.2.2.1 m) 7).trans r7) ?_
                            refine w_bp ?_
                            refine w_bp ?_
                            refine w_iln rfl ?_
                            refine w_mul ⟨by show (-2147483648 : Int) ≤ 12 * ((rk9 : Nat) : Int); omega, by show 12 * ((rk9 : Nat) : Int) < (2147483648 : Int); omega⟩ ?_
                            refine w_add ⟨by show (-2147483648 : Int) ≤ 88 + (12 * ((rk9 : Nat) : Int)); omega, by show 88 + (12 * ((rk9 : Nat) : Int)) < (2147483648 : Int); omega⟩ ?_
                            refine w_iln rfl ?_
                            refine w_add ⟨by show (-2147483648 : Int) ≤ (88 + (12 * ((rk9 : Nat) : Int))) + ((T (rv_x T (rv_x T q))).2.2.1); omega, by show (88 + (12 * ((rk9 : Nat) : Int))) + ((T (rv_x T (rv_x T q))).2.2.1) < (2147483648 : Int); omega⟩ ?_
                            refine w_aln rfl ?_
                            refine w_gi gm rfl (by decide) rfl (sk25.1.2.2.2.2.2.1) ?_
                            refine w_iast gha rfl (by decide) (by show (0 : Int) ≤ (88 + (12 * ((rk9 : Nat) : Int))) + ((T (rv_x T (rv_x T q))).2.2.1); omega) (by show (88 + (12 * ((rk9 : Nat) : Int))) + ((T (rv_x T (rv_x T q))).2.2.1) < ((221 : Nat) : Int); omega) ?_
                            have s28 := sk25.hbid (j := ((88 + (12 * ((rk9 : Nat) : Int))) + ((T (rv_x T (rv_x T q))).2.2.1)).toNat) (k := ((rk9 : Nat) : Int).toNat) (i := ((T (rv_x T (rv_x T q))).2.2.1).toNat) (v := (T (rv_x T (rv_x T (rv_x T q)))).2.2.1) hB.1 (by omega) (by omega) (by omega) (by omega)
                            refine w_aln rfl ?_
                            refine w_dupr ?_
                            refine w_gi gm rfl (by decide) rfl (s28.1.2.2.1.trans (rfl)) ?_
                            refine w_ic ?_
                            refine w_add ⟨by show (-2147483648 : Int) ≤ (PL 5) + 1; omega, by show (PL 5) + 1 < (2147483648 : Int); omega⟩ ?_
                            refine w_pi gm rfl (by decide) rfl (fun q => by cases q) ?_
                            have s29 := s28.sbids (v := (PL 5) + 1) hB.1
                            refine w_ic ?_
                            refine w_iret (fun _ => Or.inr rfl) ?_
                            exact w_iret (fun _ => Or.inr rfl) (hvk25 (Nat.le_trans (Nat.le_trans (Nat.le_trans (Nat.le_refl q) (rv_y_ge hB hqn)) (rv_y_ge hB (rv_y_le hB hqn))) (rv_y_ge hB (rv_y_le hB (rv_y_le hB hqn)))) (rv_y_le hB (rv_y_le hB (rv_y_le hB hqn))) ⟨by rw [show (rv_up PL 5 ((PL 5) + 1)) 4 = PL 4 from (rv_up_n (by decide))]; omega, by rw [show (rv_up PL 5 ((PL 5) + 1)) 4 = PL 4 from (rv_up_n (by decide))]; omega, by rw [show (rv_up PL 5 ((PL 5) + 1)) 5 = (PL 5) + 1 from rv_up_s]; omega, by rw [show (rv_up PL 5 ((PL 5) + 1)) 5 = (PL 5) + 1 from rv_up_s]; omega⟩ _ _ _ (rv_R.bb (show (rv_up PL 5 ((PL 5) + 1)) 4 = PL 4 from (rv_up_n (by decide))).symm s29))
                          · exfalso; omega
                      · skip
                        refine w_aln rfl ?_
                        refine w_ic ?_
                        have h31 := hvk9.2 (by omega)
                        clear hvk9
                        have h32 := h31.1 (by omega)
                        clear h31
                        have h33 := h32.1 (by omega)
                        clear h32
                        have h34 := h33.1 (by omega)
                        clear h33
                        have h35 := h34.2 (by omega)
                        clear h34
                        refine w_cv (st := []) rfl gm rfl (Nat.le_of_ble_eq_true rfl) (fun kk h => h) (r_X12_bad2 (d := d + 3) hB s11 (fun MF30 F30 => ?_))
                        refine w_iret (fun _ => Or.inl rfl) ?_
                        exact w_iret (fun _ => Or.inl rfl) (h35 _ F30)
                    · skip
                      refine w_aln rfl ?_
                      refine w_ic ?_
                      have h37 := hvk9.2 (by omega)
                      clear hvk9
                      have h38 := h37.1 (by omega)
                      clear h37
                      have h39 := h38.1 (by omega)
                      clear h38
                      have h40 := h39.2 (by omega)
                      clear h39
                      refine w_cv (st := []) rfl gm rfl (Nat.le_of_ble_eq_true rfl) (fun kk h => h) (r_X12_bad2 (d := d + 3) hB s11 (fun MF36 F36 => ?_))
                      refine w_iret (fun _ => Or.inl rfl) ?_
                      exact w_iret (fun _ => Or.inl rfl) (h40 _ F36)
                  · skip
                    refine w_aln rfl ?_
                    refine w_ic ?_
                    have h42 := hvk9.2 (by omega)
                    clear hvk9
                    have h43 := h42.2 (by omega)
                    clear h42
                    refine w_cv (st := []) rfl gm rfl (Nat.le_of_ble_eq_true rfl) (fun kk h => h) (r_X12_bad2 (d := d + 3) hB s11 (fun MF41 F41 => ?_))
                    refine w_iret (fun _ => Or.inl rfl) ?_
                    exact w_iret (fun _ => Or.inl rfl) (h43 _ F41)
                · exfalso; omega
              · skip
                refine w_isn ?_
                show wz _ _ _ _ [some (.inr (.inr (some m))), some (.inl (-1)), none] _ _ _ _ _
                refine w_iln rfl ?_
                refine w_ifge (fun c44 => ?_) (fun c44 => ?_)
                · exfalso; omega
                · skip
                  refine w_aln rfl ?_
                  refine w_ic ?_
                  have h46 := hvk9.1 (by omega)
                  clear hvk9
                  refine w_cv (st := []) rfl gm rfl (Nat.le_of_ble_eq_true rfl) (fun kk h => h) (r_X12_bad2 (d := d + 3) hB s5 (fun MF45 F45 => ?_))
                  refine w_iret (fun _ => Or.inl rfl) ?_
                  exact w_iret (fun _ => Or.inl rfl) (h46 _ F45)
            · exfalso; omega
          · skip
            have hvk7 := sp_nam.bad h6 ck7
            refine w_ifne (fun c47 => ?_) (fun c47 => ?_)
            · exfalso; omega
            · skip
              refine w_aln rfl ?_
              refine w_ic ?_
              refine w_cv (st := []) rfl gm rfl (Nat.le_of_ble_eq_true rfl) (fun kk h => h) (r_X12_bad2 (d := d + 3) hB s5 (fun MF48 F48 => ?_))
              refine w_iret (fun _ => Or.inl rfl) ?_
              exact w_iret (fun _ => Or.inl rfl) (hvk7 _ F48)
        · skip
          refine w_aln rfl ?_
          refine w_ic ?_
          have h50 := h.1 (by omega)
          clear h
          refine w_cv (st := []) rfl gm rfl (Nat.le_of_ble_eq_true rfl) (fun kk h => h) (r_X12_bad2 (d := d + 3) hB hS (fun MF49 F49 => ?_))
          refine w_iret (fun _ => Or.inl rfl) ?_
          exact w_iret (fun _ => Or.inl rfl) (h50 _ F49)
    · exfalso; omega
  · exfalso; omega
set_option maxHeartbeats 4000000 in
theorem r_rR_3 {G : mj_G} {M0 M : mj_M} {B : Nat → Int} {n lim m bt ha hd ns rs sx : Nat} {T : Nat → Nat × Nat × Int × List Int × Nat} {PL WA OA : Nat → Int} {TO BI : Nat → Nat → Int} {nm : Nat → List Int} {g z r : Int} {Q : mj_P} {d q : Nat} (hB : rv_BT G M0 B n lim m bt ha hd ns rs sx T) (hS : rv_R M0 n lim m bt ha hd ns rs sx (T q) PL WA OA TO BI nm (PL 4) g z r M) (hqn : q ≤ n) (hb : rv_pb PL) (hk1 : (T q).1 = 1) (hj : rv_rs.getD 3 [] = (T q).2.2.2.1) (h : sp_need T PL WA OA TO BI nm q (fun f a => ∀ M', rv_FR M0 m sx ha f a M' → Q (some (.inl 0)) G M') (fun PL WA OA TO BI nm q' => q ≤ q' → q' ≤ n → rv_pb PL → ∀ g z M', rv_R M0 n lim m bt ha hd ns rs sx (T (rv_x T q')) PL WA OA TO BI nm (PL 4) g z r M' → Q (some (.inl 1)) G M')) : mj_R mj_tab (d + 6) 237 [.inr (.inr (some m))] G M Q := by
  obtain ⟨⟨gm, gbt, gha, ghd, gns, grs, r1, r7, r23, r9, r10, rb, rr, n1, n2, gsx, r6⟩, hT⟩ := id hB
  obtain ⟨b1, b2, b3, b4⟩ := id hb
  unfold sp_need at h
  refine ⟨Nat.le_of_ble_eq_true rfl, ?_⟩
  show wz (d + 5) mt_X12_row.2.2.2.2.1 Q mt_X12_row.2.2.2.2.1 [some (.inr (.inr (some m))), none] [] G M _ _
  refine w_aln rfl ?_
  refine w_l2 ?_
  refine w_cv (st := []) rfl gm rfl (Nat.le_of_ble_eq_true rfl) (fun kk h => h) (r_isWord0 (d := d + 4) (i := 0) hB hS hqn (by decide) (by decide +kernel) (fun e => absurd (rv_rs_i 0 (by decide) 3 (by decide) (e.2.trans hj.symm)) (by decide)) ?_)
  refine w_ifeq (fun c1 => ?_) (fun c1 => ?_)
  · skip
    refine w_aln rfl ?_
    refine w_l2 ?_
    refine w_cv (st := []) rfl gm rfl (Nat.le_of_ble_eq_true rfl) (fun kk h => h) (r_isWord0 (d := d + 4) (i := 1) hB hS hqn (by decide) (by decide +kernel) (fun e => absurd (rv_rs_i 1 (by decide) 3 (by decide) (e.2.trans hj.symm)) (by decide)) ?_)
    refine w_ifeq (fun c2 => ?_) (fun c2 => ?_)
    · skip
      refine w_aln rfl ?_
      refine w_l2 ?_
      refine w_cv (st := []) rfl gm rfl (Nat.le_of_ble_eq_true rfl) (fun kk h => h) (r_isWord0 (d := d + 4) (i := 2) hB hS hqn (by decide) (by decide +kernel) (fun e => absurd (rv_rs_i 2 (by decide) 3 (by decide) (e.2.trans hj.symm)) (by decide)) ?_)
      refine w_ifeq (fun c3 => ?_) (fun c3 => ?_)
      · skip
        refine w_aln rfl ?_
        refine w_l2 ?_
        refine w_cv (st := []) rfl gm rfl (Nat.le_of_ble_eq_true rfl) (fun kk h => h) (r_isWord1 (d := d + 4) (i := 3) hB hS hqn (by decide) (by decide +kernel) ⟨hk1, hj⟩ ?_)
        refine w_ifeq (fun c4 => ?_) (fun c4 => ?_)
        · exfalso; omega
        · skip
          refine w_aln rfl ?_
          refine w_ic ?_
          refine w_ic ?_
          refine w_sp ?_
          refine w_cv (st := []) rfl gm rfl (Nat.le_of_ble_eq_true rfl) (fun kk h => h) ⟨Nat.le_of_ble_eq_true rfl, ?_⟩
          show wz (d + 4) mt_X12_readOf.2.2.2.2.1 _ mt_X12_readOf.2.2.2.2.1 [some (.inr (.inr (some m))), some (.inl 0), some (.inl 4), some (.inl 999), none] [] _ _ _ _
          refine w_aln rfl ?_
          refine w_cv (st := []) rfl gm rfl (Nat.le_of_ble_eq_true rfl) (fun kk h => h) (r_nxtT (d := d + 2) hB hS (by omega) (by omega) hqn (fun Ms5 s5 => ?_))
          refine w_aln rfl ?_
          refine w_cv (st := []) rfl gm rfl (Nat.le_of_ble_eq_true rfl) (fun kk h => h) (r_X12_isName2 (d := d + 3) hB s5 (rv_y_le hB hqn) (fun bk6 ck6 => ?_) (fun ck6 => ?_))
          · skip
            have hvk6 := (h.1 bk6).1 ck6
            refine w_ifne (fun c7 => ?_) (fun c7 => ?_)
            · skip
              refine w_aln rfl ?_
              refine w_bp ?_
              refine w_aln rfl ?_
              refine w_gr gm rfl (by decide) rfl ((congrFun (congrFun s5.2.2.2.2.2.1 m) 7).trans r7) ?_
              refine w_ic ?_
              refine w_iald (v := PL 4) gha rfl (by show (0 : Int) ≤ 0; omega) (by show 0 < ((221 : Nat) : Int); omega) (s5.2.2.1.1.trans (rfl)) ?_
              refine w_cv (st := []) rfl gm rfl (Nat.le_of_ble_eq_true rfl) (fun kk h => h) (r_X12_find2 (d := d + 3) hB s5 hb (by omega) (by omega) (rv_y_wo hB (rv_y_le hB hqn) (by omega)) (sp_find.mono hvk6 (fun rk8 lk8 ck8 mk8 hvk8 => ?_) (fun mk8 hvk8 => ?_)))
              · skip
                refine w_is ?_
                show wz _ _ _ _ [some (.inr (.inr (some m))), some (.inl 0), some (.inl 4), some (.inl 999), some (.inl ((rk8 : Nat) : Int))] _ _ _ _ _
                refine w_il rfl ?_
                refine w_iflt (fun c9 => ?_) (fun c9 => ?_)
                · exfalso; omega
                · skip
                  refine w_aln rfl ?_
                  refine w_gr gm rfl (by decide) rfl ((congrFun (congrFun s5.2.2.2.2.2.1 m) 23).trans r23) ?_
                  refine w_iln rfl ?_
                  have b10 : rv_bt (Ms5.1 hd ((0 : Int).toNat)) ((rk8 : Nat) : Int) = rv_bt (OA (((rk8 : Nat) : Int).toNat)) 4 := s5.2.2.2.1 0 rk8 (by decide) (by omega)
                  refine w_iald (v := (Ms5.1 hd ((0 : Int).toNat))) ghd rfl (by show (0 : Int) ≤ 0; omega) (by show 0 < ((4 : Nat) : Int); omega) (rfl) ?_
                  refine w_il rfl ?_
                  refine w_cs (st := []) rfl (Nat.le_of_ble_eq_true rfl) (fun kk h => h) ⟨Nat.le_of_ble_eq_true rfl, ?_⟩
                  show wz (d + 3) mt_X12_bitOf.2.2.2.2.1 _ mt_X12_bitOf.2.2.2.2.1 [some (.inl (Ms5.1 hd ((0 : Int).toNat))), some (.inl ((rk8 : Nat) : Int))] [] _ _ _ _
                  refine w_iln rfl ?_
                  refine w_iln rfl ?_
                  refine w_shr ?_
                  intro z11 hz11 ez11
                  refine w_ic ?_
                  refine w_and ?_
                  intro z12 hz12 ez12
                  obtain rfl : z12 = rv_bt (Ms5.1 hd ((0 : Int).toNat)) ((rk8 : Nat) : Int) := by rw [ez12, ez11]; rfl
                  have hz12 := rv_bt_01 (Ms5.1 hd ((0 : Int).toNat)) ((rk8 : Nat) : Int)
                  refine w_ic ?_
                  refine w_cmne (fun c13 => ?_) (fun c13 => ?_)
                  · skip
                    refine w_ic ?_
                    refine w_iret (fun _ => Or.inl rfl) ?_
                    refine w_ifeq (fun c14 => ?_) (fun c14 => ?_)
                    · skip
                      refine w_aln rfl ?_
                      refine w_gr gm rfl (by decide) rfl ((congrFun (congrFun s5.2.2.2.2.2.1 m) 23).trans r23) ?_
                      refine w_iln rfl ?_
                      refine w_dup2 ?_
                      have b15 : rv_bt (Ms5.1 hd ((0 : Int).toNat)) ((rk8 : Nat) : Int) = rv_bt (OA (((rk8 : Nat) : Int).toNat)) 4 := s5.2.2.2.1 0 rk8 (by decide) (by omega)
                      refine w_iald (v := (Ms5.1 hd ((0 : Int).toNat))) ghd rfl (by show (0 : Int) ≤ 0; omega) (by show 0 < ((4 : Nat) : Int); omega) (rfl) ?_
                      refine w_ic ?_
                      refine w_il rfl ?_
                      refine w_shl ?_
                      intro z16 hz16 ez16
                      refine w_or ?_
                      intro z17 hz17 ez17
                      obtain rfl : z17 = rv_bs (Ms5.1 hd ((0 : Int).toNat)) ((rk8 : Nat) : Int) := by rw [ez17, ez16]; rfl
                      refine w_iast ghd rfl (by decide) (by show (0 : Int) ≤ 0; omega) (by show 0 < ((4 : Nat) : Int); omega) ?_
                      have s18 := s5.shad (s := 0) (k := rk8) hB.1 (by decide) (by omega)
                      refine w_aln rfl ?_
                      refine w_il rfl ?_
                      refine w_pi gm rfl (by decide) rfl (fun q => by cases q) ?_
                      have s19 := s18.sof (v := ((rk8 : Nat) : Int)) hB.1
                      refine w_aln rfl ?_
                      refine w_cv (st := []) rfl gm rfl (Nat.le_of_ble_eq_true rfl) (fun kk h => h) (r_nxtT (d := d + 2) hB s19 (by omega) (by omega) (rv_y_le hB hqn) (fun Ms20 s20 => ?_))
                      refine w_aln rfl ?_
                      refine w_ic ?_
                      refine w_iln rfl ?_
                      have h21 := hvk8.2 (by omega)
                      clear hvk8
                      have h22 := h21.1 (by omega)
                      clear h21
                      refine w_cv (st := []) rfl gm rfl (Nat.le_of_ble_eq_true rfl) (fun kk h => h) (r_X12_takes2 (d := d + 1) hB s20 (rv_y_le hB (rv_y_le hB hqn)) (sp_num.mono h22 (fun fk23 ak23 hfk23 Mk23 Fk23 => ?_) (fun bk23 ck23 ek23 hvk23 Mk23 sk23 => ?_)))
                      · skip
                        refine w_ifne (fun c24 => ?_) (fun c24 => ?_)
                        · exfalso; omega
                        · skip
                          refine w_ic ?_
                          refine w_iret (fun _ => Or.inl rfl) ?_
                          exact w_iret (fun _ => Or.inl rfl) (hfk23 _ Fk23)
                      · skip
                        refine w_ifne (fun c25 => ?_) (fun c25 => ?_)
                        · skip
                          refine w_aln rfl ?_
                          refine w_gr gm rfl (by decide) rfl ((congrFun (congrFun sk23.2.2.2.2.2.1 m) 7).trans r7) ?_
                          refine w_ic ?_
                          refine w_bp ?_
                          refine w_il rfl ?_
                          refine w_mul ⟨by show (-2147483648 : Int) ≤ 9 * ((rk8 : Nat) : Int); omega, by show 9 * ((rk8 : Nat) : Int) < (2147483648 : Int); omega⟩ ?_
                          refine w_add ⟨by show (-2147483648 : Int) ≤ 4 + (9 * ((rk8 : Nat) : Int)); omega, by show 4 + (9 * ((rk8 : Nat) : Int)) < (2147483648 : Int); omega⟩ ?_
                          refine w_iln rfl ?_
                          refine w_add ⟨by show (-2147483648 : Int) ≤ (4 + (9 * ((rk8 : Nat) : Int))) + 4; omega, by show (4 + (9 * ((rk8 : Nat) : Int))) + 4 < (2147483648 : Int); omega⟩ ?_
                          refine w_aln rfl ?_
                          refine w_gi gm rfl (by decide) rfl (sk23.1.2.2.2.2.2.1) ?_
                          refine w_iast gha rfl (by decide) (by show (0 : Int) ≤ (4 + (9 * ((rk8 : Nat) : Int))) + 4; omega) (by show (4 + (9 * ((rk8 : Nat) : Int))) + 4 < ((221 : Nat) : Int); omega) ?_
                          have s26 := sk23.htold (j := ((4 + (9 * ((rk8 : Nat) : Int))) + 4).toNat) (k := ((rk8 : Nat) : Int).toNat) (i := 4) (v := (T (rv_x T (rv_x T q))).2.2.1) hB.1 (by omega) (by omega) (by omega)
                          refine w_ic ?_
                          refine w_iret (fun _ => Or.inr rfl) ?_
                          exact w_iret (fun _ => Or.inr rfl) (hvk23 (Nat.le_trans (Nat.le_trans (Nat.le_refl q) (rv_y_ge hB hqn)) (rv_y_ge hB (rv_y_le hB hqn))) (rv_y_le hB (rv_y_le hB hqn)) hb _ _ _ (rv_R.bb rfl s26))
                        · exfalso; omega
                    · exfalso; omega
                  · skip
                    refine w_ic ?_
                    refine w_goto ?_
                    refine w_iret (fun _ => Or.inr rfl) ?_
                    refine w_ifeq (fun c27 => ?_) (fun c27 => ?_)
                    · exfalso; omega
                    · skip
                      refine w_aln rfl ?_
                      refine w_ic ?_
                      have h29 := hvk8.2 (by omega)
                      clear hvk8
                      have h30 := h29.2 (by omega)
                      clear h29
                      refine w_cv (st := []) rfl gm rfl (Nat.le_of_ble_eq_true rfl) (fun kk h => h) (r_X12_bad2 (d := d + 3) hB s5 (fun MF28 F28 => ?_))
                      refine w_iret (fun _ => Or.inl rfl) ?_
                      exact w_iret (fun _ => Or.inl rfl) (h30 _ F28)
              · skip
                refine w_is ?_
                show wz _ _ _ _ [some (.inr (.inr (some m))), some (.inl 0), some (.inl 4), some (.inl 999), some (.inl (-1))] _ _ _ _ _
                refine w_il rfl ?_
                refine w_iflt (fun c31 => ?_) (fun c31 => ?_)
                · skip
                  refine w_aln rfl ?_
                  refine w_ic ?_
                  have h33 := hvk8.1 (by omega)
                  clear hvk8
                  refine w_cv (st := []) rfl gm rfl (Nat.le_of_ble_eq_true rfl) (fun kk h => h) (r_X12_bad2 (d := d + 3) hB s5 (fun MF32 F32 => ?_))
                  refine w_iret (fun _ => Or.inl rfl) ?_
                  exact w_iret (fun _ => Or.inl rfl) (h33 _ F32)
                · exfalso; omega
            · exfalso; omega
          · skip
            have hvk6 := sp_nam.bad h ck6
            refine w_ifne (fun c34 => ?_) (fun c34 => ?_)
            · exfalso; omega
            · skip
              refine w_aln rfl ?_
              refine w_ic ?_
              refine w_cv (st := []) rfl gm rfl (Nat.le_of_ble_eq_true rfl) (fun kk h => h) (r_X12_bad2 (d := d + 3) hB s5 (fun MF35 F35 => ?_))
              refine w_iret (fun _ => Or.inl rfl) ?_
              exact w_iret (fun _ => Or.inl rfl) (hvk6 _ F35)
      · exfalso; omega
    · exfalso; omega
  · exfalso; omega
set_option maxHeartbeats 4000000 in
theorem r_rR_4 {G : mj_G} {M0 M : mj_M} {B : Nat → Int} {n lim m bt ha hd ns rs sx : Nat} {T : Nat → Nat × Nat × Int × List Int × Nat} {PL WA OA : Nat → Int} {TO BI : Nat → Nat → Int} {nm : Nat → List Int} {g z r : Int} {Q : mj_P} {d q : Nat} (hB : rv_BT G M0 B n lim m bt ha hd ns rs sx T) (hS : rv_R M0 n lim m bt ha hd ns rs sx (T q) PL WA OA TO BI nm (PL 4) g z r M) (hqn : q ≤ n) (hb : rv_pb PL) (hk1 : (T q).1 = 1) (hj : rv_rs.getD 4 [] = (T q).2.2.2.1) (h : sp_mill T PL WA OA TO BI nm q (fun f a => ∀ M', rv_FR M0 m sx ha f a M' → Q (some (.inl 0)) G M') (fun PL WA OA TO BI nm q' => q ≤ q' → q' ≤ n → rv_pb PL → ∀ g z M', rv_R M0 n lim m bt ha hd ns rs sx (T (rv_x T q')) PL WA OA TO BI nm (PL 4) g z r M' → Q (some (.inl 1)) G M')) : mj_R mj_tab (d + 6) 237 [.inr (.inr (some m))] G M Q := by
  obtain ⟨⟨gm, gbt, gha, ghd, gns, grs, r1, r7, r23, r9, r10, rb, rr, n1, n2, gsx, r6⟩, hT⟩ := id hB
  obtain ⟨b1, b2, b3, b4⟩ := id hb
  unfold sp_mill at h
  refine ⟨Nat.le_of_ble_eq_true rfl, ?_⟩
  show wz (d + 5) mt_X12_row.2.2.2.2.1 Q mt_X12_row.2.2.2.2.1 [some (.inr (.inr (some m))), none] [] G M _ _
  refine w_aln rfl ?_
  refine w_l2 ?_
  refine w_cv (st := []) rfl gm rfl (Nat.le_of_ble_eq_true rfl) (fun kk h => h) (r_isWord0 (d := d + 4) (i := 0) hB hS hqn (by decide) (by decide +kernel) (fun e => absurd (rv_rs_i 0 (by decide) 4 (by decide) (e.2.trans hj.symm)) (by decide)) ?_)
  refine w_ifeq (fun c1 => ?_) (fun c1 => ?_)
  · skip
    refine w_aln rfl ?_
    refine w_l2 ?_
    refine w_cv (st := []) rfl gm rfl (Nat.le_of_ble_eq_true rfl) (fun kk h => h) (r_isWord0 (d := d + 4) (i := 1) hB hS hqn (by decide) (by decide +kernel) (fun e => absurd (rv_rs_i 1 (by decide) 4 (by decide) (e.2.trans hj.symm)) (by decide)) ?_)
    refine w_ifeq (fun c2 => ?_) (fun c2 => ?_)
    · skip
      refine w_aln rfl ?_
      refine w_l2 ?_
      refine w_cv (st := []) rfl gm rfl (Nat.le_of_ble_eq_true rfl) (fun kk h => h) (r_isWord0 (d := d + 4) (i := 2) hB hS hqn (by decide) (by decide +kernel) (fun e => absurd (rv_rs_i 2 (by decide) 4 (by decide) (e.2.trans hj.symm)) (by decide)) ?_)
      refine w_ifeq (fun c3 => ?_) (fun c3 => ?_)
      · skip
        refine w_aln rfl ?_
        refine w_l2 ?_
        refine w_cv (st := []) rfl gm rfl (Nat.le_of_ble_eq_true rfl) (fun kk h => h) (r_isWord0 (d := d + 4) (i := 3) hB hS hqn (by decide) (by decide +kernel) (fun e => absurd (rv_rs_i 3 (by decide) 4 (by decide) (e.2.trans hj.symm)) (by decide)) ?_)
        refine w_ifeq (fun c4 => ?_) (fun c4 => ?_)
        · skip
          refine w_aln rfl ?_
          refine w_l2 ?_
          refine w_cv (st := []) rfl gm rfl (Nat.le_of_ble_eq_true rfl) (fun kk h => h) (r_isWord1 (d := d + 4) (i := 4) hB hS hqn (by decide) (by decide +kernel) ⟨hk1, hj⟩ ?_)
          refine w_ifeq (fun c5 => ?_) (fun c5 => ?_)
          · exfalso; omega
          · skip
            refine w_aln rfl ?_
            refine w_ic ?_
            refine w_ic ?_
            refine w_bp ?_
            refine w_cv (st := []) rfl gm rfl (Nat.le_of_ble_eq_true rfl) (fun kk h => h) ⟨Nat.le_of_ble_eq_true rfl, ?_⟩
            show wz (d + 4) mt_X12_readOf.2.2.2.2.1 _ mt_X12_readOf.2.2.2.2.1 [some (.inr (.inr (some m))), some (.inl 1), some (.inl 5), some (.inl 99), none] [] _ _ _ _
            refine w_aln rfl ?_
            refine w_cv (st := []) rfl gm rfl (Nat.le_of_ble_eq_true rfl) (fun kk h => h) (r_nxtT (d := d + 2) hB hS (by omega) (by omega) hqn (fun Ms6 s6 => ?_))
            refine w_aln rfl ?_
            refine w_cv (st := []) rfl gm rfl (Nat.le_of_ble_eq_true rfl) (fun kk h => h) (r_X12_isName2 (d := d + 3) hB s6 (rv_y_le hB hqn) (fun bk7 ck7 => ?_) (fun ck7 => ?_))
            · skip
              have hvk7 := (h.1 bk7).1 ck7
              refine w_ifne (fun c8 => ?_) (fun c8 => ?_)
              · skip
                refine w_aln rfl ?_
                refine w_bp ?_
                refine w_aln rfl ?_
                refine w_gr gm rfl (by decide) rfl ((congrFun (congrFun s6.2.2.2.2.2.1 m) 7).trans r7) ?_
                refine w_ic ?_
                refine w_iald (v := PL 4) gha rfl (by show (0 : Int) ≤ 0; omega) (by show 0 < ((221 : Nat) : Int); omega) (s6.2.2.1.1.trans (rfl)) ?_
                refine w_cv (st := []) rfl gm rfl (Nat.le_of_ble_eq_true rfl) (fun kk h => h) (r_X12_find2 (d := d + 3) hB s6 hb (by omega) (by omega) (rv_y_wo hB (rv_y_le hB hqn) (by omega)) (sp_find.mono hvk7 (fun rk9 lk9 ck9 mk9 hvk9 => ?_) (fun mk9 hvk9 => ?_)))
                · skip
                  refine w_is ?_
                  show wz _ _ _ _ [some (.inr (.inr (some m))), some (.inl 1), some (.inl 5), some (.inl 99), some (.inl ((rk9 : Nat) : Int))] _ _ _ _ _
                  refine w_il rfl ?_
                  refine w_iflt (fun c10 => ?_) (fun c10 => ?_)
                  · exfalso; omega
                  · skip
                    refine w_aln rfl ?_
                    refine w_gr gm rfl (by decide) rfl ((congrFun (congrFun s6.2.2.2.2.2.1 m) 23).trans r23) ?_
                    refine w_iln rfl ?_
                    have b11 : rv_bt (Ms6.1 hd ((1 : Int).toNat)) ((rk9 : Nat) : Int) = rv_bt (OA (((rk9 : Nat) : Int).toNat)) 5 := s6.2.2.2.1 1 rk9 (by decide) (by omega)
                    refine w_iald (v := (Ms6.1 hd ((1 : Int).toNat))) ghd rfl (by show (0 : Int) ≤ 1; omega) (by show 1 < ((4 : Nat) : Int); omega) (rfl) ?_
                    refine w_il rfl ?_
                    refine w_cs (st := []) rfl (Nat.le_of_ble_eq_true rfl) (fun kk h => h) ⟨Nat.le_of_ble_eq_true rfl, ?_⟩
                    show wz (d + 3) mt_X12_bitOf.2.2.2.2.1 _ mt_X12_bitOf.2.2.2.2.1 [some (.inl (Ms6.1 hd ((1 : Int).toNat))), some (.inl ((rk9 : Nat) : Int))] [] _ _ _ _
                    refine w_iln rfl ?_
                    refine w_iln rfl ?_
                    refine w_shr ?_
                    intro z12 hz12 ez12
                    refine w_ic ?_
                    refine w_and ?_
                    intro z13 hz13 ez13
                    obtain rfl : z13 = rv_bt (Ms6.1 hd ((1 : Int).toNat)) ((rk9 : Nat) : Int) := by rw [ez13, ez12]; rfl
                    have hz13 := rv_bt_01 (Ms6.1 hd ((1 : Int).toNat)) ((rk9 : Nat) : Int)
                    refine w_ic ?_
                    refine w_cmne (fun c14 => ?_) (fun c14 => ?_)
                    · skip
                      refine w_ic ?_
                      refine w_iret (fun _ => Or.inl rfl) ?_
                      refine w_ifeq (fun c15 => ?_) (fun c15 => ?_)
                      · skip
                        refine w_aln rfl ?_
                        refine w_gr gm rfl (by decide) rfl ((congrFun (congrFun s6.2.2.2.2.2.1 m) 23).trans r23) ?_
                        refine w_iln rfl ?_
                        refine w_dup2 ?_
                        have b16 : rv_bt (Ms6.1 hd ((1 : Int).toNat)) ((rk9 : Nat) : Int) = rv_bt (OA (((rk9 : Nat) : Int).toNat)) 5 := s6.2.2.2.1 1 rk9 (by decide) (by omega)
                        refine w_iald (v := (Ms6.1 hd ((1 : Int).toNat))) ghd rfl (by show (0 : Int) ≤ 1; omega) (by show 1 < ((4 : Nat) : Int); omega) (rfl) ?_
                        refine w_ic ?_
                        refine w_il rfl ?_
                        refine w_shl ?_
                        intro z17 hz17 ez17
                        refine w_or ?_
                        intro z18 hz18 ez18
                        obtain rfl : z18 = rv_bs (Ms6.1 hd ((1 : Int).toNat)) ((rk9 : Nat) : Int) := by rw [ez18, ez17]; rfl
                        refine w_iast ghd rfl (by decide) (by show (0 : Int) ≤ 1; omega) (by show 1 < ((4 : Nat) : Int); omega) ?_
                        have s19 := s6.shad (s := 1) (k := rk9) hB.1 (by decide) (by omega)
                        refine w_aln rfl ?_
                        refine w_il rfl ?_
                        refine w_pi gm rfl (by decide) rfl (fun q => by cases q) ?_
                        have s20 := s19.sof (v := ((rk9 : Nat) : Int)) hB.1
                        refine w_aln rfl ?_
                        refine w_cv (st := []) rfl gm rfl (Nat.le_of_ble_eq_true rfl) (fun kk h => h) (r_nxtT (d := d + 2) hB s20 (by omega) (by omega) (rv_y_le hB hqn) (fun Ms21 s21 => ?_))
                        refine w_aln rfl ?_
                        refine w_ic ?_
                        refine w_iln rfl ?_
                        have h22 := hvk9.2 (by omega)
                        clear hvk9
                        have h23 := h22.1 (by omega)
                        clear h22
                        refine w_cv (st := []) rfl gm rfl (Nat.le_of_ble_eq_true rfl) (fun kk h => h) (r_X12_takes2 (d := d + 1) hB s21 (rv_y_le hB (rv_y_le hB hqn)) (sp_num.mono h23 (fun fk24 ak24 hfk24 Mk24 Fk24 => ?_) (fun bk24 ck24 ek24 hvk24 Mk24 sk24 => ?_)))
                        · skip
                          refine w_ifne (fun c25 => ?_) (fun c25 => ?_)
                          · exfalso; omega
                          · skip
                            refine w_ic ?_
                            refine w_iret (fun _ => Or.inl rfl) ?_
                            exact w_iret (fun _ => Or.inl rfl) (hfk24 _ Fk24)
                        · skip
                          refine w_ifne (fun c26 => ?_) (fun c26 => ?_)
                          · skip
                            refine w_aln rfl ?_
                            refine w_gr gm rfl (by decide) rfl ((congrFun (congrFun sk24.2.2.2.2.2.1 m) 7).trans r7) ?_
                            refine w_ic ?_
                            refine w_bp ?_
                            refine w_il rfl ?_
                            refine w_mul ⟨by show (-2147483648 : Int) ≤ 9 * ((rk9 : Nat) : Int); omega, by show 9 * ((rk9 : Nat) : Int) < (2147483648 : Int); omega⟩ ?_
                            refine w_add ⟨by show (-2147483648 : Int) ≤ 4 + (9 * ((rk9 : Nat) : Int)); omega, by show 4 + (9 * ((rk9 : Nat) : Int)) < (2147483648 : Int); omega⟩ ?_
                            refine w_iln rfl ?_
                            refine w_add ⟨by show (-2147483648 : Int) ≤ (4 + (9 * ((rk9 : Nat) : Int))) + 5; omega, by show (4 + (9 * ((rk9 : Nat) : Int))) + 5 < (2147483648 : Int); omega⟩ ?_
                            refine w_aln rfl ?_
                            refine w_gi gm rfl (by decide) rfl (sk24.1.2.2.2.2.2.1) ?_
                            refine w_iast gha rfl (by decide) (by show (0 : Int) ≤ (4 + (9 * ((rk9 : Nat) : Int))) + 5; omega) (by show (4 + (9 * ((rk9 : Nat) : Int))) + 5 < ((221 : Nat) : Int); omega) ?_
                            have s27 := sk24.htold (j := ((4 + (9 * ((rk9 : Nat) : Int))) + 5).toNat) (k := ((rk9 : Nat) : Int).toNat) (i := 5) (v := (T (rv_x T (rv_x T q))).2.2.1) hB.1 (by omega) (by omega) (by omega)
                            refine w_ic ?_
                            refine w_iret (fun _ => Or.inr rfl) ?_
                            exact w_iret (fun _ => Or.inr rfl) (hvk24 (Nat.le_trans (Nat.le_trans (Nat.le_refl q) (rv_y_ge hB hqn)) (rv_y_ge hB (rv_y_le hB hqn))) (rv_y_le hB (rv_y_le hB hqn)) hb _ _ _ (rv_R.bb rfl s27))
                          · exfalso; omega
                      · exfalso; omega
                    · skip
                      refine w_ic ?_
                      refine w_goto ?_
                      refine w_iret (fun _ => Or.inr rfl) ?_
                      refine w_ifeq (fun c28 => ?_) (fun c28 => ?_)
                      · exfalso; omega
                      · skip
                        refine w_aln rfl ?_
                        refine w_ic ?_
                        have h30 := hvk9.2 (by omega)
                        clear hvk9
                        have h31 := h30.2 (by omega)
                        clear h30
                        refine w_cv (st := []) rfl gm rfl (Nat.le_of_ble_eq_true rfl) (fun kk h => h) (r_X12_bad2 (d := d + 3) hB s6 (fun MF29 F29 => ?_))
                        refine w_iret (fun _ => Or.inl rfl) ?_
                        exact w_iret (fun _ => Or.inl rfl) (h31 _ F29)
                · skip
                  refine w_is ?_
                  show wz _ _ _ _ [some (.inr (.inr (some m))), some (.inl 1), some (.inl 5), some (.inl 99), some (.inl (-1))] _ _ _ _ _
                  refine w_il rfl ?_
                  refine w_iflt (fun c32 => ?_) (fun c32 => ?_)
                  · skip
                    refine w_aln rfl ?_
                    refine w_ic ?_
                    have h34 := hvk9.1 (by omega)
                    clear hvk9
                    refine w_cv (st := []) rfl gm rfl (Nat.le_of_ble_eq_true rfl) (fun kk h => h) (r_X12_bad2 (d := d + 3) hB s6 (fun MF33 F33 => ?_))
                    refine w_iret (fun _ => Or.inl rfl) ?_
                    exact w_iret (fun _ => Or.inl rfl) (h34 _ F33)
                  · exfalso; omega
              · exfalso; omega
            · skip
              have hvk7 := sp_nam.bad h ck7
              refine w_ifne (fun c35 => ?_) (fun c35 => ?_)
              · exfalso; omega
              · skip
                refine w_aln rfl ?_
                refine w_ic ?_
                refine w_cv (st := []) rfl gm rfl (Nat.le_of_ble_eq_true rfl) (fun kk h => h) (r_X12_bad2 (d := d + 3) hB s6 (fun MF36 F36 => ?_))
                refine w_iret (fun _ => Or.inl rfl) ?_
                exact w_iret (fun _ => Or.inl rfl) (hvk7 _ F36)
        · exfalso; omega
      · exfalso; omega
    · exfalso; omega
  · exfalso; omega
set_option maxHeartbeats 4000000 in
theorem r_rR_5 {G : mj_G} {M0 M : mj_M} {B : Nat → Int} {n lim m bt ha hd ns rs sx : Nat} {T : Nat → Nat × Nat × Int × List Int × Nat} {PL WA OA : Nat → Int} {TO BI : Nat → Nat → Int} {nm : Nat → List Int} {g z r : Int} {Q : mj_P} {d q : Nat} (hB : rv_BT G M0 B n lim m bt ha hd ns rs sx T) (hS : rv_R M0 n lim m bt ha hd ns rs sx (T q) PL WA OA TO BI nm (PL 4) g z r M) (hqn : q ≤ n) (hb : rv_pb PL) (hk1 : (T q).1 = 1) (hj : rv_rs.getD 5 [] = (T q).2.2.2.1) (h : sp_bridge T PL WA OA TO BI nm q (fun f a => ∀ M', rv_FR M0 m sx ha f a M' → Q (some (.inl 0)) G M') (fun PL WA OA TO BI nm q' => q ≤ q' → q' ≤ n → rv_pb PL → ∀ g z M', rv_R M0 n lim m bt ha hd ns rs sx (T (rv_x T q')) PL WA OA TO BI nm (PL 4) g z r M' → Q (some (.inl 1)) G M')) : mj_R mj_tab (d + 6) 237 [.inr (.inr (some m))] G M Q := by
  obtain ⟨⟨gm, gbt, gha, ghd, gns, grs, r1, r7, r23, r9, r10, rb, rr, n1, n2, gsx, r6⟩, hT⟩ := id hB
  obtain ⟨b1, b2, b3, b4⟩ := id hb
  unfold sp_bridge at h
  refine ⟨Nat.le_of_ble_eq_true rfl, ?_⟩
  show wz (d + 5) mt_X12_row.2.2.2.2.1 Q mt_X12_row.2.2.2.2.1 [some (.inr (.inr (some m))), none] [] G M _ _
  refine w_aln rfl ?_
  refine w_l2 ?_
  refine w_cv (st := []) rfl gm rfl (Nat.le_of_ble_eq_true rfl) (fun kk h => h) (r_isWord0 (d := d + 4) (i := 0) hB hS hqn (by decide) (by decide +kernel) (fun e => absurd (rv_rs_i 0 (by decide) 5 (by decide) (e.2.trans hj.symm)) (by decide)) ?_)
  refine w_ifeq (fun c1 => ?_) (fun c1 => ?_)
  · skip
    refine w_aln rfl ?_
    refine w_l2 ?_
    refine w_cv (st := []) rfl gm rfl (Nat.le_of_ble_eq_true rfl) (fun kk h => h) (r_isWord0 (d := d + 4) (i := 1) hB hS hqn (by decide) (by decide +kernel) (fun e => absurd (rv_rs_i 1 (by decide) 5 (by decide) (e.2.trans hj.symm)) (by decide)) ?_)
    refine w_ifeq (fun c2 => ?_) (fun c2 => ?_)
    · skip
      refine w_aln rfl ?_
      refine w_l2 ?_
      refine w_cv (st := []) rfl gm rfl (Nat.le_of_ble_eq_true rfl) (fun kk h => h) (r_isWord0 (d := d + 4) (i := 2) hB hS hqn (by decide) (by decide +kernel) (fun e => absurd (rv_rs_i 2 (by decide) 5 (by decide) (e.2.trans hj.symm)) (by decide)) ?_)
      refine w_ifeq (fun c3 => ?_) (fun c3 => ?_)
      · skip
        refine w_aln rfl ?_
        refine w_l2 ?_
        refine w_cv (st := []) rfl gm rfl (Nat.le_of_ble_eq_true rfl) (fun kk h => h) (r_isWord0 (d := d + 4) (i := 3) hB hS hqn (by decide) (by decide +kernel) (fun e => absurd (rv_rs_i 3 (by decide) 5 (by decide) (e.2.trans hj.symm)) (by decide)) ?_)
        refine w_ifeq (fun c4 => ?_) (fun c4 => ?_)
        · skip
          refine w_aln rfl ?_
          refine w_l2 ?_
          refine w_cv (st := []) rfl gm rfl (Nat.le_of_ble_eq_true rfl) (fun kk h => h) (r_isWord0 (d := d + 4) (i := 4) hB hS hqn (by decide) (by decide +kernel) (fun e => absurd (rv_rs_i 4 (by decide) 5 (by decide) (e.2.trans hj.symm)) (by decide)) ?_)
          refine w_ifeq (fun c5 => ?_) (fun c5 => ?_)
          · skip
            refine w_aln rfl ?_
            refine w_l2 ?_
            refine w_cv (st := []) rfl gm rfl (Nat.le_of_ble_eq_true rfl) (fun kk h => h) (r_isWord1 (d := d + 4) (i := 5) hB hS hqn (by decide) (by decide +kernel) ⟨hk1, hj⟩ ?_)
            refine w_ifeq (fun c6 => ?_) (fun c6 => ?_)
            · exfalso; omega
            · skip
              refine w_aln rfl ?_
              refine w_ic ?_
              refine w_bp ?_
              refine w_bp ?_
              refine w_cv (st := []) rfl gm rfl (Nat.le_of_ble_eq_true rfl) (fun kk h => h) ⟨Nat.le_of_ble_eq_true rfl, ?_⟩
              show wz (d + 4) mt_X12_readOf.2.2.2.2.1 _ mt_X12_readOf.2.2.2.2.1 [some (.inr (.inr (some m))), some (.inl 2), some (.inl 6), some (.inl 99), none] [] _ _ _ _
              refine w_aln rfl ?_
              refine w_cv (st := []) rfl gm rfl (Nat.le_of_ble_eq_true rfl) (fun kk h => h) (r_nxtT (d := d + 2) hB hS (by omega) (by omega) hqn (fun Ms7 s7 => ?_))
              refine w_aln rfl ?_
              refine w_cv (st := []) rfl gm rfl (Nat.le_of_ble_eq_true rfl) (fun kk h => h) (r_X12_isName2 (d := d + 3) hB s7 (rv_y_le hB hqn) (fun bk8 ck8 => ?_) (fun ck8 => ?_))
              · skip
                have hvk8 := (h.1 bk8).1 ck8
                refine w_ifne (fun c9 => ?_) (fun c9 => ?_)
                · skip
                  refine w_aln rfl ?_
                  refine w_bp ?_
                  refine w_aln rfl ?_
                  refine w_gr gm rfl (by decide) rfl ((congrFun (congrFun s7.2.2.2.2.2.1 m) 7).trans r7) ?_
                  refine w_ic ?_
                  refine w_iald (v := PL 4) gha rfl (by show (0 : Int) ≤ 0; omega) (by show 0 < ((221 : Nat) : Int); omega) (s7.2.2.1.1.trans (rfl)) ?_
                  refine w_cv (st := []) rfl gm rfl (Nat.le_of_ble_eq_true rfl) (fun kk h => h) (r_X12_find2 (d := d + 3) hB s7 hb (by omega) (by omega) (rv_y_wo hB (rv_y_le hB hqn) (by omega)) (sp_find.mono hvk8 (fun rk10 lk10 ck10 mk10 hvk10 => ?_) (fun mk10 hvk10 => ?_)))
                  · skip
                    refine w_is ?_
                    show wz _ _ _ _ [some (.inr (.inr (some m))), some (.inl 2), some (.inl 6), some (.inl 99), some (.inl ((rk10 : Nat) : Int))] _ _ _ _ _
                    refine w_il rfl ?_
                    refine w_iflt (fun c11 => ?_) (fun c11 => ?_)
                    · exfalso; omega
                    · skip
                      refine w_aln rfl ?_
                      refine w_gr gm rfl (by decide) rfl ((congrFun (congrFun s7.2.2.2.2.2.1 m) 23).trans r23) ?_
                      refine w_iln rfl ?_
                      have b12 : rv_bt (Ms7.1 hd ((2 : Int).toNat)) ((rk10 : Nat) : Int) = rv_bt (OA (((rk10 : Nat) : Int).toNat)) 6 := s7.2.2.2.1 2 rk10 (by decide) (by omega)
                      refine w_iald (v := (Ms7.1 hd ((2 : Int).toNat))) ghd rfl (by show (0 : Int) ≤ 2; omega) (by show 2 < ((4 : Nat) : Int); omega) (rfl) ?_
                      refine w_il rfl ?_
                      refine w_cs (st := []) rfl (Nat.le_of_ble_eq_true rfl) (fun kk h => h) ⟨Nat.le_of_ble_eq_true rfl, ?_⟩
                      show wz (d + 3) mt_X12_bitOf.2.2.2.2.1 _ mt_X12_bitOf.2.2.2.2.1 [some (.inl (Ms7.1 hd ((2 : Int).toNat))), some (.inl ((rk10 : Nat) : Int))] [] _ _ _ _
                      refine w_iln rfl ?_
                      refine w_iln rfl ?_
                      refine w_shr ?_
                      intro z13 hz13 ez13
                      refine w_ic ?_
                      refine w_and ?_
                      intro z14 hz14 ez14
                      obtain rfl : z14 = rv_bt (Ms7.1 hd ((2 : Int).toNat)) ((rk10 : Nat) : Int) := by rw [ez14, ez13]; rfl
                      have hz14 := rv_bt_01 (Ms7.1 hd ((2 : Int).toNat)) ((rk10 : Nat) : Int)
                      refine w_ic ?_
                      refine w_cmne (fun c15 => ?_) (fun c15 => ?_)
                      · skip
                        refine w_ic ?_
                        refine w_iret (fun _ => Or.inl rfl) ?_
                        refine w_ifeq (fun c16 => ?_) (fun c16 => ?_)
                        · skip
                          refine w_aln rfl ?_
                          refine w_gr gm rfl (by decide) rfl ((congrFun (congrFun s7.2.2.2.2.2.1 m) 23).trans r23) ?_
                          refine w_iln rfl ?_
                          refine w_dup2 ?_
                          have b17 : rv_bt (Ms7.1 hd ((2 : Int).toNat)) ((rk10 : Nat) : Int) = rv_bt (OA (((rk10 : Nat) : Int).toNat)) 6 := s7.2.2.2.1 2 rk10 (by decide) (by omega)
                          refine w_iald (v := (Ms7.1 hd ((2 : Int).toNat))) ghd rfl (by show (0 : Int) ≤ 2; omega) (by show 2 < ((4 : Nat) : Int); omega) (rfl) ?_
                          refine w_ic ?_
                          refine w_il rfl ?_
                          refine w_shl ?_
                          intro z18 hz18 ez18
                          refine w_or ?_
                          intro z19 hz19 ez19
                          obtain rfl : z19 = rv_bs (Ms7.1 hd ((2 : Int).toNat)) ((rk10 : Nat) : Int) := by rw [ez19, ez18]; rfl
                          refine w_iast ghd rfl (by decide) (by show (0 : Int) ≤ 2; omega) (by show 2 < ((4 : Nat) : Int); omega) ?_
                          have s20 := s7.shad (s := 2) (k := rk10) hB.1 (by decide) (by omega)
                          refine w_aln rfl ?_
                          refine w_il rfl ?_
                          refine w_pi gm rfl (by decide) rfl (fun q => by cases q) ?_
                          have s21 := s20.sof (v := ((rk10 : Nat) : Int)) hB.1
                          refine w_aln rfl ?_
                          refine w_cv (st := []) rfl gm rfl (Nat.le_of_ble_eq_true rfl) (fun kk h => h) (r_nxtT (d := d + 2) hB s21 (by omega) (by omega) (rv_y_le hB hqn) (fun Ms22 s22 => ?_))
                          refine w_aln rfl ?_
                          refine w_ic ?_
                          refine w_iln rfl ?_
                          have h23 := hvk10.2 (by omega)
                          clear hvk10
                          have h24 := h23.1 (by omega)
                          clear h23
                          refine w_cv (st := []) rfl gm rfl (Nat.le_of_ble_eq_true rfl) (fun kk h => h) (r_X12_takes2 (d := d + 1) hB s22 (rv_y_le hB (rv_y_le hB hqn)) (sp_num.mono h24 (fun fk25 ak25 hfk25 Mk25 Fk25 => ?_) (fun bk25 ck25 ek25 hvk25 Mk25 sk25 => ?_)))
                          · skip
                            refine w_ifne (fun c26 => ?_) (fun c26 => ?_)
                            · exfalso; omega
                            · skip
                              refine w_ic ?_
                              refine w_iret (fun _ => Or.inl rfl) ?_
                              exact w_iret (fun _ => Or.inl rfl) (hfk25 _ Fk25)
                          · skip
                            refine w_ifne (fun c27 => ?_) (fun c27 => ?_)
                            · skip
                              refine w_aln rfl ?_
                              refine w_gr gm rfl (by decide) rfl ((congrFun (congrFun sk25.2.2.2.2.2.1 m) 7).trans r7) ?_
                              refine w_ic ?_
                              refine w_bp ?_
                              refine w_il rfl ?_
                              refine w_mul ⟨by show (-2147483648 : Int) ≤ 9 * ((rk10 : Nat) : Int); omega, by show 9 * ((rk10 : Nat) : Int) < (2147483648 : Int); omega⟩ ?_
                              refine w_add ⟨by show (-2147483648 : Int) ≤ 4 + (9 * ((rk10 : Nat) : Int)); omega, by show 4 + (9 * ((rk10 : Nat) : Int)) < (2147483648 : Int); omega⟩ ?_
                              refine w_iln rfl ?_
                              refine w_add ⟨by show (-2147483648 : Int) ≤ (4 + (9 * ((rk10 : Nat) : Int))) + 6; omega, by show (4 + (9 * ((rk10 : Nat) : Int))) + 6 < (2147483648 : Int); omega⟩ ?_
                              refine w_aln rfl ?_
                              refine w_gi gm rfl (by decide) rfl (sk25.1.2.2.2.2.2.1) ?_
                              refine w_iast gha rfl (by decide) (by show (0 : Int) ≤ (4 + (9 * ((rk10 : Nat) : Int))) + 6; omega) (by show (4 + (9 * ((rk10 : Nat) : Int))) + 6 < ((221 : Nat) : Int); omega) ?_
                              have s28 := sk25.htold (j := ((4 + (9 * ((rk10 : Nat) : Int))) + 6).toNat) (k := ((rk10 : Nat) : Int).toNat) (i := 6) (v := (T (rv_x T (rv_x T q))).2.2.1) hB.1 (by omega) (by omega) (by omega)
                              refine w_ic ?_
                              refine w_iret (fun _ => Or.inr rfl) ?_
                              exact w_iret (fun _ => Or.inr rfl) (hvk25 (Nat.le_trans (Nat.le_trans (Nat.le_refl q) (rv_y_ge hB hqn)) (rv_y_ge hB (rv_y_le hB hqn))) (rv_y_le hB (rv_y_le hB hqn)) hb _ _ _ (rv_R.bb rfl s28))
                            · exfalso; omega
                        · exfalso; omega
                      · skip
                        refine w_ic ?_
                        refine w_goto ?_
                        refine w_iret (fun _ => Or.inr rfl) ?_
                        refine w_ifeq (fun c29 => ?_) (fun c29 => ?_)
                        · exfalso; omega
                        · skip
                          refine w_aln rfl ?_
                          refine w_ic ?_
                          have h31 := hvk10.2 (by omega)
                          clear hvk10
                          have h32 := h31.2 (by omega)
                          clear h31
                          refine w_cv (st := []) rfl gm rfl (Nat.le_of_ble_eq_true rfl) (fun kk h => h) (r_X12_bad2 (d := d + 3) hB s7 (fun MF30 F30 => ?_))
                          refine w_iret (fun _ => Or.inl rfl) ?_
                          exact w_iret (fun _ => Or.inl rfl) (h32 _ F30)
                  · skip
                    refine w_is ?_
                    show wz _ _ _ _ [some (.inr (.inr (some m))), some (.inl 2), some (.inl 6), some (.inl 99), some (.inl (-1))] _ _ _ _ _
                    refine w_il rfl ?_
                    refine w_iflt (fun c33 => ?_) (fun c33 => ?_)
                    · skip
                      refine w_aln rfl ?_
                      refine w_ic ?_
                      have h35 := hvk10.1 (by omega)
                      clear hvk10
                      refine w_cv (st := []) rfl gm rfl (Nat.le_of_ble_eq_true rfl) (fun kk h => h) (r_X12_bad2 (d := d + 3) hB s7 (fun MF34 F34 => ?_))
                      refine w_iret (fun _ => Or.inl rfl) ?_
                      exact w_iret (fun _ => Or.inl rfl) (h35 _ F34)
                    · exfalso; omega
                · exfalso; omega
              · skip
                have hvk8 := sp_nam.bad h ck8
                refine w_ifne (fun c36 => ?_) (fun c36 => ?_)
                · exfalso; omega
                · skip
                  refine w_aln rfl ?_
                  refine w_ic ?_
                  refine w_cv (st := []) rfl gm rfl (Nat.le_of_ble_eq_true rfl) (fun kk h => h) (r_X12_bad2 (d := d + 3) hB s7 (fun MF37 F37 => ?_))
                  refine w_iret (fun _ => Or.inl rfl) ?_
                  exact w_iret (fun _ => Or.inl rfl) (hvk8 _ F37)
          · exfalso; omega
        · exfalso; omega
      · exfalso; omega
    · exfalso; omega
  · exfalso; omega
set_option maxHeartbeats 4000000 in
theorem r_rR_6 {G : mj_G} {M0 M : mj_M} {B : Nat → Int} {n lim m bt ha hd ns rs sx : Nat} {T : Nat → Nat × Nat × Int × List Int × Nat} {PL WA OA : Nat → Int} {TO BI : Nat → Nat → Int} {nm : Nat → List Int} {g z r : Int} {Q : mj_P} {d q : Nat} (hB : rv_BT G M0 B n lim m bt ha hd ns rs sx T) (hS : rv_R M0 n lim m bt ha hd ns rs sx (T q) PL WA OA TO BI nm (PL 4) g z r M) (hqn : q ≤ n) (hb : rv_pb PL) (hk1 : (T q).1 = 1) (hj : rv_rs.getD 6 [] = (T q).2.2.2.1) (h : sp_field T PL WA OA TO BI nm q (fun f a => ∀ M', rv_FR M0 m sx ha f a M' → Q (some (.inl 0)) G M') (fun PL WA OA TO BI nm q' => q ≤ q' → q' ≤ n → rv_pb PL → ∀ g z M', rv_R M0 n lim m bt ha hd ns rs sx (T (rv_x T q')) PL WA OA TO BI nm (PL 4) g z r M' → Q (some (.inl 1)) G M')) : mj_R mj_tab (d + 6) 237 [.inr (.inr (some m))] G M Q := by
  obtain ⟨⟨gm, gbt, gha, ghd, gns, grs, r1, r7, r23, r9, r10, rb, rr, n1, n2, gsx, r6⟩, hT⟩ := id hB
  obtain ⟨b1, b2, b3, b4⟩ := id hb
  unfold sp_field at h
  refine ⟨Nat.le_of_ble_eq_true rfl, ?_⟩
  show wz (d + 5) mt_X12_row.2.2.2.2.1 Q mt_X12_row.2.2.2.2.1 [some (.inr (.inr (some m))), none] [] G M _ _
  refine w_aln rfl ?_
  refine w_l2 ?_
  refine w_cv (st := []) rfl gm rfl (Nat.le_of_ble_eq_true rfl) (fun kk h => h) (r_isWord0 (d := d + 4) (i := 0) hB hS hqn (by decide) (by decide +kernel) (fun e => absurd (rv_rs_i 0 (by decide) 6 (by decide) (e.2.trans hj.symm)) (by decide)) ?_)
  refine w_ifeq (fun c1 => ?_) (fun c1 => ?_)
  · skip
    refine w_aln rfl ?_
    refine w_l2 ?_
    refine w_cv (st := []) rfl gm rfl (Nat.le_of_ble_eq_true rfl) (fun kk h => h) (r_isWord0 (d := d + 4) (i := 1) hB hS hqn (by decide) (by decide +kernel) (fun e => absurd (rv_rs_i 1 (by decide) 6 (by decide) (e.2.trans hj.symm)) (by decide)) ?_)
    refine w_ifeq (fun c2 => ?_) (fun c2 => ?_)
    · skip
      refine w_aln rfl ?_
      refine w_l2 ?_
      refine w_cv (st := []) rfl gm rfl (Nat.le_of_ble_eq_true rfl) (fun kk h => h) (r_isWord0 (d := d + 4) (i := 2) hB hS hqn (by decide) (by decide +kernel) (fun e => absurd (rv_rs_i 2 (by decide) 6 (by decide) (e.2.trans hj.symm)) (by decide)) ?_)
      refine w_ifeq (fun c3 => ?_) (fun c3 => ?_)
      · skip
        refine w_aln rfl ?_
        refine w_l2 ?_
        refine w_cv (st := []) rfl gm rfl (Nat.le_of_ble_eq_true rfl) (fun kk h => h) (r_isWord0 (d := d + 4) (i := 3) hB hS hqn (by decide) (by decide +kernel) (fun e => absurd (rv_rs_i 3 (by decide) 6 (by decide) (e.2.trans hj.symm)) (by decide)) ?_)
        refine w_ifeq (fun c4 => ?_) (fun c4 => ?_)
        · skip
          refine w_aln rfl ?_
          refine w_l2 ?_
          refine w_cv (st := []) rfl gm rfl (Nat.le_of_ble_eq_true rfl) (fun kk h => h) (r_isWord0 (d := d + 4) (i := 4) hB hS hqn (by decide) (by decide +kernel) (fun e => absurd (rv_rs_i 4 (by decide) 6 (by decide) (e.2.trans hj.symm)) (by decide)) ?_)
          refine w_ifeq (fun c5 => ?_) (fun c5 => ?_)
          · skip
            refine w_aln rfl ?_
            refine w_l2 ?_
            refine w_cv (st := []) rfl gm rfl (Nat.le_of_ble_eq_true rfl) (fun kk h => h) (r_isWord0 (d := d + 4) (i := 5) hB hS hqn (by decide) (by decide +kernel) (fun e => absurd (rv_rs_i 5 (by decide) 6 (by decide) (e.2.trans hj.symm)) (by decide)) ?_)
            refine w_ifeq (fun c6 => ?_) (fun c6 => ?_)
            · skip
              refine w_aln rfl ?_
              refine w_l2 ?_
              refine w_cv (st := []) rfl gm rfl (Nat.le_of_ble_eq_true rfl) (fun kk h => h) (r_isWord1 (d := d + 4) (i := 6) hB hS hqn (by decide) (by decide +kernel) ⟨hk1, hj⟩ ?_)
              refine w_ifeq (fun c7 => ?_) (fun c7 => ?_)
              · exfalso; omega
              · skip
                refine w_aln rfl ?_
                refine w_ic ?_
                refine w_bp ?_
                refine w_bp ?_
                refine w_cv (st := []) rfl gm rfl (Nat.le_of_ble_eq_true rfl) (fun kk h => h) ⟨Nat.le_of_ble_eq_true rfl, ?_⟩
                show wz (d + 4) mt_X12_readOf.2.2.2.2.1 _ mt_X12_readOf.2.2.2.2.1 [some (.inr (.inr (some m))), some (.inl 3), some (.inl 7), some (.inl 99), none] [] _ _ _ _
                refine w_aln rfl ?_
                refine w_cv (st := []) rfl gm rfl (Nat.le_of_ble_eq_true rfl) (fun kk h => h) (r_nxtT (d := d + 2) hB hS (by omega) (by omega) hqn (fun Ms8 s8 => ?_))
                refine w_aln rfl ?_
                refine w_cv (st := []) rfl gm rfl (Nat.le_of_ble_eq_true rfl) (fun kk h => h) (r_X12_isName2 (d := d + 3) hB s8 (rv_y_le hB hqn) (fun bk9 ck9 => ?_) (fun ck9 => ?_))
                · skip
                  have hvk9 := (h.1 bk9).1 ck9
                  refine w_ifne (fun c10 => ?_) (fun c10 => ?_)
                  · skip
                    refine w_aln rfl ?_
                    refine w_bp ?_
                    refine w_aln rfl ?_
                    refine w_gr gm rfl (by decide) rfl ((congrFun (congrFun s8.2.2.2.2.2.1 m) 7).trans r7) ?_
                    refine w_ic ?_
                    refine w_iald (v := PL 4) gha rfl (by show (0 : Int) ≤ 0; omega) (by show 0 < ((221 : Nat) : Int); omega) (s8.2.2.1.1.trans (rfl)) ?_
                    refine w_cv (st := []) rfl gm rfl (Nat.le_of_ble_eq_true rfl) (fun kk h => h) (r_X12_find2 (d := d + 3) hB s8 hb (by omega) (by omega) (rv_y_wo hB (rv_y_le hB hqn) (by omega)) (sp_find.mono hvk9 (fun rk11 lk11 ck11 mk11 hvk11 => ?_) (fun mk11 hvk11 => ?_)))
                    · skip
                      refine w_is ?_
                      show wz _ _ _ _ [some (.inr (.inr (some m))), some (.inl 3), some (.inl 7), some (.inl 99), some (.inl ((rk11 : Nat) : Int))] _ _ _ _ _
                      refine w_il rfl ?_
                      refine w_iflt (fun c12 => ?_) (fun c12 => ?_)
                      · exfalso; omega
                      · skip
                        refine w_aln rfl ?_
                        refine w_gr gm rfl (by decide) rfl ((congrFun (congrFun s8.2.2.2.2.2.1 m) 23).trans r23) ?_
                        refine w_iln rfl ?_
                        have b13 : rv_bt (Ms8.1 hd ((3 : Int).toNat)) ((rk11 : Nat) : Int) = rv_bt (OA (((rk11 : Nat) : Int).toNat)) 7 := s8.2.2.2.1 3 rk11 (by decide) (by omega)
                        refine w_iald (v := (Ms8.1 hd ((3 : Int).toNat))) ghd rfl (by show (0 : Int) ≤ 3; omega) (by show 3 < ((4 : Nat) : Int); omega) (rfl) ?_
                        refine w_il rfl ?_
                        refine w_cs (st := []) rfl (Nat.le_of_ble_eq_true rfl) (fun kk h => h) ⟨Nat.le_of_ble_eq_true rfl, ?_⟩
                        show wz (d + 3) mt_X12_bitOf.2.2.2.2.1 _ mt_X12_bitOf.2.2.2.2.1 [some (.inl (Ms8.1 hd ((3 : Int).toNat))), some (.inl ((rk11 : Nat) : Int))] [] _ _ _ _
                        refine w_iln rfl ?_
                        refine w_iln rfl ?_
                        refine w_shr ?_
                        intro z14 hz14 ez14
                        refine w_ic ?_
                        refine w_and ?_
                        intro z15 hz15 ez15
                        obtain rfl : z15 = rv_bt (Ms8.1 hd ((3 : Int).toNat)) ((rk11 : Nat) : Int) := by rw [ez15, ez14]; rfl
                        have hz15 := rv_bt_01 (Ms8.1 hd ((3 : Int).toNat)) ((rk11 : Nat) : Int)
                        refine w_ic ?_
                        refine w_cmne (fun c16 => ?_) (fun c16 => ?_)
                        · skip
                          refine w_ic ?_
                          refine w_iret (fun _ => Or.inl rfl) ?_
                          refine w_ifeq (fun c17 => ?_) (fun c17 => ?_)
                          · skip
                            refine w_aln rfl ?_
                            refine w_gr gm rfl (by decide) rfl ((congrFun (congrFun s8.2.2.2.2.2.1 m) 23).trans r23) ?_
                            refine w_iln rfl ?_
                            refine w_dup2 ?_
                            have b18 : rv_bt (Ms8.1 hd ((3 : Int).toNat)) ((rk11 : Nat) : Int) = rv_bt (OA (((rk11 : Nat) : Int).toNat)) 7 := s8.2.2.2.1 3 rk11 (by decide) (by omega)
                            refine w_iald (v := (Ms8.1 hd ((3 : Int).toNat))) ghd rfl (by show (0 : Int) ≤ 3; omega) (by show 3 < ((4 : Nat) : Int); omega) (rfl) ?_
                            refine w_ic ?_
                            refine w_il rfl ?_
                            refine w_shl ?_
                            intro z19 hz19 ez19
                            refine w_or ?_
                            intro z20 hz20 ez20
                            obtain rfl : z20 = rv_bs (Ms8.1 hd ((3 : Int).toNat)) ((rk11 : Nat) : Int) := by rw [ez20, ez19]; rfl
                            refine w_iast ghd rfl (by decide) (by show (0 : Int) ≤ 3; omega) (by show 3 < ((4 : Nat) : Int); omega) ?_
                            have s21 := s8.shad (s := 3) (k := rk11) hB.1 (by decide) (by omega)
                            refine w_aln rfl ?_
                            refine w_il rfl ?_
                            refine w_pi gm rfl (by decide) rfl (fun q => by cases q) ?_
                            have s22 := s21.sof (v := ((rk11 : Nat) : Int)) hB.1
                            refine w_aln rfl ?_
                            refine w_cv (st := []) rfl gm rfl (Nat.le_of_ble_eq_true rfl) (fun kk h => h) (r_nxtT (d := d + 2) hB s22 (by omega) (by omega) (rv_y_le hB hqn) (fun Ms23 s23 => ?_))
                            refine w_aln rfl ?_
                            refine w_ic ?_
                            refine w_iln rfl ?_
                            have h24 := hvk11.2 (by omega)
                            clear hvk11
                            have h25 := h24.1 (by omega)
                            clear h24
                            refine w_cv (st := []) rfl gm rfl (Nat.le_of_ble_eq_true rfl) (fun kk h => h) (r_X12_takes2 (d := d + 1) hB s23 (rv_y_le hB (rv_y_le hB hqn)) (sp_num.mono h25 (fun fk26 ak26 hfk26 Mk26 Fk26 => ?_) (fun bk26 ck26 ek26 hvk26 Mk26 sk26 => ?_)))
                            · skip
                              refine w_ifne (fun c27 => ?_) (fun c27 => ?_)
                              · exfalso; omega
                              · skip
                                refine w_ic ?_
                                refine w_iret (fun _ => Or.inl rfl) ?_
                                refine w_ifne (fun c28 => ?_) (fun c28 => ?_)
                                · exfalso; omega
                                · skip
                                  refine w_ic ?_
                                  exact w_iret (fun _ => Or.inl rfl) (hfk26 _ Fk26)
                            · skip
                              refine w_ifne (fun c29 => ?_) (fun c29 => ?_)
                              · skip
                                refine w_aln rfl ?_
                                refine w_gr gm rfl (by decide) rfl ((congrFun (congrFun sk26.2.2.2.2.2.1 m) 7).trans r7) ?_
                                refine w_ic ?_
                                refine w_bp ?_
                                refine w_il rfl ?_
                                refine w_mul ⟨by show (-2147483648 : Int) ≤ 9 * ((rk11 : Nat) : Int); omega, by show 9 * ((rk11 : Nat) : Int) < (2147483648 : Int); omega⟩ ?_
                                refine w_add ⟨by show (-2147483648 : Int) ≤ 4 + (9 * ((rk11 : Nat) : Int)); omega, by show 4 + (9 * ((rk11 : Nat) : Int)) < (2147483648 : Int); omega⟩ ?_
                                refine w_iln rfl ?_
                                refine w_add ⟨by show (-2147483648 : Int) ≤ (4 + (9 * ((rk11 : Nat) : Int))) + 7; omega, by show (4 + (9 * ((rk11 : Nat) : Int))) + 7 < (2147483648 : Int); omega⟩ ?_
                                refine w_aln rfl ?_
                                refine w_gi gm rfl (by decide) rfl (sk26.1.2.2.2.2.2.1) ?_
                                refine w_iast gha rfl (by decide) (by show (0 : Int) ≤ (4 + (9 * ((rk11 : Nat) : Int))) + 7; omega) (by show (4 + (9 * ((rk11 : Nat) : Int))) + 7 < ((221 : Nat) : Int); omega) ?_
                                have s30 := sk26.htold (j := ((4 + (9 * ((rk11 : Nat) : Int))) + 7).toNat) (k := ((rk11 : Nat) : Int).toNat) (i := 7) (v := (T (rv_x T (rv_x T q))).2.2.1) hB.1 (by omega) (by omega) (by omega)
                                refine w_ic ?_
                                refine w_iret (fun _ => Or.inr rfl) ?_
                                refine w_ifne (fun c31 => ?_) (fun c31 => ?_)
                                · skip
                                  refine w_aln rfl ?_
                                  refine w_gi gm rfl (by decide) rfl (s30.1.2.2.2.2.2.2.1) ?_
                                  refine w_isn ?_
                                  show wz _ _ _ _ [some (.inr (.inr (some m))), some (.inl ((rk11 : Nat) : Int))] _ _ _ _ _
                                  refine w_aln rfl ?_
                                  refine w_ic ?_
                                  refine w_bp ?_
                                  refine w_cv (st := []) rfl gm rfl (Nat.le_of_ble_eq_true rfl) (fun kk h => h) (r_X12_takes2 (d := d + 2) hB s30 (rv_y_le hB (rv_y_le hB (rv_y_le hB hqn))) (sp_num.mono hvk26 (fun fk32 ak32 hfk32 Mk32 Fk32 => ?_) (fun bk32 ck32 ek32 hvk32 Mk32 sk32 => ?_)))
                                  · skip
                                    refine w_ifne (fun c33 => ?_) (fun c33 => ?_)
                                    · exfalso; omega
                                    · skip
                                      refine w_ic ?_
                                      exact w_iret (fun _ => Or.inl rfl) (hfk32 _ Fk32)
                                  · skip
                                    refine w_ifne (fun c34 => ?_) (fun c34 => ?_)
                                    · skip
                                      refine w_aln rfl ?_
                                      refine w_gr gm rfl (by decide) rfl ((congrFun (congrFun sk32.2.2.2.2.2.1 m) 7).trans r7) ?_
                                      refine w_ic ?_
                                      refine w_bp ?_
                                      refine w_iln rfl ?_
                                      refine w_mul ⟨by show (-2147483648 : Int) ≤ 9 * ((rk11 : Nat) : Int); omega, by show 9 * ((rk11 : Nat) : Int) < (2147483648 : Int); omega⟩ ?_
                                      refine w_add ⟨by show (-2147483648 : Int) ≤ 4 + (9 * ((rk11 : Nat) : Int)); omega, by show 4 + (9 * ((rk11 : Nat) : Int)) < (2147483648 : Int); omega⟩ ?_
                                      refine w_bp ?_
                                      refine w_add ⟨by show (-2147483648 : Int) ≤ (4 + (9 * ((rk11 : Nat) : Int))) + 8; omega, by show (4 + (9 * ((rk11 : Nat) : Int))) + 8 < (2147483648 : Int); omega⟩ ?_
                                      refine w_aln rfl ?_
                                      refine w_gi gm rfl (by decide) rfl (sk32.1.2.2.2.2.2.1) ?_
                                      refine w_iast gha rfl (by decide) (by show (0 : Int) ≤ (4 + (9 * ((rk11 : Nat) : Int))) + 8; omega) (by show (4 + (9 * ((rk11 : Nat) : Int))) + 8 < ((221 : Nat) : Int); omega) ?_
                                      have s35 := sk32.htold (j := ((4 + (9 * ((rk11 : Nat) : Int))) + 8).toNat) (k := ((rk11 : Nat) : Int).toNat) (i := 8) (v := (T (rv_x T (rv_x T (rv_x T q)))).2.2.1) hB.1 (by omega) (by omega) (by omega)
                                      refine w_ic ?_
                                      exact w_iret (fun _ => Or.inr rfl) (hvk32 (Nat.le_trans (Nat.le_trans (Nat.le_trans (Nat.le_refl q) (rv_y_ge hB hqn)) (rv_y_ge hB (rv_y_le hB hqn))) (rv_y_ge hB (rv_y_le hB (rv_y_le hB hqn)))) (rv_y_le hB (rv_y_le hB (rv_y_le hB hqn))) hb _ _ _ (by rw [rv_up2_c (by decide)]; exact (rv_R.bb rfl s35)))
                                    · exfalso; omega
                                · exfalso; omega
                              · exfalso; omega
                          · exfalso; omega
                        · skip
                          refine w_ic ?_
                          refine w_goto ?_
                          refine w_iret (fun _ => Or.inr rfl) ?_
                          refine w_ifeq (fun c36 => ?_) (fun c36 => ?_)
                          · exfalso; omega
                          · skip
                            refine w_aln rfl ?_
                            refine w_ic ?_
                            have h38 := hvk11.2 (by omega)
                            clear hvk11
                            have h39 := h38.2 (by omega)
                            clear h38
                            refine w_cv (st := []) rfl gm rfl (Nat.le_of_ble_eq_true rfl) (fun kk h => h) (r_X12_bad2 (d := d + 3) hB s8 (fun MF37 F37 => ?_))
                            refine w_iret (fun _ => Or.inl rfl) ?_
                            refine w_ifne (fun c40 => ?_) (fun c40 => ?_)
                            · exfalso; omega
                            · skip
                              refine w_ic ?_
                              exact w_iret (fun _ => Or.inl rfl) (h39 _ F37)
                    · skip
                      refine w_is ?_
                      show wz _ _ _ _ [some (.inr (.inr (some m))), some (.inl 3), some (.inl 7), some (.inl 99), some (.inl (-1))] _ _ _ _ _
                      refine w_il rfl ?_
                      refine w_iflt (fun c41 => ?_) (fun c41 => ?_)
                      · skip
                        refine w_aln rfl ?_
                        refine w_ic ?_
                        have h43 := hvk11.1 (by omega)
                        clear hvk11
                        refine w_cv (st := []) rfl gm rfl (Nat.le_of_ble_eq_true rfl) (fun kk h => h) (r_X12_bad2 (d := d + 3) hB s8 (fun MF42 F42 => ?_))
                        refine w_iret (fun _ => Or.inl rfl) ?_
                        refine w_ifne (fun c44 => ?_) (fun c44 => ?_)
                        · exfalso; omega
                        · skip
                          refine w_ic ?_
                          exact w_iret (fun _ => Or.inl rfl) (h43 _ F42)
                      · exfalso; omega
                  · exfalso; omega
                · skip
                  have hvk9 := sp_nam.bad h ck9
                  refine w_ifne (fun c45 => ?_) (fun c45 => ?_)
                  · exfalso; omega
                  · skip
                    refine w_aln rfl ?_
                    refine w_ic ?_
                    refine w_cv (st := []) rfl gm rfl (Nat.le_of_ble_eq_true rfl) (fun kk h => h) (r_X12_bad2 (d := d + 3) hB s8 (fun MF46 F46 => ?_))
                    refine w_iret (fun _ => Or.inl rfl) ?_
                    refine w_ifne (fun c47 => ?_) (fun c47 => ?_)
                    · exfalso; omega
                    · skip
                      refine w_ic ?_
                      exact w_iret (fun _ => Or.inl rfl) (hvk9 _ F46)
            · exfalso; omega
          · exfalso; omega
        · exfalso; omega
      · exfalso; omega
    · exfalso; omega
  · exfalso; omega
set_option maxHeartbeats 4000000 in
theorem r_rR_7 {G : mj_G} {M0 M : mj_M} {B : Nat → Int} {n lim m bt ha hd ns rs sx : Nat} {T : Nat → Nat × Nat × Int × List Int × Nat} {PL WA OA : Nat → Int} {TO BI : Nat → Nat → Int} {nm : Nat → List Int} {g z r : Int} {Q : mj_P} {d q : Nat} (hB : rv_BT G M0 B n lim m bt ha hd ns rs sx T) (hS : rv_R M0 n lim m bt ha hd ns rs sx (T q) PL WA OA TO BI nm (PL 4) g z r M) (hqn : q ≤ n) (hb : rv_pb PL) (hk1 : (T q).1 = 1) (hj : rv_rs.getD 7 [] = (T q).2.2.2.1) (h : sp_move T PL WA OA TO BI nm q (fun f a => ∀ M', rv_FR M0 m sx ha f a M' → Q (some (.inl 0)) G M') (fun PL WA OA TO BI nm q' => q ≤ q' → q' ≤ n → rv_pb PL → ∀ g z M', rv_R M0 n lim m bt ha hd ns rs sx (T (rv_x T q')) PL WA OA TO BI nm (PL 4) g z r M' → Q (some (.inl 1)) G M')) : mj_R mj_tab (d + 6) 237 [.inr (.inr (some m))] G M Q := by
  obtain ⟨⟨gm, gbt, gha, ghd, gns, grs, r1, r7, r23, r9, r10, rb, rr, n1, n2, gsx, r6⟩, hT⟩ := id hB
  obtain ⟨b1, b2, b3, b4⟩ := id hb
  unfold sp_move at h
  have ho : rv_bt (M.1 m 20) 0 = PL 12 := hS.1.2.2.2.2.1 0 (by decide)
  refine ⟨Nat.le_of_ble_eq_true rfl, ?_⟩
  show wz (d + 5) mt_X12_row.2.2.2.2.1 Q mt_X12_row.2.2.2.2.1 [some (.inr (.inr (some m))), none] [] G M _ _
  refine w_aln rfl ?_
  refine w_l2 ?_
  refine w_cv (st := []) rfl gm rfl (Nat.le_of_ble_eq_true rfl) (fun kk h => h) (r_isWord0 (d := d + 4) (i := 0) hB hS hqn (by decide) (by decide +kernel) (fun e => absurd (rv_rs_i 0 (by decide) 7 (by decide) (e.2.trans hj.symm)) (by decide)) ?_)
  refine w_ifeq (fun c1 => ?_) (fun c1 => ?_)
  · skip
    refine w_aln rfl ?_
    refine w_l2 ?_
    refine w_cv (st := []) rfl gm rfl (Nat.le_of_ble_eq_true rfl) (fun kk h => h) (r_isWord0 (d := d + 4) (i := 1) hB hS hqn (by decide) (by decide +kernel) (fun e => absurd (rv_rs_i 1 (by decide) 7 (by decide) (e.2.trans hj.symm)) (by decide)) ?_)
    refine w_ifeq (fun c2 => ?_) (fun c2 => ?_)
    · skip
      refine w_aln rfl ?_
      refine w_l2 ?_
      refine w_cv (st := []) rfl gm rfl (Nat.le_of_ble_eq_true rfl) (fun kk h => h) (r_isWord0 (d := d + 4) (i := 2) hB hS hqn (by decide) (by decide +kernel) (fun e => absurd (rv_rs_i 2 (by decide) 7 (by decide) (e.2.trans hj.symm)) (by decide)) ?_)
      refine w_ifeq (fun c3 => ?_) (fun c3 => ?_)
      · skip
        refine w_aln rfl ?_
        refine w_l2 ?_
        refine w_cv (st := []) rfl gm rfl (Nat.le_of_ble_eq_true rfl) (fun kk h => h) (r_isWord0 (d := d + 4) (i := 3) hB hS hqn (by decide) (by decide +kernel) (fun e => absurd (rv_rs_i 3 (by decide) 7 (by decide) (e.2.trans hj.symm)) (by decide)) ?_)
        refine w_ifeq (fun c4 => ?_) (fun c4 => ?_)
        · skip
          refine w_aln rfl ?_
          refine w_l2 ?_
          refine w_cv (st := []) rfl gm rfl (Nat.le_of_ble_eq_true rfl) (fun kk h => h) (r_isWord0 (d := d + 4) (i := 4) hB hS hqn (by decide) (by decide +kernel) (fun e => absurd (rv_rs_i 4 (by decide) 7 (by decide) (e.2.trans hj.symm)) (by decide)) ?_)
          refine w_ifeq (fun c5 => ?_) (fun c5 => ?_)
          · skip
            refine w_aln rfl ?_
            refine w_l2 ?_
            refine w_cv (st := []) rfl gm rfl (Nat.le_of_ble_eq_true rfl) (fun kk h => h) (r_isWord0 (d := d + 4) (i := 5) hB hS hqn (by decide) (by decide +kernel) (fun e => absurd (rv_rs_i 5 (by decide) 7 (by decide) (e.2.trans hj.symm)) (by decide)) ?_)
            refine w_ifeq (fun c6 => ?_) (fun c6 => ?_)
            · skip
              refine w_aln rfl ?_
              refine w_l2 ?_
              refine w_cv (st := []) rfl gm rfl (Nat.le_of_ble_eq_true rfl) (fun kk h => h) (r_isWord0 (d := d + 4) (i := 6) hB hS hqn (by decide) (by decide +kernel) (fun e => absurd (rv_rs_i 6 (by decide) 7 (by decide) (e.2.trans hj.symm)) (by decide)) ?_)
              refine w_ifeq (fun c7 => ?_) (fun c7 => ?_)
              · skip
                refine w_aln rfl ?_
                refine w_l2 ?_
                refine w_cv (st := []) rfl gm rfl (Nat.le_of_ble_eq_true rfl) (fun kk h => h) (r_isWord1 (d := d + 4) (i := 7) hB hS hqn (by decide) (by decide +kernel) ⟨hk1, hj⟩ ?_)
                refine w_ifeq (fun c8 => ?_) (fun c8 => ?_)
                · exfalso; omega
                · skip
                  refine w_ic ?_
                  refine w_goto ?_
                  refine w_isn ?_
                  show wz _ _ _ _ [some (.inr (.inr (some m))), some (.inl 0)] _ _ _ _ _
                  refine w_iln rfl ?_
                  refine w_ifge (fun c9 => ?_) (fun c9 => ?_)
                  · skip
                    refine w_aln rfl ?_
                    refine w_gi gm rfl (by decide) rfl (rfl) ?_
                    refine w_iln rfl ?_
                    refine w_cs (st := []) rfl (Nat.le_of_ble_eq_true rfl) (fun kk h => h) ⟨Nat.le_of_ble_eq_true rfl, ?_⟩
                    show wz (d + 4) mt_X12_bitOf.2.2.2.2.1 _ mt_X12_bitOf.2.2.2.2.1 [some (.inl (M.1 m 20)), some (.inl 0)] [] _ _ _ _
                    refine w_iln rfl ?_
                    refine w_iln rfl ?_
                    refine w_shr ?_
                    intro z10 hz10 ez10
                    refine w_ic ?_
                    refine w_and ?_
                    intro z11 hz11 ez11
                    obtain rfl : z11 = rv_bt (M.1 m 20) 0 := by rw [ez11, ez10]; rfl
                    have hz11 := rv_bt_01 (M.1 m 20) 0
                    refine w_ic ?_
                    refine w_cmne (fun c12 => ?_) (fun c12 => ?_)
                    · skip
                      refine w_ic ?_
                      refine w_iret (fun _ => Or.inl rfl) ?_
                      refine w_ifeq (fun c13 => ?_) (fun c13 => ?_)
                      · skip
                        refine w_aln rfl ?_
                        refine w_dupr ?_
                        refine w_gi gm rfl (by decide) rfl (rfl) ?_
                        refine w_ic ?_
                        refine w_iln rfl ?_
                        refine w_shl ?_
                        intro z14 hz14 ez14
                        refine w_or ?_
                        intro z15 hz15 ez15
                        obtain rfl : z15 = rv_bs (M.1 m 20) 0 := by rw [ez15, ez14]; rfl
                        refine w_pi gm rfl (by decide) rfl (fun q => by cases q) ?_
                        have s16 := hS.sonce (k := 0) hB.1 (by decide)
                        refine w_aln rfl ?_
                        refine w_cv (st := []) rfl gm rfl (Nat.le_of_ble_eq_true rfl) (fun kk h => h) (r_nxtT (d := d + 3) hB s16 (by omega) (by omega) hqn (fun Ms17 s17 => ?_))
                        refine w_aln rfl ?_
                        refine w_iln rfl ?_
                        refine w_ic ?_
                        refine w_cmne (fun c18 => ?_) (fun c18 => ?_)
                        · skip
                          refine w_ic ?_
                          refine w_iln rfl ?_
                          refine w_ifne (fun c19 => ?_) (fun c19 => ?_)
                          · exfalso; omega
                          · skip
                            refine w_bp ?_
                            refine w_goto ?_
                            have h20 := h.1 (by omega)
                            clear h
                            refine w_cv (st := []) rfl gm rfl (Nat.le_of_ble_eq_true rfl) (fun kk h => h) (r_X12_takes2 (d := d + 2) hB s17 (rv_y_le hB hqn) (sp_num.mono h20 (fun fk21 ak21 hfk21 Mk21 Fk21 => ?_) (fun bk21 ck21 ek21 hvk21 Mk21 sk21 => ?_)))
                            · skip
                              refine w_ifne (fun c22 => ?_) (fun c22 => ?_)
                              · exfalso; omega
                              · skip
                                refine w_ic ?_
                                exact w_iret (fun _ => Or.inl rfl) (hfk21 _ Fk21)
                            · skip
                              refine w_ifne (fun c23 => ?_) (fun c23 => ?_)
                              · skip
                                refine w_aln rfl ?_
                                refine w_gr gm rfl (by decide) rfl ((congrFun (congrFun sk21.2.2.2.2.2.1 m) 7).trans r7) ?_
                                refine w_ic ?_
                                refine w_iln rfl ?_
                                refine w_add ⟨by show (-2147483648 : Int) ≤ 1; omega, by show 1 < (2147483648 : Int); omega⟩ ?_
                                refine w_aln rfl ?_
                                refine w_gi gm rfl (by decide) rfl (sk21.1.2.2.2.2.2.1) ?_
                                refine w_iast gha rfl (by decide) (by show (0 : Int) ≤ 1; omega) (by show 1 < ((221 : Nat) : Int); omega) ?_
                                have s24 := sk21.hval0 (j := (1 : Int).toNat) (v := (T (rv_x T q)).2.2.1) hB.1 rfl
                                refine w_ic ?_
                                exact w_iret (fun _ => Or.inr rfl) (hvk21 (Nat.le_trans (Nat.le_refl q) (rv_y_ge hB hqn)) (rv_y_le hB hqn) ⟨by rw [show (rv_up (rv_up PL 12 1) 6 ((T (rv_x T q)).2.2.1)) 4 = PL 4 from (rv_up_n (by decide)).trans ((rv_up_n (by decide)))]; omega, by rw [show (rv_up (rv_up PL 12 1) 6 ((T (rv_x T q)).2.2.1)) 4 = PL 4 from (rv_up_n (by decide)).trans ((rv_up_n (by decide)))]; omega, by rw [show (rv_up (rv_up PL 12 1) 6 ((T (rv_x T q)).2.2.1)) 5 = PL 5 from (rv_up_n (by decide)).trans ((rv_up_n (by decide)))]; omega, by rw [show (rv_up (rv_up PL 12 1) 6 ((T (rv_x T q)).2.2.1)) 5 = PL 5 from (rv_up_n (by decide)).trans ((rv_up_n (by decide)))]; omega⟩ _ _ _ (rv_R.bb (show (rv_up (rv_up PL 12 1) 6 ((T (rv_x T q)).2.2.1)) 4 = PL 4 from (rv_up_n (by decide)).trans ((rv_up_n (by decide)))).symm s24))
                              · exfalso; omega
                        · exfalso; omega
                      · exfalso; omega
                    · skip
                      refine w_ic ?_
                      refine w_goto ?_
                      refine w_iret (fun _ => Or.inr rfl) ?_
                      refine w_ifeq (fun c25 => ?_) (fun c25 => ?_)
                      · exfalso; omega
                      · skip
                        refine w_aln rfl ?_
                        refine w_ic ?_
                        have h27 := h.2 (by omega)
                        clear h
                        refine w_cv (st := []) rfl gm rfl (Nat.le_of_ble_eq_true rfl) (fun kk h => h) (r_X12_bad2 (d := d + 4) hB hS (fun MF26 F26 => ?_))
                        exact w_iret (fun _ => Or.inl rfl) (h27 _ F26)
                  · exfalso; omega
              · exfalso; omega
            · exfalso; omega
          · exfalso; omega
        · exfalso; omega
      · exfalso; omega
    · exfalso; omega
  · exfalso; omega
set_option maxHeartbeats 4000000 in
theorem r_rR_8 {G : mj_G} {M0 M : mj_M} {B : Nat → Int} {n lim m bt ha hd ns rs sx : Nat} {T : Nat → Nat × Nat × Int × List Int × Nat} {PL WA OA : Nat → Int} {TO BI : Nat → Nat → Int} {nm : Nat → List Int} {g z r : Int} {Q : mj_P} {d q : Nat} (hB : rv_BT G M0 B n lim m bt ha hd ns rs sx T) (hS : rv_R M0 n lim m bt ha hd ns rs sx (T q) PL WA OA TO BI nm (PL 4) g z r M) (hqn : q ≤ n) (hb : rv_pb PL) (hk1 : (T q).1 = 1) (hj : rv_rs.getD 8 [] = (T q).2.2.2.1) (h : sp_fish T PL WA OA TO BI nm q (fun f a => ∀ M', rv_FR M0 m sx ha f a M' → Q (some (.inl 0)) G M') (fun PL WA OA TO BI nm q' => q ≤ q' → q' ≤ n → rv_pb PL → ∀ g z M', rv_R M0 n lim m bt ha hd ns rs sx (T (rv_x T q')) PL WA OA TO BI nm (PL 4) g z r M' → Q (some (.inl 1)) G M')) : mj_R mj_tab (d + 6) 237 [.inr (.inr (some m))] G M Q := by
  obtain ⟨⟨gm, gbt, gha, ghd, gns, grs, r1, r7, r23, r9, r10, rb, rr, n1, n2, gsx, r6⟩, hT⟩ := id hB
  obtain ⟨b1, b2, b3, b4⟩ := id hb
  unfold sp_fish at h
  have ho : rv_bt (M.1 m 20) 1 = PL 13 := hS.1.2.2.2.2.1 1 (by decide)
  refine ⟨Nat.le_of_ble_eq_true rfl, ?_⟩
  show wz (d + 5) mt_X12_row.2.2.2.2.1 Q mt_X12_row.2.2.2.2.1 [some (.inr (.inr (some m))), none] [] G M _ _
  refine w_aln rfl ?_
  refine w_l2 ?_
  refine w_cv (st := []) rfl gm rfl (Nat.le_of_ble_eq_true rfl) (fun kk h => h) (r_isWord0 (d := d + 4) (i := 0) hB hS hqn (by decide) (by decide +kernel) (fun e => absurd (rv_rs_i 0 (by decide) 8 (by decide) (e.2.trans hj.symm)) (by decide)) ?_)
  refine w_ifeq (fun c1 => ?_) (fun c1 => ?_)
  · skip
    refine w_aln rfl ?_
    refine w_l2 ?_
    refine w_cv (st := []) rfl gm rfl (Nat.le_of_ble_eq_true rfl) (fun kk h => h) (r_isWord0 (d := d + 4) (i := 1) hB hS hqn (by decide) (by decide +kernel) (fun e => absurd (rv_rs_i 1 (by decide) 8 (by decide) (e.2.trans hj.symm)) (by decide)) ?_)
    refine w_ifeq (fun c2 => ?_) (fun c2 => ?_)
    · skip
      refine w_aln rfl ?_
      refine w_l2 ?_
      refine w_cv (st := []) rfl gm rfl (Nat.le_of_ble_eq_true rfl) (fun kk h => h) (r_isWord0 (d := d + 4) (i := 2) hB hS hqn (by decide) (by decide +kernel) (fun e => absurd (rv_rs_i 2 (by decide) 8 (by decide) (e.2.trans hj.symm)) (by decide)) ?_)
      refine w_ifeq (fun c3 => ?_) (fun c3 => ?_)
      · skip
        refine w_aln rfl ?_
        refine w_l2 ?_
        refine w_cv (st := []) rfl gm rfl (Nat.le_of_ble_eq_true rfl) (fun kk h => h) (r_isWord0 (d := d + 4) (i := 3) hB hS hqn (by decide) (by decide +kernel) (fun e => absurd (rv_rs_i 3 (by decide) 8 (by decide) (e.2.trans hj.symm)) (by decide)) ?_)
        refine w_ifeq (fun c4 => ?_) (fun c4 => ?_)
        · skip
          refine w_aln rfl ?_
          refine w_l2 ?_
          refine w_cv (st := []) rfl gm rfl (Nat.le_of_ble_eq_true rfl) (fun kk h => h) (r_isWord0 (d := d + 4) (i := 4) hB hS hqn (by decide) (by decide +kernel) (fun e => absurd (rv_rs_i 4 (by decide) 8 (by decide) (e.2.trans hj.symm)) (by decide)) ?_)
          refine w_ifeq (fun c5 => ?_) (fun c5 => ?_)
          · skip
            refine w_aln rfl ?_
            refine w_l2 ?_
            refine w_cv (st := []) rfl gm rfl (Nat.le_of_ble_eq_true rfl) (fun kk h => h) (r_isWord0 (d := d + 4) (i := 5) hB hS hqn (by decide) (by decide +kernel) (fun e => absurd (rv_rs_i 5 (by decide) 8 (by decide) (e.2.trans hj.symm)) (by decide)) ?_)
            refine w_ifeq (fun c6 => ?_) (fun c6 => ?_)
            · skip
              refine w_aln rfl ?_
              refine w_l2 ?_
              refine w_cv (st := []) rfl gm rfl (Nat.le_of_ble_eq_true rfl) (fun kk h => h) (r_isWord0 (d := d + 4) (i := 6) hB hS hqn (by decide) (by decide +kernel) (fun e => absurd (rv_rs_i 6 (by decide) 8 (by decide) (e.2.trans hj.symm)) (by decide)) ?_)
              refine w_ifeq (fun c7 => ?_) (fun c7 => ?_)
              · skip
                refine w_aln rfl ?_
                refine w_l2 ?_
                refine w_cv (st := []) rfl gm rfl (Nat.le_of_ble_eq_true rfl) (fun kk h => h) (r_isWord0 (d := d + 4) (i := 7) hB hS hqn (by decide) (by decide +kernel) (fun e => absurd (rv_rs_i 7 (by decide) 8 (by decide) (e.2.trans hj.symm)) (by decide)) ?_)
                refine w_ifeq (fun c8 => ?_) (fun c8 => ?_)
                · skip
                  refine w_aln rfl ?_
                  refine w_l2 ?_
                  refine w_cv (st := []) rfl gm rfl (Nat.le_of_ble_eq_true rfl) (fun kk h => h) (r_isWord1 (d := d + 4) (i := 8) hB hS hqn (by decide) (by decide +kernel) ⟨hk1, hj⟩ ?_)
                  refine w_ifeq (fun c9 => ?_) (fun c9 => ?_)
                  · exfalso; omega
                  · skip
                    refine w_ic ?_
                    refine w_goto ?_
                    refine w_isn ?_
                    show wz _ _ _ _ [some (.inr (.inr (some m))), some (.inl 1)] _ _ _ _ _
                    refine w_iln rfl ?_
                    refine w_ifge (fun c10 => ?_) (fun c10 => ?_)
                    · skip
                      refine w_aln rfl ?_
                      refine w_gi gm rfl (by decide) rfl (rfl) ?_
                      refine w_iln rfl ?_
                      refine w_cs (st := []) rfl (Nat.le_of_ble_eq_true rfl) (fun kk h => h) ⟨Nat.le_of_ble_eq_true rfl, ?_⟩
                      show wz (d + 4) mt_X12_bitOf.2.2.2.2.1 _ mt_X12_bitOf.2.2.2.2.1 [some (.inl (M.1 m 20)), some (.inl 1)] [] _ _ _ _
                      refine w_iln rfl ?_
                      refine w_iln rfl ?_
                      refine w_shr ?_
                      intro z11 hz11 ez11
                      refine w_ic ?_
                      refine w_and ?_
                      intro z12 hz12 ez12
                      obtain rfl : z12 = rv_bt (M.1 m 20) 1 := by rw [ez12, ez11]; rfl
                      have hz12 := rv_bt_01 (M.1 m 20) 1
                      refine w_ic ?_
                      refine w_cmne (fun c13 => ?_) (fun c13 => ?_)
                      · skip
                        refine w_ic ?_
                        refine w_iret (fun _ => Or.inl rfl) ?_
                        refine w_ifeq (fun c14 => ?_) (fun c14 => ?_)
                        · skip
                          refine w_aln rfl ?_
                          refine w_dupr ?_
                          refine w_gi gm rfl (by decide) rfl (rfl) ?_
                          refine w_ic ?_
                          refine w_iln rfl ?_
                          refine w_shl ?_
                          intro z15 hz15 ez15
                          refine w_or ?_
                          intro z16 hz16 ez16
                          obtain rfl : z16 = rv_bs (M.1 m 20) 1 := by rw [ez16, ez15]; rfl
                          refine w_pi gm rfl (by decide) rfl (fun q => by cases q) ?_
                          have s17 := hS.sonce (k := 1) hB.1 (by decide)
                          refine w_aln rfl ?_
                          refine w_cv (st := []) rfl gm rfl (Nat.le_of_ble_eq_true rfl) (fun kk h => h) (r_nxtT (d := d + 3) hB s17 (by omega) (by omega) hqn (fun Ms18 s18 => ?_))
                          refine w_aln rfl ?_
                          refine w_iln rfl ?_
                          refine w_ic ?_
                          refine w_cmne (fun c19 => ?_) (fun c19 => ?_)
                          · skip
                            refine w_ic ?_
                            refine w_iln rfl ?_
                            refine w_ifne (fun c20 => ?_) (fun c20 => ?_)
                            · skip
                              refine w_iln rfl ?_
                              refine w_ic ?_
                              refine w_cmne (fun c21 => ?_) (fun c21 => ?_)
                              · exfalso; omega
                              · skip
                                refine w_sp ?_
                                refine w_goto ?_
                                have h22 := h.1 (by omega)
                                clear h
                                refine w_cv (st := []) rfl gm rfl (Nat.le_of_ble_eq_true rfl) (fun kk h => h) (r_X12_takes2 (d := d + 2) hB s18 (rv_y_le hB hqn) (sp_num.mono h22 (fun fk23 ak23 hfk23 Mk23 Fk23 => ?_) (fun bk23 ck23 ek23 hvk23 Mk23 sk23 => ?_)))
                                · skip
                                  refine w_ifne (fun c24 => ?_) (fun c24 => ?_)
                                  · exfalso; omega
                                  · skip
                                    refine w_ic ?_
                                    exact w_iret (fun _ => Or.inl rfl) (hfk23 _ Fk23)
                                · skip
                                  refine w_ifne (fun c25 => ?_) (fun c25 => ?_)
                                  · skip
                                    refine w_aln rfl ?_
                                    refine w_gr gm rfl (by decide) rfl ((congrFun (congrFun sk23.2.2.2.2.2.1 m) 7).trans r7) ?_
                                    refine w_ic ?_
                                    refine w_iln rfl ?_
                                    refine w_add ⟨by show (-2147483648 : Int) ≤ 2; omega, by show 2 < (2147483648 : Int); omega⟩ ?_
                                    refine w_aln rfl ?_
                                    refine w_gi gm rfl (by decide) rfl (sk23.1.2.2.2.2.2.1) ?_
                                    refine w_iast gha rfl (by decide) (by show (0 : Int) ≤ 2; omega) (by show 2 < ((221 : Nat) : Int); omega) ?_
                                    have s26 := sk23.hval1 (j := (2 : Int).toNat) (v := (T (rv_x T q)).2.2.1) hB.1 rfl
                                    refine w_ic ?_
                                    exact w_iret (fun _ => Or.inr rfl) (hvk23 (Nat.le_trans (Nat.le_refl q) (rv_y_ge hB hqn)) (rv_y_le hB hqn) ⟨by rw [show (rv_up (rv_up PL 13 1) 7 ((T (rv_x T q)).2.2.1)) 4 = PL 4 from (rv_up_n (by decide)).trans ((rv_up_n (by decide)))]; omega, by rw [show (rv_up (rv_up PL 13 1) 7 ((T (rv_x T q)).2.2.1)) 4 = PL 4 from (rv_up_n (by decide)).trans ((rv_up_n (by decide)))]; omega, by rw [show (rv_up (rv_up PL 13 1) 7 ((T (rv_x T q)).2.2.1)) 5 = PL 5 from (rv_up_n (by decide)).trans ((rv_up_n (by decide)))]; omega, by rw [show (rv_up (rv_up PL 13 1) 7 ((T (rv_x T q)).2.2.1)) 5 = PL 5 from (rv_up_n (by decide)).trans ((rv_up_n (by decide)))]; omega⟩ _ _ _ (rv_R.bb (show (rv_up (rv_up PL 13 1) 7 ((T (rv_x T q)).2.2.1)) 4 = PL 4 from (rv_up_n (by decide)).trans ((rv_up_n (by decide)))).symm s26))
                                  · exfalso; omega
                            · exfalso; omega
                          · exfalso; omega
                        · exfalso; omega
                      · skip
                        refine w_ic ?_
                        refine w_goto ?_
                        refine w_iret (fun _ => Or.inr rfl) ?_
                        refine w_ifeq (fun c27 => ?_) (fun c27 => ?_)
                        · exfalso; omega
                        · skip
                          refine w_aln rfl ?_
                          refine w_ic ?_
                          have h29 := h.2 (by omega)
                          clear h
                          refine w_cv (st := []) rfl gm rfl (Nat.le_of_ble_eq_true rfl) (fun kk h => h) (r_X12_bad2 (d := d + 4) hB hS (fun MF28 F28 => ?_))
                          exact w_iret (fun _ => Or.inl rfl) (h29 _ F28)
                    · exfalso; omega
                · exfalso; omega
              · exfalso; omega
            · exfalso; omega
          · exfalso; omega
        · exfalso; omega
      · exfalso; omega
    · exfalso; omega
  · exfalso; omega
set_option maxHeartbeats 4000000 in
theorem r_rR_9 {G : mj_G} {M0 M : mj_M} {B : Nat → Int} {n lim m bt ha hd ns rs sx : Nat} {T : Nat → Nat × Nat × Int × List Int × Nat} {PL WA OA : Nat → Int} {TO BI : Nat → Nat → Int} {nm : Nat → List Int} {g z r : Int} {Q : mj_P} {d q : Nat} (hB : rv_BT G M0 B n lim m bt ha hd ns rs sx T) (hS : rv_R M0 n lim m bt ha hd ns rs sx (T q) PL WA OA TO BI nm (PL 4) g z r M) (hqn : q ≤ n) (hb : rv_pb PL) (hk1 : (T q).1 = 1) (hj : rv_rs.getD 9 [] = (T q).2.2.2.1) (h : sp_patience T PL WA OA TO BI nm q (fun f a => ∀ M', rv_FR M0 m sx ha f a M' → Q (some (.inl 0)) G M') (fun PL WA OA TO BI nm q' => q ≤ q' → q' ≤ n → rv_pb PL → ∀ g z M', rv_R M0 n lim m bt ha hd ns rs sx (T (rv_x T q')) PL WA OA TO BI nm (PL 4) g z r M' → Q (some (.inl 1)) G M')) : mj_R mj_tab (d + 6) 237 [.inr (.inr (some m))] G M Q := by
  obtain ⟨⟨gm, gbt, gha, ghd, gns, grs, r1, r7, r23, r9, r10, rb, rr, n1, n2, gsx, r6⟩, hT⟩ := id hB
  obtain ⟨b1, b2, b3, b4⟩ := id hb
  unfold sp_patience at h
  have ho : rv_bt (M.1 m 20) 2 = PL 14 := hS.1.2.2.2.2.1 2 (by decide)
  refine ⟨Nat.le_of_ble_eq_true rfl, ?_⟩
  show wz (d + 5) mt_X12_row.2.2.2.2.1 Q mt_X12_row.2.2.2.2.1 [some (.inr (.inr (some m))), none] [] G M _ _
  refine w_aln rfl ?_
  refine w_l2 ?_
  refine w_cv (st := []) rfl gm rfl (Nat.le_of_ble_eq_true rfl) (fun kk h => h) (r_isWord0 (d := d + 4) (i := 0) hB hS hqn (by decide) (by decide +kernel) (fun e => absurd (rv_rs_i 0 (by decide) 9 (by decide) (e.2.trans hj.symm)) (by decide)) ?_)
  refine w_ifeq (fun c1 => ?_) (fun c1 => ?_)
  · skip
    refine w_aln rfl ?_
    refine w_l2 ?_
    refine w_cv (st := []) rfl gm rfl (Nat.le_of_ble_eq_true rfl) (fun kk h => h) (r_isWord0 (d := d + 4) (i := 1) hB hS hqn (by decide) (by decide +kernel) (fun e => absurd (rv_rs_i 1 (by decide) 9 (by decide) (e.2.trans hj.symm)) (by decide)) ?_)
    refine w_ifeq (fun c2 => ?_) (fun c2 => ?_)
    · skip
      refine w_aln rfl ?_
      refine w_l2 ?_
      refine w_cv (st := []) rfl gm rfl (Nat.le_of_ble_eq_true rfl) (fun kk h => h) (r_isWord0 (d := d + 4) (i := 2) hB hS hqn (by decide) (by decide +kernel) (fun e => absurd (rv_rs_i 2 (by decide) 9 (by decide) (e.2.trans hj.symm)) (by decide)) ?_)
      refine w_ifeq (fun c3 => ?_) (fun c3 => ?_)
      · skip
        refine w_aln rfl ?_
        refine w_l2 ?_
        refine w_cv (st := []) rfl gm rfl (Nat.le_of_ble_eq_true rfl) (fun kk h => h) (r_isWord0 (d := d + 4) (i := 3) hB hS hqn (by decide) (by decide +kernel) (fun e => absurd (rv_rs_i 3 (by decide) 9 (by decide) (e.2.trans hj.symm)) (by decide)) ?_)
        refine w_ifeq (fun c4 => ?_) (fun c4 => ?_)
        · skip
          refine w_aln rfl ?_
          refine w_l2 ?_
          refine w_cv (st := []) rfl gm rfl (Nat.le_of_ble_eq_true rfl) (fun kk h => h) (r_isWord0 (d := d + 4) (i := 4) hB hS hqn (by decide) (by decide +kernel) (fun e => absurd (rv_rs_i 4 (by decide) 9 (by decide) (e.2.trans hj.symm)) (by decide)) ?_)
          refine w_ifeq (fun c5 => ?_) (fun c5 => ?_)
          · skip
            refine w_aln rfl ?_
            refine w_l2 ?_
            refine w_cv (st := []) rfl gm rfl (Nat.le_of_ble_eq_true rfl) (fun kk h => h) (r_isWord0 (d := d + 4) (i := 5) hB hS hqn (by decide) (by decide +kernel) (fun e => absurd (rv_rs_i 5 (by decide) 9 (by decide) (e.2.trans hj.symm)) (by decide)) ?_)
            refine w_ifeq (fun c6 => ?_) (fun c6 => ?_)
            · skip
              refine w_aln rfl ?_
              refine w_l2 ?_
              refine w_cv (st := []) rfl gm rfl (Nat.le_of_ble_eq_true rfl) (fun kk h => h) (r_isWord0 (d := d + 4) (i := 6) hB hS hqn (by decide) (by decide +kernel) (fun e => absurd (rv_rs_i 6 (by decide) 9 (by decide) (e.2.trans hj.symm)) (by decide)) ?_)
              refine w_ifeq (fun c7 => ?_) (fun c7 => ?_)
              · skip
                refine w_aln rfl ?_
                refine w_l2 ?_
                refine w_cv (st := []) rfl gm rfl (Nat.le_of_ble_eq_true rfl) (fun kk h => h) (r_isWord0 (d := d + 4) (i := 7) hB hS hqn (by decide) (by decide +kernel) (fun e => absurd (rv_rs_i 7 (by decide) 9 (by decide) (e.2.trans hj.symm)) (by decide)) ?_)
                refine w_ifeq (fun c8 => ?_) (fun c8 => ?_)
                · skip
                  refine w_aln rfl ?_
                  refine w_l2 ?_
                  refine w_cv (st := []) rfl gm rfl (Nat.le_of_ble_eq_true rfl) (fun kk h => h) (r_isWord0 (d := d + 4) (i := 8) hB hS hqn (by decide) (by decide +kernel) (fun e => absurd (rv_rs_i 8 (by decide) 9 (by decide) (e.2.trans hj.symm)) (by decide)) ?_)
                  refine w_ifeq (fun c9 => ?_) (fun c9 => ?_)
                  · skip
                    refine w_aln rfl ?_
                    refine w_l2 ?_
                    refine w_cv (st := []) rfl gm rfl (Nat.le_of_ble_eq_true rfl) (fun kk h => h) (r_isWord1 (d := d + 4) (i := 9) hB hS hqn (by decide) (by decide +kernel) ⟨hk1, hj⟩ ?_)
                    refine w_ifeq (fun c10 => ?_) (fun c10 => ?_)
                    · exfalso; omega
                    · skip
                      refine w_ic ?_
                      refine w_goto ?_
                      refine w_isn ?_
                      show wz _ _ _ _ [some (.inr (.inr (some m))), some (.inl 2)] _ _ _ _ _
                      refine w_iln rfl ?_
                      refine w_ifge (fun c11 => ?_) (fun c11 => ?_)
                      · skip
                        refine w_aln rfl ?_
                        refine w_gi gm rfl (by decide) rfl (rfl) ?_
                        refine w_iln rfl ?_
                        refine w_cs (st := []) rfl (Nat.le_of_ble_eq_true rfl) (fun kk h => h) ⟨Nat.le_of_ble_eq_true rfl, ?_⟩
                        show wz (d + 4) mt_X12_bitOf.2.2.2.2.1 _ mt_X12_bitOf.2.2.2.2.1 [some (.inl (M.1 m 20)), some (.inl 2)] [] _ _ _ _
                        refine w_iln rfl ?_
                        refine w_iln rfl ?_
                        refine w_shr ?_
                        intro z12 hz12 ez12
                        refine w_ic ?_
                        refine w_and ?_
                        intro z13 hz13 ez13
                        obtain rfl : z13 = rv_bt (M.1 m 20) 2 := by rw [ez13, ez12]; rfl
                        have hz13 := rv_bt_01 (M.1 m 20) 2
                        refine w_ic ?_
                        refine w_cmne (fun c14 => ?_) (fun c14 => ?_)
                        · skip
                          refine w_ic ?_
                          refine w_iret (fun _ => Or.inl rfl) ?_
                          refine w_ifeq (fun c15 => ?_) (fun c15 => ?_)
                          · skip
                            refine w_aln rfl ?_
                            refine w_dupr ?_
                            refine w_gi gm rfl (by decide) rfl (rfl) ?_
                            refine w_ic ?_
                            refine w_iln rfl ?_
                            refine w_shl ?_
                            intro z16 hz16 ez16
                            refine w_or ?_
                            intro z17 hz17 ez17
                            obtain rfl : z17 = rv_bs (M.1 m 20) 2 := by rw [ez17, ez16]; rfl
                            refine w_pi gm rfl (by decide) rfl (fun q => by cases q) ?_
                            have s18 := hS.sonce (k := 2) hB.1 (by decide)
                            refine w_aln rfl ?_
                            refine w_cv (st := []) rfl gm rfl (Nat.le_of_ble_eq_true rfl) (fun kk h => h) (r_nxtT (d := d + 3) hB s18 (by omega) (by omega) hqn (fun Ms19 s19 => ?_))
                            refine w_aln rfl ?_
                            refine w_iln rfl ?_
                            refine w_ic ?_
                            refine w_cmne (fun c20 => ?_) (fun c20 => ?_)
                            · exfalso; omega
                            · skip
                              refine w_ic ?_
                              refine w_goto ?_
                              refine w_iln rfl ?_
                              refine w_ifne (fun c21 => ?_) (fun c21 => ?_)
                              · skip
                                refine w_iln rfl ?_
                                refine w_ic ?_
                                refine w_cmne (fun c22 => ?_) (fun c22 => ?_)
                                · skip
                                  refine w_bp ?_
                                  have h23 := h.1 (by omega)
                                  clear h
                                  refine w_cv (st := []) rfl gm rfl (Nat.le_of_ble_eq_true rfl) (fun kk h => h) (r_X12_takes2 (d := d + 2) hB s19 (rv_y_le hB hqn) (sp_num.mono h23 (fun fk24 ak24 hfk24 Mk24 Fk24 => ?_) (fun bk24 ck24 ek24 hvk24 Mk24 sk24 => ?_)))
                                  · skip
                                    refine w_ifne (fun c25 => ?_) (fun c25 => ?_)
                                    · exfalso; omega
                                    · skip
                                      refine w_ic ?_
                                      exact w_iret (fun _ => Or.inl rfl) (hfk24 _ Fk24)
                                  · skip
                                    refine w_ifne (fun c26 => ?_) (fun c26 => ?_)
                                    · skip
                                      refine w_aln rfl ?_
                                      refine w_gr gm rfl (by decide) rfl ((congrFun (congrFun sk24.2.2.2.2.2.1 m) 7).trans r7) ?_
                                      refine w_ic ?_
                                      refine w_iln rfl ?_
                                      refine w_add ⟨by show (-2147483648 : Int) ≤ 3; omega, by show 3 < (2147483648 : Int); omega⟩ ?_
                                      refine w_aln rfl ?_
                                      refine w_gi gm rfl (by decide) rfl (sk24.1.2.2.2.2.2.1) ?_
                                      refine w_iast gha rfl (by decide) (by show (0 : Int) ≤ 3; omega) (by show 3 < ((221 : Nat) : Int); omega) ?_
                                      have s27 := sk24.hval2 (j := (3 : Int).toNat) (v := (T (rv_x T q)).2.2.1) hB.1 rfl
                                      refine w_ic ?_
                                      exact w_iret (fun _ => Or.inr rfl) (hvk24 (Nat.le_trans (Nat.le_refl q) (rv_y_ge hB hqn)) (rv_y_le hB hqn) ⟨by rw [show (rv_up (rv_up PL 14 1) 8 ((T (rv_x T q)).2.2.1)) 4 = PL 4 from (rv_up_n (by decide)).trans ((rv_up_n (by decide)))]; omega, by rw [show (rv_up (rv_up PL 14 1) 8 ((T (rv_x T q)).2.2.1)) 4 = PL 4 from (rv_up_n (by decide)).trans ((rv_up_n (by decide)))]; omega, by rw [show (rv_up (rv_up PL 14 1) 8 ((T (rv_x T q)).2.2.1)) 5 = PL 5 from (rv_up_n (by decide)).trans ((rv_up_n (by decide)))]; omega, by rw [show (rv_up (rv_up PL 14 1) 8 ((T (rv_x T q)).2.2.1)) 5 = PL 5 from (rv_up_n (by decide)).trans ((rv_up_n (by decide)))]; omega⟩ _ _ _ (rv_R.bb (show (rv_up (rv_up PL 14 1) 8 ((T (rv_x T q)).2.2.1)) 4 = PL 4 from (rv_up_n (by decide)).trans ((rv_up_n (by decide)))).symm s27))
                                    · exfalso; omega
                                · exfalso; omega
                              · exfalso; omega
                          · exfalso; omega
                        · skip
                          refine w_ic ?_
                          refine w_goto ?_
                          refine w_iret (fun _ => Or.inr rfl) ?_
                          refine w_ifeq (fun c28 => ?_) (fun c28 => ?_)
                          · exfalso; omega
                          · skip
                            refine w_aln rfl ?_
                            refine w_ic ?_
                            have h30 := h.2 (by omega)
                            clear h
                            refine w_cv (st := []) rfl gm rfl (Nat.le_of_ble_eq_true rfl) (fun kk h => h) (r_X12_bad2 (d := d + 4) hB hS (fun MF29 F29 => ?_))
                            exact w_iret (fun _ => Or.inl rfl) (h30 _ F29)
                      · exfalso; omega
                  · exfalso; omega
                · exfalso; omega
              · exfalso; omega
            · exfalso; omega
          · exfalso; omega
        · exfalso; omega
      · exfalso; omega
    · exfalso; omega
  · exfalso; omega
set_option maxHeartbeats 4000000 in
theorem r_rR_n {G : mj_G} {M0 M : mj_M} {B : Nat → Int} {n lim m bt ha hd ns rs sx : Nat} {T : Nat → Nat × Nat × Int × List Int × Nat} {PL WA OA : Nat → Int} {TO BI : Nat → Nat → Int} {nm : Nat → List Int} {g z r : Int} {Q : mj_P} {d q : Nat} (hB : rv_BT G M0 B n lim m bt ha hd ns rs sx T) (hS : rv_R M0 n lim m bt ha hd ns rs sx (T q) PL WA OA TO BI nm (PL 4) g z r M) (hqn : q ≤ n) (hb : rv_pb PL) (hnw : ∀ i, i < 10 → ¬ ((T q).1 = 1 ∧ rv_rs.getD i [] = (T q).2.2.2.1)) (h : ∀ M', rv_FR M0 m sx ha 1 (T q).2.1 M' → Q (some (.inl 0)) G M') : mj_R mj_tab (d + 6) 237 [.inr (.inr (some m))] G M Q := by
  obtain ⟨⟨gm, gbt, gha, ghd, gns, grs, r1, r7, r23, r9, r10, rb, rr, n1, n2, gsx, r6⟩, hT⟩ := id hB
  obtain ⟨b1, b2, b3, b4⟩ := id hb
  refine ⟨Nat.le_of_ble_eq_true rfl, ?_⟩
  show wz (d + 5) mt_X12_row.2.2.2.2.1 Q mt_X12_row.2.2.2.2.1 [some (.inr (.inr (some m))), none] [] G M _ _
  refine w_aln rfl ?_
  refine w_l2 ?_
  refine w_cv (st := []) rfl gm rfl (Nat.le_of_ble_eq_true rfl) (fun kk h => h) (r_isWord0 (d := d + 4) (i := 0) hB hS hqn (by decide) (by decide +kernel) (hnw 0 (by decide)) ?_)
  refine w_ifeq (fun c1 => ?_) (fun c1 => ?_)
  · skip
    refine w_aln rfl ?_
    refine w_l2 ?_
    refine w_cv (st := []) rfl gm rfl (Nat.le_of_ble_eq_true rfl) (fun kk h => h) (r_isWord0 (d := d + 4) (i := 1) hB hS hqn (by decide) (by decide +kernel) (hnw 1 (by decide)) ?_)
    refine w_ifeq (fun c2 => ?_) (fun c2 => ?_)
    · skip
      refine w_aln rfl ?_
      refine w_l2 ?_
      refine w_cv (st := []) rfl gm rfl (Nat.le_of_ble_eq_true rfl) (fun kk h => h) (r_isWord0 (d := d + 4) (i := 2) hB hS hqn (by decide) (by decide +kernel) (hnw 2 (by decide)) ?_)
      refine w_ifeq (fun c3 => ?_) (fun c3 => ?_)
      · skip
        refine w_aln rfl ?_
        refine w_l2 ?_
        refine w_cv (st := []) rfl gm rfl (Nat.le_of_ble_eq_true rfl) (fun kk h => h) (r_isWord0 (d := d + 4) (i := 3) hB hS hqn (by decide) (by decide +kernel) (hnw 3 (by decide)) ?_)
        refine w_ifeq (fun c4 => ?_) (fun c4 => ?_)
        · skip
          refine w_aln rfl ?_
          refine w_l2 ?_
          refine w_cv (st := []) rfl gm rfl (Nat.le_of_ble_eq_true rfl) (fun kk h => h) (r_isWord0 (d := d + 4) (i := 4) hB hS hqn (by decide) (by decide +kernel) (hnw 4 (by decide)) ?_)
          refine w_ifeq (fun c5 => ?_) (fun c5 => ?_)
          · skip
            refine w_aln rfl ?_
            refine w_l2 ?_
            refine w_cv (st := []) rfl gm rfl (Nat.le_of_ble_eq_true rfl) (fun kk h => h) (r_isWord0 (d := d + 4) (i := 5) hB hS hqn (by decide) (by decide +kernel) (hnw 5 (by decide)) ?_)
            refine w_ifeq (fun c6 => ?_) (fun c6 => ?_)
            · skip
              refine w_aln rfl ?_
              refine w_l2 ?_
              refine w_cv (st := []) rfl gm rfl (Nat.le_of_ble_eq_true rfl) (fun kk h => h) (r_isWord0 (d := d + 4) (i := 6) hB hS hqn (by decide) (by decide +kernel) (hnw 6 (by decide)) ?_)
              refine w_ifeq (fun c7 => ?_) (fun c7 => ?_)
              · skip
                refine w_aln rfl ?_
                refine w_l2 ?_
                refine w_cv (st := []) rfl gm rfl (Nat.le_of_ble_eq_true rfl) (fun kk h => h) (r_isWord0 (d := d + 4) (i := 7) hB hS hqn (by decide) (by decide +kernel) (hnw 7 (by decide)) ?_)
                refine w_ifeq (fun c8 => ?_) (fun c8 => ?_)
                · skip
                  refine w_aln rfl ?_
                  refine w_l2 ?_
                  refine w_cv (st := []) rfl gm rfl (Nat.le_of_ble_eq_true rfl) (fun kk h => h) (r_isWord0 (d := d + 4) (i := 8) hB hS hqn (by decide) (by decide +kernel) (hnw 8 (by decide)) ?_)
                  refine w_ifeq (fun c9 => ?_) (fun c9 => ?_)
                  · skip
                    refine w_aln rfl ?_
                    refine w_l2 ?_
                    refine w_cv (st := []) rfl gm rfl (Nat.le_of_ble_eq_true rfl) (fun kk h => h) (r_isWord0 (d := d + 4) (i := 9) hB hS hqn (by decide) (by decide +kernel) (hnw 9 (by decide)) ?_)
                    refine w_ifeq (fun c10 => ?_) (fun c10 => ?_)
                    · skip
                      refine w_ic ?_
                      refine w_isn ?_
                      show wz _ _ _ _ [some (.inr (.inr (some m))), some (.inl (-1))] _ _ _ _ _
                      refine w_iln rfl ?_
                      refine w_ifge (fun c11 => ?_) (fun c11 => ?_)
                      · exfalso; omega
                      · skip
                        refine w_aln rfl ?_
                        refine w_ic ?_
                        refine w_cv (st := []) rfl gm rfl (Nat.le_of_ble_eq_true rfl) (fun kk h => h) (r_X12_bad2 (d := d + 4) hB hS (fun MF12 F12 => ?_))
                        exact w_iret (fun _ => Or.inl rfl) (h _ F12)
                    · exfalso; omega
                  · exfalso; omega
                · exfalso; omega
              · exfalso; omega
            · exfalso; omega
          · exfalso; omega
        · exfalso; omega
      · exfalso; omega
    · exfalso; omega
  · exfalso; omega
theorem r_X12_row2 {G : mj_G} {M0 M : mj_M} {B : Nat → Int} {n lim m bt ha hd ns rs sx : Nat} {T : Nat → Nat × Nat × Int × List Int × Nat} {PL WA OA : Nat → Int} {TO BI : Nat → Nat → Int} {nm : Nat → List Int} {g z r : Int} {Q : mj_P} {d q : Nat} (hB : rv_BT G M0 B n lim m bt ha hd ns rs sx T) (hS : rv_R M0 n lim m bt ha hd ns rs sx (T q) PL WA OA TO BI nm (PL 4) g z r M) (hqn : q ≤ n) (hb : rv_pb PL) (h : sp_row T PL WA OA TO BI nm q (fun f a => ∀ M', rv_FR M0 m sx ha f a M' → Q (some (.inl 0)) G M') (fun PL WA OA TO BI nm q' => q ≤ q' → q' ≤ n → rv_pb PL → ∀ g z M', rv_R M0 n lim m bt ha hd ns rs sx (T (rv_x T q')) PL WA OA TO BI nm (PL 4) g z r M' → Q (some (.inl 1)) G M')) : mj_R mj_tab (d + 6) 237 [.inr (.inr (some m))] G M Q := by
  by_cases c1 : (T q).1 = 1
  · by_cases c2 : rv_nam (T q).2.2.2.1
    · exact r_rR_n hB hS hqn hb (fun i hi g => c2 i (by omega) g.2) (h.2 (fun g => g.2 c2))
    · have : ∃ j, j < 24 ∧ rv_rs.getD j [] = (T q).2.2.2.1 := by
        refine Classical.byContradiction (fun g => c2 (fun j hj e => g ⟨j, hj, e⟩))
      obtain ⟨j, j1, hj⟩ := this
      obtain ⟨h0, h1, h2, h3, h4, h5, h6, h7, h8, h9, h10⟩ := h.1 j j1 c1 hj
      rcases Nat.lt_or_ge j 10 with q1 | q1
      · have hjj : j = 0 ∨ j = 1 ∨ j = 2 ∨ j = 3 ∨ j = 4 ∨ j = 5 ∨ j = 6 ∨ j = 7 ∨ j = 8 ∨ j = 9 := by omega
        rcases hjj with rfl | rfl | rfl | rfl | rfl | rfl | rfl | rfl | rfl | rfl
        · exact r_rR_0 hB hS hqn hb c1 hj (h0 rfl)
        · exact r_rR_1 hB hS hqn hb c1 hj (h1 rfl)
        · exact r_rR_2 hB hS hqn hb c1 hj (h2 rfl)
        · exact r_rR_3 hB hS hqn hb c1 hj (h3 rfl)
        · exact r_rR_4 hB hS hqn hb c1 hj (h4 rfl)
        · exact r_rR_5 hB hS hqn hb c1 hj (h5 rfl)
        · exact r_rR_6 hB hS hqn hb c1 hj (h6 rfl)
        · exact r_rR_7 hB hS hqn hb c1 hj (h7 rfl)
        · exact r_rR_8 hB hS hqn hb c1 hj (h8 rfl)
        · exact r_rR_9 hB hS hqn hb c1 hj (h9 rfl)
      · exact r_rR_n hB hS hqn hb (fun i hi g => by have := rv_rs_i i (by omega) j j1 (g.2.trans hj.symm); omega) (h10 q1)
  · exact r_rR_n hB hS hqn hb (fun i hi g => c1 g.1) (h.2 (fun g => c1 g.1))
