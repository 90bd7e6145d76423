/-! ===== the class's readTown (laid by a program) ===== -/
set_option maxHeartbeats 8000000 in
theorem r_X3_readTown {G : mj_G} {M0 M : mj_M} {B : Nat → Int} {n lim tp bc pl na ta ba wa oa : Nat} {tr br : Nat → Nat} {T : Nat → Nat × Nat × Int × List Int × Nat} {PL WA OA : Nat → Int} {TO BI : Nat → Nat → Int} {nm : Nat → List Int} {Q : mj_P} {d q : Nat} (hA : rv_AT G M0 B n lim tp bc pl na ta ba wa oa tr br T) (hS : rv_S G M0 n lim tp pl na wa oa tr br (T q) PL WA OA TO BI nm M) (hqn : q ≤ n) (hb : rv_pb PL) (h : sp_town T PL WA OA TO BI nm q (fun f a => ∀ M', rv_F tp pl na wa oa tr br M0 f a M' → Q (some (.inl 0)) G M') (fun PL WA OA TO BI nm q' => q ≤ q' → q' ≤ n → rv_pb PL → ∀ M', rv_S G M0 n lim tp pl na wa oa tr br (T q') PL WA OA TO BI nm M' → Q (some (.inl 1)) G M')) : mj_R mj_tab (d + 5) 45 [.inr (.inr (some pl)), .inr (.inr (some tp))] G M Q := by
  obtain ⟨⟨gtp, gbc, gpl, gna, gta, gba, gwa, goa, gtr, gbr, itr, ibr, r1, r2, r3, r4, r5, r6, r7, r8, rb, rw0, n1, n2, hIw⟩, hT⟩ := id hA
  obtain ⟨b1, b2, b3, b4⟩ := id hb
  unfold sp_town at h
  refine ⟨Nat.le_of_ble_eq_true rfl, ?_⟩
  show wz (d + 4) mt_X3_readTown.2.2.2.2.1 Q mt_X3_readTown.2.2.2.2.1 [some (.inr (.inr (some pl))), some (.inr (.inr (some tp))), none, none, none] [] G M _ _
  refine w_aln rfl ?_
  refine w_gi gpl rfl (by decide) rfl ((congrFun hS.2.2.1 4).trans (rfl)) ?_
  refine w_bp ?_
  refine w_cmlt (fun c1 => ?_) (fun c1 => ?_)
  · skip
    refine w_aln rfl ?_
    refine w_cv (st := []) rfl gtp rfl (Nat.le_of_ble_eq_true rfl) (fun kk h => h) (r_adv2 (d := d + 1) hA hS hqn (fun Ms2 s2 => ?_))
    refine w_aln rfl ?_
    have h3 := h.2 (by omega)
    clear h
    refine w_cv (st := []) rfl gtp rfl (Nat.le_of_ble_eq_true rfl) (fun kk h => h) (r_X7_nameHere (d := d + 2) hA s2 (rv_x_le hA hqn) (sp_nam.mono h3 (fun fk4 ak4 hfk4 Mk4 Fk4 => ?_) (fun bk4 ck4 hvk4 => ?_)))
    · skip
      refine w_ifne (fun c5 => ?_) (fun c5 => ?_)
      · exfalso; omega
      · skip
        refine w_ic ?_
        exact w_iret (fun _ => Or.inl rfl) (hfk4 _ Fk4)
    · skip
      refine w_ifne (fun c6 => ?_) (fun c6 => ?_)
      · skip
        refine w_aln rfl ?_
        refine w_aln rfl ?_
        refine w_gl gtp rfl (by decide) rfl ((s2.2.1.2.2.2.2.2.1 (by omega)).1) ?_
        refine w_cv (st := []) rfl gpl rfl (Nat.le_of_ble_eq_true rfl) (fun kk h => h) (r_X3_find (d := d + 3) hA s2 hb (rv_x_wo hA (rv_x_le hA hqn) (by omega)) (sp_find.mono hvk4 (fun rk7 lk7 ck7 mk7 hvk7 => ?_) (fun mk7 hvk7 => ?_)))
        · skip
          refine w_ic ?_
          refine w_cmeq (fun c8 => ?_) (fun c8 => ?_)
          · exfalso; omega
          · skip
            refine w_aln rfl ?_
            refine w_ic ?_
            have h10 := hvk7.2 (by omega)
            clear hvk7
            refine w_cv (st := []) rfl gtp rfl (Nat.le_of_ble_eq_true rfl) (fun kk h => h) (r_X7_refuse (d := d + 3) hA s2 (by decide) (fun MF9 F9 => ?_))
            exact w_iret (fun _ => Or.inl rfl) (h10 _ F9)
        · skip
          refine w_ic ?_
          refine w_cmeq (fun c11 => ?_) (fun c11 => ?_)
          · skip
            refine w_aln rfl ?_
            refine w_gr gpl rfl (by decide) rfl (s2.rr r2 (by decide)) ?_
            refine w_aln rfl ?_
            refine w_gi gpl rfl (by decide) rfl ((congrFun s2.2.2.1 4).trans (rfl)) ?_
            refine w_aln rfl ?_
            refine w_gl gtp rfl (by decide) rfl ((s2.2.1.2.2.2.2.2.1 (by omega)).1) ?_
            refine w_last gna rfl (by decide) (by show (0 : Int) ≤ PL 4; omega) (by show PL 4 < ((8 : Nat) : Int); omega) ?_
            have s12 := s2.pna (q := (PL 4).toNat) (w := (T (rv_x T q)).2.2.2.1) hA.1 (rv_x_wo hA (rv_x_le hA hqn) (by omega))
            refine w_ic ?_
            refine w_isn ?_
            show wz _ _ _ _ [some (.inr (.inr (some pl))), some (.inr (.inr (some tp))), some (.inl 0), none, none] _ _ _ _ _
            refine w_iln rfl ?_
            refine w_ic ?_
            refine w_cmgt (fun c13 => ?_) (fun c13 => ?_)
            · exfalso; omega
            · skip
              refine w_iln rfl ?_
              refine w_ic ?_
              refine w_cmeq (fun c14 => ?_) (fun c14 => ?_)
              · exfalso; omega
              · skip
                refine w_iln rfl ?_
                refine w_ic ?_
                refine w_cmne (fun c15 => ?_) (fun c15 => ?_)
                · skip
                  refine w_ic ?_
                  refine w_isn ?_
                  show wz _ _ _ _ [some (.inr (.inr (some pl))), some (.inr (.inr (some tp))), some (.inl 0), some (.inl 0), none] _ _ _ _ _
                  refine w_aln rfl ?_
                  refine w_ic ?_
                  refine w_iln rfl ?_
                  refine w_ifeq (fun c16 => ?_) (fun c16 => ?_)
                  · skip
                    refine w_bp ?_
                    have h17 := hvk7.1 (by omega)
                    clear hvk7
                    refine w_cv (st := []) rfl gtp rfl (Nat.le_of_ble_eq_true rfl) (fun kk h => h) (r_X7_nextNumber (d := d) hA s12 (rv_x_le hA hqn) (sp_num.mono h17 (fun fk18 ak18 hfk18 Mk18 Fk18 => ?_) (fun bk18 ck18 ek18 hvk18 Mk18 sk18 => ?_)))
                    · skip
                      refine w_is ?_
                      show wz _ _ _ _ [some (.inr (.inr (some pl))), some (.inr (.inr (some tp))), some (.inl 0), some (.inl 0), some (.inl (-1))] _ _ _ _ _
                      refine w_il rfl ?_
                      refine w_ic ?_
                      refine w_cmne (fun c19 => ?_) (fun c19 => ?_)
                      · exfalso; omega
                      · skip
                        refine w_ic ?_
                        exact w_iret (fun _ => Or.inl rfl) (hfk18 _ Fk18)
                    · skip
                      refine w_is ?_
                      show wz _ _ _ _ [some (.inr (.inr (some pl))), some (.inr (.inr (some tp))), some (.inl 0), some (.inl 0), some (.inl ((T (rv_x T (rv_x T q))).2.2.1))] _ _ _ _ _
                      refine w_il rfl ?_
                      refine w_ic ?_
                      refine w_cmne (fun c20 => ?_) (fun c20 => ?_)
                      · skip
                        refine w_aln rfl ?_
                        refine w_gr gpl rfl (by decide) rfl (sk18.rr r3 (by decide)) ?_
                        refine w_aln rfl ?_
                        refine w_gi gpl rfl (by decide) rfl ((congrFun sk18.2.2.1 4).trans (rfl)) ?_
                        refine w_aald gta rfl (by show (0 : Int) ≤ PL 4; omega) (by show PL 4 < ((8 : Nat) : Int); omega) (sk18.rq gta gtp (by decide) (r7 _ (by omega))) ?_
                        refine w_iln rfl ?_
                        refine w_il rfl ?_
                        refine w_iast (gtr ((PL 4).toNat) (by omega)) rfl (by decide) (by show (0 : Int) ≤ 0; omega) (by show 0 < ((9 : Nat) : Int); omega) ?_
                        have s21 := sk18.ptr (j := (0 : Int).toNat) (q := ((PL 4).toNat)) (v := (T (rv_x T (rv_x T q))).2.2.1) hA.1 (by omega)
                        refine w_ii rfl ⟨by show (-2147483648 : Int) ≤ 1; omega, by show 1 < (2147483648 : Int); omega⟩ ?_
                        show wz _ _ _ _ [some (.inr (.inr (some pl))), some (.inr (.inr (some tp))), some (.inl 1), some (.inl 0), some (.inl ((T (rv_x T (rv_x T q))).2.2.1))] _ _ _ _ _
                        refine w_goto ?_
                        refine w_iln rfl ?_
                        refine w_ic ?_
                        refine w_cmgt (fun c22 => ?_) (fun c22 => ?_)
                        · exfalso; omega
                        · skip
                          refine w_iln rfl ?_
                          refine w_ic ?_
                          refine w_cmeq (fun c23 => ?_) (fun c23 => ?_)
                          · skip
                            refine w_ic ?_
                            refine w_goto ?_
                            refine w_isn ?_
                            show wz _ _ _ _ [some (.inr (.inr (some pl))), some (.inr (.inr (some tp))), some (.inl 1), some (.inl 1), some (.inl ((T (rv_x T (rv_x T q))).2.2.1))] _ _ _ _ _
                            refine w_aln rfl ?_
                            refine w_ic ?_
                            refine w_iln rfl ?_
                            refine w_ifeq (fun c24 => ?_) (fun c24 => ?_)
                            · exfalso; omega
                            · skip
                              refine w_sp ?_
                              refine w_goto ?_
                              refine w_cv (st := []) rfl gtp rfl (Nat.le_of_ble_eq_true rfl) (fun kk h => h) (r_X7_nextNumber (d := d) hA s21 (rv_x_le hA (rv_x_le hA hqn)) (sp_num.mono hvk18 (fun fk25 ak25 hfk25 Mk25 Fk25 => ?_) (fun bk25 ck25 ek25 hvk25 Mk25 sk25 => ?_)))
                              · skip
                                refine w_is ?_
                                show wz _ _ _ _ [some (.inr (.inr (some pl))), some (.inr (.inr (some tp))), some (.inl 1), some (.inl 1), some (.inl (-1))] _ _ _ _ _
                                refine w_il rfl ?_
                                refine w_ic ?_
                                refine w_cmne (fun c26 => ?_) (fun c26 => ?_)
                                · exfalso; omega
                                · skip
                                  refine w_ic ?_
                                  exact w_iret (fun _ => Or.inl rfl) (hfk25 _ Fk25)
                              · skip
                                refine w_is ?_
                                show wz _ _ _ _ [some (.inr (.inr (some pl))), some (.inr (.inr (some tp))), some (.inl 1), some (.inl 1), some (.inl ((T (rv_x T (rv_x T (rv_x T q)))).2.2.1))] _ _ _ _ _
                                refine w_il rfl ?_
                                refine w_ic ?_
                                refine w_cmne (fun c27 => ?_) (fun c27 => ?_)
                                · skip
                                  refine w_aln rfl ?_
                                  refine w_gr gpl rfl (by decide) rfl (sk25.rr r3 (by decide)) ?_
                                  refine w_aln rfl ?_
                                  refine w_gi gpl rfl (by decide) rfl ((congrFun sk25.2.2.1 4).trans (rfl)) ?_
                                  refine w_aald gta rfl (by show (0 : Int) ≤ PL 4; omega) (by show PL 4 < ((8 : Nat) : Int); omega) (sk25.rq gta gtp (by decide) (r7 _ (by omega))) ?_
                                  refine w_iln rfl ?_
                                  refine w_il rfl ?_
                                  refine w_iast (gtr ((PL 4).toNat) (by omega)) rfl (by decide) (by show (0 : Int) ≤ 1; omega) (by show 1 < ((9 : Nat) : Int); omega) ?_
                                  have s28 := sk25.ptr (j := (1 : Int).toNat) (q := ((PL 4).toNat)) (v := (T (rv_x T (rv_x T (rv_x T q)))).2.2.1) hA.1 (by omega)
                                  refine w_ii rfl ⟨by show (-2147483648 : Int) ≤ 2; omega, by show 2 < (2147483648 : Int); omega⟩ ?_
                                  show wz _ _ _ _ [some (.inr (.inr (some pl))), some (.inr (.inr (some tp))), some (.inl 2), some (.inl 1), some (.inl ((T (rv_x T (rv_x T (rv_x T q)))).2.2.1))] _ _ _ _ _
                                  refine w_goto ?_
                                  refine w_iln rfl ?_
                                  refine w_ic ?_
                                  refine w_cmgt (fun c29 => ?_) (fun c29 => ?_)
                                  · exfalso; omega
                                  · skip
                                    refine w_iln rfl ?_
                                    refine w_ic ?_
                                    refine w_cmeq (fun c30 => ?_) (fun c30 => ?_)
                                    · exfalso; omega
                                    · skip
                                      refine w_iln rfl ?_
                                      refine w_ic ?_
                                      refine w_cmne (fun c31 => ?_) (fun c31 => ?_)
                                      · skip
                                        refine w_ic ?_
                                        refine w_isn ?_
                                        show wz _ _ _ _ [some (.inr (.inr (some pl))), some (.inr (.inr (some tp))), some (.inl 2), some (.inl 0), some (.inl ((T (rv_x T (rv_x T (rv_x T q)))).2.2.1))] _ _ _ _ _
                                        refine w_aln rfl ?_
                                        refine w_ic ?_
                                        refine w_iln rfl ?_
                                        refine w_ifeq (fun c32 => ?_) (fun c32 => ?_)
                                        · skip
                                          refine w_bp ?_
                                          refine w_cv (st := []) rfl gtp rfl (Nat.le_of_ble_eq_true rfl) (fun kk h => h) (r_X7_nextNumber (d := d) hA s28 (rv_x_le hA (rv_x_le hA (rv_x_le hA hqn))) (sp_num.mono hvk25 (fun fk33 ak33 hfk33 Mk33 Fk33 => ?_) (fun bk33 ck33 ek33 hvk33 Mk33 sk33 => ?_)))
                                          · skip
                                            refine w_is ?_
                                            show wz _ _ _ _ [some (.inr (.inr (some pl))), some (.inr (.inr (some tp))), some (.inl 2), some (.inl 0), some (.inl (-1))] _ _ _ _ _
                                            refine w_il rfl ?_
                                            refine w_ic ?_
                                            refine w_cmne (fun c34 => ?_) (fun c34 => ?_)
                                            · exfalso; omega
                                            · skip
                                              refine w_ic ?_
                                              exact w_iret (fun _ => Or.inl rfl) (hfk33 _ Fk33)
                                          · skip
                                            refine w_is ?_
                                            show wz _ _ _ _ [some (.inr (.inr (some pl))), some (.inr (.inr (some tp))), some (.inl 2), some (.inl 0), some (.inl ((T (rv_x T (rv_x T (rv_x T (rv_x T q))))).2.2.1))] _ _ _ _ _
                                            refine w_il rfl ?_
                                            refine w_ic ?_
                                            refine w_cmne (fun c35 => ?_) (fun c35 => ?_)
                                            · skip
                                              refine w_aln rfl ?_
                                              refine w_gr gpl rfl (by decide) rfl (sk33.rr r3 (by decide)) ?_
                                              refine w_aln rfl ?_
                                              refine w_gi gpl rfl (by decide) rfl ((congrFun sk33.2.2.1 4).trans (rfl)) ?_
                                              refine w_aald gta rfl (by show (0 : Int) ≤ PL 4; omega) (by show PL 4 < ((8 : Nat) : Int); omega) (sk33.rq gta gtp (by decide) (r7 _ (by omega))) ?_
                                              refine w_iln rfl ?_
                                              refine w_il rfl ?_
                                              refine w_iast (gtr ((PL 4).toNat) (by omega)) rfl (by decide) (by show (0 : Int) ≤ 2; omega) (by show 2 < ((9 : Nat) : Int); omega) ?_
                                              have s36 := sk33.ptr (j := (2 : Int).toNat) (q := ((PL 4).toNat)) (v := (T (rv_x T (rv_x T (rv_x T (rv_x T q))))).2.2.1) hA.1 (by omega)
                                              refine w_ii rfl ⟨by show (-2147483648 : Int) ≤ 3; omega, by show 3 < (2147483648 : Int); omega⟩ ?_
                                              show wz _ _ _ _ [some (.inr (.inr (some pl))), some (.inr (.inr (some tp))), some (.inl 3), some (.inl 0), some (.inl ((T (rv_x T (rv_x T (rv_x T (rv_x T q))))).2.2.1))] _ _ _ _ _
                                              refine w_goto ?_
                                              refine w_iln rfl ?_
                                              refine w_ic ?_
                                              refine w_cmgt (fun c37 => ?_) (fun c37 => ?_)
                                              · exfalso; omega
                                              · skip
                                                refine w_iln rfl ?_
                                                refine w_ic ?_
                                                refine w_cmeq (fun c38 => ?_) (fun c38 => ?_)
                                                · exfalso; omega
                                                · skip
                                                  refine w_iln rfl ?_
                                                  refine w_ic ?_
                                                  refine w_cmne (fun c39 => ?_) (fun c39 => ?_)
                                                  · exfalso; omega
                                                  · skip
                                                    refine w_ic ?_
                                                    refine w_goto ?_
                                                    refine w_isn ?_
                                                    show wz _ _ _ _ [some (.inr (.inr (some pl))), some (.inr (.inr (some tp))), some (.inl 3), some (.inl 1), some (.inl ((T (rv_x T (rv_x T (rv_x T (rv_x T q))))).2.2.1))] _ _ _ _ _
                                                    refine w_aln rfl ?_
                                                    refine w_ic ?_
                                                    refine w_iln rfl ?_
                                                    refine w_ifeq (fun c40 => ?_) (fun c40 => ?_)
                                                    · exfalso; omega
                                                    · skip
                                                      refine w_sp ?_
                                                      refine w_goto ?_
                                                      refine w_cv (st := []) rfl gtp rfl (Nat.le_of_ble_eq_true rfl) (fun kk h => h) (r_X7_nextNumber (d := d) hA s36 (rv_x_le hA (rv_x_le hA (rv_x_le hA (rv_x_le hA hqn)))) (sp_num.mono hvk33 (fun fk41 ak41 hfk41 Mk41 Fk41 => ?_) (fun bk41 ck41 ek41 hvk41 Mk41 sk41 => ?_)))
                                                      · skip
                                                        refine w_is ?_
                                                        show wz _ _ _ _ [some (.inr (.inr (some pl))), some (.inr (.inr (some tp))), some (.inl 3), some (.inl 1), some (.inl (-1))] _ _ _ _ _
                                                        refine w_il rfl ?_
                                                        refine w_ic ?_
                                                        refine w_cmne (fun c42 => ?_) (fun c42 => ?_)
                                                        · exfalso; omega
                                                        · skip
                                                          refine w_ic ?_
                                                          exact w_iret (fun _ => Or.inl rfl) (hfk41 _ Fk41)
                                                      · skip
                                                        refine w_is ?_
                                                        show wz _ _ _ _ [some (.inr (.inr (some pl))), some (.inr (.inr (some tp))), some (.inl 3), some (.inl 1), some (.inl ((T (rv_x T (rv_x T (rv_x T (rv_x T (rv_x T q)))))).2.2.1))] _ _ _ _ _
                                                        refine w_il rfl ?_
                                                        refine w_ic ?_
                                                        refine w_cmne (fun c43 => ?_) (fun c43 => ?_)
                                                        · skip
                                                          refine w_aln rfl ?_
                                                          refine w_gr gpl rfl (by decide) rfl (sk41.rr r3 (by decide)) ?_
                                                          refine w_aln rfl ?_
                                                          refine w_gi gpl rfl (by decide) rfl ((congrFun sk41.2.2.1 4).trans (rfl)) ?_
                                                          refine w_aald gta rfl (by show (0 : Int) ≤ PL 4; omega) (by show PL 4 < ((8 : Nat) : Int); omega) (sk41.rq gta gtp (by decide) (r7 _ (by omega))) ?_
                                                          refine w_iln rfl ?_
                                                          refine w_il rfl ?_
                                                          refine w_iast (gtr ((PL 4).toNat) (by omega)) rfl (by decide) (by show (0 : Int) ≤ 3; omega) (by show 3 < ((9 : Nat) : Int); omega) ?_
                                                          have s44 := sk41.ptr (j := (3 : Int).toNat) (q := ((PL 4).toNat)) (v := (T (rv_x T (rv_x T (rv_x T (rv_x T (rv_x T q)))))).2.2.1) hA.1 (by omega)
                                                          refine w_ii rfl ⟨by show (-2147483648 : Int) ≤ 4; omega, by show 4 < (2147483648 : Int); omega⟩ ?_
                                                          show wz _ _ _ _ [some (.inr (.inr (some pl))), some (.inr (.inr (some tp))), some (.inl 4), some (.inl 1), some (.inl ((T (rv_x T (rv_x T (rv_x T (rv_x T (rv_x T q)))))).2.2.1))] _ _ _ _ _
                                                          refine w_goto ?_
                                                          refine w_iln rfl ?_
                                                          refine w_ic ?_
                                                          refine w_cmgt (fun c45 => ?_) (fun c45 => ?_)
                                                          · skip
                                                            refine w_aln rfl ?_
                                                            refine w_dupr ?_
                                                            refine w_gi gpl rfl (by decide) rfl ((congrFun s44.2.2.1 4).trans (rfl)) ?_
                                                            refine w_ic ?_
                                                            refine w_add ⟨by show (-2147483648 : Int) ≤ (PL 4) + 1; omega, by show (PL 4) + 1 < (2147483648 : Int); omega⟩ ?_
                                                            refine w_pi gpl rfl (by decide) rfl (fun q => by cases q) ?_
                                                            have s46 := s44.ppl (j := 4) (v := (PL 4) + 1) hA.1
                                                            refine w_ic ?_
                                                            exact w_iret (fun _ => Or.inr rfl) (hvk41 (Nat.le_trans (Nat.le_trans (Nat.le_trans (Nat.le_trans (Nat.le_trans (Nat.le_refl q) (rv_x_ge hA hqn)) (rv_x_ge hA (rv_x_le hA hqn))) (rv_x_ge hA (rv_x_le hA (rv_x_le hA hqn)))) (rv_x_ge hA (rv_x_le hA (rv_x_le hA (rv_x_le hA hqn))))) (rv_x_ge hA (rv_x_le hA (rv_x_le hA (rv_x_le hA (rv_x_le hA hqn)))))) (rv_x_le hA (rv_x_le hA (rv_x_le hA (rv_x_le hA (rv_x_le hA hqn))))) ⟨by rw [show (rv_up PL 4 ((PL 4) + 1)) 4 = (PL 4) + 1 from rv_up_s]; omega, by rw [show (rv_up PL 4 ((PL 4) + 1)) 4 = (PL 4) + 1 from rv_up_s]; omega, by rw [show (rv_up PL 4 ((PL 4) + 1)) 5 = PL 5 from (rv_up_n (by decide))]; omega, by rw [show (rv_up PL 4 ((PL 4) + 1)) 5 = PL 5 from (rv_up_n (by decide))]; omega⟩ _ s46)
                                                          · exfalso; omega
                                                        · exfalso; omega
                                            · exfalso; omega
                                        · exfalso; omega
                                      · exfalso; omega
                                · exfalso; omega
                          · exfalso; omega
                      · exfalso; omega
                  · exfalso; omega
                · exfalso; omega
          · exfalso; omega
      · exfalso; omega
  · skip
    refine w_aln rfl ?_
    refine w_ic ?_
    have h48 := h.1 (by omega)
    clear h
    refine w_cv (st := []) rfl gtp rfl (Nat.le_of_ble_eq_true rfl) (fun kk h => h) (r_X7_refuse (d := d + 3) hA hS (by decide) (fun MF47 F47 => ?_))
    exact w_iret (fun _ => Or.inl rfl) (h48 _ F47)
