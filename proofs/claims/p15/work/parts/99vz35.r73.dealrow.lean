/-! ===== the reference reads CONTRACTS (laid by a program) ===== -/
def rq_do (rd : Nat) (M0 M : mj_M) : Prop := (∀ a, a ≠ rd → M.1 a = M0.1 a) ∧ M.2 = M0.2
theorem rq_do.refl {rd : Nat} {M0 : mj_M} : rq_do rd M0 M0 := ⟨fun _ _ => rfl, rfl⟩
theorem rq_do.trans {rd : Nat} {M0 M1 M2 : mj_M} (h1 : rq_do rd M0 M1) (h2 : rq_do rd M1 M2) : rq_do rd M0 M2 := ⟨fun a h => (h2.1 a h).trans (h1.1 a h), h2.2.trans h1.2⟩
theorem rq_do.put {rd j : Nat} {v : Int} {M0 M1 : mj_M} (h : rq_do rd M0 M1) : rq_do rd M0 (mj_p0 M1 rd j v) := ⟨fun a ha => (wz_c ha).trans (h.1 a ha), h.2⟩
theorem rq_36 {f R : Nat → Int} {j : Nat} {v : Int} (h : ∀ k, k < 36 → f k = R k) : ∀ k, k < 36 → rv_up f j v k = rv_up R j v k := fun k hk => by
  unfold rv_up
  split
  · rfl
  · exact h k hk
theorem rq_put36 {M : mj_M} {rd j : Nat} {v : Int} {R : Nat → Int} (h : ∀ k, k < 36 → M.1 rd k = R k) : ∀ k, k < 36 → (mj_p0 M rd j v).1 rd k = rv_up R j v k := by
  rw [wz_u]; exact rq_36 h
theorem rq_A.do {G : mj_G} {M0 M1 : mj_M} {B : Nat → Int} {n lim m bt ns rs rd : Nat} {T : Nat → Nat × Nat × Int × List Int × Nat} (hB : rq_A G M0 B n lim m bt ns rs T) (grd : G rd = (53100, 135)) (h : rq_do rd M0 M1) : rq_A G M1 B n lim m bt ns rs T := by
  obtain ⟨⟨gm, gbt, gns, grs, r1, r9, r10, rb, rr, n1, n2, m3, m5⟩, hT⟩ := id hB
  exact ⟨⟨gm, gbt, gns, grs, by rw [h.2]; exact r1, by rw [h.2]; exact r9, by rw [h.2]; exact r10, fun k => by rw [h.1 bt (hn_ne gbt grd (by decide))]; exact rb k, fun k hk => by rw [h.2]; exact rr k hk, n1, n2, by rw [h.1 m (hn_ne gm grd (by decide))]; exact m3, by rw [h.1 m (hn_ne gm grd (by decide))]; exact m5⟩, hT⟩
set_option maxHeartbeats 4000000 in
theorem rq_dR_10 {G : mj_G} {M0 M : mj_M} {B : Nat → Int} {n lim m bt ns rs sx rd : Nat} {T : Nat → Nat × Nat × Int × List Int × Nat} {nm : Nat → List Int} {c0 : Int} {R : Nat → Int} {Q : mj_P} {d q : Nat} (hB : rq_A G M0 B n lim m bt ns rs T) (hS : rq_S M0 m (T q) M) (hqn : q ≤ n) (gsx : G sx = (51100, 537)) (grd : G rd = (53100, 135)) (r6 : M0.2.2 m 6 = some sx) (r8 : M0.2.2 m 8 = some rd) (c1_ : 0 ≤ c0) (c2_ : c0 ≤ 8) (hc0 : M0.1 sx 0 = c0) (hN : ∀ k : Nat, (k : Int) < c0 → M0.2.1 ns k = rv_8 (nm k) ∧ rv_wo (nm k)) (hRd : ∀ k, k < 36 → M0.1 rd k = R k) (hdb : rv_db c0 R) (hk1 : (T q).1 = 1) (hj : rv_rs.getD 10 [] = (T q).2.2.2.1) (h : sp_dlet T nm c0 R q (fun f a => ∀ M0' M', rq_do rd M0 M0' → rq_F M0' m f a M' → Q (some (.inl 0)) G M') (fun R' q' => q ≤ q' → q' ≤ n → rv_db c0 R' → rv_cn R' 12 = rv_cn R 12 + 1 → ∀ M0' M', rq_do rd M0 M0' → rq_S M0' m (T (rv_x T q')) M' → (∀ k, k < 36 → M0'.1 rd k = R' k) → Q (some (.inl 1)) G M')) : mj_R mj_tab (d + 5) 180 [.inr (.inr (some m))] G M Q := by
  obtain ⟨⟨gm, gbt, gns, grs, r1, r9, r10, rb, rr, n1, n2, m3, m5⟩, hT⟩ := id hB
  unfold sp_dlet at h
  have hge : ∀ k, k < 12 → 0 ≤ R (3 * k) := fun k hk => by rcases hdb k hk with e | e | e <;> omega
  refine ⟨Nat.le_of_ble_eq_true rfl, ?_⟩
  show wz (d + 4) mt_X12_dealRow.2.2.2.2.1 Q mt_X12_dealRow.2.2.2.2.1 [some (.inr (.inr (some m))), none, none, none, none] [] G M _ _
  refine w_aln rfl ?_
  refine w_l2 ?_
  refine w_cv (st := []) rfl gm rfl (Nat.le_of_ble_eq_true rfl) (fun kk h => h) (rq_isWord1 (d := d + 3) (i := 10) hB hS hqn (by decide) (by decide +kernel) ⟨hk1, hj⟩ ?_)
  refine w_isn ?_
  show wz _ _ _ _ [some (.inr (.inr (some m))), some (.inl 1), none, none, none] _ _ _ _ _
  refine w_iln rfl ?_
  refine w_ifne (fun c1 => ?_) (fun c1 => ?_)
  · skip
    refine w_aln rfl ?_
    refine w_cv (st := []) rfl gm rfl (Nat.le_of_ble_eq_true rfl) (fun kk h => h) (rq_nxtT (d := d + 2) hB hS (by omega) (by omega) hqn (fun Ms2 s2 gs2 => ?_))
    refine w_aln rfl ?_
    have t3 := rv_tkc_f (rq_y_w hB (rq_y_le hB hqn)).1
    refine w_gi gm rfl (by decide) rfl (s2.1.1) ?_
    refine w_ic ?_
    refine w_cmeq (fun c4 => ?_) (fun c4 => ?_)
    · skip
      refine w_aln rfl ?_
      have nn5 := s2.1.2.2.2.1 (by omega)
      refine w_gi gm rfl (by decide) rfl ((s2.1.2.2.2.1 (by omega)).1) ?_
      refine w_bp ?_
      refine w_cmle (fun c6 => ?_) (fun c6 => ?_)
      · skip
        refine w_ic ?_
        refine w_aln rfl ?_
        have nn7 := s2.1.2.2.2.1 (by omega)
        refine w_gi gm rfl (by decide) rfl ((s2.1.2.2.2.1 (by omega)).1) ?_
        refine w_mul ⟨by show (-2147483648 : Int) ≤ 3 * ((T (rv_x T q)).2.2.1); omega, by show 3 * ((T (rv_x T q)).2.2.1) < (2147483648 : Int); omega⟩ ?_
        refine w_isn ?_
        show wz _ _ _ _ [some (.inr (.inr (some m))), some (.inl 1), some (.inl (3 * ((T (rv_x T q)).2.2.1))), none, none] _ _ _ _ _
        refine w_aln rfl ?_
        refine w_gr gm rfl (by decide) rfl ((congrFun (congrFun s2.2.2.2.1 m) 8).trans r8) ?_
        refine w_iln rfl ?_
        have g8 := hge ((T (rv_x T q)).2.2.1).toNat (by omega)
        refine w_iald (v := (R (3 * ((T (rv_x T q)).2.2.1).toNat))) grd rfl (by show (0 : Int) ≤ 3 * ((T (rv_x T q)).2.2.1); omega) (by show 3 * ((T (rv_x T q)).2.2.1) < ((135 : Nat) : Int); omega) (by rw [show (3 * ((T (rv_x T q)).2.2.1)).toNat = 3 * ((T (rv_x T q)).2.2.1).toNat by omega, congrFun (s2.2.1 rd (hn_ne grd gm (by decide))) _]; exact hRd _ (by omega)) ?_
        refine w_ifle (fun c9 => ?_) (fun c9 => ?_)
        · skip
          refine w_aln rfl ?_
          refine w_cv (st := []) rfl gm rfl (Nat.le_of_ble_eq_true rfl) (fun kk h => h) (rq_nxtT (d := d + 2) hB s2 (by omega) (by omega) (rq_y_le hB hqn) (fun Ms10 s10 gs10 => ?_))
          refine w_iln rfl ?_
          refine w_ifne (fun c11 => ?_) (fun c11 => ?_)
          · skip
            refine w_aln rfl ?_
            have h12 := h.1 (by omega)
            clear h
            have h13 := h12.1 (by omega)
            clear h12
            have h14 := h13.1 (by omega)
            clear h13
            have h15 := h14.1 (by omega)
            clear h14
            refine w_cv (st := []) rfl gm rfl (Nat.le_of_ble_eq_true rfl) (fun kk h => h) (rq_isName (d := d + 3) hB s10 (rq_y_le hB (rq_y_le hB hqn)) (fun bk16 ck16 => ?_) (fun ck16 => ?_))
            · skip
              have hvk16 := (h15.1 bk16).1 ck16
              refine w_ifne (fun c17 => ?_) (fun c17 => ?_)
              · skip
                refine w_aln rfl ?_
                refine w_ic ?_
                refine w_aln rfl ?_
                refine w_gr gm rfl (by decide) rfl ((congrFun (congrFun s10.2.2.2.1 m) 6).trans r6) ?_
                refine w_ic ?_
                refine w_iald (v := c0) gsx rfl (by show (0 : Int) ≤ 0; omega) (by show 0 < ((537 : Nat) : Int); omega) ((congrFun (s10.2.1 sx (hn_ne gsx gm (by decide))) 0).trans hc0) ?_
                refine w_cv (st := []) rfl gm rfl (Nat.le_of_ble_eq_true rfl) (fun kk h => h) (rq_find (M0 := M0) (d := d + 3) c1_ c2_ hN hB s10 (by omega) (rq_y_wo hB (rq_y_le hB (rq_y_le hB hqn)) (by omega)) (sp_find.mono hvk16 (fun rk18 lk18 ck18 mk18 hvk18 => ?_) (fun mk18 hvk18 => ?_)))
                · skip
                  refine w_isn ?_
                  show wz _ _ _ _ [some (.inr (.inr (some m))), some (.inl 1), some (.inl (3 * ((T (rv_x T q)).2.2.1))), some (.inl ((rk18 : Nat) : Int)), none] _ _ _ _ _
                  refine w_iln rfl ?_
                  refine w_ifge (fun c19 => ?_) (fun c19 => ?_)
                  · skip
                    refine w_aln rfl ?_
                    refine w_gr gm rfl (by decide) rfl ((congrFun (congrFun s10.2.2.2.1 m) 8).trans r8) ?_
                    refine w_iln rfl ?_
                    refine w_iln rfl ?_
                    refine w_ic ?_
                    refine w_add ⟨by show (-2147483648 : Int) ≤ ((rk18 : Nat) : Int) + 1; omega, by show ((rk18 : Nat) : Int) + 1 < (2147483648 : Int); omega⟩ ?_
                    refine w_iast grd rfl (by decide) (by show (0 : Int) ≤ 3 * ((T (rv_x T q)).2.2.1); omega) (by show 3 * ((T (rv_x T q)).2.2.1) < ((135 : Nat) : Int); omega) ?_
                    rw [show (3 * ((T (rv_x T q)).2.2.1)).toNat = 3 * ((T (rv_x T q)).2.2.1).toNat by omega]
                    have B20 := hB.put (a := rd) (j := (3 * ((T (rv_x T q)).2.2.1).toNat)) (v := ((rk18 : Nat) : Int) + 1) (hn_ne grd gm (by decide)) (hn_ne grd gbt (by decide))
                    have s21 := s10.put (a := rd) (j := (3 * ((T (rv_x T q)).2.2.1).toNat)) (v := ((rk18 : Nat) : Int) + 1) (hn_ne grd gm (by decide))
                    refine w_aln rfl ?_
                    refine w_cv (st := []) rfl gm rfl (Nat.le_of_ble_eq_true rfl) (fun kk h => h) (rq_nxtT (d := d + 2) B20 s21 (by omega) (by omega) (rq_y_le hB (rq_y_le hB hqn)) (fun Ms22 s22 gs22 => ?_))
                    refine w_aln rfl ?_
                    have t23 := rv_tkc_f (rq_y_w hB (rq_y_le hB (rq_y_le hB (rq_y_le hB hqn)))).1
                    refine w_gi gm rfl (by decide) rfl (s22.1.1) ?_
                    refine w_ic ?_
                    refine w_cmne (fun c24 => ?_) (fun c24 => ?_)
                    · skip
                      refine w_aln rfl ?_
                      refine w_ic ?_
                      refine w_sp ?_
                      have h25 := hvk18.2 (by omega)
                      clear hvk18
                      have h26 := h25.2 (by omega)
                      clear h25
                      refine w_cv (st := []) rfl gm rfl (Nat.le_of_ble_eq_true rfl) (fun kk h => h) (rq_takes (d := d + 1) B20 s22 (rq_y_le hB (rq_y_le hB (rq_y_le hB hqn))) (sp_num.mono h26 (fun fk27 ak27 hfk27 => ?_) (fun bk27 ck27 ek27 hvk27 => ?_)))
                      · skip
                        intro Mk27 Fk27
                        refine w_ifne (fun c28 => ?_) (fun c28 => ?_)
                        · exfalso; omega
                        · skip
                          refine w_ic ?_
                          exact w_iret (fun _ => Or.inl rfl) (hfk27 _ _ (rq_do.refl).put Fk27)
                      · skip
                        intro Mk27 sk27 gk27
                        refine w_ifne (fun c29 => ?_) (fun c29 => ?_)
                        · skip
                          refine w_aln rfl ?_
                          refine w_gr gm rfl (by decide) rfl ((congrFun (congrFun sk27.2.2.2.1 m) 8).trans r8) ?_
                          refine w_iln rfl ?_
                          refine w_ic ?_
                          refine w_add ⟨by show (-2147483648 : Int) ≤ (3 * ((T (rv_x T q)).2.2.1)) + 2; omega, by show (3 * ((T (rv_x T q)).2.2.1)) + 2 < (2147483648 : Int); omega⟩ ?_
                          refine w_aln rfl ?_
                          refine w_gi gm rfl (by decide) rfl (gk27) ?_
                          refine w_iast grd rfl (by decide) (by show (0 : Int) ≤ (3 * ((T (rv_x T q)).2.2.1)) + 2; omega) (by show (3 * ((T (rv_x T q)).2.2.1)) + 2 < ((135 : Nat) : Int); omega) ?_
                          rw [show ((3 * ((T (rv_x T q)).2.2.1)) + 2).toNat = 3 * ((T (rv_x T q)).2.2.1).toNat + 2 by omega]
                          have B30 := B20.put (a := rd) (j := (3 * ((T (rv_x T q)).2.2.1).toNat + 2)) (v := (T (rv_x T (rv_x T (rv_x T q)))).2.2.1) (hn_ne grd gm (by decide)) (hn_ne grd gbt (by decide))
                          have s31 := sk27.put (a := rd) (j := (3 * ((T (rv_x T q)).2.2.1).toNat + 2)) (v := (T (rv_x T (rv_x T (rv_x T q)))).2.2.1) (hn_ne grd gm (by decide))
                          refine w_ic ?_
                          have h0 : R (3 * ((T (rv_x T q)).2.2.1).toNat) = 0 := by omega
                          have hz := hdb.z (j := ((T (rv_x T q)).2.2.1).toNat) (by omega) h0
                          have ht : rv_dt3 R (rv_up (rv_up R (3 * ((T (rv_x T q)).2.2.1).toNat) (((rk18 : Nat) : Int) + 1)) (3 * ((T (rv_x T q)).2.2.1).toNat + 2) (T (rv_x T (rv_x T (rv_x T q)))).2.2.1) ((T (rv_x T q)).2.2.1).toNat (((rk18 : Nat) : Int) + 1) 0 ((T (rv_x T (rv_x T (rv_x T q)))).2.2.1) := rv_dt3.eq (rv_dt3_2 (R := R) (j := ((T (rv_x T q)).2.2.1).toNat) hz.1) (by omega) (by omega) (by omega)
                          exact w_iret (fun _ => Or.inr rfl) (hvk27 (Nat.le_trans (Nat.le_trans (Nat.le_trans (Nat.le_refl q) (rq_y_ge hB hqn)) (rq_y_ge hB (rq_y_le hB hqn))) (rq_y_ge hB (rq_y_le hB (rq_y_le hB hqn)))) (rq_y_le hB (rq_y_le hB (rq_y_le hB hqn))) (hdb.set ht.1 (by rw [ht.2.1, ht.2.2.1, ht.2.2.2]; unfold rv_d3; omega)) ((rv_cn_set ht.1 h0 (by rw [ht.2.1]; omega) 12).trans (by rw [if_pos (by omega)])) _ _ ((rq_do.refl).put).put s31 (rq_put36 (rq_put36 hRd)))
                        · exfalso; omega
                    · skip
                      refine w_aln rfl ?_
                      have h32 := hvk18.2 (by omega)
                      clear hvk18
                      have h33 := h32.1 (by omega)
                      clear h32
                      refine w_cv (st := []) rfl gm rfl (Nat.le_of_ble_eq_true rfl) (fun kk h => h) (rq_isName (d := d + 3) B20 s22 (rq_y_le hB (rq_y_le hB (rq_y_le hB hqn))) (fun bk34 ck34 => ?_) (fun ck34 => ?_))
                      · skip
                        have hvk34 := (h33.1 bk34).1 ck34
                        refine w_ifne (fun c35 => ?_) (fun c35 => ?_)
                        · skip
                          refine w_aln rfl ?_
                          refine w_ic ?_
                          refine w_aln rfl ?_
                          refine w_gr gm rfl (by decide) rfl ((congrFun (congrFun s22.2.2.2.1 m) 6).trans r6) ?_
                          refine w_ic ?_
                          refine w_iald (v := c0) gsx rfl (by show (0 : Int) ≤ 0; omega) (by show 0 < ((537 : Nat) : Int); omega) (((congrFun (s22.2.1 sx (hn_ne gsx gm (by decide))) 0).trans (congrFun (wz_c (hn_ne gsx grd (by decide))) 0)).trans hc0) ?_
                          refine w_cv (st := []) rfl gm rfl (Nat.le_of_ble_eq_true rfl) (fun kk h => h) (rq_find (M0 := (mj_p0 M0 rd (3 * ((T (rv_x T q)).2.2.1).toNat) (((rk18 : Nat) : Int) + 1))) (d := d + 3) c1_ c2_ hN B20 s22 (by omega) (rq_y_wo hB (rq_y_le hB (rq_y_le hB (rq_y_le hB hqn))) (by omega)) (sp_find.mono hvk34 (fun rk36 lk36 ck36 mk36 hvk36 => ?_) (fun mk36 hvk36 => ?_)))
                          · skip
                            refine w_is ?_
                            show wz _ _ _ _ [some (.inr (.inr (some m))), some (.inl 1), some (.inl (3 * ((T (rv_x T q)).2.2.1))), some (.inl ((rk18 : Nat) : Int)), some (.inl ((rk36 : Nat) : Int))] _ _ _ _ _
                            refine w_il rfl ?_
                            refine w_iflt (fun c37 => ?_) (fun c37 => ?_)
                            · exfalso; omega
                            · skip
                              refine w_il rfl ?_
                              refine w_iln rfl ?_
                              refine w_cmne (fun c38 => ?_) (fun c38 => ?_)
                              · skip
                                refine w_aln rfl ?_
                                refine w_gr gm rfl (by decide) rfl ((congrFun (congrFun s22.2.2.2.1 m) 8).trans r8) ?_
                                refine w_iln rfl ?_
                                refine w_ic ?_
                                refine w_add ⟨by show (-2147483648 : Int) ≤ (3 * ((T (rv_x T q)).2.2.1)) + 1; omega, by show (3 * ((T (rv_x T q)).2.2.1)) + 1 < (2147483648 : Int); omega⟩ ?_
                                refine w_il rfl ?_
                                refine w_ic ?_
                                refine w_add ⟨by show (-2147483648 : Int) ≤ ((rk36 : Nat) : Int) + 1; omega, by show ((rk36 : Nat) : Int) + 1 < (2147483648 : Int); omega⟩ ?_
                                refine w_iast grd rfl (by decide) (by show (0 : Int) ≤ (3 * ((T (rv_x T q)).2.2.1)) + 1; omega) (by show (3 * ((T (rv_x T q)).2.2.1)) + 1 < ((135 : Nat) : Int); omega) ?_
                                rw [show ((3 * ((T (rv_x T q)).2.2.1)) + 1).toNat = 3 * ((T (rv_x T q)).2.2.1).toNat + 1 by omega]
                                have B39 := B20.put (a := rd) (j := (3 * ((T (rv_x T q)).2.2.1).toNat + 1)) (v := ((rk36 : Nat) : Int) + 1) (hn_ne grd gm (by decide)) (hn_ne grd gbt (by decide))
                                have s40 := s22.put (a := rd) (j := (3 * ((T (rv_x T q)).2.2.1).toNat + 1)) (v := ((rk36 : Nat) : Int) + 1) (hn_ne grd gm (by decide))
                                refine w_aln rfl ?_
                                refine w_cv (st := []) rfl gm rfl (Nat.le_of_ble_eq_true rfl) (fun kk h => h) (rq_nxtT (d := d + 2) B39 s40 (by omega) (by omega) (rq_y_le hB (rq_y_le hB (rq_y_le hB hqn))) (fun Ms41 s41 gs41 => ?_))
                                refine w_aln rfl ?_
                                refine w_ic ?_
                                refine w_sp ?_
                                have h42 := hvk36.2 (by omega)
                                clear hvk36
                                have h43 := h42.2 (by omega)
                                clear h42
                                refine w_cv (st := []) rfl gm rfl (Nat.le_of_ble_eq_true rfl) (fun kk h => h) (rq_takes (d := d + 1) B39 s41 (rq_y_le hB (rq_y_le hB (rq_y_le hB (rq_y_le hB hqn)))) (sp_num.mono h43 (fun fk44 ak44 hfk44 => ?_) (fun bk44 ck44 ek44 hvk44 => ?_)))
                                · skip
                                  intro Mk44 Fk44
                                  refine w_ifne (fun c45 => ?_) (fun c45 => ?_)
                                  · exfalso; omega
                                  · skip
                                    refine w_ic ?_
                                    exact w_iret (fun _ => Or.inl rfl) (hfk44 _ _ ((rq_do.refl).put).put Fk44)
                                · skip
                                  intro Mk44 sk44 gk44
                                  refine w_ifne (fun c46 => ?_) (fun c46 => ?_)
                                  · skip
                                    refine w_aln rfl ?_
                                    refine w_gr gm rfl (by decide) rfl ((congrFun (congrFun sk44.2.2.2.1 m) 8).trans r8) ?_
                                    refine w_iln rfl ?_
                                    refine w_ic ?_
                                    refine w_add ⟨by show (-2147483648 : Int) ≤ (3 * ((T (rv_x T q)).2.2.1)) + 2; omega, by show (3 * ((T (rv_x T q)).2.2.1)) + 2 < (2147483648 : Int); omega⟩ ?_
                                    refine w_aln rfl ?_
                                    refine w_gi gm rfl (by decide) rfl (gk44) ?_
                                    refine w_iast grd rfl (by decide) (by show (0 : Int) ≤ (3 * ((T (rv_x T q)).2.2.1)) + 2; omega) (by show (3 * ((T (rv_x T q)).2.2.1)) + 2 < ((135 : Nat) : Int); omega) ?_
                                    rw [show ((3 * ((T (rv_x T q)).2.2.1)) + 2).toNat = 3 * ((T (rv_x T q)).2.2.1).toNat + 2 by omega]
                                    have B47 := B39.put (a := rd) (j := (3 * ((T (rv_x T q)).2.2.1).toNat + 2)) (v := (T (rv_x T (rv_x T (rv_x T (rv_x T q))))).2.2.1) (hn_ne grd gm (by decide)) (hn_ne grd gbt (by decide))
                                    have s48 := sk44.put (a := rd) (j := (3 * ((T (rv_x T q)).2.2.1).toNat + 2)) (v := (T (rv_x T (rv_x T (rv_x T (rv_x T q))))).2.2.1) (hn_ne grd gm (by decide))
                                    refine w_ic ?_
                                    have h0 : R (3 * ((T (rv_x T q)).2.2.1).toNat) = 0 := by omega
                                    have ht : rv_dt3 R (rv_up (rv_up (rv_up R (3 * ((T (rv_x T q)).2.2.1).toNat) (((rk18 : Nat) : Int) + 1)) (3 * ((T (rv_x T q)).2.2.1).toNat + 1) (((rk36 : Nat) : Int) + 1)) (3 * ((T (rv_x T q)).2.2.1).toNat + 2) (T (rv_x T (rv_x T (rv_x T (rv_x T q))))).2.2.1) ((T (rv_x T q)).2.2.1).toNat (((rk18 : Nat) : Int) + 1) (((rk36 : Nat) : Int) + 1) ((T (rv_x T (rv_x T (rv_x T (rv_x T q))))).2.2.1) := rv_dt3.eq (rv_dt3_3 (R := R) (j := ((T (rv_x T q)).2.2.1).toNat)) (by omega) (by omega) (by omega)
                                    exact w_iret (fun _ => Or.inr rfl) (hvk44 (Nat.le_trans (Nat.le_trans (Nat.le_trans (Nat.le_trans (Nat.le_refl q) (rq_y_ge hB hqn)) (rq_y_ge hB (rq_y_le hB hqn))) (rq_y_ge hB (rq_y_le hB (rq_y_le hB hqn)))) (rq_y_ge hB (rq_y_le hB (rq_y_le hB (rq_y_le hB hqn))))) (rq_y_le hB (rq_y_le hB (rq_y_le hB (rq_y_le hB hqn)))) (hdb.set ht.1 (by rw [ht.2.1, ht.2.2.1, ht.2.2.2]; unfold rv_d3; omega)) ((rv_cn_set ht.1 h0 (by rw [ht.2.1]; omega) 12).trans (by rw [if_pos (by omega)])) _ _ (((rq_do.refl).put).put).put s48 (rq_put36 (rq_put36 (rq_put36 hRd))))
                                  · exfalso; omega
                              · skip
                                refine w_aln rfl ?_
                                refine w_ic ?_
                                have h50 := hvk36.2 (by omega)
                                clear hvk36
                                have h51 := h50.1 (by omega)
                                clear h50
                                refine w_cv (st := []) rfl gm rfl (Nat.le_of_ble_eq_true rfl) (fun kk h => h) (rq_bad (d := d + 3) B20 s22 (fun MF49 F49 => ?_))
                                exact w_iret (fun _ => Or.inl rfl) (h51 _ _ (rq_do.refl).put F49)
                          · skip
                            refine w_is ?_
                            show wz _ _ _ _ [some (.inr (.inr (some m))), some (.inl 1), some (.inl (3 * ((T (rv_x T q)).2.2.1))), some (.inl ((rk18 : Nat) : Int)), some (.inl (-1))] _ _ _ _ _
                            refine w_il rfl ?_
                            refine w_iflt (fun c52 => ?_) (fun c52 => ?_)
                            · skip
                              refine w_aln rfl ?_
                              refine w_ic ?_
                              have h54 := hvk36.1 (by omega)
                              clear hvk36
                              refine w_cv (st := []) rfl gm rfl (Nat.le_of_ble_eq_true rfl) (fun kk h => h) (rq_bad (d := d + 3) B20 s22 (fun MF53 F53 => ?_))
                              exact w_iret (fun _ => Or.inl rfl) (h54 _ _ (rq_do.refl).put F53)
                            · exfalso; omega
                        · exfalso; omega
                      · skip
                        have hvk34 := sp_nam.bad h33 ck34
                        refine w_ifne (fun c55 => ?_) (fun c55 => ?_)
                        · exfalso; omega
                        · skip
                          refine w_aln rfl ?_
                          refine w_ic ?_
                          refine w_cv (st := []) rfl gm rfl (Nat.le_of_ble_eq_true rfl) (fun kk h => h) (rq_bad (d := d + 3) B20 s22 (fun MF56 F56 => ?_))
                          exact w_iret (fun _ => Or.inl rfl) (hvk34 _ _ (rq_do.refl).put F56)
                  · exfalso; omega
                · skip
                  refine w_isn ?_
                  show wz _ _ _ _ [some (.inr (.inr (some m))), some (.inl 1), some (.inl (3 * ((T (rv_x T q)).2.2.1))), some (.inl (-1)), none] _ _ _ _ _
                  refine w_iln rfl ?_
                  refine w_ifge (fun c57 => ?_) (fun c57 => ?_)
                  · exfalso; omega
                  · skip
                    refine w_aln rfl ?_
                    refine w_ic ?_
                    have h59 := hvk18.1 (by omega)
                    clear hvk18
                    refine w_cv (st := []) rfl gm rfl (Nat.le_of_ble_eq_true rfl) (fun kk h => h) (rq_bad (d := d + 3) hB s10 (fun MF58 F58 => ?_))
                    exact w_iret (fun _ => Or.inl rfl) (h59 _ _ rq_do.refl F58)
              · exfalso; omega
            · skip
              have hvk16 := sp_nam.bad h15 ck16
              refine w_ifne (fun c60 => ?_) (fun c60 => ?_)
              · exfalso; omega
              · skip
                refine w_aln rfl ?_
                refine w_ic ?_
                refine w_cv (st := []) rfl gm rfl (Nat.le_of_ble_eq_true rfl) (fun kk h => h) (rq_bad (d := d + 3) hB s10 (fun MF61 F61 => ?_))
                exact w_iret (fun _ => Or.inl rfl) (hvk16 _ _ rq_do.refl F61)
          · exfalso; omega
        · skip
          refine w_aln rfl ?_
          refine w_ic ?_
          have h63 := h.1 (by omega)
          clear h
          have h64 := h63.1 (by omega)
          clear h63
          have h65 := h64.1 (by omega)
          clear h64
          have h66 := h65.2 (by omega)
          clear h65
          refine w_cv (st := []) rfl gm rfl (Nat.le_of_ble_eq_true rfl) (fun kk h => h) (rq_bad (d := d + 3) hB s2 (fun MF62 F62 => ?_))
          exact w_iret (fun _ => Or.inl rfl) (h66 _ _ rq_do.refl F62)
      · skip
        refine w_aln rfl ?_
        refine w_ic ?_
        have h68 := h.1 (by omega)
        clear h
        have h69 := h68.1 (by omega)
        clear h68
        have h70 := h69.2 (by omega)
        clear h69
        refine w_cv (st := []) rfl gm rfl (Nat.le_of_ble_eq_true rfl) (fun kk h => h) (rq_bad (d := d + 3) hB s2 (fun MF67 F67 => ?_))
        exact w_iret (fun _ => Or.inl rfl) (h70 _ _ rq_do.refl F67)
    · skip
      refine w_aln rfl ?_
      refine w_ic ?_
      have h72 := h.2 (by omega)
      clear h
      refine w_cv (st := []) rfl gm rfl (Nat.le_of_ble_eq_true rfl) (fun kk h => h) (rq_bad (d := d + 3) hB s2 (fun MF71 F71 => ?_))
      exact w_iret (fun _ => Or.inl rfl) (h72 _ _ rq_do.refl F71)
  · exfalso; omega
set_option maxHeartbeats 4000000 in
theorem rq_dR_11 {G : mj_G} {M0 M : mj_M} {B : Nat → Int} {n lim m bt ns rs sx rd : Nat} {T : Nat → Nat × Nat × Int × List Int × Nat} {nm : Nat → List Int} {c0 : Int} {R : Nat → Int} {Q : mj_P} {d q : Nat} (hB : rq_A G M0 B n lim m bt ns rs T) (hS : rq_S M0 m (T q) M) (hqn : q ≤ n) (gsx : G sx = (51100, 537)) (grd : G rd = (53100, 135)) (r6 : M0.2.2 m 6 = some sx) (r8 : M0.2.2 m 8 = some rd) (c1_ : 0 ≤ c0) (c2_ : c0 ≤ 8) (hc0 : M0.1 sx 0 = c0) (hN : ∀ k : Nat, (k : Int) < c0 → M0.2.1 ns k = rv_8 (nm k) ∧ rv_wo (nm k)) (hRd : ∀ k, k < 36 → M0.1 rd k = R k) (hdb : rv_db c0 R) (hk1 : (T q).1 = 1) (hj : rv_rs.getD 11 [] = (T q).2.2.2.1) (h : sp_dsea T nm c0 R q (fun f a => ∀ M0' M', rq_do rd M0 M0' → rq_F M0' m f a M' → Q (some (.inl 0)) G M') (fun R' q' => q ≤ q' → q' ≤ n → rv_db c0 R' → rv_cn R' 12 = rv_cn R 12 + 1 → ∀ M0' M', rq_do rd M0 M0' → rq_S M0' m (T (rv_x T q')) M' → (∀ k, k < 36 → M0'.1 rd k = R' k) → Q (some (.inl 1)) G M')) : mj_R mj_tab (d + 5) 180 [.inr (.inr (some m))] G M Q := by
  obtain ⟨⟨gm, gbt, gns, grs, r1, r9, r10, rb, rr, n1, n2, m3, m5⟩, hT⟩ := id hB
  unfold sp_dsea at h
  have hge : ∀ k, k < 12 → 0 ≤ R (3 * k) := fun k hk => by rcases hdb k hk with e | e | e <;> omega
  refine ⟨Nat.le_of_ble_eq_true rfl, ?_⟩
  show wz (d + 4) mt_X12_dealRow.2.2.2.2.1 Q mt_X12_dealRow.2.2.2.2.1 [some (.inr (.inr (some m))), none, none, none, none] [] G M _ _
  refine w_aln rfl ?_
  refine w_l2 ?_
  refine w_cv (st := []) rfl gm rfl (Nat.le_of_ble_eq_true rfl) (fun kk h => h) (rq_isWord0 (d := d + 3) (i := 10) hB hS hqn (by decide) (by decide +kernel) (fun e => absurd (rv_rs_i 10 (by decide) 11 (by decide) (e.2.trans hj.symm)) (by decide)) ?_)
  refine w_isn ?_
  show wz _ _ _ _ [some (.inr (.inr (some m))), some (.inl 0), none, none, none] _ _ _ _ _
  refine w_iln rfl ?_
  refine w_ifne (fun c1 => ?_) (fun c1 => ?_)
  · exfalso; omega
  · skip
    refine w_aln rfl ?_
    refine w_l2 ?_
    refine w_cv (st := []) rfl gm rfl (Nat.le_of_ble_eq_true rfl) (fun kk h => h) (rq_isWord1 (d := d + 3) (i := 11) hB hS hqn (by decide) (by decide +kernel) ⟨hk1, hj⟩ ?_)
    refine w_ifne (fun c2 => ?_) (fun c2 => ?_)
    · skip
      refine w_aln rfl ?_
      refine w_cv (st := []) rfl gm rfl (Nat.le_of_ble_eq_true rfl) (fun kk h => h) (rq_nxtT (d := d + 2) hB hS (by omega) (by omega) hqn (fun Ms3 s3 gs3 => ?_))
      refine w_aln rfl ?_
      have t4 := rv_tkc_f (rq_y_w hB (rq_y_le hB hqn)).1
      refine w_gi gm rfl (by decide) rfl (s3.1.1) ?_
      refine w_ic ?_
      refine w_cmeq (fun c5 => ?_) (fun c5 => ?_)
      · skip
        refine w_aln rfl ?_
        have nn6 := s3.1.2.2.2.1 (by omega)
        refine w_gi gm rfl (by decide) rfl ((s3.1.2.2.2.1 (by omega)).1) ?_
        refine w_bp ?_
        refine w_cmle (fun c7 => ?_) (fun c7 => ?_)
        · skip
          refine w_ic ?_
          refine w_aln rfl ?_
          have nn8 := s3.1.2.2.2.1 (by omega)
          refine w_gi gm rfl (by decide) rfl ((s3.1.2.2.2.1 (by omega)).1) ?_
          refine w_mul ⟨by show (-2147483648 : Int) ≤ 3 * ((T (rv_x T q)).2.2.1); omega, by show 3 * ((T (rv_x T q)).2.2.1) < (2147483648 : Int); omega⟩ ?_
          refine w_isn ?_
          show wz _ _ _ _ [some (.inr (.inr (some m))), some (.inl 0), some (.inl (3 * ((T (rv_x T q)).2.2.1))), none, none] _ _ _ _ _
          refine w_aln rfl ?_
          refine w_gr gm rfl (by decide) rfl ((congrFun (congrFun s3.2.2.2.1 m) 8).trans r8) ?_
          refine w_iln rfl ?_
          have g9 := hge ((T (rv_x T q)).2.2.1).toNat (by omega)
          refine w_iald (v := (R (3 * ((T (rv_x T q)).2.2.1).toNat))) grd rfl (by show (0 : Int) ≤ 3 * ((T (rv_x T q)).2.2.1); omega) (by show 3 * ((T (rv_x T q)).2.2.1) < ((135 : Nat) : Int); omega) (by rw [show (3 * ((T (rv_x T q)).2.2.1)).toNat = 3 * ((T (rv_x T q)).2.2.1).toNat by omega, congrFun (s3.2.1 rd (hn_ne grd gm (by decide))) _]; exact hRd _ (by omega)) ?_
          refine w_ifle (fun c10 => ?_) (fun c10 => ?_)
          · skip
            refine w_aln rfl ?_
            refine w_cv (st := []) rfl gm rfl (Nat.le_of_ble_eq_true rfl) (fun kk h => h) (rq_nxtT (d := d + 2) hB s3 (by omega) (by omega) (rq_y_le hB hqn) (fun Ms11 s11 gs11 => ?_))
            refine w_iln rfl ?_
            refine w_ifne (fun c12 => ?_) (fun c12 => ?_)
            · exfalso; omega
            · skip
              refine w_aln rfl ?_
              refine w_gr gm rfl (by decide) rfl ((congrFun (congrFun s11.2.2.2.1 m) 8).trans r8) ?_
              refine w_iln rfl ?_
              refine w_bp ?_
              refine w_iast grd rfl (by decide) (by show (0 : Int) ≤ 3 * ((T (rv_x T q)).2.2.1); omega) (by show 3 * ((T (rv_x T q)).2.2.1) < ((135 : Nat) : Int); omega) ?_
              rw [show (3 * ((T (rv_x T q)).2.2.1)).toNat = 3 * ((T (rv_x T q)).2.2.1).toNat by omega]
              have B13 := hB.put (a := rd) (j := (3 * ((T (rv_x T q)).2.2.1).toNat)) (v := 9) (hn_ne grd gm (by decide)) (hn_ne grd gbt (by decide))
              have s14 := s11.put (a := rd) (j := (3 * ((T (rv_x T q)).2.2.1).toNat)) (v := 9) (hn_ne grd gm (by decide))
              refine w_ic ?_
              have h15 := h.1 (by omega)
              clear h
              have h16 := h15.1 (by omega)
              clear h15
              have h17 := h16.1 (by omega)
              clear h16
              have h18 := h17.1 (by omega)
              clear h17
              have h0 : R (3 * ((T (rv_x T q)).2.2.1).toNat) = 0 := by omega
              have hz := hdb.z (j := ((T (rv_x T q)).2.2.1).toNat) (by omega) h0
              have ht : rv_dt3 R (rv_up R (3 * ((T (rv_x T q)).2.2.1).toNat) 9) ((T (rv_x T q)).2.2.1).toNat 9 0 0 := rv_dt3.eq (rv_dt3_1 (R := R) (j := ((T (rv_x T q)).2.2.1).toNat) hz.1 hz.2) (by omega) (by omega) (by omega)
              exact w_iret (fun _ => Or.inr rfl) (h18 (Nat.le_trans (Nat.le_refl q) (rq_y_ge hB hqn)) (rq_y_le hB hqn) (hdb.set ht.1 (by rw [ht.2.1, ht.2.2.1, ht.2.2.2]; unfold rv_d3; omega)) ((rv_cn_set ht.1 h0 (by rw [ht.2.1]; omega) 12).trans (by rw [if_pos (by omega)])) _ _ (rq_do.refl).put s14 (rq_put36 hRd))
          · skip
            refine w_aln rfl ?_
            refine w_ic ?_
            have h20 := h.1 (by omega)
            clear h
            have h21 := h20.1 (by omega)
            clear h20
            have h22 := h21.1 (by omega)
            clear h21
            have h23 := h22.2 (by omega)
            clear h22
            refine w_cv (st := []) rfl gm rfl (Nat.le_of_ble_eq_true rfl) (fun kk h => h) (rq_bad (d := d + 3) hB s3 (fun MF19 F19 => ?_))
            exact w_iret (fun _ => Or.inl rfl) (h23 _ _ rq_do.refl F19)
        · skip
          refine w_aln rfl ?_
          refine w_ic ?_
          have h25 := h.1 (by omega)
          clear h
          have h26 := h25.1 (by omega)
          clear h25
          have h27 := h26.2 (by omega)
          clear h26
          refine w_cv (st := []) rfl gm rfl (Nat.le_of_ble_eq_true rfl) (fun kk h => h) (rq_bad (d := d + 3) hB s3 (fun MF24 F24 => ?_))
          exact w_iret (fun _ => Or.inl rfl) (h27 _ _ rq_do.refl F24)
      · skip
        refine w_aln rfl ?_
        refine w_ic ?_
        have h29 := h.2 (by omega)
        clear h
        refine w_cv (st := []) rfl gm rfl (Nat.le_of_ble_eq_true rfl) (fun kk h => h) (rq_bad (d := d + 3) hB s3 (fun MF28 F28 => ?_))
        exact w_iret (fun _ => Or.inl rfl) (h29 _ _ rq_do.refl F28)
    · exfalso; omega
set_option maxHeartbeats 4000000 in
theorem rq_dR_n {G : mj_G} {M0 M : mj_M} {B : Nat → Int} {n lim m bt ns rs sx rd : Nat} {T : Nat → Nat × Nat × Int × List Int × Nat} {nm : Nat → List Int} {c0 : Int} {R : Nat → Int} {Q : mj_P} {d q : Nat} (hB : rq_A G M0 B n lim m bt ns rs T) (hS : rq_S M0 m (T q) M) (hqn : q ≤ n) (gsx : G sx = (51100, 537)) (grd : G rd = (53100, 135)) (r6 : M0.2.2 m 6 = some sx) (r8 : M0.2.2 m 8 = some rd) (c1_ : 0 ≤ c0) (c2_ : c0 ≤ 8) (hc0 : M0.1 sx 0 = c0) (hN : ∀ k : Nat, (k : Int) < c0 → M0.2.1 ns k = rv_8 (nm k) ∧ rv_wo (nm k)) (hRd : ∀ k, k < 36 → M0.1 rd k = R k) (hdb : rv_db c0 R) (hnw : ∀ i, i = 10 ∨ i = 11 → ¬ ((T q).1 = 1 ∧ rv_rs.getD i [] = (T q).2.2.2.1)) (h : ∀ M0' M', rq_do rd M0 M0' → rq_F M0' m 1 (T q).2.1 M' → Q (some (.inl 0)) G M') : mj_R mj_tab (d + 5) 180 [.inr (.inr (some m))] G M Q := by
  obtain ⟨⟨gm, gbt, gns, grs, r1, r9, r10, rb, rr, n1, n2, m3, m5⟩, hT⟩ := id hB
  refine ⟨Nat.le_of_ble_eq_true rfl, ?_⟩
  show wz (d + 4) mt_X12_dealRow.2.2.2.2.1 Q mt_X12_dealRow.2.2.2.2.1 [some (.inr (.inr (some m))), none, none, none, none] [] G M _ _
  refine w_aln rfl ?_
  refine w_l2 ?_
  refine w_cv (st := []) rfl gm rfl (Nat.le_of_ble_eq_true rfl) (fun kk h => h) (rq_isWord0 (d := d + 3) (i := 10) hB hS hqn (by decide) (by decide +kernel) (hnw 10 (Or.inl rfl)) ?_)
  refine w_isn ?_
  show wz _ _ _ _ [some (.inr (.inr (some m))), some (.inl 0), none, none, none] _ _ _ _ _
  refine w_iln rfl ?_
  refine w_ifne (fun c1 => ?_) (fun c1 => ?_)
  · exfalso; omega
  · skip
    refine w_aln rfl ?_
    refine w_l2 ?_
    refine w_cv (st := []) rfl gm rfl (Nat.le_of_ble_eq_true rfl) (fun kk h => h) (rq_isWord0 (d := d + 3) (i := 11) hB hS hqn (by decide) (by decide +kernel) (hnw 11 (Or.inr rfl)) ?_)
    refine w_ifne (fun c2 => ?_) (fun c2 => ?_)
    · exfalso; omega
    · skip
      refine w_aln rfl ?_
      refine w_ic ?_
      refine w_cv (st := []) rfl gm rfl (Nat.le_of_ble_eq_true rfl) (fun kk h => h) (rq_bad (d := d + 3) hB hS (fun MF3 F3 => ?_))
      exact w_iret (fun _ => Or.inl rfl) (h _ _ rq_do.refl F3)
theorem rq_dealRow {G : mj_G} {M0 M : mj_M} {B : Nat → Int} {n lim m bt ns rs sx rd : Nat} {T : Nat → Nat × Nat × Int × List Int × Nat} {nm : Nat → List Int} {c0 : Int} {R : Nat → Int} {Q : mj_P} {d q : Nat} (hB : rq_A G M0 B n lim m bt ns rs T) (hS : rq_S M0 m (T q) M) (hqn : q ≤ n) (gsx : G sx = (51100, 537)) (grd : G rd = (53100, 135)) (r6 : M0.2.2 m 6 = some sx) (r8 : M0.2.2 m 8 = some rd) (c1_ : 0 ≤ c0) (c2_ : c0 ≤ 8) (hc0 : M0.1 sx 0 = c0) (hN : ∀ k : Nat, (k : Int) < c0 → M0.2.1 ns k = rv_8 (nm k) ∧ rv_wo (nm k)) (hRd : ∀ k, k < 36 → M0.1 rd k = R k) (hdb : rv_db c0 R) (h : sp_deal T nm c0 R q (fun f a => ∀ M0' M', rq_do rd M0 M0' → rq_F M0' m f a M' → Q (some (.inl 0)) G M') (fun R' q' => q ≤ q' → q' ≤ n → rv_db c0 R' → rv_cn R' 12 = rv_cn R 12 + 1 → ∀ M0' M', rq_do rd M0 M0' → rq_S M0' m (T (rv_x T q')) M' → (∀ k, k < 36 → M0'.1 rd k = R' k) → Q (some (.inl 1)) G M')) : mj_R mj_tab (d + 5) 180 [.inr (.inr (some m))] G M Q := by
  by_cases c1 : (T q).1 = 1
  · by_cases c2 : rv_nam (T q).2.2.2.1
    · exact rq_dR_n hB hS hqn gsx grd r6 r8 c1_ c2_ hc0 hN hRd hdb (fun i hi g => c2 i (by omega) g.2) (h.2 (fun g => g.2 c2))
    · have : ∃ j, j < 24 ∧ rv_rs.getD j [] = (T q).2.2.2.1 := by
        refine Classical.byContradiction (fun g => c2 (fun j hj e => g ⟨j, hj, e⟩))
      obtain ⟨j, j1, hj⟩ := this
      obtain ⟨h0, h1, h2⟩ := h.1 j j1 c1 hj
      by_cases e10 : j = 10
      · subst e10; exact rq_dR_10 hB hS hqn gsx grd r6 r8 c1_ c2_ hc0 hN hRd hdb c1 hj (h0 rfl)
      · by_cases e11 : j = 11
        · subst e11; exact rq_dR_11 hB hS hqn gsx grd r6 r8 c1_ c2_ hc0 hN hRd hdb c1 hj (h1 rfl)
        · exact rq_dR_n hB hS hqn gsx grd r6 r8 c1_ c2_ hc0 hN hRd hdb (fun i hi g => by have := rv_rs_i i (by omega) j j1 (g.2.trans hj.symm); omega) (h2 e10 e11)
  · exact rq_dR_n hB hS hqn gsx grd r6 r8 c1_ c2_ hc0 hN hRd hdb (fun i hi g => c1 g.1) (h.2 (fun g => c1 g.1))
