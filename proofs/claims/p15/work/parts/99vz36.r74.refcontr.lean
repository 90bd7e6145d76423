/-! ===== the reference's contracts ===== -/
theorem rq_zrd {G : mj_G} {M0 : mj_M} {m rd : Nat} {d : Nat} {Q : mj_P} (gm : G m = (1012, 0)) (gc : G rd = (53100, 135)) (e0 : M0.2.2 m 8 = some rd) : ∀ (f k : Nat) (M : mj_M) (cb sb : Nat), k + f = 36 → rq_do rd M0 M → (∀ j, j < k → M.1 rd j = 0) → (∀ M', rq_do rd M0 M' → (∀ j, j < 36 → M'.1 rd j = 0) → wz d mt_X12_contracts.2.2.2.2.1 Q (mt_X12_contracts.2.2.2.2.1.drop 21) [some (.inr (.inr (some m))), some (.inl 36), none] [] G M' cb sb) → wz d mt_X12_contracts.2.2.2.2.1 Q (mt_X12_contracts.2.2.2.2.1.drop 11) [some (.inr (.inr (some m))), some (.inl (k : Int)), none] [] G M cb sb := by
  intro f
  induction f with
  | zero =>
    intro k M cb sb hk ho hz kk
    have e : k = 36 := by omega
    subst e
    refine w_iln rfl ?_
    refine w_bp ?_
    refine w_cmge (fun c => ?_) (fun c => by exfalso; omega)
    exact kk M ho hz
  | succ f ih =>
    intro k M cb sb hk ho hz kk
    refine w_iln rfl ?_
    refine w_bp ?_
    refine w_cmge (fun c => by exfalso; omega) (fun c => ?_)
    refine w_aln rfl ?_
    refine w_gr gm rfl (by decide) rfl (by rw [ho.2]; exact e0) ?_
    refine w_iln rfl ?_
    refine w_ic ?_
    refine w_iast gc rfl (by decide) (by omega) (by show (k : Int) < ((135 : Nat) : Int); omega) ?_
    refine w_ii rfl ⟨by omega, by omega⟩ ?_
    refine w_goto ?_
    refine ih (k + 1) _ _ _ (by omega) ho.put (fun j hj => ?_) kk
    rw [show ((k : Int)).toNat = k by omega]
    rcases Nat.lt_or_ge j k with q | q
    · exact (hn_n (Or.inr (by omega))).trans (hz j q)
    · rw [show j = k by omega]; exact hn_s
theorem rq_cpd {G : mj_G} {M0 : mj_M} {m rd sx : Nat} {d : Nat} {r : Int} {Q : mj_P} (gm : G m = (1012, 0)) (gc : G rd = (53100, 135)) (gs : G sx = (51100, 537)) (e6 : M0.2.2 m 6 = some sx) (e8 : M0.2.2 m 8 = some rd) : ∀ (f k : Nat) (M : mj_M) (cb sb : Nat), k + f = 36 → M.2 = M0.2 → (∀ a, a ≠ sx → M.1 a = M0.1 a) → (∀ j, j < k → M.1 sx (184 + j) = M0.1 rd j) → (∀ j, j < 184 ∨ 220 ≤ j → M.1 sx j = M0.1 sx j) → (∀ M', M'.2 = M0.2 → (∀ a, a ≠ sx → M'.1 a = M0.1 a) → (∀ j, j < 36 → M'.1 sx (184 + j) = M0.1 rd j) → (∀ j, j < 184 ∨ 220 ≤ j → M'.1 sx j = M0.1 sx j) → wz d mt_X12_contracts.2.2.2.2.1 Q (mt_X12_contracts.2.2.2.2.1.drop 59) [some (.inr (.inr (some m))), some (.inl r), some (.inl 36)] [] G M' cb sb) → wz d mt_X12_contracts.2.2.2.2.1 Q (mt_X12_contracts.2.2.2.2.1.drop 44) [some (.inr (.inr (some m))), some (.inl r), some (.inl (k : Int))] [] G M cb sb := by
  have ns : rd ≠ sx := hn_ne gc gs (by decide)
  intro f
  induction f with
  | zero =>
    intro k M cb sb hk h2 h1 h3 h4 kk
    have e : k = 36 := by omega
    subst e
    refine w_iln rfl ?_
    refine w_bp ?_
    refine w_cmge (fun c => ?_) (fun c => by exfalso; omega)
    exact kk M h2 h1 h3 h4
  | succ f ih =>
    intro k M cb sb hk h2 h1 h3 h4 kk
    refine w_iln rfl ?_
    refine w_bp ?_
    refine w_cmge (fun c => by exfalso; omega) (fun c => ?_)
    refine w_aln rfl ?_
    refine w_gr gm rfl (by decide) rfl (by rw [h2]; exact e6) ?_
    refine w_sp ?_
    refine w_iln rfl ?_
    refine w_add ⟨by omega, by omega⟩ ?_
    refine w_aln rfl ?_
    refine w_gr gm rfl (by decide) rfl (by rw [h2]; exact e8) ?_
    refine w_iln rfl ?_
    have tk : ((k : Int)).toNat = k := by omega
    refine w_iald (v := M0.1 rd k) gc rfl (by omega) (by show (k : Int) < ((135 : Nat) : Int); omega) (by rw [tk, h1 rd ns]) ?_
    refine w_iast gs rfl (by decide) (by omega) (by show (184 : Int) + (k : Int) < ((537 : Nat) : Int); omega) ?_
    refine w_ii rfl ⟨by omega, by omega⟩ ?_
    refine w_goto ?_
    rw [show ((184 : Int) + (k : Int)).toNat = 184 + k by omega]
    refine ih (k + 1) _ _ _ (by omega) h2 (fun a a1 => (wz_c a1).trans (h1 a a1)) (fun j hj => ?_) (fun j hj => (hn_n (Or.inr (by omega))).trans (h4 j hj)) kk
    rcases Nat.lt_or_ge j k with q | q
    · exact (hn_n (Or.inr (by omega))).trans (h3 j q)
    · rw [show j = k by omega]; exact hn_s
theorem rq_deals {G : mj_G} {Mb : mj_M} {B : Nat → Int} {n lim m bt ns rs sx rd : Nat} {T : Nat → Nat × Nat × Int × List Int × Nat} {nm : Nat → List Int} {c0 : Int} {v2 : Option mj_V} {Q : mj_P} {d : Nat} (hB : rq_A G Mb B n lim m bt ns rs T) (gsx : G sx = (51100, 537)) (grd : G rd = (53100, 135)) (r6 : Mb.2.2 m 6 = some sx) (r8 : Mb.2.2 m 8 = some rd) (c1_ : 0 ≤ c0) (c2_ : c0 ≤ 8) (hc0 : Mb.1 sx 0 = c0) (hN : ∀ k : Nat, (k : Int) < c0 → Mb.2.1 ns k = rv_8 (nm k) ∧ rv_wo (nm k)) : ∀ (f q r : Nat) (R : Nat → Int) (M0 M : mj_M) (cb sb : Nat), n < q + f → q ≤ n → r ≤ q → rq_do rd Mb M0 → rq_S M0 m (T q) M → (∀ k, k < 36 → M0.1 rd k = R k) → rv_db c0 R → rv_cn R 12 = r → sp_deals T nm c0 (fun f a => ∀ M0' M', rq_do rd Mb M0' → rq_F M0' m f a M' → Q (some (.inl (rv_vf a))) G M') (fun R r => rv_db c0 R → ∀ M0' M' q cb sb, rq_do rd Mb M0' → rq_S M0' m (T q) M' → (∀ k, k < 36 → M0'.1 rd k = R k) → wz (d + 5) mt_X12_contracts.2.2.2.2.1 Q (mt_X12_contracts.2.2.2.2.1.drop 42) [some (.inr (.inr (some m))), some (.inl (r : Int)), v2] [] G M' cb sb) f R r q → wz (d + 5) mt_X12_contracts.2.2.2.2.1 Q (mt_X12_contracts.2.2.2.2.1.drop 25) [some (.inr (.inr (some m))), some (.inl (r : Int)), v2] [] G M cb sb := by
  obtain ⟨gm, gbt, gns, grs, -⟩ := id hB.1
  intro f
  induction f with
  | zero => intro q r R M0 M cb sb g1 g2 g3; exfalso; omega
  | succ f ih =>
    intro q r R M0 M cb sb g1 g2 g3 ho hS hRd hdb hcn h
    have hB0 := hB.do grd ho
    have r6' : M0.2.2 m 6 = some sx := by rw [ho.2]; exact r6
    have r8' : M0.2.2 m 8 = some rd := by rw [ho.2]; exact r8
    have hc0' : M0.1 sx 0 = c0 := by rw [ho.1 sx (hn_ne gsx grd (by decide))]; exact hc0
    have hN' : ∀ k : Nat, (k : Int) < c0 → M0.2.1 ns k = rv_8 (nm k) ∧ rv_wo (nm k) := fun k hk => by rw [ho.2]; exact hN k hk
    have hk := rv_tkc_f (rq_y_w hB0 g2).1
    have hw := rq_y_w hB0 g2
    obtain ⟨h0, h5, hr⟩ := h
    have k12 := rv_cn_le R 12
    have bad : ∀ (a : Nat) (M' : mj_M) (cb sb : Nat), M'.1 m 16 = (a : Int) → Q (some (.inl (rv_vf a))) G M' → wz (d + 5) mt_X12_contracts.2.2.2.2.1 Q (mt_X12_contracts.2.2.2.2.1.drop 35) [some (.inr (.inr (some m))), some (.inl (r : Int)), v2] [] G M' cb sb := by
      intro a M' cb sb e hQ
      refine w_ic ?_
      refine w_aln rfl ?_
      refine w_gi gm rfl (by decide) rfl e ?_
      refine w_subw ?_
      intro z hz ez
      have ev : z = rv_vf a := ez
      rw [ev]
      exact w_iret (fun q => by cases q) hQ
    refine w_aln rfl ?_
    refine w_gi gm rfl (by decide) rfl hS.1.1 ?_
    refine w_ifeq (fun c => ?_) (fun c => ?_)
    · exact h0 (by omega) hdb M0 M q _ _ ho hS hRd
    · refine w_aln rfl ?_
      by_cases c5 : (T q).1 = 5
      · refine w_cv (st := []) rfl gm rfl (Nat.le_of_ble_eq_true rfl) (fun kk h => h) (rq_dR_n (d := d) hB0 hS g2 gsx grd r6' r8' c1_ c2_ hc0' hN' hRd hdb (fun i _ g => by omega) (fun M0' M' o F => ?_))
        refine w_ifeq (fun _ => ?_) (fun c => absurd rfl c)
        exact bad _ _ _ _ F.2.1 (h5 c5 M0' M' (ho.trans o) F)
      · have hlt := hw.2.2.2.1 (by omega) c5
        refine w_cv (st := []) rfl gm rfl (Nat.le_of_ble_eq_true rfl) (fun kk h => h) (rq_dealRow (d := d) hB0 hS g2 gsx grd r6' r8' c1_ c2_ hc0' hN' hRd hdb ((hr (by omega) c5).mono (fun f a hf M0' M' o F => ?_) (fun R1 q1 hk1 g4 g5 hdb1 hc1 M0' M' o S1 h36 => ?_)))
        · refine w_ifeq (fun _ => ?_) (fun c => absurd rfl c)
          exact bad _ _ _ _ F.2.1 (hf M0' M' (ho.trans o) F)
        · refine w_ifeq (fun c => absurd c (by decide)) (fun _ => ?_)
          refine w_aln rfl ?_
          refine w_bp ?_
          have B1 := hB0.do grd o
          have g6 := rq_y_le B1 g5
          refine w_cv (st := []) rfl gm rfl (Nat.le_of_ble_eq_true rfl) (fun kk h => h) (rq_sign (d := d + 2) B1 S1 g6 (hk1.mono (fun f a hf => ?_) (fun e3 hk2 => ?_)))
          · intro M2 F2
            refine w_ifne (fun c => absurd rfl c) (fun _ => ?_)
            exact bad _ _ _ _ F2.2.1 (hf M0' M2 (ho.trans o) F2)
          · intro M2 S2
            refine w_ifne (fun _ => ?_) (fun c => absurd c (by decide))
            refine w_ii rfl ⟨by omega, by omega⟩ ?_
            refine w_goto ?_
            have g7 := rq_y_ge B1 g5
            have g8 := (rq_y_w B1 g6).2.2.2.1 (by omega) (by omega)
            have g9 := rq_y_le B1 g6
            exact ih (rv_x T (rv_x T q1)) (r + 1) R1 M0' M2 _ _ (by unfold rv_x at *; omega) g9 (by unfold rv_x at *; omega) (ho.trans o) S2 h36 hdb1 (by omega) hk2
/-- the state behind contracts() of the reference -/
def rq_O (sx : Nat) (R : Nat → Int) (r : Nat) (M M' : mj_M) : Prop := (∀ k, k < 36 → M'.1 sx (184 + k) = R k) ∧ M'.1 sx 220 = (r : Int) ∧ (∀ j, j < 184 ∨ 220 < j → M'.1 sx j = M.1 sx j)
theorem r_X12_contracts2 {G : mj_G} {M : mj_M} {B : Nat → Int} {n m bt ns rs sx rd : Nat} {T : Nat → Nat × Nat × Int × List Int × Nat} {nm : Nat → List Int} {c0 : Int} {Q : mj_P} {d : Nat} (gm : G m = (1012, 0)) (gbt : G bt = (50101, 940)) (gns : G ns = (54103, 16)) (grs : G rs = (55103, 24)) (r1 : M.2.2 m 1 = some bt) (r9 : M.2.2 m 9 = some ns) (r10 : M.2.2 m 10 = some rs) (rb : ∀ k, rv_u8 (M.1 bt k) = B k) (rr : ∀ k, k < 24 → M.2.1 rs k = rv_8 (rv_rs.getD k [])) (n1 : n ≤ 940) (hT : T = rv_T B n 400) (gsx : G sx = (51100, 537)) (grd : G rd = (53100, 135)) (r6 : M.2.2 m 6 = some sx) (r8 : M.2.2 m 8 = some rd) (hn : M.1 m 2 = (n : Int)) (c1_ : 0 ≤ c0) (c2_ : c0 ≤ 8) (hc0 : M.1 sx 0 = c0) (hN : ∀ k : Nat, (k : Int) < c0 → M.2.1 ns k = rv_8 (nm k) ∧ rv_wo (nm k)) (h : sp_deals T nm c0 (fun f a => ∀ M', M'.1 sx = M.1 sx → Q (some (.inl (rv_vf a))) G M') (fun R r => rv_db c0 R → ∀ M', rq_O sx R r M M' → Q (some (.inl (r : Int))) G M') (n + 1) (fun _ => 0) 0 0) : mj_R mj_tab (d + 6) 177 [.inr (.inr (some m))] G M Q := by
  refine ⟨Nat.le_of_ble_eq_true rfl, ?_⟩
  show wz (d + 5) mt_X12_contracts.2.2.2.2.1 Q mt_X12_contracts.2.2.2.2.1 [some (.inr (.inr (some m))), none, none] [] G M _ _
  refine w_aln rfl ?_
  refine w_ic ?_
  refine w_pi gm rfl (by decide) rfl (fun q => by cases q) ?_
  refine w_aln rfl ?_
  refine w_sp ?_
  refine w_cv (st := []) rfl gm rfl (Nat.le_of_ble_eq_true rfl) (fun kk h => h) ⟨Nat.le_of_ble_eq_true rfl, ?_⟩
  show wz (d + 4) mt_X12_taken.2.2.2.2.1 _ mt_X12_taken.2.2.2.2.1 [some (.inr (.inr (some m))), some (.inl 400)] [] _ _ _ _
  refine w_aln rfl ?_
  refine w_aln rfl ?_
  refine w_gi gm rfl (by decide) rfl (v := (n : Int)) ((hn_n (Or.inr (by decide))).trans hn) ?_
  refine w_pi gm rfl (by decide) rfl (fun q => by cases q) ?_
  refine w_aln rfl ?_
  refine w_ic ?_
  refine w_pi gm rfl (by decide) rfl (fun q => by cases q) ?_
  refine w_aln rfl ?_
  refine w_ic ?_
  refine w_pi gm rfl (by decide) rfl (fun q => by cases q) ?_
  refine w_aln rfl ?_
  refine w_iln rfl ?_
  refine w_pi gm rfl (by decide) rfl (fun q => by cases q) ?_
  refine w_ret ?_
  refine w_aln rfl ?_
  refine w_ic ?_
  refine w_pi gm rfl (by decide) rfl (fun q => by cases q) ?_
  have eo : ∀ a, a ≠ m → (mj_p0 (mj_p0 (mj_p0 (mj_p0 (mj_p0 (mj_p0 M m 0 0) m 3 (n : Int)) m 2 0) m 4 0) m 5 400) m 15 0).1 a = M.1 a := fun a ha => (wz_c ha).trans ((wz_c ha).trans ((wz_c ha).trans ((wz_c ha).trans ((wz_c ha).trans (wz_c ha)))))
  refine w_ic ?_
  refine w_isn ?_
  refine rq_zrd (M0 := (mj_p0 (mj_p0 (mj_p0 (mj_p0 (mj_p0 (mj_p0 M m 0 0) m 3 (n : Int)) m 2 0) m 4 0) m 5 400) m 15 0)) gm grd r8 36 0 _ _ _ (by omega) rq_do.refl (fun j hj => absurd hj (Nat.not_lt_zero j)) (fun M1 o1 z1 => ?_)
  have hB : rq_A G M1 B n 400 m bt ns rs T := by
    refine ⟨⟨gm, gbt, gns, grs, by rw [o1.2]; exact r1, by rw [o1.2]; exact r9, by rw [o1.2]; exact r10, fun k => by rw [o1.1 bt (hn_ne gbt grd (by decide)), eo bt (hn_ne gbt gm (by decide))]; exact rb k, fun k hk => by rw [o1.2]; exact rr k hk, n1, by decide, ?_, ?_⟩, hT⟩
    · rw [o1.1 m (hn_ne gm grd (by decide))]; exact (hn_n (Or.inr (by decide))).trans ((hn_n (Or.inr (by decide))).trans ((hn_n (Or.inr (by decide))).trans ((hn_n (Or.inr (by decide))).trans hn_s)))
    · rw [o1.1 m (hn_ne gm grd (by decide))]; exact (hn_n (Or.inr (by decide))).trans hn_s
  have es : M1.1 sx = M.1 sx := (o1.1 sx (hn_ne gsx grd (by decide))).trans (eo sx (hn_ne gsx gm (by decide)))
  have e4 : M1.1 m 4 = ((0 : Nat) : Int) := by rw [o1.1 m (hn_ne gm grd (by decide))]; exact (hn_n (Or.inr (by decide))).trans ((hn_n (Or.inr (by decide))).trans hn_s)
  have r61 : M1.2.2 m 6 = some sx := by rw [o1.2]; exact r6
  have r81 : M1.2.2 m 8 = some rd := by rw [o1.2]; exact r8
  have hN1 : ∀ k : Nat, (k : Int) < c0 → M1.2.1 ns k = rv_8 (nm k) ∧ rv_wo (nm k) := fun k hk => by rw [o1.2]; exact hN k hk
  refine w_ic ?_
  refine w_isn ?_
  show wz _ _ _ _ [some (.inr (.inr (some m))), some (.inl 0), none] _ _ _ _ _
  refine w_aln rfl ?_
  refine w_cv (st := []) rfl gm rfl (Nat.le_of_ble_eq_true rfl) (fun kk h => h) (rq_nxt0 (d := d + 3) (q := 0) hB e4 ⟨fun _ _ => rfl, fun _ _ => rfl, rfl, fun _ _ => rfl⟩ (Nat.zero_le n) (fun M2 s2 _ => ?_))
  refine rq_deals (d := d) hB gsx grd r61 r81 c1_ c2_ (by rw [es]; exact hc0) hN1 (n + 1) 0 0 (fun _ => 0) M1 M2 _ _ (by omega) (Nat.zero_le n) (Nat.le_refl 0) rq_do.refl s2 z1 (fun j _ => Or.inl ⟨rfl, rfl, rfl⟩) rfl (sp_deals.mono (fun f a hf M0' M' o F => ?_) (fun R r hk hdb M0' M' q cb sb o S h36 => ?_) _ _ _ _ h)
  · exact hf M' ((F.2.2.1 sx (hn_ne gsx gm (by decide))).trans ((o.1 sx (hn_ne gsx grd (by decide))).trans es))
  · have esx : M'.1 sx = M.1 sx := (S.2.1 sx (hn_ne gsx gm (by decide))).trans ((o.1 sx (hn_ne gsx grd (by decide))).trans es)
    have erd : M'.1 rd = M0'.1 rd := S.2.1 rd (hn_ne grd gm (by decide))
    have r62 : M'.2.2 m 6 = some sx := by rw [S.2.2.2.1, o.2]; exact r61
    have r82 : M'.2.2 m 8 = some rd := by rw [S.2.2.2.1, o.2]; exact r81
    refine w_ic ?_
    refine w_isn ?_
    show wz _ _ _ _ [some (.inr (.inr (some m))), some (.inl (r : Int)), some (.inl 0)] _ _ _ _ _
    refine rq_cpd (M0 := M') gm grd gsx r62 r82 36 0 M' _ _ (by omega) rfl (fun _ _ => rfl) (fun j hj => absurd hj (Nat.not_lt_zero j)) (fun _ _ => rfl) (fun M3 u2 u1 u3 u4 => ?_)
    refine w_aln rfl ?_
    refine w_gr gm rfl (by decide) rfl (by rw [u2]; exact r62) ?_
    refine w_sp ?_
    refine w_iln rfl ?_
    refine w_iast gsx rfl (by decide) (by omega) (by show (220 : Int) < ((537 : Nat) : Int); omega) ?_
    refine w_iln rfl ?_
    refine w_iret (fun q => by cases q) (hk hdb _ ⟨fun k hk => (hn_n (Or.inr (by show 184 + k ≠ 220; omega))).trans ((u3 k hk).trans ((congrFun erd k).trans (h36 k hk))), hn_s, fun j hj => (hn_n (Or.inr (by show j ≠ 220; omega))).trans ((u4 j (by omega)).trans (congrFun esx j))⟩)
