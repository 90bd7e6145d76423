/-! ===== the class's contracts (laid by a program) ===== -/
/-- where the object's parts lie for contracts -/
def rc_X (G : mj_G) (M : mj_M) (x tp pl sp nw dn dl fa sa ca : Nat) : Prop := (G x = (1011, 0) ∧ G sp = (1007, 0) ∧ G nw = (1007, 0) ∧ rv_D G M dl fa sa ca ∧ sp ≠ nw) ∧ M.2.2 x 0 = some tp ∧ M.2.2 x 1 = some nw ∧ M.2.2 x 2 = some sp ∧ M.2.2 sp 1 = some dl ∧ M.2.2 nw 1 = some dn ∧ M.2.2 nw 0 = some pl
/-- the state behind contracts() that reads CONTRACTS -/
def rc_O (nw sp dn dl fa sa ca : Nat) (R : Nat → Int) (r : Nat) (M' : mj_M) : Prop := M'.2.2 nw 1 = some dl ∧ M'.2.2 sp 1 = some dn ∧ rv_DR M' fa sa ca R ∧ M'.1 dl 3 = (r : Int)
def rc_F (nw sp dn dl : Nat) (M' : mj_M) : Prop := M'.2.2 nw 1 = some dn ∧ M'.2.2 sp 1 = some dl
/-- what contracts leaves as it was -/
def rc_fr (x tp dl fa sa ca : Nat) (tr br : Nat → Nat) (pl wa oa : Nat) (M M' : mj_M) : Prop := ∀ a, a ≠ x → a ≠ tp → a ≠ dl → a ≠ fa → a ≠ sa → a ≠ ca → a ≠ pl → a ≠ wa → a ≠ oa → (∀ t, t < 8 → a ≠ tr t) → (∀ t, t < 8 → a ≠ br t) → M'.1 a = M.1 a
/-- the references are as they were, but the tape's word and the two CONTRACTS -/
def rc_fq (tp nw sp : Nat) (M M' : mj_M) : Prop := ∀ a j, ¬ (a = tp ∧ j = 9) → ¬ (a = nw ∧ j = 1) → ¬ (a = sp ∧ j = 1) → M'.2.2 a j = M.2.2 a j
theorem rc_tl_F {G : mj_G} {M0 M : mj_M} {B : Nat → Int} {n lim tp bc pl na ta ba wa oa : Nat} {tr br : Nat → Nat} {T : Nat → Nat × Nat × Int × List Int × Nat} {Q : mj_P} {d : Nat} {x sp nw dn dl fa sa ca : Nat} (hA : rv_AT G M0 B n lim tp bc pl na ta ba wa oa tr br T) (hX : rc_X G M0 x tp pl sp nw dn dl fa sa ca) {f : Int} {a : Nat} (hF : rv_F tp pl na wa oa tr br M0 f a M) (hQ : ∀ M', rc_F nw sp dn dl M' → rc_fr x tp dl fa sa ca tr br pl wa oa M0 M' → rc_fq tp nw sp M0 M' → Q (some (.inl (rv_vf a))) G M') : ∀ cb sb, wz (d + 8) mt_X11_contracts.2.2.2.2.1 Q (mt_X11_contracts.2.2.2.2.1.drop 17) [some (.inr (.inr (some x))), some (.inr (.inr (some dl)))] [] G M cb sb := by
  obtain ⟨⟨gtp, gbc, gpl, gna, gta, gba, gwa, goa, gtr, gbr, itr, ibr, r1, r2, r3, r4, r5, r6, r7, r8, rb, rw0, n1, n2, hIw⟩, hT⟩ := id hA
  obtain ⟨⟨gx, gsp, gnw, hD, hsn⟩, x_x0, x_x1, x_x2, x_sp1, x_nw1, x_nw0⟩ := id hX
  obtain ⟨gdl, gfa, gsa, gca, -⟩ := id hD
  have hx : ∀ x ∈ [1002, 16100, 17100, 18100], x ≠ 1008 ∧ x ≠ 1004 ∧ x ≠ 29100 ∧ x ≠ 30100 ∧ x ≠ 26100 ∧ x ≠ 28100 := by decide
  obtain ⟨f2, f3, ⟨w1, w2, hfr⟩, f0⟩ := hF
  intro cb sb
  refine w_aln rfl ?_
  refine w_gr gx rfl (by decide) rfl ((hfr x 0 (fun e => absurd e.1 (hn_ne gx gtp (by decide)))).trans x_x0) ?_
  refine w_gi gtp rfl (by decide) rfl (f2) ?_
  refine w_ifne (fun c1 => ?_) (fun c1 => ?_)
  · skip
    refine w_aln rfl ?_
    refine w_aln rfl ?_
    refine w_gi gdl rfl (by decide) rfl (rfl) ?_
    refine w_cv (st := []) rfl gx rfl (Nat.le_of_ble_eq_true rfl) (fun kk h => h) ⟨Nat.le_of_ble_eq_true rfl, ?_⟩
    show wz (d + 7) mt_X11_closeTape.2.2.2.2.1 _ mt_X11_closeTape.2.2.2.2.1 [some (.inr (.inr (some x))), some (.inl (M.1 dl 3))] [] _ _ _ _
    refine w_aln rfl ?_
    refine w_gr gx rfl (by decide) rfl ((hfr x 0 (fun e => absurd e.1 (hn_ne gx gtp (by decide)))).trans x_x0) ?_
    refine w_ic ?_
    refine w_pi gtp rfl (by decide) rfl (fun q => by cases q) ?_
    refine w_aln rfl ?_
    refine w_aln rfl ?_
    refine w_gr gx rfl (by decide) rfl ((hfr x 0 (fun e => absurd e.1 (hn_ne gx gtp (by decide)))).trans x_x0) ?_
    refine w_gi gtp rfl (by decide) rfl ((hn_n (Or.inr (by decide))).trans (f2)) ?_
    refine w_pi gx rfl (by decide) rfl (fun q => by cases q) ?_
    refine w_aln rfl ?_
    refine w_gi gx rfl (by decide) rfl (hn_s) ?_
    refine w_ifne (fun c2 => ?_) (fun c2 => ?_)
    · skip
      refine w_ic ?_
      refine w_aln rfl ?_
      refine w_gr gx rfl (by decide) rfl ((hfr x 0 (fun e => absurd e.1 (hn_ne gx gtp (by decide)))).trans x_x0) ?_
      refine w_gi gtp rfl (by decide) rfl ((hn_n (Or.inr (by decide))).trans ((hn_n (Or.inr (by decide))).trans (f3))) ?_
      refine w_subw ?_
      intro z3 hz3 ez3
      refine w_iret (fun q => by cases q) ?_
      have ev : z3 = rv_vf a := ez3
      refine w_iret (fun q => by cases q) ?_
      rw [ev]
      exact hQ _ ⟨(hfr nw 1 (fun e => absurd e.1 (hn_ne gnw gtp (by decide)))).trans x_nw1, (hfr sp 1 (fun e => absurd e.1 (hn_ne gsp gtp (by decide)))).trans x_sp1⟩ (fun a a0 a1 a2 a3 a4 a5 a6 a7 a8 a9 b0 => (wz_c a0).trans ((wz_c a1).trans (w1 a a1 a6 a7 a8 a9 b0))) (fun a j h1 _ _ => hfr a j h1)
    · exfalso; omega
  · exfalso; omega
theorem rc_tl_O {G : mj_G} {M0 M : mj_M} {B : Nat → Int} {n lim tp bc pl na ta ba wa oa : Nat} {tr br : Nat → Nat} {T : Nat → Nat × Nat × Int × List Int × Nat} {Q : mj_P} {d : Nat} {x sp nw dn dl fa sa ca : Nat} (hA : rv_AT G M0 B n lim tp bc pl na ta ba wa oa tr br T) (hX : rc_X G M0 x tp pl sp nw dn dl fa sa ca) {PL WA OA : Nat → Int} {TO BI : Nat → Nat → Int} {nm : Nat → List Int} {t : Nat × Nat × Int × List Int × Nat} {R : Nat → Int} {r : Nat} (hS : rv_S G M0 n lim tp pl na wa oa tr br t PL WA OA TO BI nm M) (hR : rv_DR M0 fa sa ca R) (h3 : M0.1 dl 3 = (r : Int)) (hQ : ∀ M', rc_O nw sp dn dl fa sa ca R r M' → rc_fr x tp dl fa sa ca tr br pl wa oa M0 M' → rc_fq tp nw sp M0 M' → Q (some (.inl (r : Int))) G M') : ∀ cb sb, wz (d + 8) mt_X11_contracts.2.2.2.2.1 Q (mt_X11_contracts.2.2.2.2.1.drop 17) [some (.inr (.inr (some x))), some (.inr (.inr (some dl)))] [] G M cb sb := by
  obtain ⟨⟨gtp, gbc, gpl, gna, gta, gba, gwa, goa, gtr, gbr, itr, ibr, r1, r2, r3, r4, r5, r6, r7, r8, rb, rw0, n1, n2, hIw⟩, hT⟩ := id hA
  obtain ⟨⟨gx, gsp, gnw, hD, hsn⟩, x_x0, x_x1, x_x2, x_sp1, x_nw1, x_nw0⟩ := id hX
  obtain ⟨gdl, gfa, gsa, gca, -⟩ := id hD
  have hx : ∀ x ∈ [1002, 16100, 17100, 18100], x ≠ 1008 ∧ x ≠ 1004 ∧ x ≠ 29100 ∧ x ≠ 30100 ∧ x ≠ 26100 ∧ x ≠ 28100 := by decide
  have hfr := hS.2.2.2.2.2.2.2.2.2.2
  have f2 := hS.1.2.2
  have w1 := hS.2.2.2.2.2.2.2.2.1
  have e3 := (congrFun (rv_S.fx hA hS gdl (hx _ (by decide))) 3).trans h3
  have efa := rv_S.fx hA hS gfa (hx _ (by decide))
  have esa := rv_S.fx hA hS gsa (hx _ (by decide))
  have eca := rv_S.fx hA hS gca (hx _ (by decide))
  intro cb sb
  refine w_aln rfl ?_
  refine w_gr gx rfl (by decide) rfl ((hfr x 0 (fun e => absurd e.1 (hn_ne gx gtp (by decide)))).trans x_x0) ?_
  refine w_gi gtp rfl (by decide) rfl (f2) ?_
  refine w_ifne (fun c1 => ?_) (fun c1 => ?_)
  · exfalso; omega
  · skip
    refine w_aln rfl ?_
    refine w_gr gx rfl (by decide) rfl ((hfr x 2 (fun e => absurd e.1 (hn_ne gx gtp (by decide)))).trans x_x2) ?_
    refine w_aln rfl ?_
    refine w_gr gx rfl (by decide) rfl ((hfr x 1 (fun e => absurd e.1 (hn_ne gx gtp (by decide)))).trans x_x1) ?_
    refine w_gr gnw rfl (by decide) rfl ((hfr nw 1 (fun e => absurd e.1 (hn_ne gnw gtp (by decide)))).trans x_nw1) ?_
    refine w_pr gsp rfl (by decide) rfl ?_
    refine w_aln rfl ?_
    refine w_gr gx rfl (by decide) rfl ((wz_nr (Or.inl (hn_ne gx gsp (by decide)))).trans ((hfr x 1 (fun e => absurd e.1 (hn_ne gx gtp (by decide)))).trans x_x1)) ?_
    refine w_aln rfl ?_
    refine w_pr gnw rfl (by decide) rfl ?_
    refine w_aln rfl ?_
    refine w_aln rfl ?_
    refine w_gi gdl rfl (by decide) rfl (e3) ?_
    refine w_cv (st := []) rfl gx rfl (Nat.le_of_ble_eq_true rfl) (fun kk h => h) ⟨Nat.le_of_ble_eq_true rfl, ?_⟩
    show wz (d + 7) mt_X11_closeTape.2.2.2.2.1 _ mt_X11_closeTape.2.2.2.2.1 [some (.inr (.inr (some x))), some (.inl (r : Int))] [] _ _ _ _
    refine w_aln rfl ?_
    refine w_gr gx rfl (by decide) rfl ((wz_nr (Or.inr (by decide))).trans ((wz_nr (Or.inr (by decide))).trans ((hfr x 0 (fun e => absurd e.1 (hn_ne gx gtp (by decide)))).trans x_x0))) ?_
    refine w_ic ?_
    refine w_pi gtp rfl (by decide) rfl (fun q => by cases q) ?_
    refine w_aln rfl ?_
    refine w_aln rfl ?_
    refine w_gr gx rfl (by decide) rfl ((wz_nr (Or.inr (by decide))).trans ((wz_nr (Or.inr (by decide))).trans ((hfr x 0 (fun e => absurd e.1 (hn_ne gx gtp (by decide)))).trans x_x0))) ?_
    refine w_gi gtp rfl (by decide) rfl ((hn_n (Or.inr (by decide))).trans (f2)) ?_
    refine w_pi gx rfl (by decide) rfl (fun q => by cases q) ?_
    refine w_aln rfl ?_
    refine w_gi gx rfl (by decide) rfl (hn_s) ?_
    refine w_ifne (fun c2 => ?_) (fun c2 => ?_)
    · exfalso; omega
    · skip
      refine w_iln rfl ?_
      refine w_goto ?_
      refine w_iret (fun q => by cases q) ?_
      exact w_iret (fun q => by cases q) (hQ _ ⟨wz_sr, (wz_nr (Or.inl (hsn))).trans (wz_sr), fun j hj => ⟨(congrFun ((wz_c (hn_ne gfa gx (by decide))).trans ((wz_c (hn_ne gfa gtp (by decide))).trans (efa))) j).trans (hR j hj).1, (congrFun ((wz_c (hn_ne gsa gx (by decide))).trans ((wz_c (hn_ne gsa gtp (by decide))).trans (esa))) j).trans (hR j hj).2.1, (congrFun ((wz_c (hn_ne gca gx (by decide))).trans ((wz_c (hn_ne gca gtp (by decide))).trans (eca))) j).trans (hR j hj).2.2⟩, (hn_n (Or.inr (by decide))).trans ((hn_n (Or.inr (by decide))).trans (e3))⟩ (fun a a0 a1 a2 a3 a4 a5 a6 a7 a8 a9 b0 => (wz_c a0).trans ((wz_c a1).trans (w1 a a1 a6 a7 a8 a9 b0))) (fun a j h1 h2 h3 => (wz_nr (by omega)).trans ((wz_nr (by omega)).trans (hfr a j h1))))
theorem rc_fr.tr {x tp dl fa sa ca : Nat} {tr br : Nat → Nat} {pl wa oa : Nat} {M0 M M' : mj_M} (h : rv_dfo dl fa sa ca M0 M) (h2 : rc_fr x tp dl fa sa ca tr br pl wa oa M M') : rc_fr x tp dl fa sa ca tr br pl wa oa M0 M' := fun a a0 a1 a2 a3 a4 a5 a6 a7 a8 a9 b0 => (h2 a a0 a1 a2 a3 a4 a5 a6 a7 a8 a9 b0).trans (h.1 a a2 a3 a4 a5)
theorem rc_fq.tr {tp nw sp dl fa sa ca : Nat} {M0 M M' : mj_M} (h : rv_dfo dl fa sa ca M0 M) (h2 : rc_fq tp nw sp M M') : rc_fq tp nw sp M0 M' := fun a j h3 h4 h5 => (h2 a j h3 h4 h5).trans (by rw [h.2])
theorem rc_X.mv {G : mj_G} {M M' : mj_M} {x tp pl sp nw dn dl fa sa ca : Nat} (h : rc_X G M x tp pl sp nw dn dl fa sa ca) (e : M'.2 = M.2) : rc_X G M' x tp pl sp nw dn dl fa sa ca := by unfold rc_X rv_D at *; rw [e]; exact h
theorem r_X11_contracts {G : mj_G} {M : mj_M} {B : Nat → Int} {n tp bc pl na ta ba wa oa : Nat} {tr br : Nat → Nat} {T : Nat → Nat × Nat × Int × List Int × Nat} {Q : mj_P} {d : Nat} {x sp nw dn dl fa sa ca : Nat} {nm : Nat → List Int} (hA : rv_AT G M B n 400 tp bc pl na ta ba wa oa tr br T) (hX : rc_X G M x tp pl sp nw dn dl fa sa ca) (hn : M.1 tp 1 = (n : Int)) (hN : ∀ s, s < 8 → M.2.1 na s = rv_5 (nm s) ∧ rv_wo (nm s)) (hb : rv_pb (M.1 pl)) (h : sp_deals T nm (M.1 pl 4) (fun f a => ∀ M', rc_F nw sp dn dl M' → rc_fr x tp dl fa sa ca tr br pl wa oa M M' → rc_fq tp nw sp M M' → Q (some (.inl (rv_vf a))) G M') (fun R r => rv_db (M.1 pl 4) R → ∀ M', rc_O nw sp dn dl fa sa ca R r M' → rc_fr x tp dl fa sa ca tr br pl wa oa M M' → rc_fq tp nw sp M M' → Q (some (.inl (r : Int))) G M') (n + 1) (fun _ => 0) 0 0) : mj_R mj_tab (d + 9) 117 [.inr (.inr (some x))] G M Q := by
  obtain ⟨⟨gtp, gbc, gpl, gna, gta, gba, gwa, goa, gtr, gbr, itr, ibr, r1, r2, r3, r4, r5, r6, r7, r8, rb, rw0, n1, n2, hIw⟩, hT⟩ := id hA
  obtain ⟨⟨gx, gsp, gnw, hD, hsn⟩, x_x0, x_x1, x_x2, x_sp1, x_nw1, x_nw0⟩ := id hX
  obtain ⟨gdl, gfa, gsa, gca, -⟩ := id hD
  refine ⟨Nat.le_of_ble_eq_true rfl, ?_⟩
  show wz (d + 8) mt_X11_contracts.2.2.2.2.1 Q mt_X11_contracts.2.2.2.2.1 [some (.inr (.inr (some x))), none] [] G M _ _
  refine w_aln rfl ?_
  refine w_gr gx rfl (by decide) rfl x_x2 ?_
  refine w_gr gsp rfl (by decide) rfl x_sp1 ?_
  refine w_asn ?_
  show wz _ _ _ _ [some (.inr (.inr (some x))), some (.inr (.inr (some dl)))] _ _ _ _ _
  refine w_aln rfl ?_
  refine w_cv (st := []) rfl gdl rfl (Nat.le_of_ble_eq_true rfl) (fun kk h => h) (r_X1_clear (d := d + 7) hD (fun M1 u2 u1 uz u3 => ?_))
  have o1 : rv_dfo dl fa sa ca M M1 := ⟨u1, u2⟩
  have A1 := hA.dfo hD o1
  have X1 := hX.mv u2
  have tpf : M1.1 tp = M.1 tp := u1 tp (hn_ne gtp gdl (by decide)) (hn_ne gtp gfa (by decide)) (hn_ne gtp gsa (by decide)) (hn_ne gtp gca (by decide))
  have plf : M1.1 pl = M.1 pl := u1 pl (hn_ne gpl gdl (by decide)) (hn_ne gpl gfa (by decide)) (hn_ne gpl gsa (by decide)) (hn_ne gpl gca (by decide))
  refine w_aln rfl ?_
  refine w_gr gx rfl (by decide) rfl (by rw [u2]; exact x_x0) ?_
  refine w_sp ?_
  refine w_cv (st := []) rfl gtp rfl (Nat.le_of_ble_eq_true rfl) (fun kk h => h) ⟨Nat.le_of_ble_eq_true rfl, ?_⟩
  show wz (d + 7) mt_X7_open.2.2.2.2.1 _ mt_X7_open.2.2.2.2.1 [some (.inr (.inr (some tp))), some (.inl 400)] [] _ _ _ _
  refine w_aln rfl ?_
  refine w_iln rfl ?_
  refine w_pi gtp rfl (by decide) rfl (fun q => by cases q) ?_
  refine w_aln rfl ?_
  refine w_ic ?_
  refine w_pi gtp rfl (by decide) rfl (fun q => by cases q) ?_
  refine w_aln rfl ?_
  refine w_ic ?_
  refine w_pi gtp rfl (by decide) rfl (fun q => by cases q) ?_
  refine w_aln rfl ?_
  refine w_ic ?_
  refine w_pi gtp rfl (by decide) rfl (fun q => by cases q) ?_
  refine w_ret ?_
  refine w_aln rfl ?_
  refine w_aln rfl ?_
  refine w_gr gx rfl (by decide) rfl (by show M1.2.2 x 0 = _; rw [u2]; exact x_x0) ?_
  refine w_aln rfl ?_
  refine w_gr gx rfl (by decide) rfl (by show M1.2.2 x 1 = _; rw [u2]; exact x_x1) ?_
  refine w_gr gnw rfl (by decide) rfl (by show M1.2.2 nw 0 = _; rw [u2]; exact x_nw0) ?_
  have e4 : ∀ b, b ≠ tp → (mj_p0 (mj_p0 (mj_p0 (mj_p0 M1 tp 10 400) tp 11 0) tp 2 0) tp 3 0).1 b = M1.1 b := fun b hb => (wz_c hb).trans ((wz_c hb).trans ((wz_c hb).trans (wz_c hb)))
  have S0 : rv_S0 G M1 n 400 tp pl na wa oa tr br 0 (M.1 pl) (M1.1 wa) (M1.1 oa) (fun s => M1.1 (tr s)) (fun s => M1.1 (br s)) nm (mj_p0 (mj_p0 (mj_p0 (mj_p0 M1 tp 10 400) tp 11 0) tp 2 0) tp 3 0) := ⟨⟨(hn_n (Or.inr (by decide))).trans ((hn_n (Or.inr (by decide))).trans ((hn_n (Or.inr (by decide))).trans ((hn_n (Or.inr (by decide))).trans ((congrFun tpf 1).trans hn)))), (hn_n (Or.inr (by decide))).trans ((hn_n (Or.inr (by decide))).trans ((hn_n (Or.inr (by decide))).trans hn_s)), (hn_n (Or.inr (by decide))).trans hn_s⟩, (hn_n (Or.inr (by decide))).trans ((hn_n (Or.inr (by decide))).trans hn_s), (e4 pl (hn_ne gpl gtp (by decide))).trans plf, e4 wa (hn_ne gwa gtp (by decide)), e4 oa (hn_ne goa gtp (by decide)), fun s hs => e4 _ (hn_ne (gtr s hs) gtp (by decide)), fun s hs => e4 _ (hn_ne (gbr s hs) gtp (by decide)), fun s hs => ⟨by show M1.2.1 na s = _; rw [u2]; exact (hN s hs).1, (hN s hs).2⟩, fun a a1 a2 a3 a4 a5 a6 => e4 a a1, fun a a1 _ => rfl, fun a j _ => rfl⟩
  have R1 : rv_DR M1 fa sa ca (fun _ => 0) := fun j hj => ⟨(uz j hj).1, (uz j hj).2.1, (uz j hj).2.2⟩
  refine w_cv (st := []) rfl gdl rfl (Nat.le_of_ble_eq_true rfl) (fun kk h => h) (r_X1_readRows (d := d) hb A1 (hD.mv u2) S0 R1 (fun j _ => Or.inl ⟨rfl, rfl, rfl⟩) rfl u3 (sp_deals.mono (fun f a hf M2 M3 o2 F => ?_) (fun R r hk hdb M2 M3 q2 A2 o2 s2 dR d3 => ?_) _ _ _ _ h))
  · exact rc_tl_F (A1.dfo (hD.mv u2) o2) (X1.mv o2.2) F (fun M' a b c => hf M' a (b.tr (o1.trans o2)) (c.tr (o1.trans o2))) _ _
  · exact rc_tl_O A2 (X1.mv o2.2) s2 dR d3 (fun M' a b c => hk hdb M' a (b.tr (o1.trans o2)) (c.tr (o1.trans o2))) _ _
