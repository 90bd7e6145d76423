section
/-! ===== the class's contracts (laid by a program) ===== -/
/-- where the object's parts lie for contracts -/
def rc_X (G : mj_G) (M : mj_M) (x tp pl sp nw dn dl fa sa ca : Nat) : Prop := (G x = (1011, 0) ∧ G sp = (1007, 0) ∧ G nw = (1007, 0) ∧ rv_D G M dl fa sa ca ∧ sp ≠ nw) ∧ M.2.2 x 0 = some tp ∧ M.2.2 x 1 = some nw ∧ M.2.2 x 2 = some sp ∧ M.2.2 sp 1 = some dl ∧ M.2.2 nw 1 = some dn ∧ M.2.2 nw 0 = some pl
/-- the state behind contracts() that reads CONTRACTS -/
def rc_O (nw sp dn dl fa sa ca : Nat) (R : Nat → Int) (r : Nat) (M' : mj_M) : Prop := M'.2.2 nw 1 = some dl ∧ M'.2.2 sp 1 = some dn ∧ rv_DR M' fa sa ca R ∧ M'.1 dl 3 = (r : Int)
def rc_F (nw sp dn dl : Nat) (M' : mj_M) : Prop := M'.2.2 nw 1 = some dn ∧ M'.2.2 sp 1 = some dl
/-- what contracts leaves as it was -/
def rc_fr (x tp dl fa sa ca : Nat) (tr br : Nat → Nat) (pl wa oa : Nat) (M M' : mj_M) : Prop := ∀ a, a ≠ x → a ≠ tp → a ≠ dl → a ≠ fa → a ≠ sa → a ≠ ca → a ≠ pl → a ≠ wa → a ≠ oa → (∀ t, t < 8 → a ≠ tr t) → (∀ t, t < 8 → a ≠ br t) → M'.1 a = M.1 a
/-- the references are as they were, but the tape's word and the two CONTRACTS -/
def rc_fq (tp nw sp : Nat) (M M' : mj_M) : Prop := ∀ a j, ¬ (a = tp ∧ j = 9) → ¬ (a = nw ∧ j = 1) → ¬ (a = sp ∧ j = 1) → M'.2.2 a j = M.2.2 a j
theorem rc_tl_F {G : mj_G} {M0 M : mj_M} {B : Nat → Int} {n lim tp bc pl na ta ba wa oa : Nat} {tr br : Nat → Nat} {T : Nat → Nat × Nat × Int × List Int × Nat} {Q : mj_P} {d : Nat} {x sp nw dn dl fa sa ca : Nat} (hA : rv_AT G M0 B n lim tp bc pl na ta ba wa oa tr br T) (hX : rc_X G M0 x tp pl sp nw dn dl fa sa ca) {f : Int} {a : Nat} (hF : rv_F tp pl na wa oa tr br M0 f a M) (hQ : ∀ M', rc_F nw sp dn dl M' → rc_fr x tp dl fa sa ca tr br pl wa oa M0 M' → rc_fq tp nw sp M0 M' → Q (some (.inl (rv_vf a))) G M') : ∀ cb sb, wz (d + 8) mt_X11_contracts.2.2.2.2.1 Q (mt_X11_contracts.2.2.2.2.1.drop 17) [some (.inr (.inr (some x))), some (.inr (.inr (some dl)))] [] G M cb sb := by
  obtain ⟨⟨gtp, gbc, gpl, gna, gta, gba, gwa, goa, gtr, gbr, itr, ibr, r1, r2, r3, r4, r5, r6, r7, r8, rb, rw0, n1, n2, hIw⟩, hT⟩ := id hA
  obtain ⟨⟨gx, gsp, gnw, hD, hsn⟩, x_x0, x_x1, x_x2, x_sp1, x_nw1, x_nw0⟩ := id hX
  obtain ⟨gdl, gfa, gsa, gca, -⟩ := id hD
  have hx : ∀ x ∈ [1002, 16100, 17100, 18100], x ≠ 1008 ∧ x ≠ 1004 ∧ x ≠ 29100 ∧ x ≠ 30100 ∧ x ≠ 26100 ∧ x ≠ 28100 := by decide
  obtain ⟨f2, f3, ⟨w1, w2, hfr⟩, f0⟩ := hF
  intro cb sb
  refine w_aln rfl ?_
  refine w_gr gx rfl (by decide) rfl ((hfr x 0 (fun e => absurd e.1 (hn_ne gx gtp (by decide)))).trans x_x0) ?_
  refine w_gi gtp rfl (by decide) rfl (f2) ?_
  refine w_ifne (fun c1 => ?_) (fun c1 => ?_)
  · skip
    refine w_aln rfl ?_
    refine w_aln rfl ?_
    refine w_gi gdl rfl (by decide) rfl (rfl) ?_
    refine w_cv (st := []) rfl gx rfl (Nat.le_of_ble_eq_true rfl) (fun kk h => h) ⟨Nat.le_of_ble_eq_true rfl, ?_⟩
    show wz (d + 7) mt_X11_closeTape.2.2.2.2.1 _ mt_X11_closeTape.2.2.2.2.1 [some (.inr (.inr (some x))), some (.inl (M.1 dl 3))] [] _ _ _ _
    refine w_aln rfl ?_
    refine w_gr gx rfl (by decide) rfl ((hfr x 0 (fun e => absurd e.1 (hn_ne gx gtp (by decide)))).trans x_x0) ?_
    refine w_ic ?_
    refine w_pi gtp rfl (by decide) rfl (fun q => by cases q) ?_
    refine w_aln rfl ?_
    refine w_aln rfl ?_
    refine w_gr gx rfl (by decide) rfl ((hfr x 0 (fun e => absurd e.1 (hn_ne gx gtp (by decide)))).trans x_x0) ?_
    refine w_gi gtp rfl (by decide) rfl ((hn_n (Or.inr (by decide))).trans (f2)) ?_
    refine w_pi gx rfl (by decide) rfl (fun q => by cases q) ?_
    refine w_aln rfl ?_
    refine w_gi gx rfl (by decide) rfl (hn_s) ?_
    refine w_ifne (fun c2 => ?_) (fun c2 => ?_)
    · skip
      refine w_ic ?_
      refine w_aln rfl ?_
      refine w_gr gx rfl (by decide) rfl ((hfr x 0 (fun e => absurd e.1 (hn_ne gx gtp (by decide)))).trans x_x0) ?_
      refine w_gi gtp rfl (by decide) rfl ((hn_n (Or.inr (by decide))).trans ((hn_n (Or.inr (by decide))).trans (f3))) ?_
      refine w_subw ?_
      intro z3 hz3 ez3
      refine w_iret (fun q => by cases q) ?_
      have ev : z3 = rv_vf a := ez3
      refine w_iret (fun q => by cases q) ?_
      rw [ev]
      exact hQ _ ⟨(hfr nw 1 (fun e => absurd e.1 (hn_ne gnw gtp (by decide)))).trans x_nw1, (hfr sp 1 (fun e => absurd e.1 (hn_ne gsp gtp (by decide)))).trans x_sp1⟩ (fun a a0 a1 a2 a3 a4 a5 a6 a7 a8 a9 b0 => (wz_c a0).trans ((wz_c a1).trans (w1 a a1 a6 a7 a8 a9 b0))) (fun a j h1 _ _ => hfr a j h1)
    · exfalso; omega
  · exfalso; omega
theorem rc_tl_O {G : mj_G} {M0 M : mj_M} {B : Nat → Int} {n lim tp bc pl na ta ba wa oa : Nat} {tr br : Nat → Nat} {T : Nat → Nat × Nat × Int × List Int × Nat} {Q : mj_P} {d : Nat} {x sp nw dn dl fa sa ca : Nat} (hA : rv_AT G M0 B n lim tp bc pl na ta ba wa oa tr br T) (hX : rc_X G M0 x tp pl sp nw dn dl fa sa ca) {PL WA OA : Nat → Int} {TO BI : Nat → Nat → Int} {nm : Nat → List Int} {t : Nat × Nat × Int × List Int × Nat} {R : Nat → Int} {r : Nat} (hS : rv_S G M0 n lim tp pl na wa oa tr br t PL WA OA TO BI nm M) (hR : rv_DR M0 fa sa ca R) (h3 : M0.1 dl 3 = (r : Int)) (hQ : ∀ M', rc_O nw sp dn dl fa sa ca R r M' → rc_fr x tp dl fa sa ca tr br pl wa oa M0 M' → rc_fq tp nw sp M0 M' → Q (some (.inl (r : Int))) G M') : ∀ cb sb, wz (d + 8) mt_X11_contracts.2.2.2.2.1 Q (mt_X11_contracts.2.2.2.2.1.drop 17) [some (.inr (.inr (some x))), some (.inr (.inr (some dl)))] [] G M cb sb := by
  obtain ⟨⟨gtp, gbc, gpl, gna, gta, gba, gwa, goa, gtr, gbr, itr, ibr, r1, r2, r3, r4, r5, r6, r7, r8, rb, rw0, n1, n2, hIw⟩, hT⟩ := id hA
  obtain ⟨⟨gx, gsp, gnw, hD, hsn⟩, x_x0, x_x1, x_x2, x_sp1, x_nw1, x_nw0⟩ := id hX
  obtain ⟨gdl, gfa, gsa, gca, -⟩ := id hD
  have hx : ∀ x ∈ [1002, 16100, 17100, 18100], x ≠ 1008 ∧ x ≠ 1004 ∧ x ≠ 29100 ∧ x ≠ 30100 ∧ x ≠ 26100 ∧ x ≠ 28100 := by decide
  have hfr := hS.2.2.2.2.2.2.2.2.2.2
  have f2 := hS.1.2.2
  have w1 := hS.2.2.2.2.2.2.2.2.1
  have e3 := (congrFun (rv_S.fx hA hS gdl (hx _ (by decide))) 3).trans h3
  have efa := rv_S.fx hA hS gfa (hx _ (by decide))
  have esa := rv_S.fx hA hS gsa (hx _ (by decide))
  have eca := rv_S.fx hA hS gca (hx _ (by decide))
  intro cb sb
  refine w_aln rfl ?_
  refine w_gr gx rfl (by decide) rfl ((hfr x 0 (fun e => absurd e.1 (hn_ne gx gtp (by decide)))).trans x_x0) ?_
  refine w_gi gtp rfl (by decide) rfl (f2) ?_
  refine w_ifne (fun c1 => ?_) (fun c1 => ?_)
  · exfalso; omega
  · skip
    refine w_aln rfl ?_
    refine w_gr gx rfl (by decide) rfl ((hfr x 2 (fun e => absurd e.1 (hn_ne gx gtp (by decide)))).trans x_x2) ?_
    refine w_aln rfl ?_
    refine w_gr gx rfl (by decide) rfl ((hfr x 1 (fun e => absurd e.1 (hn_ne gx gtp (by decide)))).trans x_x1) ?_
    refine w_gr gnw rfl (by decide) rfl ((hfr nw 1 (fun e => absurd e.1 (hn_ne gnw gtp (by decide)))).trans x_nw1) ?_
    refine w_pr gsp rfl (by decide) rfl ?_
    refine w_aln rfl ?_
    refine w_gr gx rfl (by decide) rfl ((wz_nr (Or.inl (hn_ne gx gsp (by decide)))).trans ((hfr x 1 (fun e => absurd e.1 (hn_ne gx gtp (by decide)))).trans x_x1)) ?_
    refine w_aln rfl ?_
    refine w_pr gnw rfl (by decide) rfl ?_
    refine w_aln rfl ?_
    refine w_aln rfl ?_
    refine w_gi gdl rfl (by decide) rfl (e3) ?_
    refine w_cv (st := []) rfl gx rfl (Nat.le_of_ble_eq_true rfl) (fun kk h => h) ⟨Nat.le_of_ble_eq_true rfl, ?_⟩
    show wz (d + 7) mt_X11_closeTape.2.2.2.2.1 _ mt_X11_closeTape.2.2.2.2.1 [some (.inr (.inr (some x))), some (.inl (r : Int))] [] _ _ _ _
    refine w_aln rfl ?_
    refine w_gr gx rfl (by decide) rfl ((wz_nr (Or.inr (by decide))).trans ((wz_nr (Or.inr (by decide))).trans ((hfr x 0 (fun e => absurd e.1 (hn_ne gx gtp (by decide)))).trans x_x0))) ?_
    refine w_ic ?_
    refine w_pi gtp rfl (by decide) rfl (fun q => by cases q) ?_
    refine w_aln rfl ?_
    refine w_aln rfl ?_
    refine w_gr gx rfl (by decide) rfl ((wz_nr (Or.inr (by decide))).trans ((wz_nr (Or.inr (by decide))).trans ((hfr x 0 (fun e => absurd e.1 (hn_ne gx gtp (by decide)))).trans x_x0))) ?_
    refine w_gi gtp rfl (by decide) rfl ((hn_n (Or.inr (by decide))).trans (f2)) ?_
    refine w_pi gx rfl (by decide) rfl (fun q => by cases q) ?_
    refine w_aln rfl ?_
    refine w_gi gx rfl (by decide) rfl (hn_s) ?_
    refine w_ifne (fun c2 => ?_) (fun c2 => ?_)
    · exfalso; omega
    · skip
      refine w_iln rfl ?_
      refine w_goto ?_
      refine w_iret (fun q => by cases q) ?_
      exact w_iret (fun q => by cases q) (hQ _ ⟨wz_sr, (wz_nr (Or.inl (hsn))).trans (wz_sr), fun j hj => ⟨(congrFun ((wz_c (hn_ne gfa gx (by decide))).trans ((wz_c (hn_ne gfa gtp (by decide))).trans (efa))) j).trans (hR j hj).1, (congrFun ((wz_c (hn_ne gsa gx (by decide))).trans ((wz_c (hn_ne gsa gtp (by decide))).trans (esa))) j).trans (hR j hj).2.1, (congrFun ((wz_c (hn_ne gca gx (by decide))).trans ((wz_c (hn_ne gca gtp (by decide))).trans (eca))) j).trans (hR j hj).2.2⟩, (hn_n (Or.inr (by decide))).trans ((hn_n (Or.inr (by decide))).trans (e3))⟩ (fun a a0 a1 a2 a3 a4 a5 a6 a7 a8 a9 b0 => (wz_c a0).trans ((wz_c a1).trans (w1 a a1 a6 a7 a8 a9 b0))) (fun a j h1 h2 h3 => (wz_nr (by omega)).trans ((wz_nr (by omega)).trans (hfr a j h1))))
theorem rc_fr.tr {x tp dl fa sa ca : Nat} {tr br : Nat → Nat} {pl wa oa : Nat} {M0 M M' : mj_M} (h : rv_dfo dl fa sa ca M0 M) (h2 : rc_fr x tp dl fa sa ca tr br pl wa oa M M') : rc_fr x tp dl fa sa ca tr br pl wa oa M0 M' := fun a a0 a1 a2 a3 a4 a5 a6 a7 a8 a9 b0 => (h2 a a0 a1 a2 a3 a4 a5 a6 a7 a8 a9 b0).trans (h.1 a a2 a3 a4 a5)
theorem rc_fq.tr {tp nw sp dl fa sa ca : Nat} {M0 M M' : mj_M} (h : rv_dfo dl fa sa ca M0 M) (h2 : rc_fq tp nw sp M M') : rc_fq tp nw sp M0 M' := fun a j h3 h4 h5 => (h2 a j h3 h4 h5).trans (by rw [h.2])
theorem rc_X.mv {G : mj_G} {M M' : mj_M} {x tp pl sp nw dn dl fa sa ca : Nat} (h : rc_X G M x tp pl sp nw dn dl fa sa ca) (e : M'.2 = M.2) : rc_X G M' x tp pl sp nw dn dl fa sa ca := by unfold rc_X rv_D at *; rw [e]; exact h
theorem r_X11_contracts {G : mj_G} {M : mj_M} {B : Nat → Int} {n tp bc pl na ta ba wa oa : Nat} {tr br : Nat → Nat} {T : Nat → Nat × Nat × Int × List Int × Nat} {Q : mj_P} {d : Nat} {x sp nw dn dl fa sa ca : Nat} {nm : Nat → List Int} (hA : rv_AT G M B n 400 tp bc pl na ta ba wa oa tr br T) (hX : rc_X G M x tp pl sp nw dn dl fa sa ca) (hn : M.1 tp 1 = (n : Int)) (hN : ∀ s, s < 8 → M.2.1 na s = rv_5 (nm s) ∧ rv_wo (nm s)) (hb : rv_pb (M.1 pl)) (h : sp_deals T nm (M.1 pl 4) (fun f a => ∀ M', rc_F nw sp dn dl M' → rc_fr x tp dl fa sa ca tr br pl wa oa M M' → rc_fq tp nw sp M M' → Q (some (.inl (rv_vf a))) G M') (fun R r => rv_db (M.1 pl 4) R → ∀ M', rc_O nw sp dn dl fa sa ca R r M' → rc_fr x tp dl fa sa ca tr br pl wa oa M M' → rc_fq tp nw sp M M' → Q (some (.inl (r : Int))) G M') (n + 1) (fun _ => 0) 0 0) : mj_R mj_tab (d + 9) 117 [.inr (.inr (some x))] G M Q := by
  obtain ⟨⟨gtp, gbc, gpl, gna, gta, gba, gwa, goa, gtr, gbr, itr, ibr, r1, r2, r3, r4, r5, r6, r7, r8, rb, rw0, n1, n2, hIw⟩, hT⟩ := id hA
  obtain ⟨⟨gx, gsp, gnw, hD, hsn⟩, x_x0, x_x1, x_x2, x_sp1, x_nw1, x_nw0⟩ := id hX
  obtain ⟨gdl, gfa, gsa, gca, -⟩ := id hD
  refine ⟨Nat.le_of_ble_eq_true rfl, ?_⟩
  show wz (d + 8) mt_X11_contracts.2.2.2.2.1 Q mt_X11_contracts.2.2.2.2.1 [some (.inr (.inr (some x))), none] [] G M _ _
  refine w_aln rfl ?_
  refine w_gr gx rfl (by decide) rfl x_x2 ?_
  refine w_gr gsp rfl (by decide) rfl x_sp1 ?_
  refine w_asn ?_
  show wz _ _ _ _ [some (.inr (.inr (some x))), some (.inr (.inr (some dl)))] _ _ _ _ _
  refine w_aln rfl ?_
  refine w_cv (st := []) rfl gdl rfl (Nat.le_of_ble_eq_true rfl) (fun kk h => h) (r_X1_clear (d := d + 7) hD (fun M1 u2 u1 uz u3 => ?_))
  have o1 : rv_dfo dl fa sa ca M M1 := ⟨u1, u2⟩
  have A1 := hA.dfo hD o1
  have X1 := hX.mv u2
  have tpf : M1.1 tp = M.1 tp := u1 tp (hn_ne gtp gdl (by decide)) (hn_ne gtp gfa (by decide)) (hn_ne gtp gsa (by decide)) (hn_ne gtp gca (by decide))
  have plf : M1.1 pl = M.1 pl := u1 pl (hn_ne gpl gdl (by decide)) (hn_ne gpl gfa (by decide)) (hn_ne gpl gsa (by decide)) (hn_ne gpl gca (by decide))
  refine w_aln rfl ?_
  refine w_gr gx rfl (by decide) rfl (by rw [u2]; exact x_x0) ?_
  refine w_sp ?_
  refine w_cv (st := []) rfl gtp rfl (Nat.le_of_ble_eq_true rfl) (fun kk h => h) ⟨Nat.le_of_ble_eq_true rfl, ?_⟩
  show wz (d + 7) mt_X7_open.2.2.2.2.1 _ mt_X7_open.2.2.2.2.1 [some (.inr (.inr (some tp))), some (.inl 400)] [] _ _ _ _
  refine w_aln rfl ?_
  refine w_iln rfl ?_
  refine w_pi gtp rfl (by decide) rfl (fun q => by cases q) ?_
  refine w_aln rfl ?_
  refine w_ic ?_
  refine w_pi gtp rfl (by decide) rfl (fun q => by cases q) ?_
  refine w_aln rfl ?_
  refine w_ic ?_
  refine w_pi gtp rfl (by decide) rfl (fun q => by cases q) ?_
  refine w_aln rfl ?_
  refine w_ic ?_
  refine w_pi gtp rfl (by decide) rfl (fun q => by cases q) ?_
  refine w_ret ?_
  refine w_aln rfl ?_
  refine w_aln rfl ?_
  refine w_gr gx rfl (by decide) rfl (by show M1.2.2 x 0 = _; rw [u2]; exact x_x0) ?_
  refine w_aln rfl ?_
  refine w_gr gx rfl (by decide) rfl (by show M1.2.2 x 1 = _; rw [u2]; exact x_x1) ?_
  refine w_gr gnw rfl (by decide) rfl (by show M1.2.2 nw 0 = _; rw [u2]; exact x_nw0) ?_
  have e4 : ∀ b, b ≠ tp → (mj_p0 (mj_p0 (mj_p0 (mj_p0 M1 tp 10 400) tp 11 0) tp 2 0) tp 3 0).1 b = M1.1 b := fun b hb => (wz_c hb).trans ((wz_c hb).trans ((wz_c hb).trans (wz_c hb)))
  have S0 : rv_S0 G M1 n 400 tp pl na wa oa tr br 0 (M.1 pl) (M1.1 wa) (M1.1 oa) (fun s => M1.1 (tr s)) (fun s => M1.1 (br s)) nm (mj_p0 (mj_p0 (mj_p0 (mj_p0 M1 tp 10 400) tp 11 0) tp 2 0) tp 3 0) := ⟨⟨(hn_n (Or.inr (by decide))).trans ((hn_n (Or.inr (by decide))).trans ((hn_n (Or.inr (by decide))).trans ((hn_n (Or.inr (by decide))).trans ((congrFun tpf 1).trans hn)))), (hn_n (Or.inr (by decide))).trans ((hn_n (Or.inr (by decide))).trans ((hn_n (Or.inr (by decide))).trans hn_s)), (hn_n (Or.inr (by decide))).trans hn_s⟩, (hn_n (Or.inr (by decide))).trans ((hn_n (Or.inr (by decide))).trans hn_s), (e4 pl (hn_ne gpl gtp (by decide))).trans plf, e4 wa (hn_ne gwa gtp (by decide)), e4 oa (hn_ne goa gtp (by decide)), fun s hs => e4 _ (hn_ne (gtr s hs) gtp (by decide)), fun s hs => e4 _ (hn_ne (gbr s hs) gtp (by decide)), fun s hs => ⟨by show M1.2.1 na s = _; rw [u2]; exact (hN s hs).1, (hN s hs).2⟩, fun a a1 a2 a3 a4 a5 a6 => e4 a a1, fun a a1 _ => rfl, fun a j _ => rfl⟩
  have R1 : rv_DR M1 fa sa ca (fun _ => 0) := fun j hj => ⟨(uz j hj).1, (uz j hj).2.1, (uz j hj).2.2⟩
  refine w_cv (st := []) rfl gdl rfl (Nat.le_of_ble_eq_true rfl) (fun kk h => h) (r_X1_readRows (d := d) hb A1 (hD.mv u2) S0 R1 (fun j _ => Or.inl ⟨rfl, rfl, rfl⟩) rfl u3 (sp_deals.mono (fun f a hf M2 M3 o2 F => ?_) (fun R r hk hdb M2 M3 q2 A2 o2 s2 dR d3 => ?_) _ _ _ _ h))
  · exact rc_tl_F (A1.dfo (hD.mv u2) o2) (X1.mv o2.2) F (fun M' a b c => hf M' a (b.tr (o1.trans o2)) (c.tr (o1.trans o2))) _ _
  · exact rc_tl_O A2 (X1.mv o2.2) s2 dR d3 (fun M' a b c => hk hdb M' a (b.tr (o1.trans o2)) (c.tr (o1.trans o2))) _ _
end
section
/-! ===== the reference reads CONTRACTS (laid by a program) ===== -/
def rq_do (rd : Nat) (M0 M : mj_M) : Prop := (∀ a, a ≠ rd → M.1 a = M0.1 a) ∧ M.2 = M0.2
theorem rq_do.refl {rd : Nat} {M0 : mj_M} : rq_do rd M0 M0 := ⟨fun _ _ => rfl, rfl⟩
theorem rq_do.trans {rd : Nat} {M0 M1 M2 : mj_M} (h1 : rq_do rd M0 M1) (h2 : rq_do rd M1 M2) : rq_do rd M0 M2 := ⟨fun a h => (h2.1 a h).trans (h1.1 a h), h2.2.trans h1.2⟩
theorem rq_do.put {rd j : Nat} {v : Int} {M0 M1 : mj_M} (h : rq_do rd M0 M1) : rq_do rd M0 (mj_p0 M1 rd j v) := ⟨fun a ha => (wz_c ha).trans (h.1 a ha), h.2⟩
theorem rq_36 {f R : Nat → Int} {j : Nat} {v : Int} (h : ∀ k, k < 36 → f k = R k) : ∀ k, k < 36 → rv_up f j v k = rv_up R j v k := fun k hk => by
  unfold rv_up
  split
  · rfl
  · exact h k hk
theorem rq_put36 {M : mj_M} {rd j : Nat} {v : Int} {R : Nat → Int} (h : ∀ k, k < 36 → M.1 rd k = R k) : ∀ k, k < 36 → (mj_p0 M rd j v).1 rd k = rv_up R j v k := by
  rw [wz_u]; exact rq_36 h
theorem rq_A.do {G : mj_G} {M0 M1 : mj_M} {B : Nat → Int} {n lim m bt ns rs rd : Nat} {T : Nat → Nat × Nat × Int × List Int × Nat} (hB : rq_A G M0 B n lim m bt ns rs T) (grd : G rd = (53100, 135)) (h : rq_do rd M0 M1) : rq_A G M1 B n lim m bt ns rs T := by
  obtain ⟨⟨gm, gbt, gns, grs, r1, r9, r10, rb, rr, n1, n2, m3, m5⟩, hT⟩ := id hB
  exact ⟨⟨gm, gbt, gns, grs, by rw [h.2]; exact r1, by rw [h.2]; exact r9, by rw [h.2]; exact r10, fun k => by rw [h.1 bt (hn_ne gbt grd (by decide))]; exact rb k, fun k hk => by rw [h.2]; exact rr k hk, n1, n2, by rw [h.1 m (hn_ne gm grd (by decide))]; exact m3, by rw [h.1 m (hn_ne gm grd (by decide))]; exact m5⟩, hT⟩
set_option maxHeartbeats 4000000 in
theorem rq_dR_10 {G : mj_G} {M0 M : mj_M} {B : Nat → Int} {n lim m bt ns rs sx rd : Nat} {T : Nat → Nat × Nat × Int × List Int × Nat} {nm : Nat → List Int} {c0 : Int} {R : Nat → Int} {Q : mj_P} {d q : Nat} (hB : rq_A G M0 B n lim m bt ns rs T) (hS : rq_S M0 m (T q) M) (hqn : q ≤ n) (gsx : G sx = (51100, 537)) (grd : G rd = (53100, 135)) (r6 : M0.2.2 m 6 = some sx) (r8 : M0.2.2 m 8 = some rd) (c1_ : 0 ≤ c0) (c2_ : c0 ≤ 8) (hc0 : M0.1 sx 0 = c0) (hN : ∀ k : Nat, (k : Int) < c0 → M0.2.1 ns k = rv_8 (nm k) ∧ rv_wo (nm k)) (hRd : ∀ k, k < 36 → M0.1 rd k = R k) (hdb : rv_db c0 R) (hk1 : (T q).1 = 1) (hj : rv_rs.getD 10 [] = (T q).2.2.2.1) (h : sp_dlet T nm c0 R q (fun f a => ∀ M0' M', rq_do rd M0 M0' → rq_F M0' m f a M' → Q (some (.inl 0)) G M') (fun R' q' => q ≤ q' → q' ≤ n → rv_db c0 R' → rv_cn R' 12 = rv_cn R 12 + 1 → ∀ M0' M', rq_do rd M0 M0' → rq_S M0' m (T (rv_x T q')) M' → (∀ k, k < 36 → M0'.1 rd k = R' k) → Q (some (.inl 1)) G M')) : mj_R mj_tab (d + 5) 180 [.inr (.inr (some m))] G M Q := by
  obtain ⟨⟨gm, gbt, gns, grs, r1, r9, r10, rb, rr, n1, n2, m3, m5⟩, hT⟩ := id hB
  unfold sp_dlet at h
  have hge : ∀ k, k < 12 → 0 ≤ R (3 * k) := fun k hk => by rcases hdb k hk with e | e | e <;> omega
  refine ⟨Nat.le_of_ble_eq_true rfl, ?_⟩
  show wz (d + 4) mt_X12_dealRow.2.2.2.2.1 Q mt_X12_dealRow.2.2.2.2.1 [some (.inr (.inr (some m))), none, none, none, none] [] G M _ _
  refine w_aln rfl ?_
  refine w_l2 ?_
  refine w_cv (st := []) rfl gm rfl (Nat.le_of_ble_eq_true rfl) (fun kk h => h) (rq_isWord1 (d := d + 3) (i := 10) hB hS hqn (by decide) (by decide +kernel) ⟨hk1, hj⟩ ?_)
  refine w_isn ?_
  show wz _ _ _ _ [some (.inr (.inr (some m))), some (.inl 1), none, none, none] _ _ _ _ _
  refine w_iln rfl ?_
  refine w_ifne (fun c1 => ?_) (fun c1 => ?_)
  · skip
    refine w_aln rfl ?_
    refine w_cv (st := []) rfl gm rfl (Nat.le_of_ble_eq_true rfl) (fun kk h => h) (rq_nxtT (d := d + 2) hB hS (by omega) (by omega) hqn (fun Ms2 s2 gs2 => ?_))
    refine w_aln rfl ?_
    have t3 := rv_tkc_f (rq_y_w hB (rq_y_le hB hqn)).1
    refine w_gi gm rfl (by decide) rfl (s2.1.1) ?_
    refine w_ic ?_
    refine w_cmeq (fun c4 => ?_) (fun c4 => ?_)
    · skip
      refine w_aln rfl ?_
      have nn5 := s2.1.2.2.2.1 (by omega)
      refine w_gi gm rfl (by decide) rfl ((s2.1.2.2.2.1 (by omega)).1) ?_
      refine w_bp ?_
      refine w_cmle (fun c6 => ?_) (fun c6 => ?_)
      · skip
        refine w_ic ?_
        refine w_aln rfl ?_
        have nn7 := s2.1.2.2.2.1 (by omega)
        refine w_gi gm rfl (by decide) rfl ((s2.1.2.2.2.1 (by omega)).1) ?_
        refine w_mul ⟨by show (-2147483648 : Int) ≤ 3 * ((T (rv_x T q)).2.2.1); omega, by show 3 * ((T (rv_x T q)).2.2.1) < (2147483648 : Int); omega⟩ ?_
        refine w_isn ?_
        show wz _ _ _ _ [some (.inr (.inr (some m))), some (.inl 1), some (.inl (3 * ((T (rv_x T q)).2.2.1))), none, none] _ _ _ _ _
        refine w_aln rfl ?_
        refine w_gr gm rfl (by decide) rfl ((congrFun (congrFun s2.2.2.2.1 m) 8).trans r8) ?_
        refine w_iln rfl ?_
        have g8 := hge ((T (rv_x T q)).2.2.1).toNat (by omega)
        refine w_iald (v := (R (3 * ((T (rv_x T q)).2.2.1).toNat))) grd rfl (by show (0 : Int) ≤ 3 * ((T (rv_x T q)).2.2.1); omega) (by show 3 * ((T (rv_x T q)).2.2.1) < ((135 : Nat) : Int); omega) (by rw [show (3 * ((T (rv_x T q)).2.2.1)).toNat = 3 * ((T (rv_x T q)).2.2.1).toNat by omega, congrFun (s2.2.1 rd (hn_ne grd gm (by decide))) _]; exact hRd _ (by omega)) ?_
        refine w_ifle (fun c9 => ?_) (fun c9 => ?_)
        · skip
          refine w_aln rfl ?_
          refine w_cv (st := []) rfl gm rfl (Nat.le_of_ble_eq_true rfl) (fun kk h => h) (rq_nxtT (d := d + 2) hB s2 (by omega) (by omega) (rq_y_le hB hqn) (fun Ms10 s10 gs10 => ?_))
          refine w_iln rfl ?_
          refine w_ifne (fun c11 => ?_) (fun c11 => ?_)
          · skip
            refine w_aln rfl ?_
            have h12 := h.1 (by omega)
            clear h
            have h13 := h12.1 (by omega)
            clear h12
            have h14 := h13.1 (by omega)
            clear h13
            have h15 := h14.1 (by omega)
            clear h14
            refine w_cv (st := []) rfl gm rfl (Nat.le_of_ble_eq_true rfl) (fun kk h => h) (rq_isName (d := d + 3) hB s10 (rq_y_le hB (rq_y_le hB hqn)) (fun bk16 ck16 => ?_) (fun ck16 => ?_))
            · skip
              have hvk16 := (h15.1 bk16).1 ck16
              refine w_ifne (fun c17 => ?_) (fun c17 => ?_)
              · skip
                refine w_aln rfl ?_
                refine w_ic ?_
                refine w_aln rfl ?_
                refine w_gr gm rfl (by decide) rfl ((congrFun (congrFun s10.2.2.2.1 m) 6).trans r6) ?_
                refine w_ic ?_
                refine w_iald (v := c0) gsx rfl (by show (0 : Int) ≤ 0; omega) (by show 0 < ((537 : Nat) : Int); omega) ((congrFun (s10.2.1 sx (hn_ne gsx gm (by decide))) 0).trans hc0) ?_
                refine w_cv (st := []) rfl gm rfl (Nat.le_of_ble_eq_true rfl) (fun kk h => h) (rq_find (M0 := M0) (d := d + 3) c1_ c2_ hN hB s10 (by omega) (rq_y_wo hB (rq_y_le hB (rq_y_le hB hqn)) (by omega)) (sp_find.mono hvk16 (fun rk18 lk18 ck18 mk18 hvk18 => ?_) (fun mk18 hvk18 => ?_)))
                · skip
                  refine w_isn ?_
                  show wz _ _ _ _ [some (.inr (.inr (some m))), some (.inl 1), some (.inl (3 * ((T (rv_x T q)).2.2.1))), some (.inl ((rk18 : Nat) : Int)), none] _ _ _ _ _
                  refine w_iln rfl ?_
                  refine w_ifge (fun c19 => ?_) (fun c19 => ?_)
                  · skip
                    refine w_aln rfl ?_
                    refine w_gr gm rfl (by decide) rfl ((congrFun (congrFun s10.2.2.2.1 m) 8).trans r8) ?_
                    refine w_iln rfl ?_
                    refine w_iln rfl ?_
                    refine w_ic ?_
                    refine w_add ⟨by show (-2147483648 : Int) ≤ ((rk18 : Nat) : Int) + 1; omega, by show ((rk18 : Nat) : Int) + 1 < (2147483648 : Int); omega⟩ ?_
                    refine w_iast grd rfl (by decide) (by show (0 : Int) ≤ 3 * ((T (rv_x T q)).2.2.1); omega) (by show 3 * ((T (rv_x T q)).2.2.1) < ((135 : Nat) : Int); omega) ?_
                    rw [show (3 * ((T (rv_x T q)).2.2.1)).toNat = 3 * ((T (rv_x T q)).2.2.1).toNat by omega]
                    have B20 := hB.put (a := rd) (j := (3 * ((T (rv_x T q)).2.2.1).toNat)) (v := ((rk18 : Nat) : Int) + 1) (hn_ne grd gm (by decide)) (hn_ne grd gbt (by decide))
                    have s21 := s10.put (a := rd) (j := (3 * ((T (rv_x T q)).2.2.1).toNat)) (v := ((rk18 : Nat) : Int) + 1) (hn_ne grd gm (by decide))
                    refine w_aln rfl ?_
                    refine w_cv (st := []) rfl gm rfl (Nat.le_of_ble_eq_true rfl) (fun kk h => h) (rq_nxtT (d := d + 2) B20 s21 (by omega) (by omega) (rq_y_le hB (rq_y_le hB hqn)) (fun Ms22 s22 gs22 => ?_))
                    refine w_aln rfl ?_
                    have t23 := rv_tkc_f (rq_y_w hB (rq_y_le hB (rq_y_le hB (rq_y_le hB hqn)))).1
                    refine w_gi gm rfl (by decide) rfl (s22.1.1) ?_
                    refine w_ic ?_
                    refine w_cmne (fun c24 => ?_) (fun c24 => ?_)
                    · skip
                      refine w_aln rfl ?_
                      refine w_ic ?_
                      refine w_sp ?_
                      have h25 := hvk18.2 (by omega)
                      clear hvk18
                      have h26 := h25.2 (by omega)
                      clear h25
                      refine w_cv (st := []) rfl gm rfl (Nat.le_of_ble_eq_true rfl) (fun kk h => h) (rq_takes (d := d + 1) B20 s22 (rq_y_le hB (rq_y_le hB (rq_y_le hB hqn))) (sp_num.mono h26 (fun fk27 ak27 hfk27 => ?_) (fun bk27 ck27 ek27 hvk27 => ?_)))
                      · skip
                        intro Mk27 Fk27
                        refine w_ifne (fun c28 => ?_) (fun c28 => ?_)
                        · exfalso; omega
                        · skip
                          refine w_ic ?_
                          exact w_iret (fun _ => Or.inl rfl) (hfk27 _ _ (rq_do.refl).put Fk27)
                      · skip
                        intro Mk27 sk27 gk27
                        refine w_ifne (fun c29 => ?_) (fun c29 => ?_)
                        · skip
                          refine w_aln rfl ?_
                          refine w_gr gm rfl (by decide) rfl ((congrFun (congrFun sk27.2.2.2.1 m) 8).trans r8) ?_
                          refine w_iln rfl ?_
                          refine w_ic ?_
                          refine w_add ⟨by show (-2147483648 : Int) ≤ (3 * ((T (rv_x T q)).2.2.1)) + 2; omega, by show (3 * ((T (rv_x T q)).2.2.1)) + 2 < (2147483648 : Int); omega⟩ ?_
                          refine w_aln rfl ?_
                          refine w_gi gm rfl (by decide) rfl (gk27) ?_
                          refine w_iast grd rfl (by decide) (by show (0 : Int) ≤ (3 * ((T (rv_x T q)).2.2.1)) + 2; omega) (by show (3 * ((T (rv_x T q)).2.2.1)) + 2 < ((135 : Nat) : Int); omega) ?_
                          rw [show ((3 * ((T (rv_x T q)).2.2.1)) + 2).toNat = 3 * ((T (rv_x T q)).2.2.1).toNat + 2 by omega]
                          have B30 := B20.put (a := rd) (j := (3 * ((T (rv_x T q)).2.2.1).toNat + 2)) (v := (T (rv_x T (rv_x T (rv_x T q)))).2.2.1) (hn_ne grd gm (by decide)) (hn_ne grd gbt (by decide))
                          have s31 := sk27.put (a := rd) (j := (3 * ((T (rv_x T q)).2.2.1).toNat + 2)) (v := (T (rv_x T (rv_x T (rv_x T q)))).2.2.1) (hn_ne grd gm (by decide))
                          refine w_ic ?_
                          have h0 : R (3 * ((T (rv_x T q)).2.2.1).toNat) = 0 := by omega
                          have hz := hdb.z (j := ((T (rv_x T q)).2.2.1).toNat) (by omega) h0
                          have ht : rv_dt3 R (rv_up (rv_up R (3 * ((T (rv_x T q)).2.2.1).toNat) (((rk18 : Nat) : Int) + 1)) (3 * ((T (rv_x T q)).2.2.1).toNat + 2) (T (rv_x T (rv_x T (rv_x T q)))).2.2.1) ((T (rv_x T q)).2.2.1).toNat (((rk18 : Nat) : Int) + 1) 0 ((T (rv_x T (rv_x T (rv_x T q)))).2.2.1) := rv_dt3.eq (rv_dt3_2 (R := R) (j := ((T (rv_x T q)).2.2.1).toNat) hz.1) (by omega) (by omega) (by omega)
                          exact w_iret (fun _ => Or.inr rfl) (hvk27 (Nat.le_trans (Nat.le_trans (Nat.le_trans (Nat.le_refl q) (rq_y_ge hB hqn)) (rq_y_ge hB (rq_y_le hB hqn))) (rq_y_ge hB (rq_y_le hB (rq_y_le hB hqn)))) (rq_y_le hB (rq_y_le hB (rq_y_le hB hqn))) (hdb.set ht.1 (by rw [ht.2.1, ht.2.2.1, ht.2.2.2]; unfold rv_d3; omega)) ((rv_cn_set ht.1 h0 (by rw [ht.2.1]; omega) 12).trans (by rw [if_pos (by omega)])) _ _ ((rq_do.refl).put).put s31 (rq_put36 (rq_put36 hRd)))
                        · exfalso; omega
                    · skip
                      refine w_aln rfl ?_
                      have h32 := hvk18.2 (by omega)
                      clear hvk18
                      have h33 := h32.1 (by omega)
                      clear h32
                      refine w_cv (st := []) rfl gm rfl (Nat.le_of_ble_eq_true rfl) (fun kk h => h) (rq_isName (d := d + 3) B20 s22 (rq_y_le hB (rq_y_le hB (rq_y_le hB hqn))) (fun bk34 ck34 => ?_) (fun ck34 => ?_))
                      · skip
                        have hvk34 := (h33.1 bk34).1 ck34
                        refine w_ifne (fun c35 => ?_) (fun c35 => ?_)
                        · skip
                          refine w_aln rfl ?_
                          refine w_ic ?_
                          refine w_aln rfl ?_
                          refine w_gr gm rfl (by decide) rfl ((congrFun (congrFun s22.2.2.2.1 m) 6).trans r6) ?_
                          refine w_ic ?_
                          refine w_iald (v := c0) gsx rfl (by show (0 : Int) ≤ 0; omega) (by show 0 < ((537 : Nat) : Int); omega) (((congrFun (s22.2.1 sx (hn_ne gsx gm (by decide))) 0).trans (congrFun (wz_c (hn_ne gsx grd (by decide))) 0)).trans hc0) ?_
                          refine w_cv (st := []) rfl gm rfl (Nat.le_of_ble_eq_true rfl) (fun kk h => h) (rq_find (M0 := (mj_p0 M0 rd (3 * ((T (rv_x T q)).2.2.1).toNat) (((rk18 : Nat) : Int) + 1))) (d := d + 3) c1_ c2_ hN B20 s22 (by omega) (rq_y_wo hB (rq_y_le hB (rq_y_le hB (rq_y_le hB hqn))) (by omega)) (sp_find.mono hvk34 (fun rk36 lk36 ck36 mk36 hvk36 => ?_) (fun mk36 hvk36 => ?_)))
                          · skip
                            refine w_is ?_
                            show wz _ _ _ _ [some (.inr (.inr (some m))), some (.inl 1), some (.inl (3 * ((T (rv_x T q)).2.2.1))), some (.inl ((rk18 : Nat) : Int)), some (.inl ((rk36 : Nat) : Int))] _ _ _ _ _
                            refine w_il rfl ?_
                            refine w_iflt (fun c37 => ?_) (fun c37 => ?_)
                            · exfalso; omega
                            · skip
                              refine w_il rfl ?_
                              refine w_iln rfl ?_
                              refine w_cmne (fun c38 => ?_) (fun c38 => ?_)
                              · skip
                                refine w_aln rfl ?_
                                refine w_gr gm rfl (by decide) rfl ((congrFun (congrFun s22.2.2.2.1 m) 8).trans r8) ?_
                                refine w_iln rfl ?_
                                refine w_ic ?_
                                refine w_add ⟨by show (-2147483648 : Int) ≤ (3 * ((T (rv_x T q)).2.2.1)) + 1; omega, by show (3 * ((T (rv_x T q)).2.2.1)) + 1 < (2147483648 : Int); omega⟩ ?_
                                refine w_il rfl ?_
                                refine w_ic ?_
                                refine w_add ⟨by show (-2147483648 : Int) ≤ ((rk36 : Nat) : Int) + 1; omega, by show ((rk36 : Nat) : Int) + 1 < (2147483648 : Int); omega⟩ ?_
                                refine w_iast grd rfl (by decide) (by show (0 : Int) ≤ (3 * ((T (rv_x T q)).2.2.1)) + 1; omega) (by show (3 * ((T (rv_x T q)).2.2.1)) + 1 < ((135 : Nat) : Int); omega) ?_
                                rw [show ((3 * ((T (rv_x T q)).2.2.1)) + 1).toNat = 3 * ((T (rv_x T q)).2.2.1).toNat + 1 by omega]
                                have B39 := B20.put (a := rd) (j := (3 * ((T (rv_x T q)).2.2.1).toNat + 1)) (v := ((rk36 : Nat) : Int) + 1) (hn_ne grd gm (by decide)) (hn_ne grd gbt (by decide))
                                have s40 := s22.put (a := rd) (j := (3 * ((T (rv_x T q)).2.2.1).toNat + 1)) (v := ((rk36 : Nat) : Int) + 1) (hn_ne grd gm (by decide))
                                refine w_aln rfl ?_
                                refine w_cv (st := []) rfl gm rfl (Nat.le_of_ble_eq_true rfl) (fun kk h => h) (rq_nxtT (d := d + 2) B39 s40 (by omega) (by omega) (rq_y_le hB (rq_y_le hB (rq_y_le hB hqn))) (fun Ms41 s41 gs41 => ?_))
                                refine w_aln rfl ?_
                                refine w_ic ?_
                                refine w_sp ?_
                                have h42 := hvk36.2 (by omega)
                                clear hvk36
                                have h43 := h42.2 (by omega)
                                clear h42
                                refine w_cv (st := []) rfl gm rfl (Nat.le_of_ble_eq_true rfl) (fun kk h => h) (rq_takes (d := d + 1) B39 s41 (rq_y_le hB (rq_y_le hB (rq_y_le hB (rq_y_le hB hqn)))) (sp_num.mono h43 (fun fk44 ak44 hfk44 => ?_) (fun bk44 ck44 ek44 hvk44 => ?_)))
                                · skip
                                  intro Mk44 Fk44
                                  refine w_ifne (fun c45 => ?_) (fun c45 => ?_)
                                  · exfalso; omega
                                  · skip
                                    refine w_ic ?_
                                    exact w_iret (fun _ => Or.inl rfl) (hfk44 _ _ ((rq_do.refl).put).put Fk44)
                                · skip
                                  intro Mk44 sk44 gk44
                                  refine w_ifne (fun c46 => ?_) (fun c46 => ?_)
                                  · skip
                                    refine w_aln rfl ?_
                                    refine w_gr gm rfl (by decide) rfl ((congrFun (congrFun sk44.2.2.2.1 m) 8).trans r8) ?_
                                    refine w_iln rfl ?_
                                    refine w_ic ?_
                                    refine w_add ⟨by show (-2147483648 : Int) ≤ (3 * ((T (rv_x T q)).2.2.1)) + 2; omega, by show (3 * ((T (rv_x T q)).2.2.1)) + 2 < (2147483648 : Int); omega⟩ ?_
                                    refine w_aln rfl ?_
                                    refine w_gi gm rfl (by decide) rfl (gk44) ?_
                                    refine w_iast grd rfl (by decide) (by show (0 : Int) ≤ (3 * ((T (rv_x T q)).2.2.1)) + 2; omega) (by show (3 * ((T (rv_x T q)).2.2.1)) + 2 < ((135 : Nat) : Int); omega) ?_
                                    rw [show ((3 * ((T (rv_x T q)).2.2.1)) + 2).toNat = 3 * ((T (rv_x T q)).2.2.1).toNat + 2 by omega]
                                    have B47 := B39.put (a := rd) (j := (3 * ((T (rv_x T q)).2.2.1).toNat + 2)) (v := (T (rv_x T (rv_x T (rv_x T (rv_x T q))))).2.2.1) (hn_ne grd gm (by decide)) (hn_ne grd gbt (by decide))
                                    have s48 := sk44.put (a := rd) (j := (3 * ((T (rv_x T q)).2.2.1).toNat + 2)) (v := (T (rv_x T (rv_x T (rv_x T (rv_x T q))))).2.2.1) (hn_ne grd gm (by decide))
                                    refine w_ic ?_
                                    have h0 : R (3 * ((T (rv_x T q)).2.2.1).toNat) = 0 := by omega
                                    have ht : rv_dt3 R (rv_up (rv_up (rv_up R (3 * ((T (rv_x T q)).2.2.1).toNat) (((rk18 : Nat) : Int) + 1)) (3 * ((T (rv_x T q)).2.2.1).toNat + 1) (((rk36 : Nat) : Int) + 1)) (3 * ((T (rv_x T q)).2.2.1).toNat + 2) (T (rv_x T (rv_x T (rv_x T (rv_x T q))))).2.2.1) ((T (rv_x T q)).2.2.1).toNat (((rk18 : Nat) : Int) + 1) (((rk36 : Nat) : Int) + 1) ((T (rv_x T (rv_x T (rv_x T (rv_x T q))))).2.2.1) := rv_dt3.eq (rv_dt3_3 (R := R) (j := ((T (rv_x T q)).2.2.1).toNat)) (by omega) (by omega) (by omega)
                                    exact w_iret (fun _ => Or.inr rfl) (hvk44 (Nat.le_trans (Nat.le_trans (Nat.le_trans (Nat.le_trans (Nat.le_refl q) (rq_y_ge hB hqn)) (rq_y_ge hB (rq_y_le hB hqn))) (rq_y_ge hB (rq_y_le hB (rq_y_le hB hqn)))) (rq_y_ge hB (rq_y_le hB (rq_y_le hB (rq_y_le hB hqn))))) (rq_y_le hB (rq_y_le hB (rq_y_le hB (rq_y_le hB hqn)))) (hdb.set ht.1 (by rw [ht.2.1, ht.2.2.1, ht.2.2.2]; unfold rv_d3; omega)) ((rv_cn_set ht.1 h0 (by rw [ht.2.1]; omega) 12).trans (by rw [if_pos (by omega)])) _ _ (((rq_do.refl).put).put).put s48 (rq_put36 (rq_put36 (rq_put36 hRd))))
                                  · exfalso; omega
                              · skip
                                refine w_aln rfl ?_
                                refine w_ic ?_
                                have h50 := hvk36.2 (by omega)
                                clear hvk36
                                have h51 := h50.1 (by omega)
                                clear h50
                                refine w_cv (st := []) rfl gm rfl (Nat.le_of_ble_eq_true rfl) (fun kk h => h) (rq_bad (d := d + 3) B20 s22 (fun MF49 F49 => ?_))
                                exact w_iret (fun _ => Or.inl rfl) (h51 _ _ (rq_do.refl).put F49)
                          · skip
                            refine w_is ?_
                            show wz _ _ _ _ [some (.inr (.inr (some m))), some (.inl 1), some (.inl (3 * ((T (rv_x T q)).2.2.1))), some (.inl ((rk18 : Nat) : Int)), some (.inl (-1))] _ _ _ _ _
                            refine w_il rfl ?_
                            refine w_iflt (fun c52 => ?_) (fun c52 => ?_)
                            · skip
                              refine w_aln rfl ?_
                              refine w_ic ?_
                              have h54 := hvk36.1 (by omega)
                              clear hvk36
                              refine w_cv (st := []) rfl gm rfl (Nat.le_of_ble_eq_true rfl) (fun kk h => h) (rq_bad (d := d + 3) B20 s22 (fun MF53 F53 => ?_))
                              exact w_iret (fun _ => Or.inl rfl) (h54 _ _ (rq_do.refl).put F53)
                            · exfalso; omega
                        · exfalso; omega
                      · skip
                        have hvk34 := sp_nam.bad h33 ck34
                        refine w_ifne (fun c55 => ?_) (fun c55 => ?_)
                        · exfalso; omega
                        · skip
                          refine w_aln rfl ?_
                          refine w_ic ?_
                          refine w_cv (st := []) rfl gm rfl (Nat.le_of_ble_eq_true rfl) (fun kk h => h) (rq_bad (d := d + 3) B20 s22 (fun MF56 F56 => ?_))
                          exact w_iret (fun _ => Or.inl rfl) (hvk34 _ _ (rq_do.refl).put F56)
                  · exfalso; omega
                · skip
                  refine w_isn ?_
                  show wz _ _ _ _ [some (.inr (.inr (some m))), some (.inl 1), some (.inl (3 * ((T (rv_x T q)).2.2.1))), some (.inl (-1)), none] _ _ _ _ _
                  refine w_iln rfl ?_
                  refine w_ifge (fun c57 => ?_) (fun c57 => ?_)
                  · exfalso; omega
                  · skip
                    refine w_aln rfl ?_
                    refine w_ic ?_
                    have h59 := hvk18.1 (by omega)
                    clear hvk18
                    refine w_cv (st := []) rfl gm rfl (Nat.le_of_ble_eq_true rfl) (fun kk h => h) (rq_bad (d := d + 3) hB s10 (fun MF58 F58 => ?_))
                    exact w_iret (fun _ => Or.inl rfl) (h59 _ _ rq_do.refl F58)
              · exfalso; omega
            · skip
              have hvk16 := sp_nam.bad h15 ck16
              refine w_ifne (fun c60 => ?_) (fun c60 => ?_)
              · exfalso; omega
              · skip
                refine w_aln rfl ?_
                refine w_ic ?_
                refine w_cv (st := []) rfl gm rfl (Nat.le_of_ble_eq_true rfl) (fun kk h => h) (rq_bad (d := d + 3) hB s10 (fun MF61 F61 => ?_))
                exact w_iret (fun _ => Or.inl rfl) (hvk16 _ _ rq_do.refl F61)
          · exfalso; omega
        · skip
          refine w_aln rfl ?_
          refine w_ic ?_
          have h63 := h.1 (by omega)
          clear h
          have h64 := h63.1 (by omega)
          clear h63
          have h65 := h64.1 (by omega)
          clear h64
          have h66 := h65.2 (by omega)
          clear h65
          refine w_cv (st := []) rfl gm rfl (Nat.le_of_ble_eq_true rfl) (fun kk h => h) (rq_bad (d := d + 3) hB s2 (fun MF62 F62 => ?_))
          exact w_iret (fun _ => Or.inl rfl) (h66 _ _ rq_do.refl F62)
      · skip
        refine w_aln rfl ?_
        refine w_ic ?_
        have h68 := h.1 (by omega)
        clear h
        have h69 := h68.1 (by omega)
        clear h68
        have h70 := h69.2 (by omega)
        clear h69
        refine w_cv (st := []) rfl gm rfl (Nat.le_of_ble_eq_true rfl) (fun kk h => h) (rq_bad (d := d + 3) hB s2 (fun MF67 F67 => ?_))
        exact w_iret (fun _ => Or.inl rfl) (h70 _ _ rq_do.refl F67)
    · skip
      refine w_aln rfl ?_
      refine w_ic ?_
      have h72 := h.2 (by omega)
      clear h
      refine w_cv (st := []) rfl gm rfl (Nat.le_of_ble_eq_true rfl) (fun kk h => h) (rq_bad (d := d + 3) hB s2 (fun MF71 F71 => ?_))
      exact w_iret (fun _ => Or.inl rfl) (h72 _ _ rq_do.refl F71)
  · exfalso; omega
set_option maxHeartbeats 4000000 in
theorem rq_dR_11 {G : mj_G} {M0 M : mj_M} {B : Nat → Int} {n lim m bt ns rs sx rd : Nat} {T : Nat → Nat × Nat × Int × List Int × Nat} {nm : Nat → List Int} {c0 : Int} {R : Nat → Int} {Q : mj_P} {d q : Nat} (hB : rq_A G M0 B n lim m bt ns rs T) (hS : rq_S M0 m (T q) M) (hqn : q ≤ n) (gsx : G sx = (51100, 537)) (grd : G rd = (53100, 135)) (r6 : M0.2.2 m 6 = some sx) (r8 : M0.2.2 m 8 = some rd) (c1_ : 0 ≤ c0) (c2_ : c0 ≤ 8) (hc0 : M0.1 sx 0 = c0) (hN : ∀ k : Nat, (k : Int) < c0 → M0.2.1 ns k = rv_8 (nm k) ∧ rv_wo (nm k)) (hRd : ∀ k, k < 36 → M0.1 rd k = R k) (hdb : rv_db c0 R) (hk1 : (T q).1 = 1) (hj : rv_rs.getD 11 [] = (T q).2.2.2.1) (h : sp_dsea T nm c0 R q (fun f a => ∀ M0' M', rq_do rd M0 M0' → rq_F M0' m f a M' → Q (some (.inl 0)) G M') (fun R' q' => q ≤ q' → q' ≤ n → rv_db c0 R' → rv_cn R' 12 = rv_cn R 12 + 1 → ∀ M0' M', rq_do rd M0 M0' → rq_S M0' m (T (rv_x T q')) M' → (∀ k, k < 36 → M0'.1 rd k = R' k) → Q (some (.inl 1)) G M')) : mj_R mj_tab (d + 5) 180 [.inr (.inr (some m))] G M Q := by
  obtain ⟨⟨gm, gbt, gns, grs, r1, r9, r10, rb, rr, n1, n2, m3, m5⟩, hT⟩ := id hB
  unfold sp_dsea at h
  have hge : ∀ k, k < 12 → 0 ≤ R (3 * k) := fun k hk => by rcases hdb k hk with e | e | e <;> omega
  refine ⟨Nat.le_of_ble_eq_true rfl, ?_⟩
  show wz (d + 4) mt_X12_dealRow.2.2.2.2.1 Q mt_X12_dealRow.2.2.2.2.1 [some (.inr (.inr (some m))), none, none, none, none] [] G M _ _
  refine w_aln rfl ?_
  refine w_l2 ?_
  refine w_cv (st := []) rfl gm rfl (Nat.le_of_ble_eq_true rfl) (fun kk h => h) (rq_isWord0 (d := d + 3) (i := 10) hB hS hqn (by decide) (by decide +kernel) (fun e => absurd (rv_rs_i 10 (by decide) 11 (by decide) (e.2.trans hj.symm)) (by decide)) ?_)
  refine w_isn ?_
  show wz _ _ _ _ [some (.inr (.inr (some m))), some (.inl 0), none, none, none] _ _ _ _ _
  refine w_iln rfl ?_
  refine w_ifne (fun c1 => ?_) (fun c1 => ?_)
  · exfalso; omega
  · skip
    refine w_aln rfl ?_
    refine w_l2 ?_
    refine w_cv (st := []) rfl gm rfl (Nat.le_of_ble_eq_true rfl) (fun kk h => h) (rq_isWord1 (d := d + 3) (i := 11) hB hS hqn (by decide) (by decide +kernel) ⟨hk1, hj⟩ ?_)
    refine w_ifne (fun c2 => ?_) (fun c2 => ?_)
    · skip
      refine w_aln rfl ?_
      refine w_cv (st := []) rfl gm rfl (Nat.le_of_ble_eq_true rfl) (fun kk h => h) (rq_nxtT (d := d + 2) hB hS (by omega) (by omega) hqn (fun Ms3 s3 gs3 => ?_))
      refine w_aln rfl ?_
      have t4 := rv_tkc_f (rq_y_w hB (rq_y_le hB hqn)).1
      refine w_gi gm rfl (by decide) rfl (s3.1.1) ?_
      refine w_ic ?_
      refine w_cmeq (fun c5 => ?_) (fun c5 => ?_)
      · skip
        refine w_aln rfl ?_
        have nn6 := s3.1.2.2.2.1 (by omega)
        refine w_gi gm rfl (by decide) rfl ((s3.1.2.2.2.1 (by omega)).1) ?_
        refine w_bp ?_
        refine w_cmle (fun c7 => ?_) (fun c7 => ?_)
        · skip
          refine w_ic ?_
          refine w_aln rfl ?_
          have nn8 := s3.1.2.2.2.1 (by omega)
          refine w_gi gm rfl (by decide) rfl ((s3.1.2.2.2.1 (by omega)).1) ?_
          refine w_mul ⟨by show (-2147483648 : Int) ≤ 3 * ((T (rv_x T q)).2.2.1); omega, by show 3 * ((T (rv_x T q)).2.2.1) < (2147483648 : Int); omega⟩ ?_
          refine w_isn ?_
          show wz _ _ _ _ [some (.inr (.inr (some m))), some (.inl 0), some (.inl (3 * ((T (rv_x T q)).2.2.1))), none, none] _ _ _ _ _
          refine w_aln rfl ?_
          refine w_gr gm rfl (by decide) rfl ((congrFun (congrFun s3.2.2.2.1 m) 8).trans r8) ?_
          refine w_iln rfl ?_
          have g9 := hge ((T (rv_x T q)).2.2.1).toNat (by omega)
          refine w_iald (v := (R (3 * ((T (rv_x T q)).2.2.1).toNat))) grd rfl (by show (0 : Int) ≤ 3 * ((T (rv_x T q)).2.2.1); omega) (by show 3 * ((T (rv_x T q)).2.2.1) < ((135 : Nat) : Int); omega) (by rw [show (3 * ((T (rv_x T q)).2.2.1)).toNat = 3 * ((T (rv_x T q)).2.2.1).toNat by omega, congrFun (s3.2.1 rd (hn_ne grd gm (by decide))) _]; exact hRd _ (by omega)) ?_
          refine w_ifle (fun c10 => ?_) (fun c10 => ?_)
          · skip
            refine w_aln rfl ?_
            refine w_cv (st := []) rfl gm rfl (Nat.le_of_ble_eq_true rfl) (fun kk h => h) (rq_nxtT (d := d + 2) hB s3 (by omega) (by omega) (rq_y_le hB hqn) (fun Ms11 s11 gs11 => ?_))
            refine w_iln rfl ?_
            refine w_ifne (fun c12 => ?_) (fun c12 => ?_)
            · exfalso; omega
            · skip
              refine w_aln rfl ?_
              refine w_gr gm rfl (by decide) rfl ((congrFun (congrFun s11.2.2.2.1 m) 8).trans r8) ?_
              refine w_iln rfl ?_
              refine w_bp ?_
              refine w_iast grd rfl (by decide) (by show (0 : Int) ≤ 3 * ((T (rv_x T q)).2.2.1); omega) (by show 3 * ((T (rv_x T q)).2.2.1) < ((135 : Nat) : Int); omega) ?_
              rw [show (3 * ((T (rv_x T q)).2.2.1)).toNat = 3 * ((T (rv_x T q)).2.2.1).toNat by omega]
              have B13 := hB.put (a := rd) (j := (3 * ((T (rv_x T q)).2.2.1).toNat)) (v := 9) (hn_ne grd gm (by decide)) (hn_ne grd gbt (by decide))
              have s14 := s11.put (a := rd) (j := (3 * ((T (rv_x T q)).2.2.1).toNat)) (v := 9) (hn_ne grd gm (by decide))
              refine w_ic ?_
              have h15 := h.1 (by omega)
              clear h
              have h16 := h15.1 (by omega)
              clear h15
              have h17 := h16.1 (by omega)
              clear h16
              have h18 := h17.1 (by omega)
              clear h17
              have h0 : R (3 * ((T (rv_x T q)).2.2.1).toNat) = 0 := by omega
              have hz := hdb.z (j := ((T (rv_x T q)).2.2.1).toNat) (by omega) h0
              have ht : rv_dt3 R (rv_up R (3 * ((T (rv_x T q)).2.2.1).toNat) 9) ((T (rv_x T q)).2.2.1).toNat 9 0 0 := rv_dt3.eq (rv_dt3_1 (R := R) (j := ((T (rv_x T q)).2.2.1).toNat) hz.1 hz.2) (by omega) (by omega) (by omega)
              exact w_iret (fun _ => Or.inr rfl) (h18 (Nat.le_trans (Nat.le_refl q) (rq_y_ge hB hqn)) (rq_y_le hB hqn) (hdb.set ht.1 (by rw [ht.2.1, ht.2.2.1, ht.2.2.2]; unfold rv_d3; omega)) ((rv_cn_set ht.1 h0 (by rw [ht.2.1]; omega) 12).trans (by rw [if_pos (by omega)])) _ _ (rq_do.refl).put s14 (rq_put36 hRd))
          · skip
            refine w_aln rfl ?_
            refine w_ic ?_
            have h20 := h.1 (by omega)
            clear h
            have h21 := h20.1 (by omega)
            clear h20
            have h22 := h21.1 (by omega)
            clear h21
            have h23 := h22.2 (by omega)
            clear h22
            refine w_cv (st := []) rfl gm rfl (Nat.le_of_ble_eq_true rfl) (fun kk h => h) (rq_bad (d := d + 3) hB s3 (fun MF19 F19 => ?_))
            exact w_iret (fun _ => Or.inl rfl) (h23 _ _ rq_do.refl F19)
        · skip
          refine w_aln rfl ?_
          refine w_ic ?_
          have h25 := h.1 (by omega)
          clear h
          have h26 := h25.1 (by omega)
          clear h25
          have h27 := h26.2 (by omega)
          clear h26
          refine w_cv (st := []) rfl gm rfl (Nat.le_of_ble_eq_true rfl) (fun kk h => h) (rq_bad (d := d + 3) hB s3 (fun MF24 F24 => ?_))
          exact w_iret (fun _ => Or.inl rfl) (h27 _ _ rq_do.refl F24)
      · skip
        refine w_aln rfl ?_
        refine w_ic ?_
        have h29 := h.2 (by omega)
        clear h
        refine w_cv (st := []) rfl gm rfl (Nat.le_of_ble_eq_true rfl) (fun kk h => h) (rq_bad (d := d + 3) hB s3 (fun MF28 F28 => ?_))
        exact w_iret (fun _ => Or.inl rfl) (h29 _ _ rq_do.refl F28)
    · exfalso; omega
set_option maxHeartbeats 4000000 in
theorem rq_dR_n {G : mj_G} {M0 M : mj_M} {B : Nat → Int} {n lim m bt ns rs sx rd : Nat} {T : Nat → Nat × Nat × Int × List Int × Nat} {nm : Nat → List Int} {c0 : Int} {R : Nat → Int} {Q : mj_P} {d q : Nat} (hB : rq_A G M0 B n lim m bt ns rs T) (hS : rq_S M0 m (T q) M) (hqn : q ≤ n) (gsx : G sx = (51100, 537)) (grd : G rd = (53100, 135)) (r6 : M0.2.2 m 6 = some sx) (r8 : M0.2.2 m 8 = some rd) (c1_ : 0 ≤ c0) (c2_ : c0 ≤ 8) (hc0 : M0.1 sx 0 = c0) (hN : ∀ k : Nat, (k : Int) < c0 → M0.2.1 ns k = rv_8 (nm k) ∧ rv_wo (nm k)) (hRd : ∀ k, k < 36 → M0.1 rd k = R k) (hdb : rv_db c0 R) (hnw : ∀ i, i = 10 ∨ i = 11 → ¬ ((T q).1 = 1 ∧ rv_rs.getD i [] = (T q).2.2.2.1)) (h : ∀ M0' M', rq_do rd M0 M0' → rq_F M0' m 1 (T q).2.1 M' → Q (some (.inl 0)) G M') : mj_R mj_tab (d + 5) 180 [.inr (.inr (some m))] G M Q := by
  obtain ⟨⟨gm, gbt, gns, grs, r1, r9, r10, rb, rr, n1, n2, m3, m5⟩, hT⟩ := id hB
  refine ⟨Nat.le_of_ble_eq_true rfl, ?_⟩
  show wz (d + 4) mt_X12_dealRow.2.2.2.2.1 Q mt_X12_dealRow.2.2.2.2.1 [some (.inr (.inr (some m))), none, none, none, none] [] G M _ _
  refine w_aln rfl ?_
  refine w_l2 ?_
  refine w_cv (st := []) rfl gm rfl (Nat.le_of_ble_eq_true rfl) (fun kk h => h) (rq_isWord0 (d := d + 3) (i := 10) hB hS hqn (by decide) (by decide +kernel) (hnw 10 (Or.inl rfl)) ?_)
  refine w_isn ?_
  show wz _ _ _ _ [some (.inr (.inr (some m))), some (.inl 0), none, none, none] _ _ _ _ _
  refine w_iln rfl ?_
  refine w_ifne (fun c1 => ?_) (fun c1 => ?_)
  · exfalso; omega
  · skip
    refine w_aln rfl ?_
    refine w_l2 ?_
    refine w_cv (st := []) rfl gm rfl (Nat.le_of_ble_eq_true rfl) (fun kk h => h) (rq_isWord0 (d := d + 3) (i := 11) hB hS hqn (by decide) (by decide +kernel) (hnw 11 (Or.inr rfl)) ?_)
    refine w_ifne (fun c2 => ?_) (fun c2 => ?_)
    · exfalso; omega
    · skip
      refine w_aln rfl ?_
      refine w_ic ?_
      refine w_cv (st := []) rfl gm rfl (Nat.le_of_ble_eq_true rfl) (fun kk h => h) (rq_bad (d := d + 3) hB hS (fun MF3 F3 => ?_))
      exact w_iret (fun _ => Or.inl rfl) (h _ _ rq_do.refl F3)
theorem rq_dealRow {G : mj_G} {M0 M : mj_M} {B : Nat → Int} {n lim m bt ns rs sx rd : Nat} {T : Nat → Nat × Nat × Int × List Int × Nat} {nm : Nat → List Int} {c0 : Int} {R : Nat → Int} {Q : mj_P} {d q : Nat} (hB : rq_A G M0 B n lim m bt ns rs T) (hS : rq_S M0 m (T q) M) (hqn : q ≤ n) (gsx : G sx = (51100, 537)) (grd : G rd = (53100, 135)) (r6 : M0.2.2 m 6 = some sx) (r8 : M0.2.2 m 8 = some rd) (c1_ : 0 ≤ c0) (c2_ : c0 ≤ 8) (hc0 : M0.1 sx 0 = c0) (hN : ∀ k : Nat, (k : Int) < c0 → M0.2.1 ns k = rv_8 (nm k) ∧ rv_wo (nm k)) (hRd : ∀ k, k < 36 → M0.1 rd k = R k) (hdb : rv_db c0 R) (h : sp_deal T nm c0 R q (fun f a => ∀ M0' M', rq_do rd M0 M0' → rq_F M0' m f a M' → Q (some (.inl 0)) G M') (fun R' q' => q ≤ q' → q' ≤ n → rv_db c0 R' → rv_cn R' 12 = rv_cn R 12 + 1 → ∀ M0' M', rq_do rd M0 M0' → rq_S M0' m (T (rv_x T q')) M' → (∀ k, k < 36 → M0'.1 rd k = R' k) → Q (some (.inl 1)) G M')) : mj_R mj_tab (d + 5) 180 [.inr (.inr (some m))] G M Q := by
  by_cases c1 : (T q).1 = 1
  · by_cases c2 : rv_nam (T q).2.2.2.1
    · exact rq_dR_n hB hS hqn gsx grd r6 r8 c1_ c2_ hc0 hN hRd hdb (fun i hi g => c2 i (by omega) g.2) (h.2 (fun g => g.2 c2))
    · have : ∃ j, j < 24 ∧ rv_rs.getD j [] = (T q).2.2.2.1 := by
        refine Classical.byContradiction (fun g => c2 (fun j hj e => g ⟨j, hj, e⟩))
      obtain ⟨j, j1, hj⟩ := this
      obtain ⟨h0, h1, h2⟩ := h.1 j j1 c1 hj
      by_cases e10 : j = 10
      · subst e10; exact rq_dR_10 hB hS hqn gsx grd r6 r8 c1_ c2_ hc0 hN hRd hdb c1 hj (h0 rfl)
      · by_cases e11 : j = 11
        · subst e11; exact rq_dR_11 hB hS hqn gsx grd r6 r8 c1_ c2_ hc0 hN hRd hdb c1 hj (h1 rfl)
        · exact rq_dR_n hB hS hqn gsx grd r6 r8 c1_ c2_ hc0 hN hRd hdb (fun i hi g => by have := rv_rs_i i (by omega) j j1 (g.2.trans hj.symm); omega) (h2 e10 e11)
  · exact rq_dR_n hB hS hqn gsx grd r6 r8 c1_ c2_ hc0 hN hRd hdb (fun i hi g => c1 g.1) (h.2 (fun g => c1 g.1))
end
section
/-! ===== the reference's contracts ===== -/
theorem rq_zrd {G : mj_G} {M0 : mj_M} {m rd : Nat} {d : Nat} {Q : mj_P} (gm : G m = (1012, 0)) (gc : G rd = (53100, 135)) (e0 : M0.2.2 m 8 = some rd) : ∀ (f k : Nat) (M : mj_M) (cb sb : Nat), k + f = 36 → rq_do rd M0 M → (∀ j, j < k → M.1 rd j = 0) → (∀ M', rq_do rd M0 M' → (∀ j, j < 36 → M'.1 rd j = 0) → wz d mt_X12_contracts.2.2.2.2.1 Q (mt_X12_contracts.2.2.2.2.1.drop 21) [some (.inr (.inr (some m))), some (.inl 36), none] [] G M' cb sb) → wz d mt_X12_contracts.2.2.2.2.1 Q (mt_X12_contracts.2.2.2.2.1.drop 11) [some (.inr (.inr (some m))), some (.inl (k : Int)), none] [] G M cb sb := by
  intro f
  induction f with
  | zero =>
    intro k M cb sb hk ho hz kk
    have e : k = 36 := by omega
    subst e
    refine w_iln rfl ?_
    refine w_bp ?_
    refine w_cmge (fun c => ?_) (fun c => by exfalso; omega)
    exact kk M ho hz
  | succ f ih =>
    intro k M cb sb hk ho hz kk
    refine w_iln rfl ?_
    refine w_bp ?_
    refine w_cmge (fun c => by exfalso; omega) (fun c => ?_)
    refine w_aln rfl ?_
    refine w_gr gm rfl (by decide) rfl (by rw [ho.2]; exact e0) ?_
    refine w_iln rfl ?_
    refine w_ic ?_
    refine w_iast gc rfl (by decide) (by omega) (by show (k : Int) < ((135 : Nat) : Int); omega) ?_
    refine w_ii rfl ⟨by omega, by omega⟩ ?_
    refine w_goto ?_
    refine ih (k + 1) _ _ _ (by omega) ho.put (fun j hj => ?_) kk
    rw [show ((k : Int)).toNat = k by omega]
    rcases Nat.lt_or_ge j k with q | q
    · exact (hn_n (Or.inr (by omega))).trans (hz j q)
    · rw [show j = k by omega]; exact hn_s
theorem rq_cpd {G : mj_G} {M0 : mj_M} {m rd sx : Nat} {d : Nat} {r : Int} {Q : mj_P} (gm : G m = (1012, 0)) (gc : G rd = (53100, 135)) (gs : G sx = (51100, 537)) (e6 : M0.2.2 m 6 = some sx) (e8 : M0.2.2 m 8 = some rd) : ∀ (f k : Nat) (M : mj_M) (cb sb : Nat), k + f = 36 → M.2 = M0.2 → (∀ a, a ≠ sx → M.1 a = M0.1 a) → (∀ j, j < k → M.1 sx (184 + j) = M0.1 rd j) → (∀ j, j < 184 ∨ 220 ≤ j → M.1 sx j = M0.1 sx j) → (∀ M', M'.2 = M0.2 → (∀ a, a ≠ sx → M'.1 a = M0.1 a) → (∀ j, j < 36 → M'.1 sx (184 + j) = M0.1 rd j) → (∀ j, j < 184 ∨ 220 ≤ j → M'.1 sx j = M0.1 sx j) → wz d mt_X12_contracts.2.2.2.2.1 Q (mt_X12_contracts.2.2.2.2.1.drop 59) [some (.inr (.inr (some m))), some (.inl r), some (.inl 36)] [] G M' cb sb) → wz d mt_X12_contracts.2.2.2.2.1 Q (mt_X12_contracts.2.2.2.2.1.drop 44) [some (.inr (.inr (some m))), some (.inl r), some (.inl (k : Int))] [] G M cb sb := by
  have ns : rd ≠ sx := hn_ne gc gs (by decide)
  intro f
  induction f with
  | zero =>
    intro k M cb sb hk h2 h1 h3 h4 kk
    have e : k = 36 := by omega
    subst e
    refine w_iln rfl ?_
    refine w_bp ?_
    refine w_cmge (fun c => ?_) (fun c => by exfalso; omega)
    exact kk M h2 h1 h3 h4
  | succ f ih =>
    intro k M cb sb hk h2 h1 h3 h4 kk
    refine w_iln rfl ?_
    refine w_bp ?_
    refine w_cmge (fun c => by exfalso; omega) (fun c => ?_)
    refine w_aln rfl ?_
    refine w_gr gm rfl (by decide) rfl (by rw [h2]; exact e6) ?_
    refine w_sp ?_
    refine w_iln rfl ?_
    refine w_add ⟨by omega, by omega⟩ ?_
    refine w_aln rfl ?_
    refine w_gr gm rfl (by decide) rfl (by rw [h2]; exact e8) ?_
    refine w_iln rfl ?_
    have tk : ((k : Int)).toNat = k := by omega
    refine w_iald (v := M0.1 rd k) gc rfl (by omega) (by show (k : Int) < ((135 : Nat) : Int); omega) (by rw [tk, h1 rd ns]) ?_
    refine w_iast gs rfl (by decide) (by omega) (by show (184 : Int) + (k : Int) < ((537 : Nat) : Int); omega) ?_
    refine w_ii rfl ⟨by omega, by omega⟩ ?_
    refine w_goto ?_
    rw [show ((184 : Int) + (k : Int)).toNat = 184 + k by omega]
    refine ih (k + 1) _ _ _ (by omega) h2 (fun a a1 => (wz_c a1).trans (h1 a a1)) (fun j hj => ?_) (fun j hj => (hn_n (Or.inr (by omega))).trans (h4 j hj)) kk
    rcases Nat.lt_or_ge j k with q | q
    · exact (hn_n (Or.inr (by omega))).trans (h3 j q)
    · rw [show j = k by omega]; exact hn_s
theorem rq_deals {G : mj_G} {Mb : mj_M} {B : Nat → Int} {n lim m bt ns rs sx rd : Nat} {T : Nat → Nat × Nat × Int × List Int × Nat} {nm : Nat → List Int} {c0 : Int} {v2 : Option mj_V} {Q : mj_P} {d : Nat} (hB : rq_A G Mb B n lim m bt ns rs T) (gsx : G sx = (51100, 537)) (grd : G rd = (53100, 135)) (r6 : Mb.2.2 m 6 = some sx) (r8 : Mb.2.2 m 8 = some rd) (c1_ : 0 ≤ c0) (c2_ : c0 ≤ 8) (hc0 : Mb.1 sx 0 = c0) (hN : ∀ k : Nat, (k : Int) < c0 → Mb.2.1 ns k = rv_8 (nm k) ∧ rv_wo (nm k)) : ∀ (f q r : Nat) (R : Nat → Int) (M0 M : mj_M) (cb sb : Nat), n < q + f → q ≤ n → r ≤ q → rq_do rd Mb M0 → rq_S M0 m (T q) M → (∀ k, k < 36 → M0.1 rd k = R k) → rv_db c0 R → rv_cn R 12 = r → sp_deals T nm c0 (fun f a => ∀ M0' M', rq_do rd Mb M0' → rq_F M0' m f a M' → Q (some (.inl (rv_vf a))) G M') (fun R r => rv_db c0 R → ∀ M0' M' q cb sb, rq_do rd Mb M0' → rq_S M0' m (T q) M' → (∀ k, k < 36 → M0'.1 rd k = R k) → wz (d + 5) mt_X12_contracts.2.2.2.2.1 Q (mt_X12_contracts.2.2.2.2.1.drop 42) [some (.inr (.inr (some m))), some (.inl (r : Int)), v2] [] G M' cb sb) f R r q → wz (d + 5) mt_X12_contracts.2.2.2.2.1 Q (mt_X12_contracts.2.2.2.2.1.drop 25) [some (.inr (.inr (some m))), some (.inl (r : Int)), v2] [] G M cb sb := by
  obtain ⟨gm, gbt, gns, grs, -⟩ := id hB.1
  intro f
  induction f with
  | zero => intro q r R M0 M cb sb g1 g2 g3; exfalso; omega
  | succ f ih =>
    intro q r R M0 M cb sb g1 g2 g3 ho hS hRd hdb hcn h
    have hB0 := hB.do grd ho
    have r6' : M0.2.2 m 6 = some sx := by rw [ho.2]; exact r6
    have r8' : M0.2.2 m 8 = some rd := by rw [ho.2]; exact r8
    have hc0' : M0.1 sx 0 = c0 := by rw [ho.1 sx (hn_ne gsx grd (by decide))]; exact hc0
    have hN' : ∀ k : Nat, (k : Int) < c0 → M0.2.1 ns k = rv_8 (nm k) ∧ rv_wo (nm k) := fun k hk => by rw [ho.2]; exact hN k hk
    have hk := rv_tkc_f (rq_y_w hB0 g2).1
    have hw := rq_y_w hB0 g2
    obtain ⟨h0, h5, hr⟩ := h
    have k12 := rv_cn_le R 12
    have bad : ∀ (a : Nat) (M' : mj_M) (cb sb : Nat), M'.1 m 16 = (a : Int) → Q (some (.inl (rv_vf a))) G M' → wz (d + 5) mt_X12_contracts.2.2.2.2.1 Q (mt_X12_contracts.2.2.2.2.1.drop 35) [some (.inr (.inr (some m))), some (.inl (r : Int)), v2] [] G M' cb sb := by
      intro a M' cb sb e hQ
      refine w_ic ?_
      refine w_aln rfl ?_
      refine w_gi gm rfl (by decide) rfl e ?_
      refine w_subw ?_
      intro z hz ez
      have ev : z = rv_vf a := ez
      rw [ev]
      exact w_iret (fun q => by cases q) hQ
    refine w_aln rfl ?_
    refine w_gi gm rfl (by decide) rfl hS.1.1 ?_
    refine w_ifeq (fun c => ?_) (fun c => ?_)
    · exact h0 (by omega) hdb M0 M q _ _ ho hS hRd
    · refine w_aln rfl ?_
      by_cases c5 : (T q).1 = 5
      · refine w_cv (st := []) rfl gm rfl (Nat.le_of_ble_eq_true rfl) (fun kk h => h) (rq_dR_n (d := d) hB0 hS g2 gsx grd r6' r8' c1_ c2_ hc0' hN' hRd hdb (fun i _ g => by omega) (fun M0' M' o F => ?_))
        refine w_ifeq (fun _ => ?_) (fun c => absurd rfl c)
        exact bad _ _ _ _ F.2.1 (h5 c5 M0' M' (ho.trans o) F)
      · have hlt := hw.2.2.2.1 (by omega) c5
        refine w_cv (st := []) rfl gm rfl (Nat.le_of_ble_eq_true rfl) (fun kk h => h) (rq_dealRow (d := d) hB0 hS g2 gsx grd r6' r8' c1_ c2_ hc0' hN' hRd hdb ((hr (by omega) c5).mono (fun f a hf M0' M' o F => ?_) (fun R1 q1 hk1 g4 g5 hdb1 hc1 M0' M' o S1 h36 => ?_)))
        · refine w_ifeq (fun _ => ?_) (fun c => absurd rfl c)
          exact bad _ _ _ _ F.2.1 (hf M0' M' (ho.trans o) F)
        · refine w_ifeq (fun c => absurd c (by decide)) (fun _ => ?_)
          refine w_aln rfl ?_
          refine w_bp ?_
          have B1 := hB0.do grd o
          have g6 := rq_y_le B1 g5
          refine w_cv (st := []) rfl gm rfl (Nat.le_of_ble_eq_true rfl) (fun kk h => h) (rq_sign (d := d + 2) B1 S1 g6 (hk1.mono (fun f a hf => ?_) (fun e3 hk2 => ?_)))
          · intro M2 F2
            refine w_ifne (fun c => absurd rfl c) (fun _ => ?_)
            exact bad _ _ _ _ F2.2.1 (hf M0' M2 (ho.trans o) F2)
          · intro M2 S2
            refine w_ifne (fun _ => ?_) (fun c => absurd c (by decide))
            refine w_ii rfl ⟨by omega, by omega⟩ ?_
            refine w_goto ?_
            have g7 := rq_y_ge B1 g5
            have g8 := (rq_y_w B1 g6).2.2.2.1 (by omega) (by omega)
            have g9 := rq_y_le B1 g6
            exact ih (rv_x T (rv_x T q1)) (r + 1) R1 M0' M2 _ _ (by unfold rv_x at *; omega) g9 (by unfold rv_x at *; omega) (ho.trans o) S2 h36 hdb1 (by omega) hk2
/-- the state behind contracts() of the reference -/
def rq_O (sx : Nat) (R : Nat → Int) (r : Nat) (M M' : mj_M) : Prop := (∀ k, k < 36 → M'.1 sx (184 + k) = R k) ∧ M'.1 sx 220 = (r : Int) ∧ (∀ j, j < 184 ∨ 220 < j → M'.1 sx j = M.1 sx j)
theorem r_X12_contracts2 {G : mj_G} {M : mj_M} {B : Nat → Int} {n m bt ns rs sx rd : Nat} {T : Nat → Nat × Nat × Int × List Int × Nat} {nm : Nat → List Int} {c0 : Int} {Q : mj_P} {d : Nat} (gm : G m = (1012, 0)) (gbt : G bt = (50101, 940)) (gns : G ns = (54103, 16)) (grs : G rs = (55103, 24)) (r1 : M.2.2 m 1 = some bt) (r9 : M.2.2 m 9 = some ns) (r10 : M.2.2 m 10 = some rs) (rb : ∀ k, rv_u8 (M.1 bt k) = B k) (rr : ∀ k, k < 24 → M.2.1 rs k = rv_8 (rv_rs.getD k [])) (n1 : n ≤ 940) (hT : T = rv_T B n 400) (gsx : G sx = (51100, 537)) (grd : G rd = (53100, 135)) (r6 : M.2.2 m 6 = some sx) (r8 : M.2.2 m 8 = some rd) (hn : M.1 m 2 = (n : Int)) (c1_ : 0 ≤ c0) (c2_ : c0 ≤ 8) (hc0 : M.1 sx 0 = c0) (hN : ∀ k : Nat, (k : Int) < c0 → M.2.1 ns k = rv_8 (nm k) ∧ rv_wo (nm k)) (h : sp_deals T nm c0 (fun f a => ∀ M', M'.1 sx = M.1 sx → Q (some (.inl (rv_vf a))) G M') (fun R r => rv_db c0 R → ∀ M', rq_O sx R r M M' → Q (some (.inl (r : Int))) G M') (n + 1) (fun _ => 0) 0 0) : mj_R mj_tab (d + 6) 177 [.inr (.inr (some m))] G M Q := by
  refine ⟨Nat.le_of_ble_eq_true rfl, ?_⟩
  show wz (d + 5) mt_X12_contracts.2.2.2.2.1 Q mt_X12_contracts.2.2.2.2.1 [some (.inr (.inr (some m))), none, none] [] G M _ _
  refine w_aln rfl ?_
  refine w_ic ?_
  refine w_pi gm rfl (by decide) rfl (fun q => by cases q) ?_
  refine w_aln rfl ?_
  refine w_sp ?_
  refine w_cv (st := []) rfl gm rfl (Nat.le_of_ble_eq_true rfl) (fun kk h => h) ⟨Nat.le_of_ble_eq_true rfl, ?_⟩
  show wz (d + 4) mt_X12_taken.2.2.2.2.1 _ mt_X12_taken.2.2.2.2.1 [some (.inr (.inr (some m))), some (.inl 400)] [] _ _ _ _
  refine w_aln rfl ?_
  refine w_aln rfl ?_
  refine w_gi gm rfl (by decide) rfl (v := (n : Int)) ((hn_n (Or.inr (by decide))).trans hn) ?_
  refine w_pi gm rfl (by decide) rfl (fun q => by cases q) ?_
  refine w_aln rfl ?_
  refine w_ic ?_
  refine w_pi gm rfl (by decide) rfl (fun q => by cases q) ?_
  refine w_aln rfl ?_
  refine w_ic ?_
  refine w_pi gm rfl (by decide) rfl (fun q => by cases q) ?_
  refine w_aln rfl ?_
  refine w_iln rfl ?_
  refine w_pi gm rfl (by decide) rfl (fun q => by cases q) ?_
  refine w_ret ?_
  refine w_aln rfl ?_
  refine w_ic ?_
  refine w_pi gm rfl (by decide) rfl (fun q => by cases q) ?_
  have eo : ∀ a, a ≠ m → (mj_p0 (mj_p0 (mj_p0 (mj_p0 (mj_p0 (mj_p0 M m 0 0) m 3 (n : Int)) m 2 0) m 4 0) m 5 400) m 15 0).1 a = M.1 a := fun a ha => (wz_c ha).trans ((wz_c ha).trans ((wz_c ha).trans ((wz_c ha).trans ((wz_c ha).trans (wz_c ha)))))
  refine w_ic ?_
  refine w_isn ?_
  refine rq_zrd (M0 := (mj_p0 (mj_p0 (mj_p0 (mj_p0 (mj_p0 (mj_p0 M m 0 0) m 3 (n : Int)) m 2 0) m 4 0) m 5 400) m 15 0)) gm grd r8 36 0 _ _ _ (by omega) rq_do.refl (fun j hj => absurd hj (Nat.not_lt_zero j)) (fun M1 o1 z1 => ?_)
  have hB : rq_A G M1 B n 400 m bt ns rs T := by
    refine ⟨⟨gm, gbt, gns, grs, by rw [o1.2]; exact r1, by rw [o1.2]; exact r9, by rw [o1.2]; exact r10, fun k => by rw [o1.1 bt (hn_ne gbt grd (by decide)), eo bt (hn_ne gbt gm (by decide))]; exact rb k, fun k hk => by rw [o1.2]; exact rr k hk, n1, by decide, ?_, ?_⟩, hT⟩
    · rw [o1.1 m (hn_ne gm grd (by decide))]; exact (hn_n (Or.inr (by decide))).trans ((hn_n (Or.inr (by decide))).trans ((hn_n (Or.inr (by decide))).trans ((hn_n (Or.inr (by decide))).trans hn_s)))
    · rw [o1.1 m (hn_ne gm grd (by decide))]; exact (hn_n (Or.inr (by decide))).trans hn_s
  have es : M1.1 sx = M.1 sx := (o1.1 sx (hn_ne gsx grd (by decide))).trans (eo sx (hn_ne gsx gm (by decide)))
  have e4 : M1.1 m 4 = ((0 : Nat) : Int) := by rw [o1.1 m (hn_ne gm grd (by decide))]; exact (hn_n (Or.inr (by decide))).trans ((hn_n (Or.inr (by decide))).trans hn_s)
  have r61 : M1.2.2 m 6 = some sx := by rw [o1.2]; exact r6
  have r81 : M1.2.2 m 8 = some rd := by rw [o1.2]; exact r8
  have hN1 : ∀ k : Nat, (k : Int) < c0 → M1.2.1 ns k = rv_8 (nm k) ∧ rv_wo (nm k) := fun k hk => by rw [o1.2]; exact hN k hk
  refine w_ic ?_
  refine w_isn ?_
  show wz _ _ _ _ [some (.inr (.inr (some m))), some (.inl 0), none] _ _ _ _ _
  refine w_aln rfl ?_
  refine w_cv (st := []) rfl gm rfl (Nat.le_of_ble_eq_true rfl) (fun kk h => h) (rq_nxt0 (d := d + 3) (q := 0) hB e4 ⟨fun _ _ => rfl, fun _ _ => rfl, rfl, fun _ _ => rfl⟩ (Nat.zero_le n) (fun M2 s2 _ => ?_))
  refine rq_deals (d := d) hB gsx grd r61 r81 c1_ c2_ (by rw [es]; exact hc0) hN1 (n + 1) 0 0 (fun _ => 0) M1 M2 _ _ (by omega) (Nat.zero_le n) (Nat.le_refl 0) rq_do.refl s2 z1 (fun j _ => Or.inl ⟨rfl, rfl, rfl⟩) rfl (sp_deals.mono (fun f a hf M0' M' o F => ?_) (fun R r hk hdb M0' M' q cb sb o S h36 => ?_) _ _ _ _ h)
  · exact hf M' ((F.2.2.1 sx (hn_ne gsx gm (by decide))).trans ((o.1 sx (hn_ne gsx grd (by decide))).trans es))
  · have esx : M'.1 sx = M.1 sx := (S.2.1 sx (hn_ne gsx gm (by decide))).trans ((o.1 sx (hn_ne gsx grd (by decide))).trans es)
    have erd : M'.1 rd = M0'.1 rd := S.2.1 rd (hn_ne grd gm (by decide))
    have r62 : M'.2.2 m 6 = some sx := by rw [S.2.2.2.1, o.2]; exact r61
    have r82 : M'.2.2 m 8 = some rd := by rw [S.2.2.2.1, o.2]; exact r81
    refine w_ic ?_
    refine w_isn ?_
    show wz _ _ _ _ [some (.inr (.inr (some m))), some (.inl (r : Int)), some (.inl 0)] _ _ _ _ _
    refine rq_cpd (M0 := M') gm grd gsx r62 r82 36 0 M' _ _ (by omega) rfl (fun _ _ => rfl) (fun j hj => absurd hj (Nat.not_lt_zero j)) (fun _ _ => rfl) (fun M3 u2 u1 u3 u4 => ?_)
    refine w_aln rfl ?_
    refine w_gr gm rfl (by decide) rfl (by rw [u2]; exact r62) ?_
    refine w_sp ?_
    refine w_iln rfl ?_
    refine w_iast gsx rfl (by decide) (by omega) (by show (220 : Int) < ((537 : Nat) : Int); omega) ?_
    refine w_iln rfl ?_
    refine w_iret (fun q => by cases q) (hk hdb _ ⟨fun k hk => (hn_n (Or.inr (by show 184 + k ≠ 220; omega))).trans ((u3 k hk).trans ((congrFun erd k).trans (h36 k hk))), hn_s, fun j hj => (hn_n (Or.inr (by show j ≠ 220; omega))).trans ((u4 j (by omega)).trans (congrFun esx j))⟩)
end
section
/-! ===== every text of CONTRACTS has one answer ===== -/
def rv_Dg {β : Type} (S : (((Int × Nat) ⊕ β) → Prop) → Prop) : Prop := ∃ y, ∀ P : ((Int × Nat) ⊕ β) → Prop, P y → S P
section DG
variable {β : Type} {T : Nat → Nat × Nat × Int × List Int × Nat} {p : Nat} {A B : (((Int × Nat) ⊕ β) → Prop) → Prop}
theorem dg_f (f : Int) (a : Nat) : rv_Dg (β := β) (fun P => P (.inl (f, a))) := ⟨_, fun _ h => h⟩
theorem dg_if {c : Prop} (hA : rv_Dg A) (hB : rv_Dg B) : rv_Dg (fun P => (c → A P) ∧ (¬ c → B P)) := by
  by_cases h : c
  · obtain ⟨y, hy⟩ := hA
    exact ⟨y, fun P p => ⟨fun _ => hy P p, fun n => absurd h n⟩⟩
  · obtain ⟨y, hy⟩ := hB
    exact ⟨y, fun P p => ⟨fun n => absurd n h, fun _ => hy P p⟩⟩
theorem dg_num {lo hi : Int} (hA : rv_Dg A) : rv_Dg (fun P => sp_num T lo hi p (fun f a => P (.inl (f, a))) (A P)) := by
  obtain ⟨y, hy⟩ := hA
  by_cases c1 : (T p).1 = 2
  · by_cases c2 : lo ≤ (T p).2.2.1
    · by_cases c3 : (T p).2.2.1 ≤ hi
      · exact ⟨y, fun P k => ⟨fun _ => ⟨fun _ => ⟨fun _ => hy P k, fun n => absurd c3 n⟩, fun n => absurd c2 n⟩, fun n => absurd c1 n⟩⟩
      · exact ⟨.inl (2, (T p).2.1), fun P k => ⟨fun _ => ⟨fun _ => ⟨fun n => absurd n c3, fun _ => k⟩, fun n => absurd c2 n⟩, fun n => absurd c1 n⟩⟩
    · exact ⟨.inl (2, (T p).2.1), fun P k => ⟨fun _ => ⟨fun n => absurd n c2, fun _ => k⟩, fun n => absurd c1 n⟩⟩
  · exact ⟨.inl (1, (T p).2.1), fun P k => ⟨fun n => absurd n c1, fun _ => k⟩⟩
theorem dg_sgn {c : Int} (hA : rv_Dg A) : rv_Dg (fun P => sp_sgn T c p (fun f a => P (.inl (f, a))) (A P)) := by
  obtain ⟨y, hy⟩ := hA
  by_cases c1 : (T p).1 = 3
  · by_cases c2 : (T p).2.2.1 = c
    · exact ⟨y, fun P k => ⟨fun _ => ⟨fun _ => hy P k, fun n => absurd c2 n⟩, fun n => absurd c1 n⟩⟩
    · exact ⟨.inl (1, (T p).2.1), fun P k => ⟨fun _ => ⟨fun n => absurd n c2, fun _ => k⟩, fun n => absurd c1 n⟩⟩
  · exact ⟨.inl (1, (T p).2.1), fun P k => ⟨fun n => absurd n c1, fun _ => k⟩⟩
theorem dg_nam (hA : rv_Dg A) : rv_Dg (fun P => sp_nam T p (fun f a => P (.inl (f, a))) (A P)) := by
  obtain ⟨y, hy⟩ := hA
  by_cases c1 : (T p).1 = 1
  · by_cases c2 : rv_nam (T p).2.2.2.1
    · exact ⟨y, fun P k => ⟨fun _ => ⟨fun _ => hy P k, fun n => absurd c2 n⟩, fun n => absurd c1 n⟩⟩
    · exact ⟨.inl (1, (T p).2.1), fun P k => ⟨fun _ => ⟨fun n => absurd n c2, fun _ => k⟩, fun n => absurd c1 n⟩⟩
  · exact ⟨.inl (1, (T p).2.1), fun P k => ⟨fun n => absurd n c1, fun _ => k⟩⟩
theorem dg_find {nm : Nat → List Int} {k : Int} {w : List Int} {K : Int → (((Int × Nat) ⊕ β) → Prop) → Prop} (hK : ∀ r, rv_Dg (K r)) : rv_Dg (fun P => sp_find nm k w (fun r => K r P)) := by
  by_cases h : ∃ r : Nat, (r : Int) < k ∧ nm r = w ∧ ∀ j, j < r → nm j ≠ w
  · obtain ⟨r, h1, h2, h3⟩ := h
    obtain ⟨y, hy⟩ := hK (r : Int)
    refine ⟨y, fun P p => ⟨fun r' g1 g2 g3 => ?_, fun g => absurd h2 (g r h1)⟩⟩
    have e : r' = r := by
      rcases Nat.lt_trichotomy r' r with q | q | q
      · exact absurd g2 (h3 r' q)
      · exact q
      · exact absurd h2 (g3 r q)
    rw [e]; exact hy P p
  · obtain ⟨y, hy⟩ := hK (-1)
    exact ⟨y, fun P p => ⟨fun r' g1 g2 g3 => absurd ⟨r', g1, g2, g3⟩ h, fun _ => hy P p⟩⟩
end DG
theorem dg_dlet {β : Type} {T : Nat → Nat × Nat × Int × List Int × Nat} {nm : Nat → List Int} {c0 : Int} {R : Nat → Int} {q : Nat} {K : (Nat → Int) → Nat → (((Int × Nat) ⊕ β) → Prop) → Prop} (hK : ∀ R q, rv_Dg (K R q)) : rv_Dg (fun P => sp_dlet T nm c0 R q (fun f a => P (.inl (f, a))) (fun R' q' => K R' q' P)) := by
  unfold sp_dlet
  exact (dg_num (dg_if (dg_nam (dg_find (fun r => (dg_if (dg_f _ _) (dg_if (dg_nam (dg_find (fun r => (dg_if (dg_f _ _) (dg_if (dg_f _ _) (dg_num (hK _ _))))))) (dg_num (hK _ _))))))) (dg_f _ _)))
theorem dg_dsea {β : Type} {T : Nat → Nat × Nat × Int × List Int × Nat} {nm : Nat → List Int} {c0 : Int} {R : Nat → Int} {q : Nat} {K : (Nat → Int) → Nat → (((Int × Nat) ⊕ β) → Prop) → Prop} (hK : ∀ R q, rv_Dg (K R q)) : rv_Dg (fun P => sp_dsea T nm c0 R q (fun f a => P (.inl (f, a))) (fun R' q' => K R' q' P)) := by
  unfold sp_dsea
  exact (dg_num (dg_if (hK _ _) (dg_f _ _)))
theorem dg_deal {β : Type} {T : Nat → Nat × Nat × Int × List Int × Nat} {nm : Nat → List Int} {c0 : Int} {R : Nat → Int} {q : Nat} {K : (Nat → Int) → Nat → (((Int × Nat) ⊕ β) → Prop) → Prop} (hK : ∀ R q, rv_Dg (K R q)) : rv_Dg (fun P => sp_deal T nm c0 R q (fun f a => P (.inl (f, a))) (fun R' q' => K R' q' P)) := by
  by_cases c : (T q).1 = 1 ∧ ¬ rv_nam (T q).2.2.2.1
  · have : ∃ j, j < 24 ∧ rv_rs.getD j [] = (T q).2.2.2.1 := by
      refine Classical.byContradiction (fun g => c.2 (fun j hj e => g ⟨j, hj, e⟩))
    obtain ⟨j, j1, hj⟩ := this
    have key : rv_Dg (fun P => (j = 10 → sp_dlet T nm c0 R q (fun f a => P (.inl (f, a))) (fun R' q' => K R' q' P)) ∧ (j = 11 → sp_dsea T nm c0 R q (fun f a => P (.inl (f, a))) (fun R' q' => K R' q' P)) ∧ (j ≠ 10 → j ≠ 11 → P (.inl (1, (T q).2.1)))) := by
      by_cases e10 : j = 10
      · obtain ⟨y, hy⟩ := dg_dlet (T := T) (nm := nm) (c0 := c0) (R := R) (q := q) hK
        exact ⟨y, fun P p => ⟨fun _ => hy P p, fun e => absurd (e10.symm.trans e) (by decide), fun n => absurd e10 n⟩⟩
      · by_cases e11 : j = 11
        · obtain ⟨y, hy⟩ := dg_dsea (T := T) (nm := nm) (c0 := c0) (R := R) (q := q) hK
          exact ⟨y, fun P p => ⟨fun e => absurd e e10, fun _ => hy P p, fun _ n => absurd e11 n⟩⟩
        · exact ⟨.inl (1, (T q).2.1), fun P p => ⟨fun e => absurd e e10, fun e => absurd e e11, fun _ _ => p⟩⟩
    obtain ⟨y, hy⟩ := key
    refine ⟨y, fun P p => ⟨fun i i1 _ hi => ?_, fun n => absurd c n⟩⟩
    have e : i = j := rv_rs_i i i1 j j1 (hi.trans hj.symm)
    rw [e]; exact hy P p
  · exact ⟨.inl (1, (T q).2.1), fun P p => ⟨fun i i1 a b => absurd ⟨a, fun n => n i i1 b⟩ c, fun _ => p⟩⟩
theorem dg_deals {T : Nat → Nat × Nat × Int × List Int × Nat} {nm : Nat → List Int} {c0 : Int} : ∀ (f : Nat) (R : Nat → Int) (r q : Nat), rv_Dg (β := (Nat → Int) × Nat) (fun P => sp_deals T nm c0 (fun f a => P (.inl (f, a))) (fun R r => P (.inr (R, r))) f R r q)
  | 0, _, _, _ => ⟨.inl (0, 0), fun _ _ => trivial⟩
  | f + 1, R, r, q => by
    by_cases c0' : (T q).1 = 0
    · exact ⟨.inr (R, r), fun P p => ⟨fun _ => p, fun e => absurd (c0'.symm.trans e) (by decide), fun n => absurd c0' n⟩⟩
    · by_cases c5 : (T q).1 = 5
      · exact ⟨.inl (1, (T q).2.1), fun P p => ⟨fun e => absurd e c0', fun _ => p, fun _ n => absurd c5 n⟩⟩
      · obtain ⟨y, hy⟩ := dg_deal (T := T) (nm := nm) (c0 := c0) (R := R) (q := q) (K := fun R' q' P => sp_sgn T 59 (rv_x T q') (fun f a => P (.inl (f, a))) (sp_deals T nm c0 (fun f a => P (.inl (f, a))) (fun R r => P (.inr (R, r))) f R' (r + 1) (rv_x T (rv_x T q')))) (fun R' q' => dg_sgn (dg_deals f R' (r + 1) (rv_x T (rv_x T q'))))
        exact ⟨y, fun P p => ⟨fun e => absurd e c0', fun e => absurd e c5, fun _ _ => hy P p⟩⟩
end
