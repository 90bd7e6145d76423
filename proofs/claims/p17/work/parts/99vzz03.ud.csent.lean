/-! ===== the class's sentence() ===== -/
def sc_X (G : mj_G) (M : mj_M) (x tp sp nw se sn : Nat) : Prop := (G x = (1011, 0) ∧ G sp = (1007, 0) ∧ G nw = (1007, 0) ∧ sp ≠ nw) ∧ M.2.2 x 0 = some tp ∧ M.2.2 x 1 = some nw ∧ M.2.2 x 2 = some sp ∧ M.2.2 sp 2 = some se ∧ M.2.2 nw 2 = some sn
def sc_fr (G : mj_G) (tp se st sg nu sp nw : Nat) (M M' : mj_M) : Prop := (∀ a t n, G a = (t, n) → t ≠ 1011 → t ≠ 1008 → t ≠ 1004 → t ≠ 29100 → t ≠ 30100 → t ≠ 26100 → t ≠ 28100 → a ≠ se → a ≠ sg → a ≠ nu → M'.1 a = M.1 a) ∧ ∀ a j, a ≠ st → ¬ (a = tp ∧ j = 9) → ¬ (a = sp ∧ j = 2) → ¬ (a = nw ∧ j = 2) → M'.2.2 a j = M.2.2 a j
def sc_O (G : mj_G) (x tp se st sg nu sp nw sn : Nat) (cs : (List (Nat × Int × Int))) (o : Nat) (M M' : mj_M) : Prop := M'.2.2 nw 2 = some se ∧ M'.2.2 sp 2 = some sn ∧ se_R G M' se st sg nu cs o ∧ M'.1 x 12 = 0 ∧ sc_fr G tp se st sg nu sp nw M M'
def sc_F (G : mj_G) (x tp se st sg nu sp nw sn : Nat) (f : Int) (M M' : mj_M) : Prop := M'.2.2 nw 2 = some sn ∧ M'.2.2 sp 2 = some se ∧ M'.1 x 12 = f ∧ sc_fr G tp se st sg nu sp nw M M'
section UD
variable {G : mj_G} {M0 M M' : mj_M} {B : Nat → Int} {n tp bc pl na ta ba wa oa : Nat} {tr br : Nat → Nat} {T : Nat → (Nat × Nat × Int × List Int × Nat)} {PL WA OA : Nat → Int} {TO BI : Nat → Nat → Int} {nm : Nat → List Int} {se st sg nu sn sp nw x : Nat} {Q : mj_P} {d o : Nat} {cs : (List (Nat × Int × Int))} {t : (Nat × Nat × Int × List Int × Nat)}
theorem sc_fr.of (h : sc_fr G tp se st sg nu sp nw M0 M') (o : se_o se st sg nu M M0) (g1 : G se = (1006, 0)) (g2 : G st = (34105, 40)) : sc_fr G tp se st sg nu sp nw M M' := ⟨fun a t n g c1 c2 c3 c4 c5 c6 c7 a1 a2 a3 => (h.1 a t n g c1 c2 c3 c4 c5 c6 c7 a1 a2 a3).trans (o.1 a a1 a2 a3), fun a j a1 a2 a3 a4 => (h.2 a j a1 a2 a3 a4).trans (congrFun (o.2.2 a a1) j)⟩
theorem sc_X.so {M1 : mj_M} (h : sc_X G M x tp sp nw se sn) (o : se_o se st sg nu M M1) (g2 : G st = (34105, 40)) : sc_X G M1 x tp sp nw se sn := by
  obtain ⟨⟨gx, gsp, gnw, hsn⟩, e0, e1, e2, e3, e4⟩ := h
  exact ⟨⟨gx, gsp, gnw, hsn⟩, by rw [o.2.2 x (hn_ne gx g2 (by decide))]; exact e0, by rw [o.2.2 x (hn_ne gx g2 (by decide))]; exact e1, by rw [o.2.2 x (hn_ne gx g2 (by decide))]; exact e2, by rw [o.2.2 sp (hn_ne gsp g2 (by decide))]; exact e3, by rw [o.2.2 nw (hn_ne gnw g2 (by decide))]; exact e4⟩
theorem sc_tO (hA : rv_AT G M0 B n 200 tp bc pl na ta ba wa oa tr br T) (hS : rv_S G M0 n 200 tp pl na wa oa tr br t PL WA OA TO BI nm M) (hD : se_D G M0 se st sg nu) (hX : sc_X G M0 x tp sp nw se sn) (hR : se_R G M0 se st sg nu cs o) (hQ : ∀ M', sc_O G x tp se st sg nu sp nw sn cs o M0 M' → Q (some (.inl (o : Int))) G M') (cb sb : Nat) : wz (d + 1) mt_X11_sentence.2.2.2.2.1 Q (mt_X11_sentence.2.2.2.2.1.drop 14) [some (.inr (.inr (some x))), some (.inr (.inr (some se)))] [] G M cb sb := by
  obtain ⟨⟨gtp, gbc, gpl, gna, gta, gba, gwa, goa, gtr, gbr, itr, ibr, r1, r2, r3, r4, r5, r6, r7, r8, rb, rw0, n1, n2, hIw⟩, hT⟩ := id hA
  obtain ⟨⟨gx, gsp, gnw, hsn⟩, e0, e1, e2, e3, e4⟩ := hX
  obtain ⟨gse, gst, gsg, gnu, d0, d1, d2⟩ := hD
  have hx : ∀ x ∈ [1006, 34105, 35100, 36100], x ≠ 1008 ∧ x ≠ 1004 ∧ x ≠ 29100 ∧ x ≠ 30100 ∧ x ≠ 26100 ∧ x ≠ 28100 := by decide
  have m5 : M.1 se 5 = (o : Int) := (congrFun (rv_S.fx hA hS gse (hx _ (by decide))) 5).trans hR.2.1
  have f3 := hS.2.2.2.2.2.2.2.2.2.2
  have f1 := hS.2.2.2.2.2.2.2.2.1
  have x0 := hS.rq gx gtp (by decide) e0
  have x1 := hS.rq gx gtp (by decide) e1
  have x2 := hS.rq gx gtp (by decide) e2
  have n2 := hS.rq gnw gtp (by decide) e4
  have xs : x ≠ sp := hn_ne gx gsp (by decide)
  have xn : x ≠ nw := hn_ne gx gnw (by decide)
  refine w_aln rfl ?_
  refine w_gr gx rfl (by decide) rfl x0 ?_
  refine w_gi gtp rfl (by decide) rfl hS.1.2.2 ?_
  refine w_ifne (fun c => absurd rfl c) (fun _ => ?_)
  refine w_aln rfl ?_
  refine w_gr gx rfl (by decide) rfl x2 ?_
  refine w_aln rfl ?_
  refine w_gr gx rfl (by decide) rfl x1 ?_
  refine w_gr gnw rfl (by decide) rfl n2 ?_
  refine w_pr gsp rfl (by decide) rfl ?_
  refine w_aln rfl ?_
  refine w_gr gx rfl (by decide) rfl ((wz_nr (Or.inl xs)).trans x1) ?_
  refine w_aln rfl ?_
  refine w_pr gnw rfl (by decide) rfl ?_
  refine w_aln rfl ?_
  refine w_aln rfl ?_
  refine w_gi gse rfl (by decide) rfl m5 ?_
  refine w_cv (st := []) rfl gx rfl (Nat.le_of_ble_eq_true rfl) (fun kk h => h) ⟨Nat.le_of_ble_eq_true rfl, ?_⟩
  show wz d mt_X11_closeTape.2.2.2.2.1 _ mt_X11_closeTape.2.2.2.2.1 [some (.inr (.inr (some x))), some (.inl (o : Int))] [] _ _ _ _
  have y0 : (mj_p2 (mj_p2 M sp 2 (some sn)) nw 2 (some se)).2.2 x 0 = some tp := (wz_nr (Or.inl xn)).trans ((wz_nr (Or.inl xs)).trans x0)
  refine w_aln rfl ?_
  refine w_gr gx rfl (by decide) rfl y0 ?_
  refine w_ic ?_
  refine w_pi gtp rfl (by decide) rfl (fun q => by cases q) ?_
  refine w_aln rfl ?_
  refine w_aln rfl ?_
  refine w_gr gx rfl (by decide) rfl y0 ?_
  refine w_gi gtp rfl (by decide) rfl ((hn_n (Or.inr (by decide))).trans hS.1.2.2) ?_
  refine w_pi gx rfl (by decide) rfl (fun q => by cases q) ?_
  refine w_aln rfl ?_
  refine w_gi gx rfl (by decide) rfl hn_s ?_
  refine w_ifne (fun c => absurd rfl c) (fun _ => ?_)
  refine w_iln rfl ?_
  refine w_goto ?_
  refine w_iret (fun q => by cases q) ?_
  refine w_iret (fun q => by cases q) (hQ _ ⟨wz_sr, (wz_nr (Or.inl hsn)).trans wz_sr, ?_, hn_s, fun a t n g c1 c2 c3 c4 c5 c6 c7 a1 a2 a3 => (wz_c (hn_ne g gx c1)).trans ((wz_c (hn_ne g gtp c2)).trans (f1 a (hn_ne g gtp c2) (hn_ne g gpl c3) (hn_ne g gwa c4) (hn_ne g goa c5) (fun s hs => hn_ne g (gtr s hs) c6) (fun s hs => hn_ne g (gbr s hs) c7))), fun a j a1 a2 a3 a4 => (wz_nr (by by_cases e : a = nw; exact Or.inr (fun e2 => a4 ⟨e, e2⟩); exact Or.inl e)).trans ((wz_nr (by by_cases e : a = sp; exact Or.inr (fun e2 => a3 ⟨e, e2⟩); exact Or.inl e)).trans (f3 a j a2))⟩)
  have eq : ∀ a t n, G a = (t, n) → t ≠ 1011 → t ≠ 1008 → t ∈ [1006, 34105, 35100, 36100] → (mj_p0 (mj_p0 (mj_p2 (mj_p2 M sp 2 (some sn)) nw 2 (some se)) tp 1 0) x 12 0).1 a = M0.1 a := fun a t n g c1 c2 c3 => (wz_c (hn_ne g gx c1)).trans ((wz_c (hn_ne g gtp c2)).trans (rv_S.fx hA hS g (hx _ c3)))
  exact ⟨(congrFun (eq se _ _ gse (by decide) (by decide) (by decide)) 4).trans hR.1, (congrFun (eq se _ _ gse (by decide) (by decide) (by decide)) 5).trans hR.2.1, fun j hj => by
    obtain ⟨⟨a, b1, b2⟩, b3, b4⟩ := hR.2.2 j hj
    exact ⟨⟨a, (wz_nr (Or.inl (hn_ne gst gnw (by decide)))).trans ((wz_nr (Or.inl (hn_ne gst gsp (by decide)))).trans (hS.rq gst gtp (by decide) b1)), b2⟩, (congrFun (eq sg _ _ gsg (by decide) (by decide) (by decide)) j).trans b3, (congrFun (eq nu _ _ gnu (by decide) (by decide) (by decide)) j).trans b4⟩⟩
theorem sc_tF {f : Int} {a : Nat} (hA : rv_AT G M0 B n 200 tp bc pl na ta ba wa oa tr br T) (hF : rv_F tp pl na wa oa tr br M0 f a M) (hD : se_D G M0 se st sg nu) (hX : sc_X G M0 x tp sp nw se sn) (hQ : ∀ M', sc_F G x tp se st sg nu sp nw sn f M0 M' → Q (some (.inl (rv_vf a))) G M') (cb sb : Nat) : wz (d + 1) mt_X11_sentence.2.2.2.2.1 Q (mt_X11_sentence.2.2.2.2.1.drop 14) [some (.inr (.inr (some x))), some (.inr (.inr (some se)))] [] G M cb sb := by
  obtain ⟨⟨gtp, gbc, gpl, gna, gta, gba, gwa, goa, gtr, gbr, itr, ibr, r1, r2, r3, r4, r5, r6, r7, r8, rb, rw0, n1, n2, hIw⟩, hT⟩ := id hA
  obtain ⟨⟨gx, gsp, gnw, hsn⟩, e0, e1, e2, e3, e4⟩ := hX
  obtain ⟨gse, gst, gsg, gnu, d0, d1, d2⟩ := hD
  obtain ⟨h2, h3, ⟨f1, f2, f3⟩, f0⟩ := hF
  have x0 : M.2.2 x 0 = some tp := (f3 x 0 (fun e => hn_ne gx gtp (by decide) e.1)).trans e0
  refine w_aln rfl ?_
  refine w_gr gx rfl (by decide) rfl x0 ?_
  refine w_gi gtp rfl (by decide) rfl h2 ?_
  refine w_ifne (fun _ => ?_) (fun c => absurd c f0)
  refine w_aln rfl ?_
  refine w_aln rfl ?_
  refine w_gi gse rfl (by decide) rfl rfl ?_
  refine w_cv (st := []) rfl gx rfl (Nat.le_of_ble_eq_true rfl) (fun kk h => h) ⟨Nat.le_of_ble_eq_true rfl, ?_⟩
  show wz d mt_X11_closeTape.2.2.2.2.1 _ mt_X11_closeTape.2.2.2.2.1 [some (.inr (.inr (some x))), some (.inl (M.1 se 5))] [] _ _ _ _
  refine w_aln rfl ?_
  refine w_gr gx rfl (by decide) rfl x0 ?_
  refine w_ic ?_
  refine w_pi gtp rfl (by decide) rfl (fun q => by cases q) ?_
  refine w_aln rfl ?_
  refine w_aln rfl ?_
  refine w_gr gx rfl (by decide) rfl x0 ?_
  refine w_gi gtp rfl (by decide) rfl ((hn_n (Or.inr (by decide))).trans h2) ?_
  refine w_pi gx rfl (by decide) rfl (fun q => by cases q) ?_
  refine w_aln rfl ?_
  refine w_gi gx rfl (by decide) rfl hn_s ?_
  refine w_ifne (fun _ => ?_) (fun c => absurd c f0)
  refine w_ic ?_
  refine w_aln rfl ?_
  refine w_gr gx rfl (by decide) rfl x0 ?_
  refine w_gi gtp rfl (by decide) rfl ((hn_n (Or.inl (hn_ne gtp gx (by decide)))).trans ((hn_n (Or.inr (by decide))).trans h3)) ?_
  refine w_subw ?_
  intro z hz ez
  have ev : z = rv_vf a := ez
  refine w_iret (fun q => by cases q) ?_
  refine w_iret (fun q => by cases q) ?_
  rw [ev]
  exact hQ _ ⟨(f3 nw 2 (fun e => hn_ne gnw gtp (by decide) e.1)).trans e4, (f3 sp 2 (fun e => hn_ne gsp gtp (by decide) e.1)).trans e3, hn_s, fun a t n g c1 c2 c3 c4 c5 c6 c7 a1 a2 a3 => (wz_c (hn_ne g gx c1)).trans ((wz_c (hn_ne g gtp c2)).trans (f1 a (hn_ne g gtp c2) (hn_ne g gpl c3) (hn_ne g gwa c4) (hn_ne g goa c5) (fun s hs => hn_ne g (gtr s hs) c6) (fun s hs => hn_ne g (gbr s hs) c7))), fun a j a1 a2 a3 a4 => f3 a j a2⟩
theorem r_X11_sentence (hA : rv_AT G M B n 200 tp bc pl na ta ba wa oa tr br T) (hX : sc_X G M x tp sp nw se sn) (hD : se_D G M se st sg nu) (hn : M.1 tp 1 = (n : Int)) (hN : ∀ s, s < 8 → M.2.1 na s = rv_5 (nm s) ∧ rv_wo (nm s)) (h : se_A T (fun f a => ∀ M', sc_F G x tp se st sg nu sp nw sn f M M' → Q (some (.inl (rv_vf a))) G M') (fun o cs => 0 < o → o ≤ 20 → cs.length + 1 ≤ 2 * o → ∀ M', sc_O G x tp se st sg nu sp nw sn cs o M M' → Q (some (.inl (o : Int))) G M') (4 * n + 7)) : mj_R mj_tab (d + 34) 147 [.inr (.inr (some x))] G M Q := by
  obtain ⟨⟨gtp, gbc, gpl, gna, gta, gba, gwa, goa, gtr, gbr, itr, ibr, r1, r2, r3, r4, r5, r6, r7, r8, rb, rw0, n1, n2, hIw⟩, hT⟩ := id hA
  have hX0 := hX
  obtain ⟨⟨gx, gsp, gnw, hsn⟩, e0, e1, e2, e3, e4⟩ := hX0
  have hD0 := hD
  obtain ⟨gse, gst, gsg, gnu, d0, d1, d2⟩ := hD0
  refine ⟨Nat.le_of_ble_eq_true rfl, ?_⟩
  show wz (d + 33) mt_X11_sentence.2.2.2.2.1 Q mt_X11_sentence.2.2.2.2.1 [some (.inr (.inr (some x))), none] [] G M _ _
  refine w_aln rfl ?_
  refine w_gr gx rfl (by decide) rfl e2 ?_
  refine w_gr gsp rfl (by decide) rfl e3 ?_
  refine w_asn ?_
  show wz _ _ _ _ [some (.inr (.inr (some x))), some (.inr (.inr (some se)))] _ _ _ _ _
  refine w_aln rfl ?_
  refine w_cv (st := []) rfl gse rfl (Nat.le_of_ble_eq_true rfl) (fun kk h => h) ⟨Nat.le_of_ble_eq_true rfl, ?_⟩
  show wz (d + 32) mt_X5_clear.2.2.2.2.1 _ mt_X5_clear.2.2.2.2.1 [some (.inr (.inr (some se)))] [] _ _ _ _
  refine w_aln rfl ?_
  refine w_ic ?_
  refine w_pi gse rfl (by decide) rfl (fun q => by cases q) ?_
  refine w_aln rfl ?_
  refine w_ic ?_
  refine w_pi gse rfl (by decide) rfl (fun q => by cases q) ?_
  refine w_ret ?_
  have o1 : se_o se st sg nu M (mj_p0 (mj_p0 M se 4 0) se 5 0) := ⟨fun a a1 _ _ => (wz_c a1).trans (wz_c a1), rfl, fun _ _ => rfl⟩
  have R1 : se_R G (mj_p0 (mj_p0 M se 4 0) se 5 0) se st sg nu [] 0 := ⟨(hn_n (Or.inr (by decide))).trans hn_s, hn_s, fun j hj => absurd hj (Nat.not_lt_zero j)⟩
  have A1 : rv_AT G (mj_p0 (mj_p0 M se 4 0) se 5 0) B n 200 tp bc pl na ta ba wa oa tr br T := hA.so hD o1
  have D1 := hD.so o1
  have X1 := hX.so o1 gst
  have tpf : (mj_p0 (mj_p0 M se 4 0) se 5 0).1 tp = M.1 tp := o1.1 tp (hn_ne gtp gse (by decide)) (hn_ne gtp gsg (by decide)) (hn_ne gtp gnu (by decide))
  generalize (mj_p0 (mj_p0 M se 4 0) se 5 0) = M1 at *
  have u2 : M1.2.1 = M.2.1 := o1.2.1
  have x01 : M1.2.2 x 0 = some tp := X1.2.1
  refine w_aln rfl ?_
  refine w_gr gx rfl (by decide) rfl x01 ?_
  refine w_sp ?_
  refine w_cv (st := []) rfl gtp rfl (Nat.le_of_ble_eq_true rfl) (fun kk h => h) ⟨Nat.le_of_ble_eq_true rfl, ?_⟩
  show wz (d + 32) mt_X7_open.2.2.2.2.1 _ mt_X7_open.2.2.2.2.1 [some (.inr (.inr (some tp))), some (.inl 200)] [] _ _ _ _
  refine w_aln rfl ?_
  refine w_iln rfl ?_
  refine w_pi gtp rfl (by decide) rfl (fun q => by cases q) ?_
  refine w_aln rfl ?_
  refine w_ic ?_
  refine w_pi gtp rfl (by decide) rfl (fun q => by cases q) ?_
  refine w_aln rfl ?_
  refine w_ic ?_
  refine w_pi gtp rfl (by decide) rfl (fun q => by cases q) ?_
  refine w_aln rfl ?_
  refine w_ic ?_
  refine w_pi gtp rfl (by decide) rfl (fun q => by cases q) ?_
  refine w_ret ?_
  refine w_aln rfl ?_
  refine w_aln rfl ?_
  refine w_gr gx rfl (by decide) rfl x01 ?_
  have e4' : ∀ b, b ≠ tp → (mj_p0 (mj_p0 (mj_p0 (mj_p0 M1 tp 10 200) tp 11 0) tp 2 0) tp 3 0).1 b = M1.1 b := fun b hb => (wz_c hb).trans ((wz_c hb).trans ((wz_c hb).trans (wz_c hb)))
  have S0 : rv_S0 G M1 n 200 tp pl na wa oa tr br 0 (M1.1 pl) (M1.1 wa) (M1.1 oa) (fun s => M1.1 (tr s)) (fun s => M1.1 (br s)) nm (mj_p0 (mj_p0 (mj_p0 (mj_p0 M1 tp 10 200) tp 11 0) tp 2 0) tp 3 0) := ⟨⟨(hn_n (Or.inr (by decide))).trans ((hn_n (Or.inr (by decide))).trans ((hn_n (Or.inr (by decide))).trans ((hn_n (Or.inr (by decide))).trans ((congrFun tpf 1).trans hn)))), (hn_n (Or.inr (by decide))).trans ((hn_n (Or.inr (by decide))).trans ((hn_n (Or.inr (by decide))).trans hn_s)), (hn_n (Or.inr (by decide))).trans hn_s⟩, (hn_n (Or.inr (by decide))).trans ((hn_n (Or.inr (by decide))).trans hn_s), e4' pl (hn_ne gpl gtp (by decide)), e4' wa (hn_ne gwa gtp (by decide)), e4' oa (hn_ne goa gtp (by decide)), fun s hs => e4' _ (hn_ne (gtr s hs) gtp (by decide)), fun s hs => e4' _ (hn_ne (gbr s hs) gtp (by decide)), fun s hs => ⟨by show M1.2.1 na s = _; rw [u2]; exact (hN s hs).1, (hN s hs).2⟩, fun a a1 a2 a3 a4 a5 a6 => e4' a a1, fun a a1 _ => rfl, fun a j _ => rfl⟩
  refine w_cv (st := []) rfl gse rfl (Nat.le_of_ble_eq_true rfl) (fun kk h => h) ⟨Nat.le_of_ble_eq_true rfl, ?_⟩
  show wz (d + 32) mt_X5_readText.2.2.2.2.1 _ mt_X5_readText.2.2.2.2.1 [some (.inr (.inr (some se))), some (.inr (.inr (some tp)))] [] _ _ _ _
  refine w_aln rfl ?_
  refine w_cv (st := []) rfl gtp rfl (Nat.le_of_ble_eq_true rfl) (fun kk h => h) (r_adv0 (d := d + 29) A1.1 S0 (Nat.zero_le n) (fun M2 s2 => ?_))
  rw [← hT] at s2
  refine w_aln rfl ?_
  refine w_aln rfl ?_
  refine w_ic ?_
  refine w_cv (st := []) rfl gse rfl (Nat.le_of_ble_eq_true rfl) (fun kk h => h) ((se_all (4 * n + 7)).2.2.2.1 8 (d + 32) 1 0 0 [] M1 M2 _ (by decide) (Nat.zero_le n) (by decide) (by decide) A1 D1 s2 R1 (by omega) ?_)
  refine se_P.mono (fun f a hf M0' M' oo F => ?_) (4 * n + 7) 3 1 _ _ _ _ _ (fun q1 o' cs' hk p1 l1 lo ll l20 M0' M' a1 oo s3 r3 => ?_) h
  · refine w_ifeq (fun _ => ?_) (fun c => absurd rfl c)
    refine w_ret ?_
    exact sc_tF (d := d + 32) (A1.so D1 oo) F (D1.so oo) (X1.so oo gst) (fun M3 h3 => hf M3 ⟨h3.1, h3.2.1, h3.2.2.1, h3.2.2.2.of (o1.trans oo) gse gst⟩) _ _
  · refine w_ifeq (fun c => absurd c (by decide)) (fun _ => ?_)
    refine w_aln rfl ?_
    refine w_cv (st := []) rfl gtp rfl (Nat.le_of_ble_eq_true rfl) (fun kk h => h) (r_X7_fin (d := d + 30) a1 s3 (fun e => ?_) (fun e M3 F3 => ?_))
    · refine w_pop ?_
      refine w_ret ?_
      exact sc_tO (d := d + 32) a1 s3 (D1.so oo) (X1.so oo gst) r3 (fun M3 h3 => hk.1 e (by omega) l20 (by have : ([] : (List (Nat × Int × Int))).length = 0 := rfl; omega) M3 ⟨h3.1, h3.2.1, h3.2.2.1, h3.2.2.2.1, h3.2.2.2.2.of (o1.trans oo) gse gst⟩) _ _
    · refine w_pop ?_
      refine w_ret ?_
      exact sc_tF (d := d + 32) a1 F3 (D1.so oo) (X1.so oo gst) (fun M4 h4 => hk.2 e M4 ⟨h4.1, h4.2.1, h4.2.2.1, h4.2.2.2.of (o1.trans oo) gse gst⟩) _ _
end UD
