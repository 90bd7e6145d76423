/-! ===== the class's plain: the state behind it (laid by a program) ===== -/
/-- what else stays behind plain -/
def rv_fo (x tp pl wa oa dl fa sa ca se ye ud : Nat) (tr br : Nat → Nat) (M M' : mj_M) : Prop := ∀ a, a ≠ x → a ≠ tp → a ≠ pl → a ≠ wa → a ≠ oa → (∀ t, t < 8 → a ≠ tr t) → (∀ t, t < 8 → a ≠ br t) → a ≠ dl → a ≠ fa → a ≠ sa → a ≠ ca → a ≠ se → a ≠ ye → a ≠ ud → M'.1 a = M.1 a
/-- the state behind a plain() that reads a PLAIN -/
def rv_PO (x tp pl na wa oa sp nw pn dl fa sa ca se ye ud : Nat) (tr br : Nat → Nat) (PL WA OA : Nat → Int) (TO BI : Nat → Nat → Int) (nm : Nat → List Int) (M M' : mj_M) : Prop :=
  (∀ k, k ≠ 9 → M'.1 pl k = PL k) ∧ M'.1 wa = WA ∧ (∀ s, s < 8 → M'.1 (tr s) = TO s) ∧ (∀ s, s < 8 → M'.1 (br s) = BI s) ∧ (∀ s, s < 8 → M'.2.1 na s = rv_5 (nm s) ∧ rv_wo (nm s)) ∧ M'.2.2 nw 0 = some pl ∧ (sp ≠ nw → M'.2.2 sp 0 = some pn) ∧ (∀ a j, ¬ (a = tp ∧ j = 9) → ¬ (a = nw ∧ j = 0) → ¬ (a = sp ∧ j = 0) → M'.2.2 a j = M.2.2 a j) ∧ (∀ a, a ≠ na → a ≠ tp → M'.2.1 a = M.2.1 a) ∧ rv_fo x tp pl wa oa dl fa sa ca se ye ud tr br M M'
/-- the state behind a plain() that tells a FAULT -/
def rv_PF (x tp pl na wa oa : Nat) (tr br : Nat → Nat) (M M' : mj_M) : Prop := (∀ a j, ¬ (a = tp ∧ j = 9) → M'.2.2 a j = M.2.2 a j) ∧ (∀ a, a ≠ na → a ≠ tp → M'.2.1 a = M.2.1 a) ∧ (∀ a, a ≠ x → a ≠ tp → a ≠ pl → a ≠ wa → a ≠ oa → (∀ t, t < 8 → a ≠ tr t) → (∀ t, t < 8 → a ≠ br t) → M'.1 a = M.1 a)
/-- and fresh: bids to be undone, YEAR, SENTENCE, CONTRACTS -/
def rv_P2 (x pl dl fa sa ca se ye ud : Nat) (M M' : mj_M) : Prop := M'.1 ud 3 = 0 ∧ M'.1 ye 0 = 0 ∧ M'.1 se 4 = 0 ∧ M'.1 se 5 = 0 ∧ (∀ j, j < 12 → M'.1 fa j = -1 ∧ M'.1 sa j = -1 ∧ M'.1 ca j = 0) ∧ M'.1 dl 3 = 0 ∧ M'.1 x 13 = (Int32.ofInt (M.1 x 13) + Int32.ofInt 1).toInt ∧ M'.1 pl 9 = M'.1 x 13
def rv_PG (x tp pl na wa oa : Nat) (tr br : Nat → Nat) (M M' : mj_M) : Prop := rv_PF x tp pl na wa oa tr br M M' ∧ M'.1 x 13 = M.1 x 13
theorem r_qp_F {G : mj_G} {M0 M : mj_M} {B : Nat → Int} {n lim tp bc pl na ta ba wa oa : Nat} {tr br : Nat → Nat} {T : Nat → Nat × Nat × Int × List Int × Nat} {Q : mj_P} {d : Nat} {x sp nw pn dl fa sa ca se ye ud : Nat} {z : Int} (hA : rv_AT G M0 B n lim tp bc pl na ta ba wa oa tr br T) (hX : rv_X G M0 x tp pl sp nw pn dl fa sa ca se ye ud) {f : Int} {a : Nat} (hF : rv_F tp pl na wa oa tr br M0 f a M) (hQ : ∀ M', rv_PG x tp pl na wa oa tr br M0 M' → Q (some (.inl (rv_vf a))) G M') : ∀ cb sb, wz (d + 7) mt_X11_plain.2.2.2.2.1 Q (mt_X11_plain.2.2.2.2.1.drop 14) [some (.inr (.inr (some x))), some (.inr (.inr (some pl))), none] [.inl z] G M cb sb := by
  obtain ⟨⟨gtp, gbc, gpl, gna, gta, gba, gwa, goa, gtr, gbr, itr, ibr, r1, r2, r3, r4, r5, r6, r7, r8, rb, rw0, n1, n2, hIw⟩, hT⟩ := id hA
  obtain ⟨⟨gx, gsp, gnw, gse, gye, gud, hD⟩, x_x0, x_x1, x_x2, x_x5, x_sp0, x_nw0, x_nw1, x_nw2, x_nw3⟩ := id hX
  have gdl := hD.1
  obtain ⟨f2, f3, ⟨w1, w2, hfr⟩, f0⟩ := hF
  intro cb sb
  refine w_isn ?_
  show wz _ _ _ _ [some (.inr (.inr (some x))), some (.inr (.inr (some pl))), some (.inl z)] _ _ _ _ _
  refine w_aln rfl ?_
  refine w_gr gx rfl (by decide) rfl ((hfr x 0 (fun e => absurd e.1 (hn_ne gx gtp (by decide)))).trans x_x0) ?_
  refine w_gi gtp rfl (by decide) rfl (f2) ?_
  refine w_ifne (fun c1 => ?_) (fun c1 => ?_)
  · skip
    refine w_aln rfl ?_
    refine w_iln rfl ?_
    refine w_cv (st := []) rfl gx rfl (Nat.le_of_ble_eq_true rfl) (fun kk h => h) ⟨Nat.le_of_ble_eq_true rfl, ?_⟩
    show wz (d + 6) mt_X11_closeTape.2.2.2.2.1 _ mt_X11_closeTape.2.2.2.2.1 [some (.inr (.inr (some x))), some (.inl z)] [] _ _ _ _
    refine w_aln rfl ?_
    refine w_gr gx rfl (by decide) rfl ((hfr x 0 (fun e => absurd e.1 (hn_ne gx gtp (by decide)))).trans x_x0) ?_
    refine w_ic ?_
    refine w_pi gtp rfl (by decide) rfl (fun q => by cases q) ?_
    refine w_aln rfl ?_
    refine w_aln rfl ?_
    refine w_gr gx rfl (by decide) rfl ((hfr x 0 (fun e => absurd e.1 (hn_ne gx gtp (by decide)))).trans x_x0) ?_
    refine w_gi gtp rfl (by decide) rfl ((hn_n (Or.inr (by decide))).trans (f2)) ?_
    refine w_pi gx rfl (by decide) rfl (fun q => by cases q) ?_
    refine w_aln rfl ?_
    refine w_gi gx rfl (by decide) rfl (hn_s) ?_
    refine w_ifne (fun c2 => ?_) (fun c2 => ?_)
    · skip
      refine w_ic ?_
      refine w_aln rfl ?_
      refine w_gr gx rfl (by decide) rfl ((hfr x 0 (fun e => absurd e.1 (hn_ne gx gtp (by decide)))).trans x_x0) ?_
      refine w_gi gtp rfl (by decide) rfl ((hn_n (Or.inr (by decide))).trans ((hn_n (Or.inr (by decide))).trans (f3))) ?_
      refine w_subw ?_
      intro z3 hz3 ez3
      refine w_iret (fun q => by cases q) ?_
      have ev : z3 = rv_vf a := ez3
      refine w_iret (fun q => by cases q) ?_
      rw [ev]
      exact hQ _ ⟨⟨hfr, w2, fun a a0 a1 a2 a3 a4 a5 a6 => (wz_c a0).trans ((wz_c a1).trans (w1 a a1 a2 a3 a4 a5 a6))⟩, (hn_n (Or.inr (by decide))).trans ((hn_n (Or.inl (hn_ne gx gtp (by decide)))).trans (congrFun (w1 x (hn_ne gx gtp (by decide)) (hn_ne gx gpl (by decide)) (hn_ne gx gwa (by decide)) (hn_ne gx goa (by decide)) (fun t ht => hn_ne gx (gtr t ht) (by decide)) (fun t ht => hn_ne gx (gbr t ht) (by decide))) 13))⟩
    · exfalso; omega
  · exfalso; omega
theorem r_qp_O {G : mj_G} {M0 M : mj_M} {B : Nat → Int} {n lim tp bc pl na ta ba wa oa : Nat} {tr br : Nat → Nat} {T : Nat → Nat × Nat × Int × List Int × Nat} {Q : mj_P} {d : Nat} {x sp nw pn dl fa sa ca se ye ud : Nat} {z : Int} (hA : rv_AT G M0 B n lim tp bc pl na ta ba wa oa tr br T) (hX : rv_X G M0 x tp pl sp nw pn dl fa sa ca se ye ud) {PL WA OA : Nat → Int} {TO BI : Nat → Nat → Int} {nm : Nat → List Int} {t : Nat × Nat × Int × List Int × Nat} (hS : rv_S G M0 n lim tp pl na wa oa tr br t PL WA OA TO BI nm M) (hQ : ∀ M', rv_PO x tp pl na wa oa sp nw pn dl fa sa ca se ye ud tr br PL WA OA TO BI nm M0 M' → rv_P2 x pl dl fa sa ca se ye ud M0 M' → Q (some (.inl z)) G M') : ∀ cb sb, wz (d + 7) mt_X11_plain.2.2.2.2.1 Q (mt_X11_plain.2.2.2.2.1.drop 14) [some (.inr (.inr (some x))), some (.inr (.inr (some pl))), none] [.inl z] G M cb sb := by
  obtain ⟨⟨gtp, gbc, gpl, gna, gta, gba, gwa, goa, gtr, gbr, itr, ibr, r1, r2, r3, r4, r5, r6, r7, r8, rb, rw0, n1, n2, hIw⟩, hT⟩ := id hA
  obtain ⟨⟨gx, gsp, gnw, gse, gye, gud, hD⟩, x_x0, x_x1, x_x2, x_x5, x_sp0, x_nw0, x_nw1, x_nw2, x_nw3⟩ := id hX
  have gdl := hD.1
  have hfr := hS.2.2.2.2.2.2.2.2.2.2
  have f2 := hS.1.2.2
  obtain ⟨-, -, c5, c6, c7, c8, c9, c10, w1, w2, -⟩ := id hS
  intro cb sb
  refine w_isn ?_
  show wz _ _ _ _ [some (.inr (.inr (some x))), some (.inr (.inr (some pl))), some (.inl z)] _ _ _ _ _
  refine w_aln rfl ?_
  refine w_gr gx rfl (by decide) rfl ((hfr x 0 (fun e => absurd e.1 (hn_ne gx gtp (by decide)))).trans x_x0) ?_
  refine w_gi gtp rfl (by decide) rfl (f2) ?_
  refine w_ifne (fun c1 => ?_) (fun c1 => ?_)
  · exfalso; omega
  · skip
    refine w_aln rfl ?_
    refine w_dupr ?_
    refine w_gi gx rfl (by decide) rfl (rfl) ?_
    refine w_ic ?_
    refine w_addw ?_
    intro z2 hz2 ez2
    refine w_pi gx rfl (by decide) rfl (fun q => by cases q) ?_
    refine w_aln rfl ?_
    refine w_aln rfl ?_
    refine w_gi gx rfl (by decide) rfl (hn_s) ?_
    refine w_pi gpl rfl (by decide) rfl (fun q => by cases q) ?_
    refine w_aln rfl ?_
    refine w_gr gx rfl (by decide) rfl ((hfr x 2 (fun e => absurd e.1 (hn_ne gx gtp (by decide)))).trans x_x2) ?_
    refine w_aln rfl ?_
    refine w_gr gx rfl (by decide) rfl ((hfr x 1 (fun e => absurd e.1 (hn_ne gx gtp (by decide)))).trans x_x1) ?_
    refine w_gr gnw rfl (by decide) rfl ((hfr nw 0 (fun e => absurd e.1 (hn_ne gnw gtp (by decide)))).trans x_nw0) ?_
    refine w_pr gsp rfl (by decide) rfl ?_
    refine w_aln rfl ?_
    refine w_gr gx rfl (by decide) rfl ((wz_nr (Or.inr (by decide))).trans ((hfr x 1 (fun e => absurd e.1 (hn_ne gx gtp (by decide)))).trans x_x1)) ?_
    refine w_aln rfl ?_
    refine w_pr gnw rfl (by decide) rfl ?_
    refine w_aln rfl ?_
    refine w_gr gx rfl (by decide) rfl ((wz_nr (Or.inr (by decide))).trans ((wz_nr (Or.inr (by decide))).trans ((hfr x 1 (fun e => absurd e.1 (hn_ne gx gtp (by decide)))).trans x_x1))) ?_
    refine w_gr gnw rfl (by decide) rfl ((wz_nr (Or.inr (by decide))).trans ((wz_nr (Or.inr (by decide))).trans ((hfr nw 1 (fun e => absurd e.1 (hn_ne gnw gtp (by decide)))).trans x_nw1))) ?_
    refine w_cv (st := []) rfl gdl rfl (Nat.le_of_ble_eq_true rfl) (fun kk h => h) (r_X1_clear (d := d + 6) (fa := fa) (sa := sa) (ca := ca) ?_ (fun M3 u2 u1 u3 u4 => ?_))
    · exact ⟨hD.1, hD.2.1, hD.2.2.1, hD.2.2.2.1, (wz_nr (Or.inl (hn_ne hD.1 gnw (by decide)))).trans ((wz_nr (Or.inl (hn_ne hD.1 gsp (by decide)))).trans ((hfr dl 0 (fun e => absurd e.1 (hn_ne hD.1 gtp (by decide)))).trans hD.2.2.2.2.1)), (wz_nr (Or.inl (hn_ne hD.1 gnw (by decide)))).trans ((wz_nr (Or.inl (hn_ne hD.1 gsp (by decide)))).trans ((hfr dl 1 (fun e => absurd e.1 (hn_ne hD.1 gtp (by decide)))).trans hD.2.2.2.2.2.1)), (wz_nr (Or.inl (hn_ne hD.1 gnw (by decide)))).trans ((wz_nr (Or.inl (hn_ne hD.1 gsp (by decide)))).trans ((hfr dl 2 (fun e => absurd e.1 (hn_ne hD.1 gtp (by decide)))).trans hD.2.2.2.2.2.2))⟩
    refine w_aln rfl ?_
    refine w_gr gx rfl (by decide) rfl ((congrFun (congrFun (congrArg Prod.snd u2) x) 1).trans ((wz_nr (Or.inr (by decide))).trans ((wz_nr (Or.inr (by decide))).trans ((hfr x 1 (fun e => absurd e.1 (hn_ne gx gtp (by decide)))).trans x_x1)))) ?_
    refine w_gr gnw rfl (by decide) rfl ((congrFun (congrFun (congrArg Prod.snd u2) nw) 2).trans ((wz_nr (Or.inr (by decide))).trans ((wz_nr (Or.inr (by decide))).trans ((hfr nw 2 (fun e => absurd e.1 (hn_ne gnw gtp (by decide)))).trans x_nw2)))) ?_
    refine w_cv (st := []) rfl gse rfl (Nat.le_of_ble_eq_true rfl) (fun kk h => h) ⟨Nat.le_of_ble_eq_true rfl, ?_⟩
    show wz (d + 6) mt_X5_clear.2.2.2.2.1 _ mt_X5_clear.2.2.2.2.1 [some (.inr (.inr (some se)))] [] _ _ _ _
    refine w_aln rfl ?_
    refine w_ic ?_
    refine w_pi gse rfl (by decide) rfl (fun q => by cases q) ?_
    refine w_aln rfl ?_
    refine w_ic ?_
    refine w_pi gse rfl (by decide) rfl (fun q => by cases q) ?_
    refine w_ret ?_
    refine w_aln rfl ?_
    refine w_gr gx rfl (by decide) rfl ((congrFun (congrFun (congrArg Prod.snd u2) x) 1).trans ((wz_nr (Or.inr (by decide))).trans ((wz_nr (Or.inr (by decide))).trans ((hfr x 1 (fun e => absurd e.1 (hn_ne gx gtp (by decide)))).trans x_x1)))) ?_
    refine w_gr gnw rfl (by decide) rfl ((congrFun (congrFun (congrArg Prod.snd u2) nw) 3).trans ((wz_nr (Or.inr (by decide))).trans ((wz_nr (Or.inr (by decide))).trans ((hfr nw 3 (fun e => absurd e.1 (hn_ne gnw gtp (by decide)))).trans x_nw3)))) ?_
    refine w_ic ?_
    refine w_pi gye rfl (by decide) rfl (fun _ => by omega) ?_
    refine w_aln rfl ?_
    refine w_gr gx rfl (by decide) rfl ((congrFun (congrFun (congrArg Prod.snd u2) x) 5).trans ((wz_nr (Or.inr (by decide))).trans ((wz_nr (Or.inr (by decide))).trans ((hfr x 5 (fun e => absurd e.1 (hn_ne gx gtp (by decide)))).trans x_x5)))) ?_
    refine w_ic ?_
    refine w_pi gud rfl (by decide) rfl (fun q => by cases q) ?_
    refine w_aln rfl ?_
    refine w_iln rfl ?_
    refine w_cv (st := []) rfl gx rfl (Nat.le_of_ble_eq_true rfl) (fun kk h => h) ⟨Nat.le_of_ble_eq_true rfl, ?_⟩
    show wz (d + 6) mt_X11_closeTape.2.2.2.2.1 _ mt_X11_closeTape.2.2.2.2.1 [some (.inr (.inr (some x))), some (.inl z)] [] _ _ _ _
    refine w_aln rfl ?_
    refine w_gr gx rfl (by decide) rfl ((congrFun (congrFun (congrArg Prod.snd u2) x) 0).trans ((wz_nr (Or.inl (hn_ne gx gnw (by decide)))).trans ((wz_nr (Or.inl (hn_ne gx gsp (by decide)))).trans ((hfr x 0 (fun e => absurd e.1 (hn_ne gx gtp (by decide)))).trans x_x0)))) ?_
    refine w_ic ?_
    refine w_pi gtp rfl (by decide) rfl (fun q => by cases q) ?_
    refine w_aln rfl ?_
    refine w_aln rfl ?_
    refine w_gr gx rfl (by decide) rfl ((congrFun (congrFun (congrArg Prod.snd u2) x) 0).trans ((wz_nr (Or.inl (hn_ne gx gnw (by decide)))).trans ((wz_nr (Or.inl (hn_ne gx gsp (by decide)))).trans ((hfr x 0 (fun e => absurd e.1 (hn_ne gx gtp (by decide)))).trans x_x0)))) ?_
    refine w_gi gtp rfl (by decide) rfl ((hn_n (Or.inr (by decide))).trans ((hn_n (Or.inr (by decide))).trans ((hn_n (Or.inr (by decide))).trans ((hn_n (Or.inr (by decide))).trans ((hn_n (Or.inr (by decide))).trans ((congrFun (u1 tp (hn_ne gtp gdl (by decide)) (hn_ne gtp hD.2.1 (by decide)) (hn_ne gtp hD.2.2.1 (by decide)) (hn_ne gtp hD.2.2.2.1 (by decide))) 2).trans ((hn_n (Or.inr (by decide))).trans ((hn_n (Or.inr (by decide))).trans (f2))))))))) ?_
    refine w_pi gx rfl (by decide) rfl (fun q => by cases q) ?_
    refine w_aln rfl ?_
    refine w_gi gx rfl (by decide) rfl (hn_s) ?_
    refine w_ifne (fun c3 => ?_) (fun c3 => ?_)
    · exfalso; omega
    · skip
      refine w_iln rfl ?_
      refine w_goto ?_
      refine w_iret (fun q => by cases q) ?_
      exact w_iret (fun q => by cases q) (hQ _ ⟨fun k hk => (hn_n (Or.inl (hn_ne gpl gx (by decide)))).trans ((hn_n (Or.inl (hn_ne gpl gtp (by decide)))).trans ((hn_n (Or.inl (hn_ne gpl gud (by decide)))).trans ((hn_n (Or.inl (hn_ne gpl gye (by decide)))).trans ((hn_n (Or.inl (hn_ne gpl gse (by decide)))).trans ((hn_n (Or.inl (hn_ne gpl gse (by decide)))).trans ((congrFun (u1 pl (hn_ne gpl gdl (by decide)) (hn_ne gpl hD.2.1 (by decide)) (hn_ne gpl hD.2.2.1 (by decide)) (hn_ne gpl hD.2.2.2.1 (by decide))) k).trans ((hn_n (Or.inr hk)).trans ((hn_n (Or.inl (hn_ne gpl gx (by decide)))).trans (congrFun c5 k))))))))), (wz_c (hn_ne gwa gx (by decide))).trans ((wz_c (hn_ne gwa gtp (by decide))).trans ((wz_c (hn_ne gwa gud (by decide))).trans ((wz_c (hn_ne gwa gye (by decide))).trans ((wz_c (hn_ne gwa gse (by decide))).trans ((wz_c (hn_ne gwa gse (by decide))).trans ((u1 wa (hn_ne gwa gdl (by decide)) (hn_ne gwa hD.2.1 (by decide)) (hn_ne gwa hD.2.2.1 (by decide)) (hn_ne gwa hD.2.2.2.1 (by decide))).trans ((wz_c (hn_ne gwa gpl (by decide))).trans ((wz_c (hn_ne gwa gx (by decide))).trans (c6))))))))), fun s hs => (wz_c (hn_ne (gtr s hs) gx (by decide))).trans ((wz_c (hn_ne (gtr s hs) gtp (by decide))).trans ((wz_c (hn_ne (gtr s hs) gud (by decide))).trans ((wz_c (hn_ne (gtr s hs) gye (by decide))).trans ((wz_c (hn_ne (gtr s hs) gse (by decide))).trans ((wz_c (hn_ne (gtr s hs) gse (by decide))).trans ((u1 (tr s) (hn_ne (gtr s hs) gdl (by decide)) (hn_ne (gtr s hs) hD.2.1 (by decide)) (hn_ne (gtr s hs) hD.2.2.1 (by decide)) (hn_ne (gtr s hs) hD.2.2.2.1 (by decide))).trans ((wz_c (hn_ne (gtr s hs) gpl (by decide))).trans ((wz_c (hn_ne (gtr s hs) gx (by decide))).trans (c8 s hs))))))))), fun s hs => (wz_c (hn_ne (gbr s hs) gx (by decide))).trans ((wz_c (hn_ne (gbr s hs) gtp (by decide))).trans ((wz_c (hn_ne (gbr s hs) gud (by decide))).trans ((wz_c (hn_ne (gbr s hs) gye (by decide))).trans ((wz_c (hn_ne (gbr s hs) gse (by decide))).trans ((wz_c (hn_ne (gbr s hs) gse (by decide))).trans ((u1 (br s) (hn_ne (gbr s hs) gdl (by decide)) (hn_ne (gbr s hs) hD.2.1 (by decide)) (hn_ne (gbr s hs) hD.2.2.1 (by decide)) (hn_ne (gbr s hs) hD.2.2.2.1 (by decide))).trans ((wz_c (hn_ne (gbr s hs) gpl (by decide))).trans ((wz_c (hn_ne (gbr s hs) gx (by decide))).trans (c9 s hs))))))))), fun s hs => ⟨(congrFun (congrFun (congrArg Prod.fst u2) na) s).trans (c10 s hs).1, (c10 s hs).2⟩, (congrFun (congrFun (congrArg Prod.snd u2) nw) 0).trans wz_sr, fun hne => (congrFun (congrFun (congrArg Prod.snd u2) sp) 0).trans ((wz_nr (Or.inl hne)).trans wz_sr), fun a j g1 g2 g3 => (congrFun (congrFun (congrArg Prod.snd u2) a) j).trans ((wz_nr (Decidable.not_and_iff_or_not.mp g2)).trans ((wz_nr (Decidable.not_and_iff_or_not.mp g3)).trans (hfr a j g1))), fun a a1 a2 => (congrFun (congrArg Prod.fst u2) a).trans (w2 a a1 a2), fun a a0 a1 a2 a3 a4 a5 a6 a7 a8 a9 b0 b1 b2 b3 => (wz_c a0).trans ((wz_c a1).trans ((wz_c b3).trans ((wz_c b2).trans ((wz_c b1).trans ((wz_c b1).trans ((u1 a a7 a8 a9 b0).trans ((wz_c a2).trans ((wz_c a0).trans (w1 a a1 a2 a3 a4 a5 a6)))))))))⟩ ⟨(hn_n (Or.inl (hn_ne gud gx (by decide)))).trans ((hn_n (Or.inl (hn_ne gud gtp (by decide)))).trans (hn_s)), (hn_n (Or.inl (hn_ne gye gx (by decide)))).trans ((hn_n (Or.inl (hn_ne gye gtp (by decide)))).trans ((hn_n (Or.inl (hn_ne gye gud (by decide)))).trans (hn_s))), (by first | exact (hn_n (Or.inl (hn_ne gse gx (by decide)))).trans ((hn_n (Or.inl (hn_ne gse gtp (by decide)))).trans ((hn_n (Or.inl (hn_ne gse gud (by decide)))).trans ((hn_n (Or.inl (hn_ne gse gye (by decide)))).trans (hn_s)))) | exact (hn_n (Or.inl (hn_ne gse gx (by decide)))).trans ((hn_n (Or.inl (hn_ne gse gtp (by decide)))).trans ((hn_n (Or.inl (hn_ne gse gud (by decide)))).trans ((hn_n (Or.inl (hn_ne gse gye (by decide)))).trans ((hn_n (Or.inr (by decide))).trans hn_s))))), (by first | exact (hn_n (Or.inl (hn_ne gse gx (by decide)))).trans ((hn_n (Or.inl (hn_ne gse gtp (by decide)))).trans ((hn_n (Or.inl (hn_ne gse gud (by decide)))).trans ((hn_n (Or.inl (hn_ne gse gye (by decide)))).trans (hn_s)))) | exact (hn_n (Or.inl (hn_ne gse gx (by decide)))).trans ((hn_n (Or.inl (hn_ne gse gtp (by decide)))).trans ((hn_n (Or.inl (hn_ne gse gud (by decide)))).trans ((hn_n (Or.inl (hn_ne gse gye (by decide)))).trans ((hn_n (Or.inr (by decide))).trans hn_s))))), fun j hj => ⟨(hn_n (Or.inl (hn_ne hD.2.1 gx (by decide)))).trans ((hn_n (Or.inl (hn_ne hD.2.1 gtp (by decide)))).trans ((hn_n (Or.inl (hn_ne hD.2.1 gud (by decide)))).trans ((hn_n (Or.inl (hn_ne hD.2.1 gye (by decide)))).trans ((hn_n (Or.inl (hn_ne hD.2.1 gse (by decide)))).trans ((hn_n (Or.inl (hn_ne hD.2.1 gse (by decide)))).trans ((u3 j hj).1)))))), (hn_n (Or.inl (hn_ne hD.2.2.1 gx (by decide)))).trans ((hn_n (Or.inl (hn_ne hD.2.2.1 gtp (by decide)))).trans ((hn_n (Or.inl (hn_ne hD.2.2.1 gud (by decide)))).trans ((hn_n (Or.inl (hn_ne hD.2.2.1 gye (by decide)))).trans ((hn_n (Or.inl (hn_ne hD.2.2.1 gse (by decide)))).trans ((hn_n (Or.inl (hn_ne hD.2.2.1 gse (by decide)))).trans ((u3 j hj).2.1)))))), (hn_n (Or.inl (hn_ne hD.2.2.2.1 gx (by decide)))).trans ((hn_n (Or.inl (hn_ne hD.2.2.2.1 gtp (by decide)))).trans ((hn_n (Or.inl (hn_ne hD.2.2.2.1 gud (by decide)))).trans ((hn_n (Or.inl (hn_ne hD.2.2.2.1 gye (by decide)))).trans ((hn_n (Or.inl (hn_ne hD.2.2.2.1 gse (by decide)))).trans ((hn_n (Or.inl (hn_ne hD.2.2.2.1 gse (by decide)))).trans ((u3 j hj).2.2))))))⟩, (hn_n (Or.inl (hn_ne gdl gx (by decide)))).trans ((hn_n (Or.inl (hn_ne gdl gtp (by decide)))).trans ((hn_n (Or.inl (hn_ne gdl gud (by decide)))).trans ((hn_n (Or.inl (hn_ne gdl gye (by decide)))).trans ((hn_n (Or.inl (hn_ne gdl gse (by decide)))).trans ((hn_n (Or.inl (hn_ne gdl gse (by decide)))).trans (u4)))))), ((hn_n (Or.inr (by decide))).trans ((hn_n (Or.inl (hn_ne gx gtp (by decide)))).trans ((hn_n (Or.inl (hn_ne gx gud (by decide)))).trans ((hn_n (Or.inl (hn_ne gx gye (by decide)))).trans ((hn_n (Or.inl (hn_ne gx gse (by decide)))).trans ((hn_n (Or.inl (hn_ne gx gse (by decide)))).trans ((congrFun (u1 x (hn_ne gx gdl (by decide)) (hn_ne gx hD.2.1 (by decide)) (hn_ne gx hD.2.2.1 (by decide)) (hn_ne gx hD.2.2.2.1 (by decide))) 13).trans ((hn_n (Or.inl (hn_ne gx gpl (by decide)))).trans (hn_s))))))))).trans (ez2.trans (by rw [w1 x (hn_ne gx gtp (by decide)) (hn_ne gx gpl (by decide)) (hn_ne gx gwa (by decide)) (hn_ne gx goa (by decide)) (fun t ht => hn_ne gx (gtr t ht) (by decide)) (fun t ht => hn_ne gx (gbr t ht) (by decide))])), ((hn_n (Or.inl (hn_ne gpl gx (by decide)))).trans ((hn_n (Or.inl (hn_ne gpl gtp (by decide)))).trans ((hn_n (Or.inl (hn_ne gpl gud (by decide)))).trans ((hn_n (Or.inl (hn_ne gpl gye (by decide)))).trans ((hn_n (Or.inl (hn_ne gpl gse (by decide)))).trans ((hn_n (Or.inl (hn_ne gpl gse (by decide)))).trans ((congrFun (u1 pl (hn_ne gpl gdl (by decide)) (hn_ne gpl hD.2.1 (by decide)) (hn_ne gpl hD.2.2.1 (by decide)) (hn_ne gpl hD.2.2.2.1 (by decide))) 9).trans (hn_s)))))))).trans ((hn_n (Or.inr (by decide))).trans ((hn_n (Or.inl (hn_ne gx gtp (by decide)))).trans ((hn_n (Or.inl (hn_ne gx gud (by decide)))).trans ((hn_n (Or.inl (hn_ne gx gye (by decide)))).trans ((hn_n (Or.inl (hn_ne gx gse (by decide)))).trans ((hn_n (Or.inl (hn_ne gx gse (by decide)))).trans ((congrFun (u1 x (hn_ne gx gdl (by decide)) (hn_ne gx hD.2.1 (by decide)) (hn_ne gx hD.2.2.1 (by decide)) (hn_ne gx hD.2.2.2.1 (by decide))) 13).trans ((hn_n (Or.inl (hn_ne gx gpl (by decide)))).trans (hn_s))))))))).symm⟩)
theorem r_X11_plain4 {G : mj_G} {M : mj_M} {B : Nat → Int} {n tp bc pl na ta ba wa oa : Nat} {tr br : Nat → Nat} {T : Nat → Nat × Nat × Int × List Int × Nat} {Q : mj_P} {d : Nat} {x sp nw pn dl fa sa ca se ye ud : Nat} (hA : rv_AT G M B n 900 tp bc pl na ta ba wa oa tr br T) (hX : rv_X G M x tp pl sp nw pn dl fa sa ca se ye ud) (hn : M.1 tp 1 = (n : Int)) (h : ∀ PL WA OA TO BI NA, rv_0 PL WA OA TO BI NA → sp_rows T (fun f a => ∀ M', rv_PG x tp pl na wa oa tr br M M' → Q (some (.inl (rv_vf a))) G M') (fun PL WA OA TO BI nm r => rv_pb PL → ∀ M', rv_PO x tp pl na wa oa sp nw pn dl fa sa ca se ye ud tr br PL WA OA TO BI nm M M' → rv_P2 x pl dl fa sa ca se ye ud M M' → Q (some (.inl (r : Int))) G M') (n + 1) PL WA OA TO BI (fun _ => []) 0 0) : mj_R mj_tab (d + 8) 138 [.inr (.inr (some x))] G M Q := by
  obtain ⟨⟨gtp, gbc, gpl, gna, gta, gba, gwa, goa, gtr, gbr, itr, ibr, r1, r2, r3, r4, r5, r6, r7, r8, rb, rw0, n1, n2, hIw⟩, hT⟩ := id hA
  obtain ⟨⟨gx, gsp, gnw, gse, gye, gud, hD⟩, x_x0, x_x1, x_x2, x_x5, x_sp0, x_nw0, x_nw1, x_nw2, x_nw3⟩ := id hX
  have gdl := hD.1
  refine ⟨Nat.le_of_ble_eq_true rfl, ?_⟩
  show wz (d + 7) mt_X11_plain.2.2.2.2.1 Q mt_X11_plain.2.2.2.2.1 [some (.inr (.inr (some x))), none, none] [] G M _ _
  refine w_aln rfl ?_
  refine w_gr gx rfl (by decide) rfl x_x2 ?_
  refine w_gr gsp rfl (by decide) rfl x_sp0 ?_
  refine w_asn ?_
  show wz _ _ _ _ [some (.inr (.inr (some x))), some (.inr (.inr (some pl))), none] _ _ _ _ _
  refine w_aln rfl ?_
  refine w_cv (st := []) rfl gpl rfl (Nat.le_of_ble_eq_true rfl) (fun kk h => h) (r_X3_clear (d := d + 6) (M0 := M) (PL := M.1 pl) (WA := M.1 wa) (OA := M.1 oa) (TO := fun s => M.1 (tr s)) (BI := fun s => M.1 (br s)) (NA := M.2.1 na) hA.1 ⟨rfl, rfl, rfl, fun _ _ => rfl, fun _ _ => rfl, rfl, fun _ _ _ _ _ _ => rfl, fun _ _ => rfl, rfl⟩ (fun PL WA OA TO BI NA M1 c1 z1 => ?_))
  obtain ⟨c5, c6, c7, c8, c9, c10, cf1, cf2, cf3⟩ := id c1
  have tpf : M1.1 tp = M.1 tp := cf1 tp (hn_ne gtp gpl (by decide)) (hn_ne gtp gwa (by decide)) (hn_ne gtp goa (by decide)) (fun t ht => hn_ne gtp (gtr t ht) (by decide)) (fun t ht => hn_ne gtp (gbr t ht) (by decide))
  refine w_aln rfl ?_
  refine w_gr gx rfl (by decide) rfl (by rw [cf3]; exact x_x0) ?_
  refine w_sp ?_
  refine w_cv (st := []) rfl gtp rfl (Nat.le_of_ble_eq_true rfl) (fun kk h => h) ⟨Nat.le_of_ble_eq_true rfl, ?_⟩
  show wz (d + 6) mt_X7_open.2.2.2.2.1 _ mt_X7_open.2.2.2.2.1 [some (.inr (.inr (some tp))), some (.inl 900)] [] _ _ _ _
  refine w_aln rfl ?_
  refine w_iln rfl ?_
  refine w_pi gtp rfl (by decide) rfl (fun q => by cases q) ?_
  refine w_aln rfl ?_
  refine w_ic ?_
  refine w_pi gtp rfl (by decide) rfl (fun q => by cases q) ?_
  refine w_aln rfl ?_
  refine w_ic ?_
  refine w_pi gtp rfl (by decide) rfl (fun q => by cases q) ?_
  refine w_aln rfl ?_
  refine w_ic ?_
  refine w_pi gtp rfl (by decide) rfl (fun q => by cases q) ?_
  refine w_ret ?_
  refine w_aln rfl ?_
  refine w_aln rfl ?_
  refine w_gr gx rfl (by decide) rfl (by show M1.2.2 x 0 = _; rw [cf3]; exact x_x0) ?_
  have e4 : ∀ b, b ≠ tp → (mj_p0 (mj_p0 (mj_p0 (mj_p0 M1 tp 10 900) tp 11 0) tp 2 0) tp 3 0).1 b = M1.1 b := fun b hb => (wz_c hb).trans ((wz_c hb).trans ((wz_c hb).trans (wz_c hb)))
  have n0 : ∀ s, s < 8 → NA s = rv_5 ((fun _ => []) s) ∧ rv_wo ((fun _ => []) s : List Int) := fun s hs => ⟨(z1.1 s hs).1, by show 0 ≤ 8; decide, fun y hy => by cases hy⟩
  have S0 : rv_S0 G M n 900 tp pl na wa oa tr br 0 PL WA OA TO BI (fun _ => []) (mj_p0 (mj_p0 (mj_p0 (mj_p0 M1 tp 10 900) tp 11 0) tp 2 0) tp 3 0) := ⟨⟨(hn_n (Or.inr (by decide))).trans ((hn_n (Or.inr (by decide))).trans ((hn_n (Or.inr (by decide))).trans ((hn_n (Or.inr (by decide))).trans ((congrFun tpf 1).trans hn)))), (hn_n (Or.inr (by decide))).trans ((hn_n (Or.inr (by decide))).trans ((hn_n (Or.inr (by decide))).trans hn_s)), (hn_n (Or.inr (by decide))).trans hn_s⟩, (hn_n (Or.inr (by decide))).trans ((hn_n (Or.inr (by decide))).trans hn_s), (e4 pl (hn_ne gpl gtp (by decide))).trans c5, (e4 wa (hn_ne gwa gtp (by decide))).trans c6, (e4 oa (hn_ne goa gtp (by decide))).trans c7, fun s hs => (e4 _ (hn_ne (gtr s hs) gtp (by decide))).trans (c8 s hs), fun s hs => (e4 _ (hn_ne (gbr s hs) gtp (by decide))).trans (c9 s hs), fun s hs => ⟨(congrFun c10 s).trans (n0 s hs).1, (n0 s hs).2⟩, fun a a1 a2 a3 a4 a5 a6 => (e4 a a1).trans (cf1 a a2 a3 a4 a5 a6), fun a a1 _ => cf2 a a1, fun a j _ => congrFun (congrFun cf3 a) j⟩
  refine w_cv (st := []) rfl gpl rfl (Nat.le_of_ble_eq_true rfl) (fun kk h => h) (r_X3_readRows (d := d) hA S0 ⟨by rw [z1.2.2.1]; decide, by rw [z1.2.2.1]; decide, by rw [z1.2.2.2.1]; decide, by rw [z1.2.2.2.1]; decide⟩ (sp_rows.mono (fun f a hf z M2 F2 => ?_) (fun PL2 WA2 OA2 TO2 BI2 nm2 r2 hk hb2 q2 M2 s2 => ?_) _ _ _ _ _ _ _ _ _ (h PL WA OA TO BI NA z1)))
  · exact r_qp_F hA hX F2 hf _ _
  · exact r_qp_O hA hX s2 (hk hb2) _ _
