/-! ===== the class's plain (laid by a program) ===== -/
theorem sp_rows.mono {T : Nat → Nat × Nat × Int × List Int × Nat} {Kf Kf' : Int → Nat → Prop} {Ko Ko' : (Nat → Int) → (Nat → Int) → (Nat → Int) → (Nat → Nat → Int) → (Nat → Nat → Int) → (Nat → List Int) → Nat → Prop} (hf : ∀ f a, Kf f a → Kf' f a) (ho : ∀ PL WA OA TO BI nm r, Ko PL WA OA TO BI nm r → Ko' PL WA OA TO BI nm r) : ∀ (f : Nat) (PL WA OA : Nat → Int) (TO BI : Nat → Nat → Int) (nm : Nat → List Int) (r q : Nat), sp_rows T Kf Ko f PL WA OA TO BI nm r q → sp_rows T Kf' Ko' f PL WA OA TO BI nm r q
  | 0, _, _, _, _, _, _, _, _, _ => trivial
  | f + 1, PL, WA, OA, TO, BI, nm, r, q, h => ⟨fun e => ho _ _ _ _ _ _ _ (h.1 e), fun e => hf _ _ (h.2.1 e), fun e0 e5 => (h.2.2 e0 e5).mono hf (fun PL' WA' OA' TO' BI' nm' q' k => k.mono hf (fun _ k => sp_rows.mono hf ho f _ _ _ _ _ _ _ _ k))⟩
theorem r_X3_readRows {G : mj_G} {M0 M : mj_M} {B : Nat → Int} {n lim tp bc pl na ta ba wa oa : Nat} {tr br : Nat → Nat} {T : Nat → Nat × Nat × Int × List Int × Nat} {PL WA OA : Nat → Int} {TO BI : Nat → Nat → Int} {nm : Nat → List Int} {Q : mj_P} {d : Nat} (hA : rv_AT G M0 B n lim tp bc pl na ta ba wa oa tr br T) (hS : rv_S0 G M0 n lim tp pl na wa oa tr br 0 PL WA OA TO BI nm M) (hb : rv_pb PL) (h : sp_rows T (fun f a => ∀ z M', rv_F tp pl na wa oa tr br M0 f a M' → Q (some (.inl z)) G M') (fun PL WA OA TO BI nm r => rv_pb PL → ∀ q' M', rv_S G M0 n lim tp pl na wa oa tr br (T q') PL WA OA TO BI nm M' → Q (some (.inl (r : Int))) G M') (n + 1) PL WA OA TO BI nm 0 0) : mj_R mj_tab (d + 7) 44 [.inr (.inr (some pl)), .inr (.inr (some tp))] G M Q := by
  have gtp := hA.1.1
  refine ⟨Nat.le_of_ble_eq_true rfl, ?_⟩
  show wz (d + 6) mt_X3_readRows.2.2.2.2.1 Q mt_X3_readRows.2.2.2.2.1 [some (.inr (.inr (some pl))), some (.inr (.inr (some tp))), none] [] G M _ _
  refine w_ic ?_
  refine w_isn ?_
  refine w_aln rfl ?_
  refine w_cv (st := []) rfl gtp rfl (Nat.le_of_ble_eq_true rfl) (fun kk h => h) (r_adv0 (d := d + 3) hA.1 hS (Nat.zero_le n) (fun M1 s1 => ?_))
  rw [← hA.2] at s1
  exact r_rows1 hA (n + 1) 0 0 PL WA OA TO BI nm M1 _ _ (by omega) (Nat.zero_le n) (Nat.le_refl 0) hb s1 h
/-- what a fault at a is answered by -/
def rv_vf (a : Nat) : Int := (Int32.ofInt (-1) - Int32.ofInt (a : Int)).toInt
/-- where the object's parts lie -/
def rv_X (G : mj_G) (M : mj_M) (x tp pl sp nw pn dl fa sa ca se ye ud : Nat) : Prop := (G x = (1011, 0) ∧ G sp = (1007, 0) ∧ G nw = (1007, 0) ∧ G se = (1006, 0) ∧ G ye = (1010, 0) ∧ G ud = (1009, 0) ∧ rv_D G M dl fa sa ca) ∧ M.2.2 x 0 = some tp ∧ M.2.2 x 1 = some nw ∧ M.2.2 x 2 = some sp ∧ M.2.2 x 5 = some ud ∧ M.2.2 sp 0 = some pl ∧ M.2.2 nw 0 = some pn ∧ M.2.2 nw 1 = some dl ∧ M.2.2 nw 2 = some se ∧ M.2.2 nw 3 = some ye
theorem r_pl_F {G : mj_G} {M0 M : mj_M} {B : Nat → Int} {n lim tp bc pl na ta ba wa oa : Nat} {tr br : Nat → Nat} {T : Nat → Nat × Nat × Int × List Int × Nat} {Q : mj_P} {d : Nat} {x sp nw pn dl fa sa ca se ye ud : Nat} {z : Int} (hA : rv_AT G M0 B n lim tp bc pl na ta ba wa oa tr br T) (hX : rv_X G M0 x tp pl sp nw pn dl fa sa ca se ye ud) (hfr : ∀ a j, ¬ (a = tp ∧ j = 9) → M.2.2 a j = M0.2.2 a j) {f : Int} {a : Nat} (f2 : M.1 tp 2 = f) (f0 : f ≠ 0) (f3 : M.1 tp 3 = (a : Int)) (hQ : ∀ M', Q (some (.inl (rv_vf a))) G M') : ∀ cb sb, wz (d + 7) mt_X11_plain.2.2.2.2.1 Q (mt_X11_plain.2.2.2.2.1.drop 14) [some (.inr (.inr (some x))), some (.inr (.inr (some pl))), none] [.inl z] G M cb sb := by
  obtain ⟨⟨gtp, gbc, gpl, gna, gta, gba, gwa, goa, gtr, gbr, itr, ibr, r1, r2, r3, r4, r5, r6, r7, r8, rb, rw0, n1, n2, hIw⟩, hT⟩ := id hA
  obtain ⟨⟨gx, gsp, gnw, gse, gye, gud, hD⟩, x_x0, x_x1, x_x2, x_x5, x_sp0, x_nw0, x_nw1, x_nw2, x_nw3⟩ := id hX
  have gdl := hD.1
  intro cb sb
  refine w_isn ?_
  show wz _ _ _ _ [some (.inr (.inr (some x))), some (.inr (.inr (some pl))), some (.inl z)] _ _ _ _ _
  refine w_aln rfl ?_
  refine w_gr gx rfl (by decide) rfl ((hfr x 0 (fun e => absurd e.1 (hn_ne gx gtp (by decide)))).trans x_x0) ?_
  refine w_gi gtp rfl (by decide) rfl (f2) ?_
  refine w_ifne (fun c1 => ?_) (fun c1 => ?_)
  · skip
    refine w_aln rfl ?_
    refine w_iln rfl ?_
    refine w_cv (st := []) rfl gx rfl (Nat.le_of_ble_eq_true rfl) (fun kk h => h) ⟨Nat.le_of_ble_eq_true rfl, ?_⟩
    show wz (d + 6) mt_X11_closeTape.2.2.2.2.1 _ mt_X11_closeTape.2.2.2.2.1 [some (.inr (.inr (some x))), some (.inl z)] [] _ _ _ _
    refine w_aln rfl ?_
    refine w_gr gx rfl (by decide) rfl ((hfr x 0 (fun e => absurd e.1 (hn_ne gx gtp (by decide)))).trans x_x0) ?_
    refine w_ic ?_
    refine w_pi gtp rfl (by decide) rfl (fun q => by cases q) ?_
    refine w_aln rfl ?_
    refine w_aln rfl ?_
    refine w_gr gx rfl (by decide) rfl ((hfr x 0 (fun e => absurd e.1 (hn_ne gx gtp (by decide)))).trans x_x0) ?_
    refine w_gi gtp rfl (by decide) rfl ((hn_n (Or.inr (by decide))).trans (f2)) ?_
    refine w_pi gx rfl (by decide) rfl (fun q => by cases q) ?_
    refine w_aln rfl ?_
    refine w_gi gx rfl (by decide) rfl (hn_s) ?_
    refine w_ifne (fun c2 => ?_) (fun c2 => ?_)
    · skip
      refine w_ic ?_
      refine w_aln rfl ?_
      refine w_gr gx rfl (by decide) rfl ((hfr x 0 (fun e => absurd e.1 (hn_ne gx gtp (by decide)))).trans x_x0) ?_
      refine w_gi gtp rfl (by decide) rfl ((hn_n (Or.inr (by decide))).trans ((hn_n (Or.inr (by decide))).trans (f3))) ?_
      refine w_subw ?_
      intro z3 hz3 ez3
      refine w_iret (fun q => by cases q) ?_
      have ev : z3 = rv_vf a := ez3
      refine w_iret (fun q => by cases q) ?_
      rw [ev]
      exact hQ _
    · exfalso; omega
  · exfalso; omega
theorem r_pl_O {G : mj_G} {M0 M : mj_M} {B : Nat → Int} {n lim tp bc pl na ta ba wa oa : Nat} {tr br : Nat → Nat} {T : Nat → Nat × Nat × Int × List Int × Nat} {Q : mj_P} {d : Nat} {x sp nw pn dl fa sa ca se ye ud : Nat} {z : Int} (hA : rv_AT G M0 B n lim tp bc pl na ta ba wa oa tr br T) (hX : rv_X G M0 x tp pl sp nw pn dl fa sa ca se ye ud) (hfr : ∀ a j, ¬ (a = tp ∧ j = 9) → M.2.2 a j = M0.2.2 a j) (f2 : M.1 tp 2 = 0) (hQ : ∀ M', Q (some (.inl z)) G M') : ∀ cb sb, wz (d + 7) mt_X11_plain.2.2.2.2.1 Q (mt_X11_plain.2.2.2.2.1.drop 14) [some (.inr (.inr (some x))), some (.inr (.inr (some pl))), none] [.inl z] G M cb sb := by
  obtain ⟨⟨gtp, gbc, gpl, gna, gta, gba, gwa, goa, gtr, gbr, itr, ibr, r1, r2, r3, r4, r5, r6, r7, r8, rb, rw0, n1, n2, hIw⟩, hT⟩ := id hA
  obtain ⟨⟨gx, gsp, gnw, gse, gye, gud, hD⟩, x_x0, x_x1, x_x2, x_x5, x_sp0, x_nw0, x_nw1, x_nw2, x_nw3⟩ := id hX
  have gdl := hD.1
  intro cb sb
  refine w_isn ?_
  show wz _ _ _ _ [some (.inr (.inr (some x))), some (.inr (.inr (some pl))), some (.inl z)] _ _ _ _ _
  refine w_aln rfl ?_
  refine w_gr gx rfl (by decide) rfl ((hfr x 0 (fun e => absurd e.1 (hn_ne gx gtp (by decide)))).trans x_x0) ?_
  refine w_gi gtp rfl (by decide) rfl (f2) ?_
  refine w_ifne (fun c1 => ?_) (fun c1 => ?_)
  · exfalso; omega
  · skip
    refine w_aln rfl ?_
    refine w_dupr ?_
    refine w_gi gx rfl (by decide) rfl (rfl) ?_
    refine w_ic ?_
    refine w_addw ?_
    intro z2 hz2 ez2
    refine w_pi gx rfl (by decide) rfl (fun q => by cases q) ?_
    refine w_aln rfl ?_
    refine w_aln rfl ?_
    refine w_gi gx rfl (by decide) rfl (hn_s) ?_
    refine w_pi gpl rfl (by decide) rfl (fun q => by cases q) ?_
    refine w_aln rfl ?_
    refine w_gr gx rfl (by decide) rfl ((hfr x 2 (fun e => absurd e.1 (hn_ne gx gtp (by decide)))).trans x_x2) ?_
    refine w_aln rfl ?_
    refine w_gr gx rfl (by decide) rfl ((hfr x 1 (fun e => absurd e.1 (hn_ne gx gtp (by decide)))).trans x_x1) ?_
    refine w_gr gnw rfl (by decide) rfl ((hfr nw 0 (fun e => absurd e.1 (hn_ne gnw gtp (by decide)))).trans x_nw0) ?_
    refine w_pr gsp rfl (by decide) rfl ?_
    refine w_aln rfl ?_
    refine w_gr gx rfl (by decide) rfl ((wz_nr (Or.inr (by decide))).trans ((hfr x 1 (fun e => absurd e.1 (hn_ne gx gtp (by decide)))).trans x_x1)) ?_
    refine w_aln rfl ?_
    refine w_pr gnw rfl (by decide) rfl ?_
    refine w_aln rfl ?_
    refine w_gr gx rfl (by decide) rfl ((wz_nr (Or.inr (by decide))).trans ((wz_nr (Or.inr (by decide))).trans ((hfr x 1 (fun e => absurd e.1 (hn_ne gx gtp (by decide)))).trans x_x1))) ?_
    refine w_gr gnw rfl (by decide) rfl ((wz_nr (Or.inr (by decide))).trans ((wz_nr (Or.inr (by decide))).trans ((hfr nw 1 (fun e => absurd e.1 (hn_ne gnw gtp (by decide)))).trans x_nw1))) ?_
    refine w_cv (st := []) rfl gdl rfl (Nat.le_of_ble_eq_true rfl) (fun kk h => h) (r_X1_clear (d := d + 6) (fa := fa) (sa := sa) (ca := ca) ?_ (fun M3 u2 u1 _ _ => ?_))
    · exact ⟨hD.1, hD.2.1, hD.2.2.1, hD.2.2.2.1, (wz_nr (Or.inl (hn_ne hD.1 gnw (by decide)))).trans ((wz_nr (Or.inl (hn_ne hD.1 gsp (by decide)))).trans ((hfr dl 0 (fun e => absurd e.1 (hn_ne hD.1 gtp (by decide)))).trans hD.2.2.2.2.1)), (wz_nr (Or.inl (hn_ne hD.1 gnw (by decide)))).trans ((wz_nr (Or.inl (hn_ne hD.1 gsp (by decide)))).trans ((hfr dl 1 (fun e => absurd e.1 (hn_ne hD.1 gtp (by decide)))).trans hD.2.2.2.2.2.1)), (wz_nr (Or.inl (hn_ne hD.1 gnw (by decide)))).trans ((wz_nr (Or.inl (hn_ne hD.1 gsp (by decide)))).trans ((hfr dl 2 (fun e => absurd e.1 (hn_ne hD.1 gtp (by decide)))).trans hD.2.2.2.2.2.2))⟩
    refine w_aln rfl ?_
    refine w_gr gx rfl (by decide) rfl ((congrFun (congrFun (congrArg Prod.snd u2) x) 1).trans ((wz_nr (Or.inr (by decide))).trans ((wz_nr (Or.inr (by decide))).trans ((hfr x 1 (fun e => absurd e.1 (hn_ne gx gtp (by decide)))).trans x_x1)))) ?_
    refine w_gr gnw rfl (by decide) rfl ((congrFun (congrFun (congrArg Prod.snd u2) nw) 2).trans ((wz_nr (Or.inr (by decide))).trans ((wz_nr (Or.inr (by decide))).trans ((hfr nw 2 (fun e => absurd e.1 (hn_ne gnw gtp (by decide)))).trans x_nw2)))) ?_
    refine w_cv (st := []) rfl gse rfl (Nat.le_of_ble_eq_true rfl) (fun kk h => h) ⟨Nat.le_of_ble_eq_true rfl, ?_⟩
    show wz (d + 6) mt_X5_clear.2.2.2.2.1 _ mt_X5_clear.2.2.2.2.1 [some (.inr (.inr (some se)))] [] _ _ _ _
    refine w_aln rfl ?_
    refine w_ic ?_
    refine w_pi gse rfl (by decide) rfl (fun q => by cases q) ?_
    refine w_aln rfl ?_
    refine w_ic ?_
    refine w_pi gse rfl (by decide) rfl (fun q => by cases q) ?_
    refine w_ret ?_
    refine w_aln rfl ?_
    refine w_gr gx rfl (by decide) rfl ((congrFun (congrFun (congrArg Prod.snd u2) x) 1).trans ((wz_nr (Or.inr (by decide))).trans ((wz_nr (Or.inr (by decide))).trans ((hfr x 1 (fun e => absurd e.1 (hn_ne gx gtp (by decide)))).trans x_x1)))) ?_
    refine w_gr gnw rfl (by decide) rfl ((congrFun (congrFun (congrArg Prod.snd u2) nw) 3).trans ((wz_nr (Or.inr (by decide))).trans ((wz_nr (Or.inr (by decide))).trans ((hfr nw 3 (fun e => absurd e.1 (hn_ne gnw gtp (by decide)))).trans x_nw3)))) ?_
    refine w_ic ?_
    refine w_pi gye rfl (by decide) rfl (fun _ => by omega) ?_
    refine w_aln rfl ?_
    refine w_gr gx rfl (by decide) rfl ((congrFun (congrFun (congrArg Prod.snd u2) x) 5).trans ((wz_nr (Or.inr (by decide))).trans ((wz_nr (Or.inr (by decide))).trans ((hfr x 5 (fun e => absurd e.1 (hn_ne gx gtp (by decide)))).trans x_x5)))) ?_
    refine w_ic ?_
    refine w_pi gud rfl (by decide) rfl (fun q => by cases q) ?_
    refine w_aln rfl ?_
    refine w_iln rfl ?_
    refine w_cv (st := []) rfl gx rfl (Nat.le_of_ble_eq_true rfl) (fun kk h => h) ⟨Nat.le_of_ble_eq_true rfl, ?_⟩
    show wz (d + 6) mt_X11_closeTape.2.2.2.2.1 _ mt_X11_closeTape.2.2.2.2.1 [some (.inr (.inr (some x))), some (.inl z)] [] _ _ _ _
    refine w_aln rfl ?_
    refine w_gr gx rfl (by decide) rfl ((congrFun (congrFun (congrArg Prod.snd u2) x) 0).trans ((wz_nr (Or.inl (hn_ne gx gnw (by decide)))).trans ((wz_nr (Or.inl (hn_ne gx gsp (by decide)))).trans ((hfr x 0 (fun e => absurd e.1 (hn_ne gx gtp (by decide)))).trans x_x0)))) ?_
    refine w_ic ?_
    refine w_pi gtp rfl (by decide) rfl (fun q => by cases q) ?_
    refine w_aln rfl ?_
    refine w_aln rfl ?_
    refine w_gr gx rfl (by decide) rfl ((congrFun (congrFun (congrArg Prod.snd u2) x) 0).trans ((wz_nr (Or.inl (hn_ne gx gnw (by decide)))).trans ((wz_nr (Or.inl (hn_ne gx gsp (by decide)))).trans ((hfr x 0 (fun e => absurd e.1 (hn_ne gx gtp (by decide)))).trans x_x0)))) ?_
    refine w_gi gtp rfl (by decide) rfl ((hn_n (Or.inr (by decide))).trans ((hn_n (Or.inr (by decide))).trans ((hn_n (Or.inr (by decide))).trans ((hn_n (Or.inr (by decide))).trans ((hn_n (Or.inr (by decide))).trans ((congrFun (u1 tp (hn_ne gtp gdl (by decide)) (hn_ne gtp hD.2.1 (by decide)) (hn_ne gtp hD.2.2.1 (by decide)) (hn_ne gtp hD.2.2.2.1 (by decide))) 2).trans ((hn_n (Or.inr (by decide))).trans ((hn_n (Or.inr (by decide))).trans (f2))))))))) ?_
    refine w_pi gx rfl (by decide) rfl (fun q => by cases q) ?_
    refine w_aln rfl ?_
    refine w_gi gx rfl (by decide) rfl (hn_s) ?_
    refine w_ifne (fun c3 => ?_) (fun c3 => ?_)
    · exfalso; omega
    · skip
      refine w_iln rfl ?_
      refine w_goto ?_
      refine w_iret (fun q => by cases q) ?_
      exact w_iret (fun q => by cases q) (hQ _)
theorem r_X11_plain {G : mj_G} {M : mj_M} {B : Nat → Int} {n tp bc pl na ta ba wa oa : Nat} {tr br : Nat → Nat} {T : Nat → Nat × Nat × Int × List Int × Nat} {Q : mj_P} {d : Nat} {x sp nw pn dl fa sa ca se ye ud : Nat} (hA : rv_AT G M B n 900 tp bc pl na ta ba wa oa tr br T) (hX : rv_X G M x tp pl sp nw pn dl fa sa ca se ye ud) (hn : M.1 tp 1 = (n : Int)) (h : ∀ PL WA OA TO BI NA, rv_0 PL WA OA TO BI NA → sp_rows T (fun f a => ∀ M', Q (some (.inl (rv_vf a))) G M') (fun PL WA OA TO BI nm r => ∀ M', Q (some (.inl (r : Int))) G M') (n + 1) PL WA OA TO BI (fun _ => []) 0 0) : mj_R mj_tab (d + 8) 138 [.inr (.inr (some x))] G M Q := by
  obtain ⟨⟨gtp, gbc, gpl, gna, gta, gba, gwa, goa, gtr, gbr, itr, ibr, r1, r2, r3, r4, r5, r6, r7, r8, rb, rw0, n1, n2, hIw⟩, hT⟩ := id hA
  obtain ⟨⟨gx, gsp, gnw, gse, gye, gud, hD⟩, x_x0, x_x1, x_x2, x_x5, x_sp0, x_nw0, x_nw1, x_nw2, x_nw3⟩ := id hX
  have gdl := hD.1
  refine ⟨Nat.le_of_ble_eq_true rfl, ?_⟩
  show wz (d + 7) mt_X11_plain.2.2.2.2.1 Q mt_X11_plain.2.2.2.2.1 [some (.inr (.inr (some x))), none, none] [] G M _ _
  refine w_aln rfl ?_
  refine w_gr gx rfl (by decide) rfl x_x2 ?_
  refine w_gr gsp rfl (by decide) rfl x_sp0 ?_
  refine w_asn ?_
  show wz _ _ _ _ [some (.inr (.inr (some x))), some (.inr (.inr (some pl))), none] _ _ _ _ _
  refine w_aln rfl ?_
  refine w_cv (st := []) rfl gpl rfl (Nat.le_of_ble_eq_true rfl) (fun kk h => h) (r_X3_clear (d := d + 6) (M0 := M) (PL := M.1 pl) (WA := M.1 wa) (OA := M.1 oa) (TO := fun s => M.1 (tr s)) (BI := fun s => M.1 (br s)) (NA := M.2.1 na) hA.1 ⟨rfl, rfl, rfl, fun _ _ => rfl, fun _ _ => rfl, rfl, fun _ _ _ _ _ _ => rfl, fun _ _ => rfl, rfl⟩ (fun PL WA OA TO BI NA M1 c1 z1 => ?_))
  obtain ⟨c5, c6, c7, c8, c9, c10, cf1, cf2, cf3⟩ := id c1
  have tpf : M1.1 tp = M.1 tp := cf1 tp (hn_ne gtp gpl (by decide)) (hn_ne gtp gwa (by decide)) (hn_ne gtp goa (by decide)) (fun t ht => hn_ne gtp (gtr t ht) (by decide)) (fun t ht => hn_ne gtp (gbr t ht) (by decide))
  refine w_aln rfl ?_
  refine w_gr gx rfl (by decide) rfl (by rw [cf3]; exact x_x0) ?_
  refine w_sp ?_
  refine w_cv (st := []) rfl gtp rfl (Nat.le_of_ble_eq_true rfl) (fun kk h => h) ⟨Nat.le_of_ble_eq_true rfl, ?_⟩
  show wz (d + 6) mt_X7_open.2.2.2.2.1 _ mt_X7_open.2.2.2.2.1 [some (.inr (.inr (some tp))), some (.inl 900)] [] _ _ _ _
  refine w_aln rfl ?_
  refine w_iln rfl ?_
  refine w_pi gtp rfl (by decide) rfl (fun q => by cases q) ?_
  refine w_aln rfl ?_
  refine w_ic ?_
  refine w_pi gtp rfl (by decide) rfl (fun q => by cases q) ?_
  refine w_aln rfl ?_
  refine w_ic ?_
  refine w_pi gtp rfl (by decide) rfl (fun q => by cases q) ?_
  refine w_aln rfl ?_
  refine w_ic ?_
  refine w_pi gtp rfl (by decide) rfl (fun q => by cases q) ?_
  refine w_ret ?_
  refine w_aln rfl ?_
  refine w_aln rfl ?_
  refine w_gr gx rfl (by decide) rfl (by show M1.2.2 x 0 = _; rw [cf3]; exact x_x0) ?_
  have e4 : ∀ b, b ≠ tp → (mj_p0 (mj_p0 (mj_p0 (mj_p0 M1 tp 10 900) tp 11 0) tp 2 0) tp 3 0).1 b = M1.1 b := fun b hb => (wz_c hb).trans ((wz_c hb).trans ((wz_c hb).trans (wz_c hb)))
  have n0 : ∀ s, s < 8 → NA s = rv_5 ((fun _ => []) s) ∧ rv_wo ((fun _ => []) s : List Int) := fun s hs => ⟨(z1.1 s hs).1, by show 0 ≤ 8; decide, fun y hy => by cases hy⟩
  have S0 : rv_S0 G M n 900 tp pl na wa oa tr br 0 PL WA OA TO BI (fun _ => []) (mj_p0 (mj_p0 (mj_p0 (mj_p0 M1 tp 10 900) tp 11 0) tp 2 0) tp 3 0) := ⟨⟨(hn_n (Or.inr (by decide))).trans ((hn_n (Or.inr (by decide))).trans ((hn_n (Or.inr (by decide))).trans ((hn_n (Or.inr (by decide))).trans ((congrFun tpf 1).trans hn)))), (hn_n (Or.inr (by decide))).trans ((hn_n (Or.inr (by decide))).trans ((hn_n (Or.inr (by decide))).trans hn_s)), (hn_n (Or.inr (by decide))).trans hn_s⟩, (hn_n (Or.inr (by decide))).trans ((hn_n (Or.inr (by decide))).trans hn_s), (e4 pl (hn_ne gpl gtp (by decide))).trans c5, (e4 wa (hn_ne gwa gtp (by decide))).trans c6, (e4 oa (hn_ne goa gtp (by decide))).trans c7, fun s hs => (e4 _ (hn_ne (gtr s hs) gtp (by decide))).trans (c8 s hs), fun s hs => (e4 _ (hn_ne (gbr s hs) gtp (by decide))).trans (c9 s hs), fun s hs => ⟨(congrFun c10 s).trans (n0 s hs).1, (n0 s hs).2⟩, fun a a1 a2 a3 a4 a5 a6 => (e4 a a1).trans (cf1 a a2 a3 a4 a5 a6), fun a a1 _ => cf2 a a1, fun a j _ => congrFun (congrFun cf3 a) j⟩
  refine w_cv (st := []) rfl gpl rfl (Nat.le_of_ble_eq_true rfl) (fun kk h => h) (r_X3_readRows (d := d) hA S0 ⟨by rw [z1.2.2.1]; decide, by rw [z1.2.2.1]; decide, by rw [z1.2.2.2.1]; decide, by rw [z1.2.2.2.1]; decide⟩ (sp_rows.mono (fun f a hf z M2 F2 => ?_) (fun PL2 WA2 OA2 TO2 BI2 nm2 r2 hk _ q2 M2 s2 => ?_) _ _ _ _ _ _ _ _ _ (h PL WA OA TO BI NA z1)))
  · exact r_pl_F hA hX F2.2.2.1.2.2 F2.1 F2.2.2.2 F2.2.1 hf _ _
  · exact r_pl_O hA hX s2.2.2.2.2.2.2.2.2.2.2 s2.1.2.2 hk _ _
