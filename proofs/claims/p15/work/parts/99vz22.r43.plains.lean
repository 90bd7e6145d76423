/-! ===== plain of both sides, as the invariant sees it ===== -/
/-- an outcome of plain, as the bytes ask for it -/
def rv_z4 (f : Nat → Int) (n : Nat) (y : rv_Om) : Prop := ∃ PL WA OA TO BI NA, rv_0 PL WA OA TO BI NA ∧ ∀ P : rv_Om → Prop, P y → sp_rows (rv_T (fun k => rv_u8 (f k)) n 900) (fun f a => P (.inl (f, a))) (fun PL WA OA TO BI nm r => P (.inr (PL, WA, OA, TO, BI, nm, r))) (n + 1) PL WA OA TO BI (fun _ => []) 0 0
def rv_va (y : rv_Om) : Int := Sum.elim (fun e => rv_vf e.2) (fun e => ((e.2.2.2.2.2.2 : Nat) : Int)) y
theorem rv_va_l (e : Int × Nat) : rv_va (.inl e) = rv_vf e.2 := by unfold rv_va; rw [Sum.elim_inl]
theorem rv_va_r (e : (Nat → Int) × (Nat → Int) × (Nat → Int) × (Nat → Nat → Int) × (Nat → Nat → Int) × (Nat → List Int) × Nat) : rv_va (.inr e) = ((e.2.2.2.2.2.2 : Nat) : Int) := by unfold rv_va; rw [Sum.elim_inr]
section PQ
variable {G : mj_G} {M M' : mj_M} {w : Nat → Nat} {x m s kp kc tp bc bt p q n R ud : Nat}
/-- the PLAIN of cell p, as told -/
def lq_pv (w : Nat → Nat) (p : Nat) (PL WA : Nat → Int) (TO BI : Nat → Nat → Int) (M : mj_M) : Prop := rv_ps PL WA TO BI ∧ (∀ k, k ≠ 9 → M.1 (w p) k = PL k) ∧ M.1 (w (p + 20)) = WA ∧ (∀ t, t < 8 → M.1 (w (p + 3 + t)) = TO t) ∧ (∀ t, t < 8 → M.1 (w (p + 12 + t)) = BI t)
/-- between plain of the class and of the reference -/
def lq_p (G : mj_G) (M : mj_M) (x s kp kc : Nat) (w : Nat → Nat) (y : rv_Om) : Prop := lq_A G w ∧ lq_B M w x ∧ ∃ p q, lq_N M w p q ∧ (∀ k, k < 2 → M.1 kc k ≠ 0 → rv_G6 (M.1 kp) (538 * k) w (lq_ip k) M) ∧ (∀ e, y = .inl e → rv_G6 (M.1 s) 0 w p M) ∧ (∀ PL WA OA TO BI nm r, y = .inr (PL, WA, OA, TO, BI, nm, r) → lq_pv w p PL WA TO BI M)
theorem lq_B.rt (hB : lq_B M w x) (hA : lq_A G w) (gx : G x = (1011, 0)) (gt : G tp = (1008, 0)) (e : ∀ a j, a ≠ tp → a ≠ w 29 → a ≠ w 74 → M'.2.2 a j = M.2.2 a j) : lq_B M' w x := by
  obtain ⟨b1, b2, b3, b4, b5, b6, b7, b8⟩ := hB
  obtain ⟨ai, a2, a3, a4, a5, a6, a7⟩ := hA
  have ne : ∀ {a t n : Nat}, G a = (t, n) → t ≠ 1008 → t ≠ 1007 → ∀ j, M'.2.2 a j = M.2.2 a j := fun ga h1 h2 j => e _ j (hn_ne ga gt h1) (hn_ne ga a3 h2) (hn_ne ga a4 h2)
  refine ⟨fun P hP => ?_, (ne gx (by decide) (by decide) 1).trans b2, (ne gx (by decide) (by decide) 2).trans b3, (ne gx (by decide) (by decide) 3).trans b4, (ne a7 (by decide) (by decide) 0).trans b5, (ne a7 (by decide) (by decide) 1).trans b6, (e _ 0 (hn_ne a5 gt (by decide)) (fun h => absurd (ai _ _ (by decide) (by decide) h) (by decide)) (fun h => absurd (ai _ _ (by decide) (by decide) h) (by decide))).trans b7, (e _ 0 (hn_ne a6 gt (by decide)) (fun h => absurd (ai _ _ (by decide) (by decide) h) (by decide)) (fun h => absurd (ai _ _ (by decide) (by decide) h) (by decide))).trans b8⟩
  obtain ⟨g1, g2, g3, g4, g5, g6, g7⟩ := a2 P hP
  obtain ⟨c1, c2, c3, c4, c5, c6⟩ := b1 P hP
  exact ⟨(ne g1 (by decide) (by decide) 0).trans c1, (ne g1 (by decide) (by decide) 1).trans c2, (ne g1 (by decide) (by decide) 2).trans c3, (ne g1 (by decide) (by decide) 3).trans c4, fun t ht => (ne g3 (by decide) (by decide) t).trans (c5 t ht), fun t ht => (ne g4 (by decide) (by decide) t).trans (c6 t ht)⟩
theorem lq_kE (hA : lq_A G w) (hq : q ∈ lq_Ps) (hR : R ∈ lq_Ps) (hne : R ≠ q) (u : ∀ a, (G a).1 = 1004 ∨ (G a).1 = 26100 ∨ (G a).1 = 29100 ∨ (G a).1 = 28100 → (∀ j, j < 22 → a ≠ w (q + j)) → M'.1 a = M.1 a) : lq_E6 w R M M' := by
  obtain ⟨g1, g2, g3, g4, g5, g6, g7⟩ := hA.2.1 R hR
  have h4 := lq_P4 hq
  have h5 := lq_P4 hR
  have key : ∀ v, R ≤ v → v < R + 22 → ((G (w v)).1 = 1004 ∨ (G (w v)).1 = 26100 ∨ (G (w v)).1 = 29100 ∨ (G (w v)).1 = 28100) → M'.1 (w v) = M.1 (w v) := by
    intro v h1 h2 hn
    refine u _ hn (fun j hj e => ?_)
    have := hA.1 _ _ (by omega) (by omega) e
    omega
  have k0 : M'.1 (w R) = M.1 (w R) := key R (by omega) (by omega) (Or.inl (by rw [g1]))
  refine ⟨⟨⟨by rw [k0], by rw [k0], by rw [k0], by rw [k0]⟩, fun t v ht hv => ?_, fun v hv => ?_⟩, by rw [k0], fun t v ht hv => ?_⟩
  · rw [key (R + 3 + t) (by omega) (by omega) (Or.inr (Or.inl (by rw [g6 t ht])))]
  · rw [key (R + 20) (by omega) (by omega) (Or.inr (Or.inr (Or.inl (by rw [g5]))))]
  · rw [key (R + 12 + t) (by omega) (by omega) (Or.inr (Or.inr (Or.inr (by rw [g7 t ht]))))]
theorem lq_N.nip (hN : lq_N M w p q) : ∀ k, lq_ip k ≠ q := fun k => by
  rcases hN.2.2 with ⟨-, rfl⟩ | ⟨-, rfl⟩ <;> (unfold lq_ip; split <;> decide)
/-- all that the class's plain tells, raw -/
def lq_py (G : mj_G) (M M' : mj_M) (x tp : Nat) (w : Nat → Nat) (y : rv_Om) : Prop := ∃ p q oa dl fa sa ca se ye ud, lq_N M w p q ∧ G oa = (30100, 8) ∧ rv_X G M x tp (w q) (w 74) (w 29) (w p) dl fa sa ca se ye ud ∧ (∀ e, y = .inl e → rv_PG x tp (w q) (w (q + 1)) (w (q + 20)) oa (fun t => w (q + 3 + t)) (fun t => w (q + 12 + t)) M M') ∧ (∀ PL WA OA TO BI nm r, y = .inr (PL, WA, OA, TO, BI, nm, r) → rv_PO x tp (w q) (w (q + 1)) (w (q + 20)) oa (w 74) (w 29) (w p) dl fa sa ca se ye ud (fun t => w (q + 3 + t)) (fun t => w (q + 12 + t)) PL WA OA TO BI nm M M' ∧ rv_P2 x (w q) dl fa sa ca se ye ud M M')
/-- what the reference's plain tells beside -/
def lq_pz (M M' : mj_M) (s m : Nat) (y : rv_Om) : Prop := (∀ e, y = .inl e → ∃ ha, rv_sw M s m ha M') ∧ (∀ PL WA OA TO BI nm r, y = .inr (PL, WA, OA, TO, BI, nm, r) → ∃ ns, M.2.2 m 9 = some ns ∧ rv_QX M m ns M')
set_option maxRecDepth 100000 in
theorem lq_pl1 (inv : ab_Inv G M) (gx : G x = (1011, 0)) (gtp : G tp = (1008, 0)) (gs : G s = (51100, 537)) (gk : G kp = (70100, 1076)) (gkc : G kc = (48102, 2)) (x0 : M.2.2 x 0 = some tp) (x5 : M.2.2 x 5 = some ud) (gud : G ud = (1009, 0)) (h6 : lp_6 G M tp m bc bt) (hJ : lq_J G M x s kp kc w) (hn : n ≤ 940) (hs : M.1 tp 1 = (n : Int)) : mj_R mj_tab 40 138 [.inr (.inr (some x))] G M (fun r G' M' => ∃ y, rv_z4 (M.1 bc) n y ∧ r = some (.inl (rv_va y)) ∧ G' = G ∧ lq_p G M' x s kp kc w y ∧ (∀ e, y = .inl e → M'.1 ud = M.1 ud) ∧ (∀ e, y = .inr e → M'.1 ud 3 = 0) ∧ lq_py G M M' x tp w y) := by
  obtain ⟨gbc, gbt, t0, m1, wl, l5⟩ := h6
  obtain ⟨hA, hB, p, q, hN, h1, h2⟩ := hJ
  obtain ⟨hq, hpq⟩ := hN.qin
  have hp := hN.pin.1
  have g29 := hA.2.2.1
  have g74 := hA.2.2.2.1
  obtain ⟨gpl, gna, gta, gba, gwa, gtr, gbr, itr, ibr, p0, p1, p2, p3, rt, rb⟩ := lq_K hA hB hq
  obtain ⟨gpn, -⟩ := hA.2.1 p hp
  obtain ⟨dl, w1, gdl⟩ := hn_rf (k := 1) (q := (1002, 0)) inv g29 rfl (by decide) (by decide) (by decide) (fun e => absurd e (by decide))
  obtain ⟨se, w2, gse⟩ := hn_rf (k := 2) (q := (1006, 0)) inv g29 rfl (by decide) (by decide) (by decide) (fun e => absurd e (by decide))
  obtain ⟨ye, w3, gye⟩ := hn_rf (k := 3) (q := (1010, 0)) inv g29 rfl (by decide) (by decide) (by decide) (fun e => absurd e (by decide))
  obtain ⟨fa, d0, gfa⟩ := hn_rf (k := 0) (q := (16100, 12)) inv gdl rfl (by decide) (by decide) (by decide) (fun e => absurd e (by decide))
  obtain ⟨sa, d1, gsa⟩ := hn_rf (k := 1) (q := (17100, 12)) inv gdl rfl (by decide) (by decide) (by decide) (fun e => absurd e (by decide))
  obtain ⟨ca, d2, gca⟩ := hn_rf (k := 2) (q := (18100, 12)) inv gdl rfl (by decide) (by decide) (by decide) (fun e => absurd e (by decide))
  obtain ⟨oa, p10, goa⟩ := hn_rf (k := 10) (q := (30100, 8)) inv gpl rfl (by decide) (by decide) (by decide) (fun e => absurd e (by decide))
  have hAT : rv_AT G M (fun k => rv_u8 (M.1 bc k)) n 900 tp bc (w q) (w (q + 1)) (w (q + 2)) (w (q + 11)) (w (q + 20)) oa (fun t => w (q + 3 + t)) (fun t => w (q + 12 + t)) (rv_T (fun k => rv_u8 (M.1 bc k)) n 900) :=
    ⟨⟨gtp, gbc, gpl, gna, gta, gba, gwa, goa, gtr, gbr, itr, ibr, t0, p0, p1, p2, p3, p10, rt, rb, fun _ => rfl, wl, hn, by decide, inv.2.2.2.1⟩, rfl⟩
  have hX : rv_X G M x tp (w q) (w 74) (w 29) (w p) dl fa sa ca se ye ud := ⟨⟨gx, g74, g29, gse, gye, gud, gdl, gfa, gsa, gca, d0, d1, d2⟩, x0, hB.2.1, hB.2.2.1, x5, hN.2.1, hN.1, w1, w2, w3⟩
  have h4 := lq_P4 hq
  refine r_X11_plain4 (d := 32) hAT hX hs (fun PL WA OA TO BI NA h0 => ?_)
  obtain ⟨y, hrg, hy⟩ := dr_rows (T := rv_T (fun k => rv_u8 (M.1 bc k)) n 900) (n + 1) PL WA OA TO BI (fun _ => []) 0 0 h0.ps
  have hz : rv_z4 (M.1 bc) n y := ⟨PL, WA, OA, TO, BI, NA, h0, hy⟩
  have key0 : (∀ f a, y = .inl (f, a) → ∀ M', rv_PG x tp (w q) (w (q + 1)) (w (q + 20)) oa (fun t => w (q + 3 + t)) (fun t => w (q + 12 + t)) M M' → ∃ y, rv_z4 (M.1 bc) n y ∧ (some (.inl (rv_vf a)) : Option mj_V) = some (.inl (rv_va y)) ∧ G = G ∧ lq_p G M' x s kp kc w y ∧ (∀ e, y = .inl e → M'.1 ud = M.1 ud) ∧ (∀ e, y = .inr e → M'.1 ud 3 = 0) ∧ lq_py G M M' x tp w y) ∧ (∀ PL WA OA TO BI nm r, y = .inr (PL, WA, OA, TO, BI, nm, r) → rv_pb PL → ∀ M', rv_PO x tp (w q) (w (q + 1)) (w (q + 20)) oa (w 74) (w 29) (w p) dl fa sa ca se ye ud (fun t => w (q + 3 + t)) (fun t => w (q + 12 + t)) PL WA OA TO BI nm M M' → rv_P2 x (w q) dl fa sa ca se ye ud M M' → ∃ y, rv_z4 (M.1 bc) n y ∧ (some (.inl ((r : Nat) : Int)) : Option mj_V) = some (.inl (rv_va y)) ∧ G = G ∧ lq_p G M' x s kp kc w y ∧ (∀ e, y = .inl e → M'.1 ud = M.1 ud) ∧ (∀ e, y = .inr e → M'.1 ud 3 = 0) ∧ lq_py G M M' x tp w y) := by
    refine ⟨fun f a ey => ?_, fun PL' WA' OA' TO' BI' nm' r' ey => ?_⟩
    all_goals subst ey
    · intro M' ⟨⟨f2, fl, f1⟩, f13⟩
      have key : ∀ {a t u : Nat}, G a = (t, u) → t ≠ 1011 → t ≠ 1008 → t ≠ 30100 → (∀ j, j < 22 → a ≠ w (q + j)) → M'.1 a = M.1 a := fun ga n1 n2 n3 hj => f1 _ (hn_ne ga gx n1) (hn_ne ga gtp n2) (hj 0 (by decide)) (hj 20 (by decide)) (hn_ne ga goa n3) (fun t ht => by have := hj (3 + t) (by omega); rw [← Nat.add_assoc] at this; exact this) (fun t ht => by have := hj (12 + t) (by omega); rw [← Nat.add_assoc] at this; exact this)
      have tg : ∀ {a t u : Nat}, G a = (t, u) → t ≠ 1004 → t ≠ 24103 → t ≠ 25104 → t ≠ 26100 → t ≠ 27104 → t ≠ 28100 → t ≠ 29100 → t ≠ 30100 → t ≠ 1011 → t ≠ 1008 → M'.1 a = M.1 a := fun ga n1 n2 n3 n4 n5 n6 n7 n8 n9 n10 => f1 _ (hn_ne ga gx n9) (hn_ne ga gtp n10) (hn_ne ga gpl n1) (hn_ne ga gwa n7) (hn_ne ga goa n8) (fun t ht => hn_ne ga (gtr t ht) n4) (fun t ht => hn_ne ga (gbr t ht) n6)
      have es : M'.1 s = M.1 s := tg gs (by decide) (by decide) (by decide) (by decide) (by decide) (by decide) (by decide) (by decide) (by decide) (by decide)
      have ek : M'.1 kp = M.1 kp := tg gk (by decide) (by decide) (by decide) (by decide) (by decide) (by decide) (by decide) (by decide) (by decide) (by decide)
      have ec : M'.1 kc = M.1 kc := tg gkc (by decide) (by decide) (by decide) (by decide) (by decide) (by decide) (by decide) (by decide) (by decide) (by decide)
      have E : ∀ R, R ∈ lq_Ps → R ≠ q → lq_E6 w R M M' := fun R hR hne => lq_kE hA hq hR hne (fun a ha hj => by
        rcases ha with ha | ha | ha | ha
        · exact key (u := (G a).2) (Prod.ext ha rfl) (by decide) (by decide) (by decide) hj
        · exact key (u := (G a).2) (Prod.ext ha rfl) (by decide) (by decide) (by decide) hj
        · exact key (u := (G a).2) (Prod.ext ha rfl) (by decide) (by decide) (by decide) hj
        · exact key (u := (G a).2) (Prod.ext ha rfl) (by decide) (by decide) (by decide) hj)
      have rf : ∀ a j, a ≠ tp → M'.2.2 a j = M.2.2 a j := fun a j ha => f2 a j (fun e => ha e.1)
      refine ⟨.inl (f, a), hz, (by rw [rv_va_l]), rfl, ⟨hA, hB.rt hA gx gtp (fun a j h _ _ => rf a j h), p, q, ⟨(rf _ _ (hn_ne g29 gtp (by decide))).trans hN.1, (rf _ _ (hn_ne g74 gtp (by decide))).trans hN.2.1, hN.2.2⟩, fun k hk hc => ?_, fun _ _ => ?_, fun _ _ _ _ _ _ _ e => by cases e⟩, fun _ _ => tg gud (by decide) (by decide) (by decide) (by decide) (by decide) (by decide) (by decide) (by decide) (by decide) (by decide), (fun _ e => by cases e), p, q, oa, dl, fa, sa, ca, se, ye, ud, hN, goa, hX, (fun _ _ => ⟨⟨f2, fl, f1⟩, f13⟩), (fun _ _ _ _ _ _ _ e => by cases e)⟩
      · rw [ec] at hc; rw [ek]
        exact (h2 k hk hc).cg (E _ (lq_ip_in k) (hN.nip k)) (fun _ _ => rfl)
      · rw [es]; exact h1.cg (E p hp hpq) (fun _ _ => rfl)
    · intro hb M' ⟨o1, o2, o3, o4, o5, o6, o7, o8, o9, fo⟩ hP2
      have tg : ∀ {a t u : Nat}, G a = (t, u) → t ≠ 1011 → t ≠ 1008 → t ≠ 30100 → t ≠ 1002 → t ≠ 16100 → t ≠ 17100 → t ≠ 18100 → t ≠ 1006 → t ≠ 1010 → t ≠ 1009 → (∀ j, j < 22 → a ≠ w (q + j)) → M'.1 a = M.1 a := fun ga n1 n2 n3 n4 n5 n6 n7 n8 n9 n10 hj => fo _ (hn_ne ga gx n1) (hn_ne ga gtp n2) (hj 0 (by decide)) (hj 20 (by decide)) (hn_ne ga goa n3) (fun t ht => by have := hj (3 + t) (by omega); rw [← Nat.add_assoc] at this; exact this) (fun t ht => by have := hj (12 + t) (by omega); rw [← Nat.add_assoc] at this; exact this) (hn_ne ga gdl n4) (hn_ne ga gfa n5) (hn_ne ga gsa n6) (hn_ne ga gca n7) (hn_ne ga gse n8) (hn_ne ga gye n9) (hn_ne ga gud n10)
      have ek : M'.1 kp = M.1 kp := fo _ (hn_ne gk gx (by decide)) (hn_ne gk gtp (by decide)) (hn_ne gk gpl (by decide)) (hn_ne gk gwa (by decide)) (hn_ne gk goa (by decide)) (fun t ht => hn_ne gk (gtr t ht) (by decide)) (fun t ht => hn_ne gk (gbr t ht) (by decide)) (hn_ne gk gdl (by decide)) (hn_ne gk gfa (by decide)) (hn_ne gk gsa (by decide)) (hn_ne gk gca (by decide)) (hn_ne gk gse (by decide)) (hn_ne gk gye (by decide)) (hn_ne gk gud (by decide))
      have ec : M'.1 kc = M.1 kc := fo _ (hn_ne gkc gx (by decide)) (hn_ne gkc gtp (by decide)) (hn_ne gkc gpl (by decide)) (hn_ne gkc gwa (by decide)) (hn_ne gkc goa (by decide)) (fun t ht => hn_ne gkc (gtr t ht) (by decide)) (fun t ht => hn_ne gkc (gbr t ht) (by decide)) (hn_ne gkc gdl (by decide)) (hn_ne gkc gfa (by decide)) (hn_ne gkc gsa (by decide)) (hn_ne gkc gca (by decide)) (hn_ne gkc gse (by decide)) (hn_ne gkc gye (by decide)) (hn_ne gkc gud (by decide))
      have E : ∀ R, R ∈ lq_Ps → R ≠ q → lq_E6 w R M M' := fun R hR hne => lq_kE hA hq hR hne (fun a ha hj => by
        rcases ha with ha | ha | ha | ha
        · exact tg (u := (G a).2) (Prod.ext ha rfl) (by decide) (by decide) (by decide) (by decide) (by decide) (by decide) (by decide) (by decide) (by decide) (by decide) hj
        · exact tg (u := (G a).2) (Prod.ext ha rfl) (by decide) (by decide) (by decide) (by decide) (by decide) (by decide) (by decide) (by decide) (by decide) (by decide) hj
        · exact tg (u := (G a).2) (Prod.ext ha rfl) (by decide) (by decide) (by decide) (by decide) (by decide) (by decide) (by decide) (by decide) (by decide) (by decide) hj
        · exact tg (u := (G a).2) (Prod.ext ha rfl) (by decide) (by decide) (by decide) (by decide) (by decide) (by decide) (by decide) (by decide) (by decide) (by decide) hj)
      have ne2 : w 74 ≠ w 29 := fun e => absurd (hA.1 _ _ (by decide) (by decide) e) (by decide)
      refine ⟨.inr (PL', WA', OA', TO', BI', nm', r'), hz, (by rw [rv_va_r]), rfl, ⟨hA, hB.rt hA gx gtp (fun a j ha hb hc => o8 a j (fun e => ha e.1) (fun e => hb e.1) (fun e => hc e.1)), q, p, ⟨o6, o7 ne2, hN.2.2.elim (fun h => Or.inr ⟨h.2, h.1⟩) (fun h => Or.inl ⟨h.2, h.1⟩)⟩, fun k hk hc => ?_, fun _ e => (by cases e), fun PL2 WA2 OA2 TO2 BI2 nm2 r2 e => ?_⟩, fun _ e => (by cases e), fun _ _ => hP2.1, p, q, oa, dl, fa, sa, ca, se, ye, ud, hN, goa, hX, (fun _ e => by cases e), fun PL3 WA3 OA3 TO3 BI3 nm3 r3 e => by cases e; exact ⟨⟨o1, o2, o3, o4, o5, o6, o7, o8, o9, fo⟩, hP2⟩⟩
      · rw [ec] at hc; rw [ek]
        exact (h2 k hk hc).cg (E _ (lq_ip_in k) (hN.nip k)) (fun _ _ => rfl)
      · cases e
        exact ⟨hrg _ _ _ _ _ _ _ rfl, o1, o2, o3, o4⟩
  exact sp_rows.mono (fun f a h => h.1 f a rfl) (fun PL WA OA TO BI nm r h => h.2 PL WA OA TO BI nm r rfl) _ _ _ _ _ _ _ _ _ (hy (fun o => (∀ f a, o = .inl (f, a) → ∀ M', rv_PG x tp (w q) (w (q + 1)) (w (q + 20)) oa (fun t => w (q + 3 + t)) (fun t => w (q + 12 + t)) M M' → ∃ y, rv_z4 (M.1 bc) n y ∧ (some (.inl (rv_vf a)) : Option mj_V) = some (.inl (rv_va y)) ∧ G = G ∧ lq_p G M' x s kp kc w y ∧ (∀ e, y = .inl e → M'.1 ud = M.1 ud) ∧ (∀ e, y = .inr e → M'.1 ud 3 = 0) ∧ lq_py G M M' x tp w y) ∧ (∀ PL WA OA TO BI nm r, o = .inr (PL, WA, OA, TO, BI, nm, r) → rv_pb PL → ∀ M', rv_PO x tp (w q) (w (q + 1)) (w (q + 20)) oa (w 74) (w 29) (w p) dl fa sa ca se ye ud (fun t => w (q + 3 + t)) (fun t => w (q + 12 + t)) PL WA OA TO BI nm M M' → rv_P2 x (w q) dl fa sa ca se ye ud M M' → ∃ y, rv_z4 (M.1 bc) n y ∧ (some (.inl ((r : Nat) : Int)) : Option mj_V) = some (.inl (rv_va y)) ∧ G = G ∧ lq_p G M' x s kp kc w y ∧ (∀ e, y = .inl e → M'.1 ud = M.1 ud) ∧ (∀ e, y = .inr e → M'.1 ud 3 = 0) ∧ lq_py G M M' x tp w y)) key0)
theorem lq_pl2 {f : Nat → Int} {y : rv_Om} (hV : lw_V G M x m tp s kp) (gbt : G bt = (50101, 940)) (m1 : M.2.2 m 1 = some bt) (hf : M.1 bt = f) (hn : n ≤ 940) (hs : M.1 m 2 = (n : Int)) (hz : rv_z4 f n y) : mj_R mj_tab 40 226 [.inr (.inr (some m))] G M (fun r _ M' => r = some (.inl (rv_va y)) ∧ (∀ e, y = .inl e → M'.1 s = M.1 s ∧ M'.1 m 28 = M.1 m 28) ∧ (∀ PL WA OA TO BI nm r, y = .inr (PL, WA, OA, TO, BI, nm, r) → ∃ ns, M.2.2 m 9 = some ns ∧ rv_QO s ns PL WA TO BI nm M' ∧ M'.1 m 28 = 0) ∧ lq_pz M M' s m y) := by
  obtain ⟨inv, ⟨gx, gm, gtp, gs, -⟩, ⟨x0, m6, -⟩, -⟩ := hV
  obtain ⟨ha, h7, gha⟩ := hn_rf (k := 7) (q := (52100, 221)) inv gm rfl (by decide) (by decide) (by decide) (fun e => absurd e (by decide))
  obtain ⟨hd, h23, ghd⟩ := hn_rf (k := 23) (q := (56100, 4)) inv gm rfl (by decide) (by decide) (by decide) (fun e => absurd e (by decide))
  obtain ⟨ns, h9, gns⟩ := hn_rf (k := 9) (q := (54103, 16)) inv gm rfl (by decide) (by decide) (by decide) (fun e => absurd e (by decide))
  obtain ⟨rs, h10, grs⟩ := hn_rf (k := 10) (q := (55103, 24)) inv gm rfl (by decide) (by decide) (by decide) (fun e => absurd e (by decide))
  obtain ⟨PL, WA, OA, TO, BI, NA, h0, hy⟩ := hz
  have hB : rv_BT G M (fun k => rv_u8 (f k)) n 900 m bt ha hd ns rs s (rv_T (fun k => rv_u8 (f k)) n 900) := ⟨⟨gm, gbt, gha, ghd, gns, grs, m1, h7, h23, h9, h10, fun k => by rw [hf], fun k hk => (inv.2.2.2.2 rs k (by rw [grs]) hk).trans (ab_rsv8 k hk), hn, by decide, gs, m6⟩, rfl⟩
  have key0 : (∀ f a, y = .inl (f, a) → ∀ M', rv_sw M s m ha M' → (some (.inl (rv_vf a)) : Option mj_V) = some (.inl (rv_va y)) ∧ (∀ e, y = .inl e → M'.1 s = M.1 s ∧ M'.1 m 28 = M.1 m 28) ∧ (∀ PL WA OA TO BI nm r, y = .inr (PL, WA, OA, TO, BI, nm, r) → ∃ ns, M.2.2 m 9 = some ns ∧ rv_QO s ns PL WA TO BI nm M' ∧ M'.1 m 28 = 0) ∧ lq_pz M M' s m y) ∧ (∀ PL WA OA TO BI nm r, y = .inr (PL, WA, OA, TO, BI, nm, r) → ∀ M', rv_QO s ns PL WA TO BI nm M' → M'.1 m 28 = 0 ∧ rv_QX M m ns M' → (some (.inl ((r : Nat) : Int)) : Option mj_V) = some (.inl (rv_va y)) ∧ (∀ e, y = .inl e → M'.1 s = M.1 s ∧ M'.1 m 28 = M.1 m 28) ∧ (∀ PL WA OA TO BI nm r, y = .inr (PL, WA, OA, TO, BI, nm, r) → ∃ ns, M.2.2 m 9 = some ns ∧ rv_QO s ns PL WA TO BI nm M' ∧ M'.1 m 28 = 0) ∧ lq_pz M M' s m y) := by
    refine ⟨fun f a ey M' es => ?_, fun PL' WA' OA' TO' BI' nm' r' ey M' hQ h28 => ?_⟩
    · subst ey
      refine ⟨by rw [rv_va_l], fun _ _ => ⟨es.1, es.2.1 28 (by decide)⟩, fun _ _ _ _ _ _ _ e => ?_, fun _ _ => ⟨ha, es⟩, fun _ _ _ _ _ _ _ e => ?_⟩
      · cases e
      · cases e
    · subst ey
      refine ⟨by rw [rv_va_r], fun _ e => ?_, fun PL2 WA2 OA2 TO2 BI2 nm2 r2 e => ?_, fun _ e => ?_, fun PL2 WA2 OA2 TO2 BI2 nm2 r2 e => ?_⟩
      · cases e
      · cases e
        exact ⟨ns, h9, hQ, h28.1⟩
      · cases e
      · exact ⟨ns, h9, h28.2⟩
  refine r_X12_plain2 (d := 33) hB hs h0 ?_
  exact sp_rows.mono (fun f a h => h.1 f a rfl) (fun PL WA OA TO BI nm r h => h.2 PL WA OA TO BI nm r rfl) _ _ _ _ _ _ _ _ _ (hy (fun o => (∀ f a, o = .inl (f, a) → ∀ M', rv_sw M s m ha M' → (some (.inl (rv_vf a)) : Option mj_V) = some (.inl (rv_va y)) ∧ (∀ e, y = .inl e → M'.1 s = M.1 s ∧ M'.1 m 28 = M.1 m 28) ∧ (∀ PL WA OA TO BI nm r, y = .inr (PL, WA, OA, TO, BI, nm, r) → ∃ ns, M.2.2 m 9 = some ns ∧ rv_QO s ns PL WA TO BI nm M' ∧ M'.1 m 28 = 0) ∧ lq_pz M M' s m y) ∧ (∀ PL WA OA TO BI nm r, o = .inr (PL, WA, OA, TO, BI, nm, r) → ∀ M', rv_QO s ns PL WA TO BI nm M' → M'.1 m 28 = 0 ∧ rv_QX M m ns M' → (some (.inl ((r : Nat) : Int)) : Option mj_V) = some (.inl (rv_va y)) ∧ (∀ e, y = .inl e → M'.1 s = M.1 s ∧ M'.1 m 28 = M.1 m 28) ∧ (∀ PL WA OA TO BI nm r, y = .inr (PL, WA, OA, TO, BI, nm, r) → ∃ ns, M.2.2 m 9 = some ns ∧ rv_QO s ns PL WA TO BI nm M' ∧ M'.1 m 28 = 0) ∧ lq_pz M M' s m y)) key0)
theorem lq_pl3 {y : rv_Om} {W : List (Nat × Nat × Nat)} (gx : G x = (1011, 0)) (gk : G kp = (70100, 1076)) (gkc : G kc = (48102, 2)) (h : lq_p G M x s kp kc w y) (f : ab_frm W G M M') (c9 : lq_9c W) (c8 : ∀ q ∈ W, q.1 ≠ 48102 ∧ q.1 ≠ 70100) (o1 : ∀ e, y = .inl e → M'.1 s = M.1 s) (o2 : ∀ PL WA OA TO BI nm r, y = .inr (PL, WA, OA, TO, BI, nm, r) → ∃ ns, rv_QO s ns PL WA TO BI nm M') : lq_J G M' x s kp kc w := by
  obtain ⟨hA, hB, p, q, hN, h2, h1, h3⟩ := h
  have ek : M'.1 kp = M.1 kp := funext fun k => (f _ k (by
    rw [gk]; rintro ⟨r, hr, e1, e2, e3⟩; exact (c8 r hr).2 e1)).1
  have ec : M'.1 kc = M.1 kc := funext fun k => (f _ k (by
    rw [gkc]; rintro ⟨r, hr, e1, e2, e3⟩; exact (c8 r hr).1 e1)).1
  have E : ∀ R, R ∈ lq_Ps → lq_E6 w R M M' := fun R hR => lq_E6.go hA hR f c9
  refine ⟨hA, hB.go hA gx f c9, p, q, hN.go hA f c9, ?_, fun k hk h0 => ?_⟩
  · rcases y with e | ⟨PL', WA', OA', TO', BI', nm', r'⟩
    · rw [o1 e rfl]
      exact (h1 e rfl).cg (E p hN.pin.1) (fun _ _ => rfl)
    · obtain ⟨ns, ⟨q1, q2, q3, q4, q5, q6, q7⟩, -⟩ := o2 _ _ _ _ _ _ _ rfl
      obtain ⟨v0, v1, v2, v3, v4⟩ := h3 _ _ _ _ _ _ _ rfl
      obtain ⟨⟨⟨e1, e2, e3, e4⟩, e5, e6⟩, e7, e8⟩ := E p hN.pin.1
      have hb : ∀ t v, t < 8 → v < 12 → M'.1 s (0 + (88 + 12 * t + v)) = M'.1 (w (p + 12 + t)) v := fun t v ht hv => by
        rw [Nat.zero_add, e8 t v ht hv, v4 t ht]; exact (q7 t v ht hv).1
      refine ⟨⟨q1.trans ((v1 4 (by decide)).symm.trans e1.symm), q2.trans ((v1 6 (by decide)).symm.trans e2.symm), q3.trans ((v1 7 (by decide)).symm.trans e3.symm), q4.trans ((v1 8 (by decide)).symm.trans e4.symm), fun t v ht hv => ?_, fun v hv => ?_⟩, hb, ?_⟩
      · rw [Nat.zero_add, e5 t v ht hv, v3 t ht]; exact q5 t v ht hv
      · rw [Nat.zero_add, e6 v hv, v2]; exact q6 v hv
      · rw [e7, v1 5 (by decide), v0.2.2.2.2.2.2.2.2]
        unfold rv_ct
        refine lq_ct_cg 96 (fun i hi => ?_)
        have := (q7 (i / 12) (i % 12) (by omega) (by omega)).1
        rw [show 88 + 12 * (i / 12) + i % 12 = 0 + (88 + i) by omega] at this
        exact this.symm
  · rw [ec] at h0; rw [ek]
    exact (h2 k hk h0).cg (E _ (lq_ip_in k)) (fun _ _ => rfl)
end PQ
