/-! ===== plain, as the law's loop uses it ===== -/
def lp_5 (G : mj_G) (M : mj_M) : Prop := ∀ a, G a = (25104, 8) ∨ G a = (27104, 8) → ∀ s t, s < 8 → t < 8 → M.2.2 a s = M.2.2 a t → s = t
def lp_6 (G : mj_G) (M : mj_M) (tp m bc bt : Nat) : Prop := G bc = (38101, 940) ∧ G bt = (50101, 940) ∧ M.2.2 tp 0 = some bc ∧ M.2.2 m 1 = some bt ∧ rv_wl G M ∧ lp_5 G M
abbrev lp_6c (W : List (Nat × Nat × Nat)) : Prop := ∀ q ∈ W, q.1 ≠ 900105 ∧ q.1 ≠ 25104 ∧ q.1 ≠ 27104 ∧ ¬ (q.1 = 1008 ∧ q.2.1 ≤ 0) ∧ ¬ (q.1 = 1012 ∧ q.2.1 ≤ 1 ∧ 1 ≤ q.2.2)
abbrev lp_7c (W : List (Nat × Nat × Nat)) : Prop := ∀ q ∈ W, q.1 ≠ 38101 ∧ q.1 ≠ 50101
theorem lp_6.go {G : mj_G} {M M' : mj_M} {tp m bc bt : Nat} {W : List (Nat × Nat × Nat)} (h : lp_6 G M tp m bc bt) (gt : G tp = (1008, 0)) (gm : G m = (1012, 0)) (f : ab_frm W G M M') (nc : lp_6c W) : lp_6 G M' tp m bc bt := by
  obtain ⟨g1, g2, r1, r2, w, l5⟩ := h
  refine ⟨g1, g2, (f tp 0 ?_).2.trans r1, (f m 1 ?_).2.trans r2, fun a ha k hk => ?_, fun a ha s t hs ht e => ?_⟩
  · rw [gt]; rintro ⟨q, hq, e1, e2, e3⟩; exact (nc q hq).2.2.2.1 ⟨e1, e2⟩
  · rw [gm]; rintro ⟨q, hq, e1, e2, e3⟩; exact (nc q hq).2.2.2.2 ⟨e1, e2, e3⟩
  · obtain ⟨w1, e1, e2⟩ := w a ha k hk
    refine ⟨w1, (f a k ?_).2.trans e1, e2⟩
    rw [ha]; rintro ⟨q, hq, e1, -⟩; exact (nc q hq).1 e1
  · have fr : ∀ k, M'.2.2 a k = M.2.2 a k := fun k => (f a k (by
      rcases ha with ha | ha
      · rw [ha]; rintro ⟨q, hq, e1, -⟩; exact (nc q hq).2.1 e1
      · rw [ha]; rintro ⟨q, hq, e1, -⟩; exact (nc q hq).2.2.1 e1)).2
    rw [fr s, fr t] at e
    exact l5 a ha s t hs ht e
theorem lp_7.c {G : mj_G} {M M' : mj_M} {bc : Nat} {W : List (Nat × Nat × Nat)} (g : G bc = (38101, 940)) (f : ab_frm W G M M') (nc : ∀ q ∈ W, q.1 ≠ 38101) : M'.1 bc = M.1 bc := funext fun k => (f bc k (by rw [g]; rintro ⟨q, hq, e1, -⟩; exact nc q hq e1)).1
theorem lp_7.t {G : mj_G} {M M' : mj_M} {bt : Nat} {W : List (Nat × Nat × Nat)} (g : G bt = (50101, 940)) (f : ab_frm W G M M') (nc : ∀ q ∈ W, q.1 ≠ 50101) : M'.1 bt = M.1 bt := funext fun k => (f bt k (by rw [g]; rintro ⟨q, hq, e1, -⟩; exact nc q hq e1)).1
def lp_I (G : mj_G) (M : mj_M) (x m tp s kp bc bt : Nat) : Prop := (lw_V G M x m tp s kp ∧ M.1 tp 1 = M.1 m 2) ∧ lp_6 G M tp m bc bt ∧ M.1 bc = M.1 bt
theorem lp_I.go {G : mj_G} {M M' : mj_M} {x m tp s kp bc bt : Nat} {W : List (Nat × Nat × Nat)} (hI : lp_I G M x m tp s kp bc bt) (V : lw_V G M' x m tp s kp) (S : M'.1 tp 1 = M.1 tp 1 ∧ M'.1 m 2 = M.1 m 2) (f : ab_frm W G M M') (c6 : lp_6c W) (c7 : lp_7c W) : lp_I G M' x m tp s kp bc bt :=
  ⟨⟨V, S.1.trans (hI.1.2.trans S.2.symm)⟩, hI.2.1.go hI.1.1.2.1.2.2.1 hI.1.1.2.1.2.1 f c6, (lp_7.c hI.2.1.1 f (fun q hq => (c7 q hq).1)).trans (hI.2.2.trans (lp_7.t hI.2.1.2.1 f (fun q hq => (c7 q hq).2)).symm)⟩
/-- an answer of plain, as the bytes ask for it -/
def rv_z (f : Nat → Int) (n : Nat) (z : Int) : Prop := ∃ PL WA OA TO BI NA, rv_0 PL WA OA TO BI NA ∧ ∀ P : Int → Prop, P z → sp_rows (rv_T (fun k => rv_u8 (f k)) n 900) (fun _ a => P (rv_vf a)) (fun _ _ _ _ _ _ r => P (r : Int)) (n + 1) PL WA OA TO BI (fun _ => []) 0 0
theorem rv_row {G : mj_G} {M : mj_M} {a t n u k w : Nat} (hI : ab_Inv G M) (ha : G a = (t, n)) (e : ab_rf t 0 = some (u, w)) (e' : ∀ k, ab_rf t k = ab_rf t 0) (h1 : u ≠ 0) (h2 : u ≠ 1) (h3 : u ≠ 50) (hk : k < n) : M.2.2 a k = some ((M.2.2 a k).getD 0) ∧ G ((M.2.2 a k).getD 0) = (u, w) := by
  obtain ⟨b, hb, gb⟩ := hn_rf (k := k) (q := (u, w)) hI ha ((e' k).trans e) h1 h2 h3 (fun _ => hk)
  rw [hb]; exact ⟨rfl, gb⟩
theorem lp_size {G : mj_G} {M : mj_M} {tp : Nat} (hI : ab_Inv G M) (g : G tp = (1008, 0)) : ∃ n : Nat, n ≤ 940 ∧ M.1 tp 1 = (n : Int) := by
  have h := hI.1 tp 1
  rw [g] at h
  have h : (0 : Int) ≤ M.1 tp 1 ∧ M.1 tp 1 ≤ 940 := h
  exact ⟨(M.1 tp 1).toNat, by omega, by omega⟩
set_option maxRecDepth 100000 in
theorem lp_plain1 {G : mj_G} {M : mj_M} {x m tp s kp bc bt n : Nat} (hI : lp_I G M x m tp s kp bc bt) (hn : n ≤ 940) (hs : M.1 tp 1 = (n : Int)) : mj_R mj_tab 40 138 [.inr (.inr (some x))] G M (fun r _ _ => ∃ y, rv_z (M.1 bc) n y ∧ r = some (.inl y)) := by
  obtain ⟨⟨⟨inv, ⟨gx, gm, gtp, -, -⟩, ⟨x0, -, -⟩, -⟩, -⟩, ⟨gbc, gbt, t0, m1, wl, l5⟩, -⟩ := hI
  obtain ⟨nw, x1, gnw⟩ := hn_rf (k := 1) (q := (1007, 0)) inv gx rfl (by decide) (by decide) (by decide) (fun e => absurd e (by decide))
  obtain ⟨sp, x2, gsp⟩ := hn_rf (k := 2) (q := (1007, 0)) inv gx rfl (by decide) (by decide) (by decide) (fun e => absurd e (by decide))
  obtain ⟨ud, x5, gud⟩ := hn_rf (k := 5) (q := (1009, 0)) inv gx rfl (by decide) (by decide) (by decide) (fun e => absurd e (by decide))
  obtain ⟨pl, s0, gpl⟩ := hn_rf (k := 0) (q := (1004, 0)) inv gsp rfl (by decide) (by decide) (by decide) (fun e => absurd e (by decide))
  obtain ⟨pn, w0, gpn⟩ := hn_rf (k := 0) (q := (1004, 0)) inv gnw rfl (by decide) (by decide) (by decide) (fun e => absurd e (by decide))
  obtain ⟨dl, w1, gdl⟩ := hn_rf (k := 1) (q := (1002, 0)) inv gnw rfl (by decide) (by decide) (by decide) (fun e => absurd e (by decide))
  obtain ⟨se, w2, gse⟩ := hn_rf (k := 2) (q := (1006, 0)) inv gnw rfl (by decide) (by decide) (by decide) (fun e => absurd e (by decide))
  obtain ⟨ye, w3, gye⟩ := hn_rf (k := 3) (q := (1010, 0)) inv gnw rfl (by decide) (by decide) (by decide) (fun e => absurd e (by decide))
  obtain ⟨fa, d0, gfa⟩ := hn_rf (k := 0) (q := (16100, 12)) inv gdl rfl (by decide) (by decide) (by decide) (fun e => absurd e (by decide))
  obtain ⟨sa, d1, gsa⟩ := hn_rf (k := 1) (q := (17100, 12)) inv gdl rfl (by decide) (by decide) (by decide) (fun e => absurd e (by decide))
  obtain ⟨ca, d2, gca⟩ := hn_rf (k := 2) (q := (18100, 12)) inv gdl rfl (by decide) (by decide) (by decide) (fun e => absurd e (by decide))
  obtain ⟨na, p0, gna⟩ := hn_rf (k := 0) (q := (24103, 8)) inv gpl rfl (by decide) (by decide) (by decide) (fun e => absurd e (by decide))
  obtain ⟨ta, p1, gta⟩ := hn_rf (k := 1) (q := (25104, 8)) inv gpl rfl (by decide) (by decide) (by decide) (fun e => absurd e (by decide))
  obtain ⟨ba, p2, gba⟩ := hn_rf (k := 2) (q := (27104, 8)) inv gpl rfl (by decide) (by decide) (by decide) (fun e => absurd e (by decide))
  obtain ⟨wa, p3, gwa⟩ := hn_rf (k := 3) (q := (29100, 12)) inv gpl rfl (by decide) (by decide) (by decide) (fun e => absurd e (by decide))
  obtain ⟨oa, p10, goa⟩ := hn_rf (k := 10) (q := (30100, 8)) inv gpl rfl (by decide) (by decide) (by decide) (fun e => absurd e (by decide))
  have rt : ∀ t, t < 8 → M.2.2 ta t = some ((M.2.2 ta t).getD 0) ∧ G ((M.2.2 ta t).getD 0) = (26100, 9) := fun t ht => rv_row inv gta rfl (fun _ => rfl) (by decide) (by decide) (by decide) ht
  have rb : ∀ t, t < 8 → M.2.2 ba t = some ((M.2.2 ba t).getD 0) ∧ G ((M.2.2 ba t).getD 0) = (28100, 12) := fun t ht => rv_row inv gba rfl (fun _ => rfl) (by decide) (by decide) (by decide) ht
  have hA : rv_AT G M (fun k => rv_u8 (M.1 bc k)) n 900 tp bc pl na ta ba wa oa (fun t => (M.2.2 ta t).getD 0) (fun t => (M.2.2 ba t).getD 0) (rv_T (fun k => rv_u8 (M.1 bc k)) n 900) :=
    ⟨⟨gtp, gbc, gpl, gna, gta, gba, gwa, goa, fun t ht => (rt t ht).2, fun t ht => (rb t ht).2, fun t s ht hs e => l5 ta (Or.inl gta) t s ht hs (by rw [(rt t ht).1, (rt s hs).1]; exact congrArg some e), fun t s ht hs e => l5 ba (Or.inr gba) t s ht hs (by rw [(rb t ht).1, (rb s hs).1]; exact congrArg some e), t0, p0, p1, p2, p3, p10, fun t ht => (rt t ht).1, fun t ht => (rb t ht).1, fun _ => rfl, wl, hn, by decide, inv.2.2.2.1⟩, rfl⟩
  have hX : rv_X G M x tp pl sp nw pn dl fa sa ca se ye ud := ⟨⟨gx, gsp, gnw, gse, gye, gud, gdl, gfa, gsa, gca, d0, d1, d2⟩, x0, x1, x2, x5, s0, w0, w1, w2, w3⟩
  refine r_X11_plain (d := 32) hA hX hs (fun PL WA OA TO BI NA h0 => ?_)
  obtain ⟨y, hy⟩ := dt_rows (T := rv_T (fun k => rv_u8 (M.1 bc k)) n 900) (n + 1) PL WA OA TO BI (fun _ => []) 0 0
  exact hy (fun v => ∀ M' : mj_M, ∃ y, rv_z (M.1 bc) n y ∧ (some (.inl v) : Option mj_V) = some (.inl y)) (fun _ => ⟨y, ⟨PL, WA, OA, TO, BI, NA, h0, hy⟩, rfl⟩)
theorem ab_rsv8 : ∀ k, k < 24 → ab_rsv k = rv_8 (rv_rs.getD k []) := by
  intro k hk
  have h : ∀ k : Fin 24, ab_rsv k.val = rv_8 (rv_rs.getD k.val []) := by decide +kernel
  exact h ⟨k, hk⟩
set_option maxRecDepth 100000 in
theorem lp_plain2 {G : mj_G} {M : mj_M} {x m tp s kp bt n : Nat} {f : Nat → Int} {z : Int} (hV : lw_V G M x m tp s kp) (gbt : G bt = (50101, 940)) (m1 : M.2.2 m 1 = some bt) (hf : M.1 bt = f) (hn : n ≤ 940) (hs : M.1 m 2 = (n : Int)) (hz : rv_z f n z) : mj_R mj_tab 40 226 [.inr (.inr (some m))] G M (fun r _ _ => r = some (.inl z)) := by
  obtain ⟨inv, ⟨gx, gm, gtp, gs, -⟩, ⟨x0, m6, -⟩, -⟩ := hV
  obtain ⟨ha, h7, gha⟩ := hn_rf (k := 7) (q := (52100, 221)) inv gm rfl (by decide) (by decide) (by decide) (fun e => absurd e (by decide))
  obtain ⟨hd, h23, ghd⟩ := hn_rf (k := 23) (q := (56100, 4)) inv gm rfl (by decide) (by decide) (by decide) (fun e => absurd e (by decide))
  obtain ⟨ns, h9, gns⟩ := hn_rf (k := 9) (q := (54103, 16)) inv gm rfl (by decide) (by decide) (by decide) (fun e => absurd e (by decide))
  obtain ⟨rs, h10, grs⟩ := hn_rf (k := 10) (q := (55103, 24)) inv gm rfl (by decide) (by decide) (by decide) (fun e => absurd e (by decide))
  obtain ⟨PL, WA, OA, TO, BI, NA, h0, hy⟩ := hz
  have hB : rv_BT G M (fun k => rv_u8 (f k)) n 900 m bt ha hd ns rs (rv_T (fun k => rv_u8 (f k)) n 900) := ⟨⟨gm, gbt, gha, ghd, gns, grs, m1, h7, h23, h9, h10, fun k => by rw [hf], fun k hk => (inv.2.2.2.2 rs k (by rw [grs]) hk).trans (ab_rsv8 k hk), hn, by decide⟩, rfl⟩
  exact r_X12_plain2 (d := 33) hB gs m6 hs h0 (hy (fun v => ∀ _ : mj_M, (some (.inl v) : Option mj_V) = some (.inl z)) (fun _ => rfl))
/-- two tellings of one call -/
theorem lp_and {y : Nat} {av : List mj_V} {G : mj_G} {M : mj_M} {R R' Q : mj_P} (hk : an_ok mj_tab 40 y = true) (h1 : mj_R mj_tab 40 y av G M R) (h2 : mj_R mj_tab 40 y av G M R') (h : ∀ r G M, R r G M → R' r G M → Q r G M) : mj_R mj_tab 40 y av G M Q := mj_R_mo mj_tab 40 _ _ _ _ _ _ (fun r G M q => h r G M q.1 q.2) (an_R mj_tab 40 y av G M R R' hk h1 h2)
theorem lp_ok4 : an_ok mj_tab 40 138 = true ∧ an_ok mj_tab 40 226 = true ∧ an_ok mj_tab 40 124 = true ∧ an_ok mj_tab 40 187 = true := by decide +kernel
