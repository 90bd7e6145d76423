/-! ===== contracts of both sides, as the invariant sees them ===== -/
theorem lq_ct_ge (f : Nat → Int) : ∀ n, 0 ≤ lq_ct f n
  | 0 => Int.le_refl 0
  | n + 1 => by
    have := lq_ct_ge f n
    unfold lq_ct
    split <;> omega
abbrev rv_Od : Type := (Int × Nat) ⊕ ((Nat → Int) × Nat)
def rv_zd (f : Nat → Int) (n : Nat) (nm : Nat → List Int) (c0 : Int) (y : rv_Od) : Prop := ∀ P : rv_Od → Prop, P y → sp_deals (rv_T (fun k => rv_u8 (f k)) n 400) nm c0 (fun f a => P (.inl (f, a))) (fun R r => P (.inr (R, r))) (n + 1) (fun _ => 0) 0 0
def rv_vd (y : rv_Od) : Int := Sum.elim (fun e => rv_vf e.2) (fun e => ((e.2 : Nat) : Int)) y
theorem rv_vd_l (e : Int × Nat) : rv_vd (.inl e) = rv_vf e.2 := by unfold rv_vd; rw [Sum.elim_inl]
theorem rv_vd_r (e : (Nat → Int) × Nat) : rv_vd (.inr e) = ((e.2 : Nat) : Int) := by unfold rv_vd; rw [Sum.elim_inr]
section CT
variable {G : mj_G} {M M' : mj_M} {w : Nat → Nat} {x m s kp kc tp bc bt n : Nat}
/-- all that the class's contracts tells, raw -/
def lq_cy (G : mj_G) (M M' : mj_M) (x tp s : Nat) (w : Nat → Nat) (y : rv_Od) : Prop := ∃ p q dn dl fa sa ca oa, lq_N M w p q ∧ G oa = (30100, 8) ∧ rc_X G M x tp (w p) (w 74) (w 29) dn dl fa sa ca ∧ rc_fr x tp dl fa sa ca (fun t => w (p + 3 + t)) (fun t => w (p + 12 + t)) (w p) (w (p + 20)) oa M M' ∧ rc_fq tp (w 29) (w 74) M M' ∧ (∀ e, y = .inl e → rc_F (w 29) (w 74) dn dl M') ∧ (∀ R r, y = .inr (R, r) → rv_db (M.1 s 0) R ∧ rc_O (w 29) (w 74) dn dl fa sa ca R r M')
def lq_cn (M : mj_M) (m s : Nat) (nm : Nat → List Int) : Prop := ∀ ns, M.2.2 m 9 = some ns → ∀ k : Nat, (k : Int) < M.1 s 0 → M.2.1 ns k = rv_8 (nm k) ∧ rv_wo (nm k)
set_option maxRecDepth 100000 in
theorem lq_ct1 (inv : ab_Inv G M) (gx : G x = (1011, 0)) (gtp : G tp = (1008, 0)) (x0 : M.2.2 x 0 = some tp) (h6 : lp_6 G M tp m bc bt) (hJ : lq_J G M x s kp kc w) (hr : rv_r6 (M.1 s) 0) (hnz : nz G M s m kp kc w) (hn : n ≤ 940) (hs : M.1 tp 1 = (n : Int)) : mj_R mj_tab 40 117 [.inr (.inr (some x))] G M (fun r G' M' => ∃ nm y, r = some (.inl (rv_vd y)) ∧ G' = G ∧ rv_zd (M.1 bc) n nm (M.1 s 0) y ∧ lq_cn M m s nm ∧ lq_cy G M M' x tp s w y) := by
  obtain ⟨gbc, gbt, t0, m1, wl, l5⟩ := h6
  obtain ⟨hA, hB, p, q, hN, h1, h2⟩ := hJ
  have hp := hN.pin.1
  have g29 := hA.2.2.1
  have g74 := hA.2.2.2.1
  obtain ⟨gpl, gna, gta, gba, gwa, gtr, gbr, itr, ibr, p0, p1, p2, p3, rt, rb⟩ := lq_K hA hB hp
  obtain ⟨dl, w1, gdl⟩ := hn_rf (k := 1) (q := (1002, 0)) inv g74 rfl (by decide) (by decide) (by decide) (fun e => absurd e (by decide))
  obtain ⟨dn, w2, gdn⟩ := hn_rf (k := 1) (q := (1002, 0)) inv g29 rfl (by decide) (by decide) (by decide) (fun e => absurd e (by decide))
  obtain ⟨fa, d0, gfa⟩ := hn_rf (k := 0) (q := (16100, 12)) inv gdl rfl (by decide) (by decide) (by decide) (fun e => absurd e (by decide))
  obtain ⟨sa, d1, gsa⟩ := hn_rf (k := 1) (q := (17100, 12)) inv gdl rfl (by decide) (by decide) (by decide) (fun e => absurd e (by decide))
  obtain ⟨ca, d2, gca⟩ := hn_rf (k := 2) (q := (18100, 12)) inv gdl rfl (by decide) (by decide) (by decide) (fun e => absurd e (by decide))
  obtain ⟨oa, p10, goa⟩ := hn_rf (k := 10) (q := (30100, 8)) inv gpl rfl (by decide) (by decide) (by decide) (fun e => absurd e (by decide))
  obtain ⟨ns, nk, ⟨r1, r2, -, -⟩, hNN, -⟩ := hnz
  obtain ⟨nm, a1, a2⟩ := hNN p q hN
  have e0 : M.1 (w p) 4 = M.1 s 0 := h1.1.1.symm
  have hAT : rv_AT G M (fun k => rv_u8 (M.1 bc k)) n 400 tp bc (w p) (w (p + 1)) (w (p + 2)) (w (p + 11)) (w (p + 20)) oa (fun t => w (p + 3 + t)) (fun t => w (p + 12 + t)) (rv_T (fun k => rv_u8 (M.1 bc k)) n 400) :=
    ⟨⟨gtp, gbc, gpl, gna, gta, gba, gwa, goa, gtr, gbr, itr, ibr, t0, p0, p1, p2, p3, p10, rt, rb, fun _ => rfl, wl, hn, by decide, inv.2.2.2.1⟩, rfl⟩
  have hX : rc_X G M x tp (w p) (w 74) (w 29) dn dl fa sa ca := ⟨⟨gx, g74, g29, ⟨gdl, gfa, gsa, gca, d0, d1, d2⟩, fun e => absurd (hA.1 _ _ (by decide) (by decide) e) (by decide)⟩, x0, hB.2.1, hB.2.2.1, w1, w2, hN.1⟩
  have hb : rv_pb (M.1 (w p)) := ⟨by rw [e0]; exact hr.1.1.1, by rw [e0]; exact hr.1.1.2, by rw [h1.2.2]; exact lq_ct_ge _ _, by rw [h1.2.2]; exact hr.2.2⟩
  obtain ⟨y, hy⟩ := dg_deals (T := rv_T (fun k => rv_u8 (M.1 bc k)) n 400) (nm := nm) (c0 := M.1 s 0) (n + 1) (fun _ => 0) 0 0
  have hcn : lq_cn M m s nm := fun ns' e k hk => by
    obtain rfl : ns' = ns := Option.some.inj (e.symm.trans r1)
    have hk8 : k < 8 := by have := hr.1.1.2; omega
    exact ⟨by have := a2 k hk; rwa [Nat.zero_add] at this, (a1 k hk8).2⟩
  refine r_X11_contracts (d := 31) hAT hX hs a1 hb ?_
  rw [e0]
  have key0 : (∀ f a, y = .inl (f, a) → ∀ M', rc_F (w 29) (w 74) dn dl M' → rc_fr x tp dl fa sa ca (fun t => w (p + 3 + t)) (fun t => w (p + 12 + t)) (w p) (w (p + 20)) oa M M' → rc_fq tp (w 29) (w 74) M M' → ∃ nm y, (some (.inl (rv_vf a)) : Option mj_V) = some (.inl (rv_vd y)) ∧ G = G ∧ rv_zd (M.1 bc) n nm (M.1 s 0) y ∧ lq_cn M m s nm ∧ lq_cy G M M' x tp s w y) ∧ (∀ R r, y = .inr (R, r) → rv_db (M.1 s 0) R → ∀ M', rc_O (w 29) (w 74) dn dl fa sa ca R r M' → rc_fr x tp dl fa sa ca (fun t => w (p + 3 + t)) (fun t => w (p + 12 + t)) (w p) (w (p + 20)) oa M M' → rc_fq tp (w 29) (w 74) M M' → ∃ nm y, (some (.inl ((r : Nat) : Int)) : Option mj_V) = some (.inl (rv_vd y)) ∧ G = G ∧ rv_zd (M.1 bc) n nm (M.1 s 0) y ∧ lq_cn M m s nm ∧ lq_cy G M M' x tp s w y) := by
    refine ⟨fun f a ey M' hF fr fq => ?_, fun R r ey hdb M' hO fr fq => ?_⟩
    · refine ⟨nm, y, by rw [ey, rv_vd_l], rfl, hy, hcn, p, q, dn, dl, fa, sa, ca, oa, hN, goa, hX, fr, fq, fun _ _ => hF, fun R r e => ?_⟩
      rw [ey] at e; cases e
    · refine ⟨nm, y, by rw [ey, rv_vd_r], rfl, hy, hcn, p, q, dn, dl, fa, sa, ca, oa, hN, goa, hX, fr, fq, fun e h => ?_, fun R2 r2 e => ?_⟩
      · rw [ey] at h; cases h
      · rw [ey] at e; cases e; exact ⟨hdb, hO⟩
  exact sp_deals.mono (fun f a h => h.1 f a rfl) (fun R r h => h.2 R r rfl) _ _ _ _ (hy (fun o => (∀ f a, o = .inl (f, a) → ∀ M', rc_F (w 29) (w 74) dn dl M' → rc_fr x tp dl fa sa ca (fun t => w (p + 3 + t)) (fun t => w (p + 12 + t)) (w p) (w (p + 20)) oa M M' → rc_fq tp (w 29) (w 74) M M' → ∃ nm y, (some (.inl (rv_vf a)) : Option mj_V) = some (.inl (rv_vd y)) ∧ G = G ∧ rv_zd (M.1 bc) n nm (M.1 s 0) y ∧ lq_cn M m s nm ∧ lq_cy G M M' x tp s w y) ∧ (∀ R r, o = .inr (R, r) → rv_db (M.1 s 0) R → ∀ M', rc_O (w 29) (w 74) dn dl fa sa ca R r M' → rc_fr x tp dl fa sa ca (fun t => w (p + 3 + t)) (fun t => w (p + 12 + t)) (w p) (w (p + 20)) oa M M' → rc_fq tp (w 29) (w 74) M M' → ∃ nm y, (some (.inl ((r : Nat) : Int)) : Option mj_V) = some (.inl (rv_vd y)) ∧ G = G ∧ rv_zd (M.1 bc) n nm (M.1 s 0) y ∧ lq_cn M m s nm ∧ lq_cy G M M' x tp s w y)) key0)
theorem lq_ct2 {f : Nat → Int} {nm : Nat → List Int} {y : rv_Od} (hV : lw_V G M x m tp s kp) (gbt : G bt = (50101, 940)) (m1 : M.2.2 m 1 = some bt) (hf : M.1 bt = f) (b0 : 0 ≤ M.1 s 0 ∧ M.1 s 0 ≤ 8) (hcn : lq_cn M m s nm) (hn : n ≤ 940) (hs : M.1 m 2 = (n : Int)) (hz : rv_zd f n nm (M.1 s 0) y) : mj_R mj_tab 40 177 [.inr (.inr (some m))] G M (fun r _ M' => r = some (.inl (rv_vd y)) ∧ (∀ e, y = .inl e → M'.1 s = M.1 s) ∧ (∀ R r, y = .inr (R, r) → rq_O s R r M M')) := by
  obtain ⟨inv, ⟨gx, gm, gtp, gs, -⟩, ⟨x0, m6, -⟩, -⟩ := hV
  obtain ⟨rd, h8, grd⟩ := hn_rf (k := 8) (q := (53100, 135)) inv gm rfl (by decide) (by decide) (by decide) (fun e => absurd e (by decide))
  obtain ⟨ns, h9, gns⟩ := hn_rf (k := 9) (q := (54103, 16)) inv gm rfl (by decide) (by decide) (by decide) (fun e => absurd e (by decide))
  obtain ⟨rs, h10, grs⟩ := hn_rf (k := 10) (q := (55103, 24)) inv gm rfl (by decide) (by decide) (by decide) (fun e => absurd e (by decide))
  refine r_X12_contracts2 (d := 34) (B := fun k => rv_u8 (f k)) gm gbt gns grs m1 h9 h10 (fun k => by rw [hf]) (fun k hk => (inv.2.2.2.2 rs k (by rw [grs]) hk).trans (ab_rsv8 k hk)) hn rfl gs grd m6 h8 hs b0.1 b0.2 rfl (hcn ns h9) ?_
  have key0 : (∀ f a, y = .inl (f, a) → ∀ M', M'.1 s = M.1 s → (some (.inl (rv_vf a)) : Option mj_V) = some (.inl (rv_vd y)) ∧ (∀ e, y = .inl e → M'.1 s = M.1 s) ∧ (∀ R r, y = .inr (R, r) → rq_O s R r M M')) ∧ (∀ R r, y = .inr (R, r) → rv_db (M.1 s 0) R → ∀ M', rq_O s R r M M' → (some (.inl ((r : Nat) : Int)) : Option mj_V) = some (.inl (rv_vd y)) ∧ (∀ e, y = .inl e → M'.1 s = M.1 s) ∧ (∀ R r, y = .inr (R, r) → rq_O s R r M M')) := by
    refine ⟨fun f a ey M' es => ?_, fun R r ey hdb M' hO => ?_⟩
    · refine ⟨by rw [ey, rv_vd_l], fun _ _ => es, fun R r e => ?_⟩
      rw [ey] at e; cases e
    · refine ⟨by rw [ey, rv_vd_r], fun e h => ?_, fun R2 r2 e => ?_⟩
      · rw [ey] at h; cases h
      · rw [ey] at e; cases e; exact hO
  exact sp_deals.mono (fun f a h => h.1 f a rfl) (fun R r h => h.2 R r rfl) _ _ _ _ (hz (fun o => (∀ f a, o = .inl (f, a) → ∀ M', M'.1 s = M.1 s → (some (.inl (rv_vf a)) : Option mj_V) = some (.inl (rv_vd y)) ∧ (∀ e, y = .inl e → M'.1 s = M.1 s) ∧ (∀ R r, y = .inr (R, r) → rq_O s R r M M')) ∧ (∀ R r, o = .inr (R, r) → rv_db (M.1 s 0) R → ∀ M', rq_O s R r M M' → (some (.inl ((r : Nat) : Int)) : Option mj_V) = some (.inl (rv_vd y)) ∧ (∀ e, y = .inl e → M'.1 s = M.1 s) ∧ (∀ R r, y = .inr (R, r) → rq_O s R r M M'))) key0)
end CT
