section
/-! ===== YEARS in the whole invariant ===== -/
def lp_U (G : mj_G) (M : mj_M) (x m tp s kp bc bt kc kr : Nat) (w : Nat → Nat) (c : Int) : Prop := lp_Z G M x m tp s kp bc bt kc kr w c ∧ lq_W G M m s kp kc w
/-- whether on goes on -/
def lr_c (H : Nat → Int) (n : Int) : Prop := H 221 = 1 ∧ 0 ≤ n ∧ n ≤ 12
def lr_oT (H : Nat → Int) (n : Int) : ye_T := ye_it H (fun _ => 0) (ye_S H 0) (lr_on H n).toNat
section YT2
variable {G : mj_G} {M M' : mj_M} {x m tp s kp bc bt kc kr ud : Nat} {w : Nat → Nat} {c c' z z1 z2 z3 n : Int} {P : Nat → Int} {W : List (Nat × Nat × Nat)}
theorem lp_U.le (h : lp_U G M x m tp s kp bc bt kc kr w c) (hc : c ≤ c') : lp_U G M x m tp s kp bc bt kc kr w c' := ⟨h.1.le hc, h.2⟩
theorem lp_U.mv (h : lp_U G M x m tp s kp bc bt kc kr w c) (e1 : M'.1 = M.1) (e2 : M'.2.2 = M.2.2) (e3 : ∀ y k, (G y).1 ≠ 90103 → M'.2.1 y k = M.2.1 y k) : lp_U G M' x m tp s kp bc bt kc kr w c := ⟨h.1.mv e1 e2 e3, h.2.mv e1 e2⟩
theorem lq_W.p0m {k : Nat} {v : Int} (h : lq_W G M m s kp kc w) (gm : G m = (1012, 0)) (gs : G s = (51100, 537)) (gk : G kp = (70100, 1076)) (gc : G kc = (48102, 2)) (hk : k ≠ 32) : lq_W G (mj_p0 M m k v) m s kp kc w := h.cg (h.2.1.cg (fun _ _ _ _ _ => rfl) (fun _ _ _ _ => rfl) (fun _ _ => rfl)) (hn_n (Or.inr (fun e => hk e.symm))) (fun Y hY u hu => wz_c (fun e => yw_nt h.1 hY gm (by decide) u hu e.symm)) (fun j _ => congrFun (wz_c (hn_ne gs gm (by decide))) j) (wz_c (hn_ne gk gm (by decide))) (wz_c (hn_ne gc gm (by decide)))
theorem lq_W.ctY {y : rv_Od} (h : lq_W G M m s kp kc w) (hA : lq_A G w) (f : ab_frm W G M M') (cW : lq_Wu W) (e32 : M'.1 m 32 = M.1 m 32) (ek : M'.1 kp = M.1 kp) (ec : M'.1 kc = M.1 kc) (b0 : 0 ≤ M.1 s 0) (hdb : ∀ R r, y = .inr (R, r) → rv_db (M.1 s 0) R) (o1 : ∀ e, y = .inl e → M'.1 s = M.1 s) (o2 : ∀ R r, y = .inr (R, r) → rq_O s R r M M') : lq_W G M' m s kp kc w := by
  rcases y with e | ⟨R, r⟩
  · exact h.tr hA f cW e32 (fun j _ => by rw [o1 e rfl]) ek ec
  · exact h.dl hA f cW e32 (fun j hj => (o2 R r rfl).2.2 j (by omega)) ek ec (yd_ok.ct (hdb R r rfl) b0 (o2 R r rfl))
theorem lq_W.tkY (h : lq_W G M m s kp kc w) (hA : lq_A G w) (gs : G s = (51100, 537)) (f : ab_frm W G M M') (cW : lq_Wu W) (cS : ∀ q ∈ W, q.1 ≠ 51100 ∨ (88 ≤ q.2.1 ∧ q.2.2 < 221) ∨ 356 ≤ q.2.1) (e32 : M'.1 m 32 = M.1 m 32) (ek : M'.1 kp = M.1 kp) (ec : M'.1 kc = M.1 kc) (h6 : rv_r6 (M.1 s) 0) (hP : z ≠ 0 → ∀ j, j < 12 → P j = 8 ∨ (0 ≤ P j ∧ P j < M.1 s 0)) (o1 : z = 0 → M'.1 s = M.1 s) (o2 : z ≠ 0 → rq_T s P M M') : lq_W G M' m s kp kc w := by
  by_cases hz : z = 0
  · exact h.tr hA f cW e32 (fun j _ => by rw [o1 hz]) ek ec
  · have es : ∀ j, j < 88 ∨ (221 ≤ j ∧ j < 356) → M'.1 s j = M.1 s j := fun j hj => (f s j (by rw [gs]; rintro ⟨r, hr, e1, e2, e3⟩; have := cS r hr; omega)).1
    exact h.dl hA f cW e32 es ek ec (yd_ok.tk h6 (hP hz) (es 0 (Or.inl (by decide))) (o2 hz))
theorem lq_imgY (hI : ab_Inv G M) (gx : G x = (1011, 0)) (hA : lq_A G w) (hB : lq_B M w x) (gA : lq_WA G w) (wB : lq_WB M w) (x4 : M.2.2 x 4 = some kc) (gkc : G kc = (48102, 2)) : mj_R mj_tab 40 127 [.inr (.inr (some x)), .inl z1] G M (fun _ _ M' => lq_yiy G M M' kc w z1) :=
  r_X11_imageY hI gx hA hB gA wB x4 gkc (fun hz => ⟨fun _ => rfl, fun k hk e => absurd ⟨by omega, by omega⟩ hz⟩) (fun k hk e M1 M2 al hc => ⟨fun hz => absurd ⟨by omega, by omega⟩ hz, fun k' hk' e' => by
    obtain rfl : k' = k := by omega
    exact ⟨M1, M2, al, hc, rfl⟩⟩)
theorem lq_rstY (hI : ab_Inv G M) (gx : G x = (1011, 0)) (hA : lq_A G w) (hB : lq_B M w x) (gA : lq_WA G w) (wB : lq_WB M w) (x4 : M.2.2 x 4 = some kc) (gkc : G kc = (48102, 2)) (x5 : M.2.2 x 5 = some ud) (gud : G ud = (1009, 0)) : mj_R mj_tab 40 144 [.inr (.inr (some x)), .inl z1] G M (fun _ _ M' => lq_yry G M M' kc ud w z1) :=
  r_X11_restoreY hI gx hA hB gA wB x4 gkc x5 gud (fun hz => ⟨fun _ => rfl, fun k hk e h0 => by
    rcases hz with hz | ⟨k2, a, b, e0⟩
    · exact absurd ⟨by omega, by omega⟩ hz
    · obtain rfl : k2 = k := by omega
      exact absurd e0 h0⟩) (fun k hk e h0 M1 M2 al hc => ⟨fun hz => absurd (hz k hk e) h0, fun k' hk' e' _ => by
    obtain rfl : k' = k := by omega
    exact ⟨M1, M2, al, hc, rfl⟩⟩)
theorem ye_oS (h : ye_okT (fun j => M.1 s (0 + j)) (ye_S (M.1 s) 0)) : ye_okT (M.1 s) (ye_S (M.1 s) 0) := by
  have e : (fun j => M.1 s (0 + j)) = M.1 s := funext fun j => by rw [Nat.zero_add]
  rw [e] at h; exact h
theorem lq_W.rn (h : lq_W G M m s kp kc w) : (M.1 s 221 = 0 ∨ M.1 s 221 = 1) ∧ (M.1 s 221 = 1 → ye_okT (M.1 s) (ye_S (M.1 s) 0)) := ⟨h.2.2.2.1.1.2.1, fun c => ye_oS (h.2.2.2.1.1.2.2 c).2⟩
theorem lr_on_b (hH : ye_H (M.1 s)) (hk : ye_okT (M.1 s) (ye_S (M.1 s) 0)) (hc : lr_c (M.1 s) n) : ye_okT (M.1 s) (lr_oT (M.1 s) n) := by
  have e : lr_on (M.1 s) n = (if n < 12 - M.1 s 222 then n else 12 - M.1 s 222) := if_pos hc
  have e2 : (ye_S (M.1 s) 0).1 222 = M.1 s 222 := by show M.1 s (0 + 222) = _; rw [Nat.zero_add]
  have b := hk.1
  have h0 := hc.2.1
  rw [e2] at b
  have hd : 0 ≤ lr_on (M.1 s) n ∧ lr_on (M.1 s) n ≤ 12 - M.1 s 222 := by rw [e]; split <;> omega
  exact (ye_it_ok hH hk (xs := fun _ => 0) (fun _ => ⟨Int.le_refl 0, by decide⟩) (lr_on (M.1 s) n).toNat (by rw [e2]; omega)).1
theorem lq_begY (hZ : lp_Z G M x m tp s kp bc bt kc kr w c) (hW : lq_W G M m s kp kc w) : mj_R mj_tab 40 110 [.inr (.inr (some x))] G M (fun _ _ M' => (M.1 s 0 = 0 → lq_W G M' m s kp kc w) ∧ (M.1 s 0 ≠ 0 → lq_Wo G M' m s kp kc w (ye_fr (M.1 s)))) := by
  have hI := hZ.1.1.1
  obtain ⟨hA, hB, p, q, hN, hG, -⟩ := hI.J
  obtain ⟨dA, dB, ⟨dn, ds, hDN, hE⟩, -⟩ := hZ.2
  exact r_X11_beginY hI.gx hA hB hN hG hW.1 hW.2.1 dA dB hDN hE (fun h0 => ⟨fun _ => hW, fun n => absurd h0 n⟩) (fun h0 M1 ho hC => ⟨fun e => absurd e h0, fun _ => hW.on1 hA hI.gm hI.gs hI.gk hI.gc ho hC (ye_fr_ok (ye_H.ofs hI.T.1 hW.2.2.2.1.2.zy)).1⟩)
theorem lq_onY (hZ : lp_Z G M x m tp s kp bc bt kc kr w c) (hW : lq_W G M m s kp kc w) : mj_R mj_tab 40 137 [.inr (.inr (some x)), .inl n] G M (fun r _ M' => r = some (.inl (lr_on (M.1 s) n)) ∧ (¬ lr_c (M.1 s) n → lq_W G M' m s kp kc w) ∧ (lr_c (M.1 s) n → lq_Wo G M' m s kp kc w (lr_oT (M.1 s) n))) := by
  have hI := hZ.1.1.1
  obtain ⟨hA, hB, p, q, hN, hG, -⟩ := hI.J
  obtain ⟨dA, dB, ⟨dn, ds, hDN, hE⟩, -⟩ := hZ.2
  have hH := (ye_H.ofs hI.T.1 hW.2.2.2.1.2.zy).1
  obtain ⟨hr, hk⟩ := hW.rn
  have h1 : M.1 (w 61) 0 = M.1 s 221 := hW.2.2.2.1.1.1
  refine r_X11_onY hI.gx hA hB hN hG hW.1 hW.2.1 dA dB hDN hE hH h1 hr (fun c => ⟨⟨h1.trans c, (hW.2.2.2.1.1.2.2 c).1⟩, hk c⟩) (fun hc => ?_) (fun hc M1 ho hC => ?_)
  · refine ⟨?_, fun _ => hW, fun q => absurd q hc⟩
    rw [show lr_on (M.1 s) n = -1 from if_neg hc]
  · exact ⟨rfl, fun q => absurd hc q, fun _ => hW.on1 hA hI.gm hI.gs hI.gk hI.gc ho hC (lr_on_b hH (hk hc.1) hc)⟩
theorem lq_begR (gm : G m = (1012, 0)) (gs : G s = (51100, 537)) (m6 : M.2.2 m 6 = some s) (h32 : M.1 m 32 = -1) (hH : ye_H2 (M.1 s)) : mj_R mj_tab 40 162 [.inr (.inr (some m))] G M (fun _ _ M' => (M.1 s 0 = 0 → M' = mj_p0 M m 0 0) ∧ (M.1 s 0 ≠ 0 → yw_R s m 1 (ye_fr (M.1 s)) M M')) :=
  r_X12_beginY ⟨gm, gs, m6, fun _ _ => rfl, h32⟩ hH (fun h0 => ⟨fun _ => rfl, fun n => absurd h0 n⟩) (fun h0 M1 hR => ⟨fun e => absurd e h0, fun _ => hR⟩)
theorem lq_onR (gm : G m = (1012, 0)) (gs : G s = (51100, 537)) (m6 : M.2.2 m 6 = some s) (h32 : M.1 m 32 = -1) (hH : ye_H2 (M.1 s)) (hr : M.1 s 221 = 0 ∨ M.1 s 221 = 1) (hk : M.1 s 221 = 1 → ye_okT (M.1 s) (ye_S (M.1 s) 0)) : mj_R mj_tab 40 221 [.inr (.inr (some m)), .inl n] G M (fun r _ M' => r = some (.inl (lr_on (M.1 s) n)) ∧ (¬ lr_c (M.1 s) n → M' = mj_p0 M m 0 0) ∧ (lr_c (M.1 s) n → yw_R s m 1 (lr_oT (M.1 s) n) M M')) := by
  refine r_X12_onY ⟨gm, gs, m6, fun _ _ => rfl, h32⟩ hH hr hk (fun hc => ?_) (fun hc M1 hR => ⟨rfl, fun q => absurd hc q, fun _ => hR⟩)
  refine ⟨?_, fun _ => rfl, fun q => absurd q hc⟩
  rw [show lr_on (M.1 s) n = -1 from if_neg hc]
theorem lq_worR (hV : lw_V G M x m tp s kp) (hW : lq_W G M m s kp kc w) (h6 : rv_r6 (M.1 s) 0) : mj_R mj_tab 40 259 [.inr (.inr (some m)), .inl z1] G M (fun r _ M' => r = some (.inl (lr_worth (M.1 s) z1)) ∧ (∀ j, j < 537 → M'.1 s j = M.1 s j) ∧ M'.1 m 32 = M.1 m 32) := by
  obtain ⟨inv, ⟨gx, gm, gtp, gs, -⟩, ⟨x0, m6, -⟩, -⟩ := hV
  obtain ⟨bf, m45, gf⟩ := hn_rf (k := 45) (q := (64100, 135)) inv gm rfl (by decide) (by decide) (by decide) (fun e => absurd e (by decide))
  obtain ⟨bk, m46, gk⟩ := hn_rf (k := 46) (q := (65100, 12)) inv gm rfl (by decide) (by decide) (by decide) (fun e => absurd e (by decide))
  exact r_X12_worthC ⟨gm, gs, m6, fun _ _ => rfl, hW.2.2.1⟩ gf m45 (ye_H.ofs h6 hW.2.2.2.1.2.zy) m46 gk (fun M1 hK => ⟨rfl, hK.2.2.1, hK.2.2.2 32 (by decide) (by decide) (by decide) (by decide) (by decide)⟩)
theorem lq_musR (hV : lw_V G M x m tp s kp) (hW : lq_W G M m s kp kc w) (h6 : rv_r6 (M.1 s) 0) : mj_R mj_tab 40 215 [.inr (.inr (some m)), .inl z1, .inl z2] G M (fun r _ M' => r = some (.inl (lr_must (M.1 s) z1 z2)) ∧ (∀ j, j < 537 → M'.1 s j = M.1 s j) ∧ M'.1 m 32 = M.1 m 32) := by
  obtain ⟨inv, ⟨gx, gm, gtp, gs, -⟩, ⟨x0, m6, -⟩, -⟩ := hV
  obtain ⟨bf, m45, gf⟩ := hn_rf (k := 45) (q := (64100, 135)) inv gm rfl (by decide) (by decide) (by decide) (fun e => absurd e (by decide))
  exact r_X12_mustC ⟨gm, gs, m6, fun _ _ => rfl, hW.2.2.1⟩ gf m45 (ye_H.ofs h6 hW.2.2.2.1.2.zy) (fun M1 hK => ⟨rfl, hK.2.2.1, hK.2.2.2 32 (by decide) (by decide) (by decide) (by decide) (by decide)⟩)
theorem lq_shoR (hV : lw_V G M x m tp s kp) (hW : lq_W G M m s kp kc w) (h6 : rv_r6 (M.1 s) 0) : mj_R mj_tab 40 240 [.inr (.inr (some m)), .inl z1, .inl z2, .inl z3] G M (fun r _ M' => r = some (.inl (lr_shores (M.1 s) z1 z2 z3)) ∧ (∀ j, j < 537 → M'.1 s j = M.1 s j) ∧ M'.1 m 32 = M.1 m 32) := by
  obtain ⟨inv, ⟨gx, gm, gtp, gs, -⟩, ⟨x0, m6, -⟩, -⟩ := hV
  obtain ⟨bf, m45, gf⟩ := hn_rf (k := 45) (q := (64100, 135)) inv gm rfl (by decide) (by decide) (by decide) (fun e => absurd e (by decide))
  exact r_X12_shoresC ⟨gm, gs, m6, fun _ _ => rfl, hW.2.2.1⟩ gf m45 (ye_H.ofs h6 hW.2.2.2.1.2.zy) (fun M1 hK => ⟨rfl, hK.2.2.1, hK.2.2.2 32 (by decide) (by decide) (by decide) (by decide) (by decide)⟩)
theorem lq_soR (hV : lw_V G M x m tp s kp) (hW : lq_W G M m s kp kc w) (h6 : rv_r6 (M.1 s) 0) : mj_R mj_tab 40 241 [.inr (.inr (some m))] G M (fun r _ M' => r = some (.inl (lr_shoresOf (M.1 s))) ∧ (∀ j, j < 537 → M'.1 s j = M.1 s j) ∧ M'.1 m 32 = M.1 m 32) := by
  obtain ⟨inv, ⟨gx, gm, gtp, gs, -⟩, ⟨x0, m6, -⟩, -⟩ := hV
  obtain ⟨bf, m45, gf⟩ := hn_rf (k := 45) (q := (64100, 135)) inv gm rfl (by decide) (by decide) (by decide) (fun e => absurd e (by decide))
  exact r_X12_shoresOfC (d := 34) ⟨gm, gs, m6, fun _ _ => rfl, hW.2.2.1⟩ gf m45 (ye_H.ofs h6 hW.2.2.2.1.2.zy) (fun M1 hK => ⟨rfl, hK.2.2.1, hK.2.2.2 32 (by decide) (by decide) (by decide) (by decide) (by decide)⟩)
theorem lq_thR (hV : lw_V G M x m tp s kp) (hW : lq_W G M m s kp kc w) (h6 : rv_r6 (M.1 s) 0) : mj_R mj_tab 40 248 [.inr (.inr (some m))] G M (fun r _ M' => r = some (.inl (lr_thirsty (M.1 s))) ∧ (∀ j, j < 537 → M'.1 s j = M.1 s j) ∧ M'.1 m 32 = M.1 m 32) := by
  obtain ⟨inv, ⟨gx, gm, gtp, gs, -⟩, ⟨x0, m6, -⟩, -⟩ := hV
  obtain ⟨bf, m45, gf⟩ := hn_rf (k := 45) (q := (64100, 135)) inv gm rfl (by decide) (by decide) (by decide) (fun e => absurd e (by decide))
  exact r_X12_thirstyC (d := 34) ⟨gm, gs, m6, fun _ _ => rfl, hW.2.2.1⟩ gf m45 (ye_H.ofs h6 hW.2.2.2.1.2.zy) (fun M1 hK => ⟨rfl, hK.2.2.1, hK.2.2.2 32 (by decide) (by decide) (by decide) (by decide) (by decide)⟩)
theorem lq_drR (hV : lw_V G M x m tp s kp) (hW : lq_W G M m s kp kc w) (h6 : rv_r6 (M.1 s) 0) : mj_R mj_tab 40 182 [.inr (.inr (some m)), .inl z1] G M (fun r _ M' => r = some (.inl (lr_drawn (M.1 s) z1)) ∧ (∀ j, j < 537 → M'.1 s j = M.1 s j) ∧ M'.1 m 32 = M.1 m 32) := by
  obtain ⟨inv, ⟨gx, gm, gtp, gs, -⟩, ⟨x0, m6, -⟩, -⟩ := hV
  obtain ⟨bf, m45, gf⟩ := hn_rf (k := 45) (q := (64100, 135)) inv gm rfl (by decide) (by decide) (by decide) (fun e => absurd e (by decide))
  exact r_X12_drawnC (d := 34) ⟨gm, gs, m6, fun _ _ => rfl, hW.2.2.1⟩ gf m45 (ye_H.ofs h6 hW.2.2.2.1.2.zy) (fun M1 hK => ⟨rfl, hK.2.2.1, hK.2.2.2 32 (by decide) (by decide) (by decide) (by decide) (by decide)⟩)
theorem lq_leR (hV : lw_V G M x m tp s kp) (hW : lq_W G M m s kp kc w) (b0 : 0 ≤ M.1 s 0 ∧ M.1 s 0 ≤ 8) : mj_R mj_tab 40 210 [.inr (.inr (some m))] G M (fun _ _ M' => (∀ j, j < 537 → M'.1 s j = M.1 s j) ∧ M'.1 m 32 = M.1 m 32) := by
  obtain ⟨inv, ⟨gx, gm, gtp, gs, -⟩, ⟨x0, m6, -⟩, -⟩ := hV
  exact r_X12_leaksY inv gm gs m6 b0 hW.2.2.1 (fun z M' e1 e2 => ⟨e1, e2.trans hW.2.2.1.symm⟩)
theorem sz_headW {w : sx_w} {h : sx_H} {G : mj_G} {M : mj_M} (hR : sx_RH w h G M) (k2 : sz_hk h = true) : lq_W (sz_G w h G) (sz_M w h G M) (w.2.2.2 336) (w.2.2.2 338) (w.2.2.2 357) (w.2.2.2 120) w.2.2.2 := by
  have n1 := (sz_hk_s k2).1
  obtain ⟨ya, yb, -, -, -⟩ := sz_hy_s k2
  have tg : ∀ i t n, (i, t, n) ∈ sz_lt → sz_G w h G (w.2.2.2 i) = (t, n) := fun i t n he => sz_tg_s (yb (i, t, n) he) hR (by have := sz_lt_lt _ he; omega)
  have rq : ∀ i k j, (i, k, j) ∈ sz_lr → (sz_M w h G M).2.2 (w.2.2.2 i) k = some (w.2.2.2 j) := fun i k j he => sz_rq_s (ya (i, k, j) he) hR (by have := (sz_lr_lt _ he).1; omega) (sz_lr_lt _ he).2
  have c0 : (sz_M w h G M).1 (w.2.2.2 120) 0 = 0 := sz_q_s hR k2 (by decide +kernel)
  have c1 : (sz_M w h G M).1 (w.2.2.2 120) 1 = 0 := sz_q_s hR k2 (by decide +kernel)
  have s0 : ∀ j, j < 36 → (sz_M w h G M).1 (w.2.2.2 338) (184 + j) = 0 := fun j hj => sz_q_s hR k2 ((by decide +kernel : ∀ j, j < 36 → sz_q 338 (184 + j) = true) j hj)
  have s1 : (sz_M w h G M).1 (w.2.2.2 338) 0 = 0 := sz_q_s hR k2 (by decide +kernel)
  have s2 : (sz_M w h G M).1 (w.2.2.2 338) (0 + 221) = 0 := sz_q_s hR k2 (by decide +kernel)
  have y0 : (sz_M w h G M).1 (w.2.2.2 61) 0 = 0 := sz_q_s hR k2 (by decide +kernel)
  have m32 : (sz_M w h G M).1 (w.2.2.2 336) 32 = -1 := sz_iv_s ((sz_hz_s k2).2 (336, 32, -1) (by decide +kernel)) hR (by omega) (by decide) (by
    have g := tg 336 1012 0 (by decide +kernel)
    rw [sz_G_in (by omega)] at g
    rw [g]; decide)
  refine ⟨fun Y hY => ?_, ⟨fun Y hY => ?_, rq 29 3 61 (by decide +kernel), fun k hk => ?_⟩, m32, ⟨⟨y0.trans s2.symm, Or.inl s2, fun e => by rw [s2] at e; exact absurd e (by decide)⟩, (yd_ok.of0 (by rw [s1]; exact Int.le_refl 0) s0).zz⟩, fun k hk h0 => ?_⟩
  · rcases yw_Y3 hY with e | e | e <;> subst e
    · exact ⟨tg _ _ _ (by decide +kernel), tg _ _ _ (by decide +kernel), tg _ _ _ (by decide +kernel), tg _ _ _ (by decide +kernel), tg _ _ _ (by decide +kernel), fun t ht => tg _ _ _ ((by decide +kernel : ∀ t, t < 8 → (61 + 5 + t, 46100, 11) ∈ sz_lt) t ht)⟩
    · exact ⟨tg _ _ _ (by decide +kernel), tg _ _ _ (by decide +kernel), tg _ _ _ (by decide +kernel), tg _ _ _ (by decide +kernel), tg _ _ _ (by decide +kernel), fun t ht => tg _ _ _ ((by decide +kernel : ∀ t, t < 8 → (278 + 5 + t, 46100, 11) ∈ sz_lt) t ht)⟩
    · exact ⟨tg _ _ _ (by decide +kernel), tg _ _ _ (by decide +kernel), tg _ _ _ (by decide +kernel), tg _ _ _ (by decide +kernel), tg _ _ _ (by decide +kernel), fun t ht => tg _ _ _ ((by decide +kernel : ∀ t, t < 8 → (323 + 5 + t, 46100, 11) ∈ sz_lt) t ht)⟩
  · rcases yw_Y3 hY with e | e | e <;> subst e
    · exact ⟨rq _ _ _ (by decide +kernel), rq _ _ _ (by decide +kernel), rq _ _ _ (by decide +kernel), rq _ _ _ (by decide +kernel), fun t ht => rq _ _ _ ((by decide +kernel : ∀ t, t < 8 → (61 + 4, t, 61 + 5 + t) ∈ sz_lr) t ht)⟩
    · exact ⟨rq _ _ _ (by decide +kernel), rq _ _ _ (by decide +kernel), rq _ _ _ (by decide +kernel), rq _ _ _ (by decide +kernel), fun t ht => rq _ _ _ ((by decide +kernel : ∀ t, t < 8 → (278 + 4, t, 278 + 5 + t) ∈ sz_lr) t ht)⟩
    · exact ⟨rq _ _ _ (by decide +kernel), rq _ _ _ (by decide +kernel), rq _ _ _ (by decide +kernel), rq _ _ _ (by decide +kernel), fun t ht => rq _ _ _ ((by decide +kernel : ∀ t, t < 8 → (323 + 4, t, 323 + 5 + t) ∈ sz_lr) t ht)⟩
  · rcases (by omega : k = 0 ∨ k = 1) with e | e <;> subst e
    · exact rq 246 3 278 (by decide +kernel)
    · exact rq 291 3 323 (by decide +kernel)
  · exfalso
    rcases (by omega : k = 0 ∨ k = 1) with e | e <;> subst e
    · exact h0 c0
    · exact h0 c1
end YT2
end
section
/-! ===== contract, as CONTRACTS now tell (laid by a program) ===== -/
section SW
variable {d : Nat} {full : List mj_E} {Q : mj_P} {rest : List mj_E} {L : mj_L} {st : List mj_V} {G : mj_G} {M : mj_M} {cb sb pc : Nat} {im : Int}
theorem w_sw3 {df lo hi z : Int} {offs : _} {t0 t1 t2 t3 : Nat} (k0 : z < lo ∨ hi < z → wz d full Q (full.drop t0) L st G M cb sb) (k1 : z = lo → wz d full Q (full.drop t1) L st G M cb sb) (k2 : z = lo + 1 → wz d full Q (full.drop t2) L st G M cb sb) (k3 : z = lo + 1 + 1 → wz d full Q (full.drop t3) L st G M cb sb) : wz d full Q ((.tableswitch df lo hi offs, pc, [t0, t1, t2, t3], im) :: rest) L (.inl z :: st) G M cb sb := wz_st ⟨k0, k1, k2, k3, trivial⟩
end SW
theorem ab_s_d : ∀ j, j < 36 → j % 3 ≠ 2 → 0 ≤ (ab_rg 51100 (184 + j)).1 ∧ (ab_rg 51100 (184 + j)).2 ≤ 9 := by decide
theorem rd_e1 {M : mj_M} {H : Nat → Int} {w : Nat → Nat} {D j k : Nat} (h : rd_E M H 0 w D) (hj : j < 12) (e : k = 184 + 3 * j) : M.1 (w (D + 1)) j = H k - 1 := by
  have := (h.1 j hj).1
  rw [Nat.zero_add] at this; rw [e]; exact this
theorem rd_e2 {M : mj_M} {H : Nat → Int} {w : Nat → Nat} {D j k : Nat} (h : rd_E M H 0 w D) (hj : j < 12) (e : k = 185 + 3 * j) : M.1 (w (D + 2)) j = H k - 1 := by
  have := (h.1 j hj).2.1
  rw [Nat.zero_add] at this; rw [e]; exact this
theorem rd_e3 {M : mj_M} {H : Nat → Int} {w : Nat → Nat} {D j k : Nat} (h : rd_E M H 0 w D) (hj : j < 12) (e : k = 186 + 3 * j) : M.1 (w (D + 3)) j = H k := by
  have := (h.1 j hj).2.2
  rw [Nat.zero_add] at this; rw [e]; exact this
def lr_contract (H : Nat → Int) (z1 z2 : Int) : Int := if (0 ≤ z1 ∧ z1 ≤ 11) ∧ (0 ≤ z2 ∧ z2 ≤ 2) ∧ H (3 * z1 + 184).toNat ≠ 0 then (if z2 = 0 then H (3 * z1 + 184).toNat - 1 else if z2 = 1 then H (3 * z1 + 185).toNat - 1 else H (3 * z1 + 186).toNat) else -1
set_option maxRecDepth 100000 in
set_option maxHeartbeats 2000000 in
theorem lr_X11_contract {G : mj_G} {M : mj_M} {x m tp s kp bc bt kc kr : Nat} {w : Nat → Nat} {z1 z2 : Int} (hD : lq_D G M s kp kc w) (hI : lp_I G M x m tp s kp bc bt kc kr w) (hz1 : mj_in z1) (hz2 : mj_in z2) : mj_R mj_tab 40 116 [.inr (.inr (some x)), .inl z1, .inl z2] G M (fun r _ _ => r = some (.inl (lr_contract (M.1 s) z1 z2))) := by
  obtain ⟨hA, hB, p, q, hN, hG6, -⟩ := hI.J
  have hG := hG6.1
  have hG5 := hG6
  obtain ⟨gpl, gna, gta, gba, gwa, gtr, gbr, itr, ibr, p0, p1, p2, p3, rt, rb⟩ := lq_K hA hB hN.pin.1
  have gx := hI.gx
  have gnw := hA.2.2.1
  have b0 := hI.b0
  have bz1 : (-2147483648 : Int) ≤ z1 ∧ z1 < 2147483648 := hz1
  have bz2 : (-2147483648 : Int) ≤ z2 ∧ z2 < 2147483648 := hz2
  obtain ⟨hDA, hDB, ⟨dn, ds, hDN, hE⟩, -⟩ := hD
  have gD := hDA dn hDN.nin.1
  have rD := hDB.1 dn hDN.nin.1
  refine ⟨Nat.le_of_ble_eq_true rfl, ?_⟩
  show wz 39 mt_X11_contract.2.2.2.2.1 _ mt_X11_contract.2.2.2.2.1 [some (.inr (.inr (some x))), some (.inl z1), some (.inl z2)] [] G M _ _
  refine w_iln rfl ?_
  refine w_cs (st := []) rfl (Nat.le_of_ble_eq_true rfl) (fun kk h => h) ⟨Nat.le_of_ble_eq_true rfl, ?_⟩
  show wz (38) mt_X11_isMonth.2.2.2.2.1 _ mt_X11_isMonth.2.2.2.2.1 [some (.inl z1)] [] _ _ _ _
  refine w_iln rfl ?_
  refine w_iflt (fun c1 => ?_) (fun c1 => ?_)
  · skip
    refine w_ic ?_
    refine w_iret (fun _ => Or.inl rfl) ?_
    refine w_ifeq (fun c2 => ?_) (fun c2 => ?_)
    · skip
      refine w_ic ?_
      exact w_iret (fun q => by cases q) (by show some (Sum.inl _) = some (Sum.inl _); unfold lr_contract; split <;> (try split) <;> (try split) <;> first | rfl | (exfalso; omega) | (congr 1; omega) | (rw [show (3 * z1 + z2 + 184).toNat = (3 * z1 + 184).toNat by omega]) | (rw [show (3 * z1 + z2 + 184).toNat = (3 * z1 + 185).toNat by omega]))
    · exfalso; omega
  · skip
    refine w_iln rfl ?_
    refine w_bp ?_
    refine w_cmge (fun c3 => ?_) (fun c3 => ?_)
    · skip
      refine w_ic ?_
      refine w_iret (fun _ => Or.inl rfl) ?_
      refine w_ifeq (fun c4 => ?_) (fun c4 => ?_)
      · skip
        refine w_ic ?_
        exact w_iret (fun q => by cases q) (by show some (Sum.inl _) = some (Sum.inl _); unfold lr_contract; split <;> (try split) <;> (try split) <;> first | rfl | (exfalso; omega) | (congr 1; omega) | (rw [show (3 * z1 + z2 + 184).toNat = (3 * z1 + 184).toNat by omega]) | (rw [show (3 * z1 + z2 + 184).toNat = (3 * z1 + 185).toNat by omega]))
      · exfalso; omega
    · skip
      refine w_ic ?_
      refine w_goto ?_
      refine w_iret (fun _ => Or.inr rfl) ?_
      refine w_ifeq (fun c5 => ?_) (fun c5 => ?_)
      · exfalso; omega
      · skip
        refine w_aln rfl ?_
        refine w_gr gx rfl (by decide) rfl (hB.2.1) ?_
        refine w_gr gnw rfl (by decide) rfl (hDN.1) ?_
        refine w_iln rfl ?_
        refine w_cv (st := []) rfl gD.1 rfl (Nat.le_of_ble_eq_true rfl) (fun kk h => h) ⟨Nat.le_of_ble_eq_true rfl, ?_⟩
        show wz (38) mt_X1_tells.2.2.2.2.1 _ mt_X1_tells.2.2.2.2.1 [some (.inr (.inr (some (w dn)))), some (.inl z1)] [] _ _ _ _
        refine w_aln rfl ?_
        refine w_gr gD.1 rfl (by decide) rfl (rD.1) ?_
        refine w_iln rfl ?_
        refine w_iald (v := ((M.1 s (3 * z1 + 184).toNat) - 1)) gD.2.1 rfl (by show (0 : Int) ≤ z1; omega) (by show z1 < ((12 : Nat) : Int); omega) (rd_e1 hE (by show z1.toNat < 12; omega) (by show (3 * z1 + 184).toNat = 184 + 3 * z1.toNat; omega)) ?_
        refine w_ic ?_
        refine w_cmeq (fun c6 => ?_) (fun c6 => ?_)
        · skip
          refine w_ic ?_
          refine w_iret (fun _ => Or.inl rfl) ?_
          refine w_ifne (fun c7 => ?_) (fun c7 => ?_)
          · exfalso; omega
          · skip
            refine w_ic ?_
            exact w_iret (fun q => by cases q) (by show some (Sum.inl _) = some (Sum.inl _); unfold lr_contract; split <;> (try split) <;> (try split) <;> first | rfl | (exfalso; omega) | (congr 1; omega) | (rw [show (3 * z1 + z2 + 184).toNat = (3 * z1 + 184).toNat by omega]) | (rw [show (3 * z1 + z2 + 184).toNat = (3 * z1 + 185).toNat by omega]))
        · skip
          refine w_ic ?_
          refine w_goto ?_
          refine w_iret (fun _ => Or.inr rfl) ?_
          refine w_ifne (fun c8 => ?_) (fun c8 => ?_)
          · skip
            refine w_iln rfl ?_
            refine w_sw3 (fun c9 => ?_) (fun c10 => ?_) (fun c11 => ?_) (fun c12 => ?_)
            · skip
              refine w_ic ?_
              exact w_iret (fun q => by cases q) (by show some (Sum.inl _) = some (Sum.inl _); unfold lr_contract; split <;> (try split) <;> (try split) <;> first | rfl | (exfalso; omega) | (congr 1; omega) | (rw [show (3 * z1 + z2 + 184).toNat = (3 * z1 + 184).toNat by omega]) | (rw [show (3 * z1 + z2 + 184).toNat = (3 * z1 + 185).toNat by omega]))
            · skip
              refine w_aln rfl ?_
              refine w_gr gx rfl (by decide) rfl (hB.2.1) ?_
              refine w_gr gnw rfl (by decide) rfl (hDN.1) ?_
              refine w_gr gD.1 rfl (by decide) rfl (rD.1) ?_
              refine w_iln rfl ?_
              refine w_iald (v := ((M.1 s (3 * z1 + 184).toNat) - 1)) gD.2.1 rfl (by show (0 : Int) ≤ z1; omega) (by show z1 < ((12 : Nat) : Int); omega) (rd_e1 hE (by show z1.toNat < 12; omega) (by show (3 * z1 + 184).toNat = 184 + 3 * z1.toNat; omega)) ?_
              exact w_iret (fun q => by cases q) (by show some (Sum.inl _) = some (Sum.inl _); unfold lr_contract; split <;> (try split) <;> (try split) <;> first | rfl | (exfalso; omega) | (congr 1; omega) | (rw [show (3 * z1 + z2 + 184).toNat = (3 * z1 + 184).toNat by omega]) | (rw [show (3 * z1 + z2 + 184).toNat = (3 * z1 + 185).toNat by omega]))
            · skip
              refine w_aln rfl ?_
              refine w_gr gx rfl (by decide) rfl (hB.2.1) ?_
              refine w_gr gnw rfl (by decide) rfl (hDN.1) ?_
              refine w_gr gD.1 rfl (by decide) rfl (rD.2.1) ?_
              refine w_iln rfl ?_
              refine w_iald (v := ((M.1 s (3 * z1 + 185).toNat) - 1)) gD.2.2.1 rfl (by show (0 : Int) ≤ z1; omega) (by show z1 < ((12 : Nat) : Int); omega) (rd_e2 hE (by show z1.toNat < 12; omega) (by show (3 * z1 + 185).toNat = 185 + 3 * z1.toNat; omega)) ?_
              exact w_iret (fun q => by cases q) (by show some (Sum.inl _) = some (Sum.inl _); unfold lr_contract; split <;> (try split) <;> (try split) <;> first | rfl | (exfalso; omega) | (congr 1; omega) | (rw [show (3 * z1 + z2 + 184).toNat = (3 * z1 + 184).toNat by omega]) | (rw [show (3 * z1 + z2 + 184).toNat = (3 * z1 + 185).toNat by omega]))
            · skip
              refine w_aln rfl ?_
              refine w_gr gx rfl (by decide) rfl (hB.2.1) ?_
              refine w_gr gnw rfl (by decide) rfl (hDN.1) ?_
              refine w_gr gD.1 rfl (by decide) rfl (rD.2.2) ?_
              refine w_iln rfl ?_
              refine w_iald (v := (M.1 s (3 * z1 + 186).toNat)) gD.2.2.2 rfl (by show (0 : Int) ≤ z1; omega) (by show z1 < ((12 : Nat) : Int); omega) (rd_e3 hE (by show z1.toNat < 12; omega) (by show (3 * z1 + 186).toNat = 186 + 3 * z1.toNat; omega)) ?_
              exact w_iret (fun q => by cases q) (by show some (Sum.inl _) = some (Sum.inl _); unfold lr_contract; split <;> (try split) <;> (try split) <;> first | rfl | (exfalso; omega) | (congr 1; omega) | (rw [show (3 * z1 + z2 + 184).toNat = (3 * z1 + 184).toNat by omega]) | (rw [show (3 * z1 + z2 + 184).toNat = (3 * z1 + 185).toNat by omega]))
          · exfalso; omega
set_option maxRecDepth 100000 in
set_option maxHeartbeats 2000000 in
theorem lr_X12_contract {G : mj_G} {M : mj_M} {x m tp s kp bc bt kc kr : Nat} {w : Nat → Nat} {z1 z2 : Int} (hI : lp_I G M x m tp s kp bc bt kc kr w) (hz1 : mj_in z1) (hz2 : mj_in z2) : mj_R mj_tab 40 176 [.inr (.inr (some m)), .inl z1, .inl z2] G M (fun r _ _ => r = some (.inl (lr_contract (M.1 s) z1 z2))) := by
  have gm := hI.gm
  have gs := hI.gs
  have m6 := hI.m6
  have b0 := hI.b0
  have bz1 : (-2147483648 : Int) ≤ z1 ∧ z1 < 2147483648 := hz1
  have bz2 : (-2147483648 : Int) ≤ z2 ∧ z2 < 2147483648 := hz2
  have hs : 0 ≤ z1 → z1 ≤ 11 → 0 ≤ z2 → z2 ≤ 1 → 0 ≤ M.1 s (3 * z1 + z2 + 184).toNat ∧ M.1 s (3 * z1 + z2 + 184).toNat ≤ 9 := fun a1 a2 a3 a4 => by
    have h := hI.V.1.1 s (184 + (3 * z1 + z2).toNat)
    rw [gs] at h
    have g := ab_s_d (3 * z1 + z2).toNat (by omega) (by omega)
    rw [show (3 * z1 + z2 + 184).toNat = 184 + (3 * z1 + z2).toNat by omega]
    exact ⟨Int.le_trans g.1 h.1, Int.le_trans h.2 g.2⟩
  refine ⟨Nat.le_of_ble_eq_true rfl, ?_⟩
  show wz 39 mt_X12_contract.2.2.2.2.1 _ mt_X12_contract.2.2.2.2.1 [some (.inr (.inr (some m))), some (.inl z1), some (.inl z2)] [] G M _ _
  refine w_aln rfl ?_
  refine w_ic ?_
  refine w_pi gm rfl (by decide) rfl (fun q => by cases q) ?_
  refine w_iln rfl ?_
  refine w_cs (st := []) rfl (Nat.le_of_ble_eq_true rfl) (fun kk h => h) ⟨Nat.le_of_ble_eq_true rfl, ?_⟩
  show wz (38) mt_X12_isMonth.2.2.2.2.1 _ mt_X12_isMonth.2.2.2.2.1 [some (.inl z1)] [] _ _ _ _
  refine w_iln rfl ?_
  refine w_ic ?_
  refine w_bp ?_
  refine w_cs (st := []) rfl (Nat.le_of_ble_eq_true rfl) (fun kk h => h) ⟨Nat.le_of_ble_eq_true rfl, ?_⟩
  show wz (37) mt_X12_isIn.2.2.2.2.1 _ mt_X12_isIn.2.2.2.2.1 [some (.inl z1), some (.inl 0), some (.inl 11)] [] _ _ _ _
  refine w_iln rfl ?_
  refine w_iln rfl ?_
  refine w_cmlt (fun c1 => ?_) (fun c1 => ?_)
  · skip
    refine w_ic ?_
    refine w_iret (fun _ => Or.inl rfl) ?_
    refine w_iret (fun _ => Or.inl rfl) ?_
    refine w_ifeq (fun c2 => ?_) (fun c2 => ?_)
    · skip
      refine w_ic ?_
      exact w_iret (fun q => by cases q) (by show some (Sum.inl _) = some (Sum.inl _); unfold lr_contract; split <;> (try split) <;> (try split) <;> first | rfl | (exfalso; omega) | (congr 1; omega) | (rw [show (3 * z1 + z2 + 184).toNat = (3 * z1 + 184).toNat by omega]) | (rw [show (3 * z1 + z2 + 184).toNat = (3 * z1 + 185).toNat by omega]))
    · exfalso; omega
  · skip
    refine w_iln rfl ?_
    refine w_iln rfl ?_
    refine w_cmgt (fun c3 => ?_) (fun c3 => ?_)
    · skip
      refine w_ic ?_
      refine w_iret (fun _ => Or.inl rfl) ?_
      refine w_iret (fun _ => Or.inl rfl) ?_
      refine w_ifeq (fun c4 => ?_) (fun c4 => ?_)
      · skip
        refine w_ic ?_
        exact w_iret (fun q => by cases q) (by show some (Sum.inl _) = some (Sum.inl _); unfold lr_contract; split <;> (try split) <;> (try split) <;> first | rfl | (exfalso; omega) | (congr 1; omega) | (rw [show (3 * z1 + z2 + 184).toNat = (3 * z1 + 184).toNat by omega]) | (rw [show (3 * z1 + z2 + 184).toNat = (3 * z1 + 185).toNat by omega]))
      · exfalso; omega
    · skip
      refine w_ic ?_
      refine w_goto ?_
      refine w_iret (fun _ => Or.inr rfl) ?_
      refine w_iret (fun _ => Or.inr rfl) ?_
      refine w_ifeq (fun c5 => ?_) (fun c5 => ?_)
      · exfalso; omega
      · skip
        refine w_iln rfl ?_
        refine w_ic ?_
        refine w_ic ?_
        refine w_cs (st := []) rfl (Nat.le_of_ble_eq_true rfl) (fun kk h => h) ⟨Nat.le_of_ble_eq_true rfl, ?_⟩
        show wz (38) mt_X12_isIn.2.2.2.2.1 _ mt_X12_isIn.2.2.2.2.1 [some (.inl z2), some (.inl 0), some (.inl 2)] [] _ _ _ _
        refine w_iln rfl ?_
        refine w_iln rfl ?_
        refine w_cmlt (fun c6 => ?_) (fun c6 => ?_)
        · skip
          refine w_ic ?_
          refine w_iret (fun _ => Or.inl rfl) ?_
          refine w_ifeq (fun c7 => ?_) (fun c7 => ?_)
          · skip
            refine w_ic ?_
            exact w_iret (fun q => by cases q) (by show some (Sum.inl _) = some (Sum.inl _); unfold lr_contract; split <;> (try split) <;> (try split) <;> first | rfl | (exfalso; omega) | (congr 1; omega) | (rw [show (3 * z1 + z2 + 184).toNat = (3 * z1 + 184).toNat by omega]) | (rw [show (3 * z1 + z2 + 184).toNat = (3 * z1 + 185).toNat by omega]))
          · exfalso; omega
        · skip
          refine w_iln rfl ?_
          refine w_iln rfl ?_
          refine w_cmgt (fun c8 => ?_) (fun c8 => ?_)
          · skip
            refine w_ic ?_
            refine w_iret (fun _ => Or.inl rfl) ?_
            refine w_ifeq (fun c9 => ?_) (fun c9 => ?_)
            · skip
              refine w_ic ?_
              exact w_iret (fun q => by cases q) (by show some (Sum.inl _) = some (Sum.inl _); unfold lr_contract; split <;> (try split) <;> (try split) <;> first | rfl | (exfalso; omega) | (congr 1; omega) | (rw [show (3 * z1 + z2 + 184).toNat = (3 * z1 + 184).toNat by omega]) | (rw [show (3 * z1 + z2 + 184).toNat = (3 * z1 + 185).toNat by omega]))
            · exfalso; omega
          · skip
            refine w_ic ?_
            refine w_goto ?_
            refine w_iret (fun _ => Or.inr rfl) ?_
            refine w_ifeq (fun c10 => ?_) (fun c10 => ?_)
            · exfalso; omega
            · skip
              refine w_aln rfl ?_
              refine w_gr gm rfl (by decide) rfl (m6) ?_
              refine w_sp ?_
              refine w_ic ?_
              refine w_iln rfl ?_
              refine w_mul ⟨by show (-2147483648 : Int) ≤ 3 * z1; omega, by show 3 * z1 < (2147483648 : Int); omega⟩ ?_
              refine w_add ⟨by show (-2147483648 : Int) ≤ 184 + (3 * z1); omega, by show 184 + (3 * z1) < (2147483648 : Int); omega⟩ ?_
              refine w_iald (v := (M.1 s (3 * z1 + 184).toNat)) gs rfl (by show (0 : Int) ≤ 184 + (3 * z1); omega) (by show 184 + (3 * z1) < ((537 : Nat) : Int); omega) ((hn_n (Or.inl (hn_ne gs gm (by decide)))).trans (congrArg (M.1 s) (by show (184 + (3 * z1)).toNat = (3 * z1 + 184).toNat; omega))) ?_
              refine w_ifne (fun c11 => ?_) (fun c11 => ?_)
              · skip
                refine w_iln rfl ?_
                refine w_ic ?_
                refine w_cmge (fun c12 => ?_) (fun c12 => ?_)
                · skip
                  refine w_aln rfl ?_
                  refine w_gr gm rfl (by decide) rfl (m6) ?_
                  refine w_sp ?_
                  refine w_ic ?_
                  refine w_iln rfl ?_
                  refine w_mul ⟨by show (-2147483648 : Int) ≤ 3 * z1; omega, by show 3 * z1 < (2147483648 : Int); omega⟩ ?_
                  refine w_add ⟨by show (-2147483648 : Int) ≤ 184 + (3 * z1); omega, by show 184 + (3 * z1) < (2147483648 : Int); omega⟩ ?_
                  refine w_ic ?_
                  refine w_add ⟨by show (-2147483648 : Int) ≤ (184 + (3 * z1)) + 2; omega, by show (184 + (3 * z1)) + 2 < (2147483648 : Int); omega⟩ ?_
                  refine w_iald (v := (M.1 s (3 * z1 + 186).toNat)) gs rfl (by show (0 : Int) ≤ (184 + (3 * z1)) + 2; omega) (by show (184 + (3 * z1)) + 2 < ((537 : Nat) : Int); omega) ((hn_n (Or.inl (hn_ne gs gm (by decide)))).trans (congrArg (M.1 s) (by show ((184 + (3 * z1)) + 2).toNat = (3 * z1 + 186).toNat; omega))) ?_
                  exact w_iret (fun q => by cases q) (by show some (Sum.inl _) = some (Sum.inl _); unfold lr_contract; split <;> (try split) <;> (try split) <;> first | rfl | (exfalso; omega) | (congr 1; omega) | (rw [show (3 * z1 + z2 + 184).toNat = (3 * z1 + 184).toNat by omega]) | (rw [show (3 * z1 + z2 + 184).toNat = (3 * z1 + 185).toNat by omega]))
                · skip
                  refine w_aln rfl ?_
                  refine w_gr gm rfl (by decide) rfl (m6) ?_
                  refine w_sp ?_
                  refine w_ic ?_
                  refine w_iln rfl ?_
                  refine w_mul ⟨by show (-2147483648 : Int) ≤ 3 * z1; omega, by show 3 * z1 < (2147483648 : Int); omega⟩ ?_
                  refine w_add ⟨by show (-2147483648 : Int) ≤ 184 + (3 * z1); omega, by show 184 + (3 * z1) < (2147483648 : Int); omega⟩ ?_
                  refine w_iln rfl ?_
                  refine w_add ⟨by show (-2147483648 : Int) ≤ (184 + (3 * z1)) + z2; omega, by show (184 + (3 * z1)) + z2 < (2147483648 : Int); omega⟩ ?_
                  refine w_iald (v := (M.1 s (3 * z1 + z2 + 184).toNat)) gs rfl (by show (0 : Int) ≤ (184 + (3 * z1)) + z2; omega) (by show (184 + (3 * z1)) + z2 < ((537 : Nat) : Int); omega) ((hn_n (Or.inl (hn_ne gs gm (by decide)))).trans (congrArg (M.1 s) (by show ((184 + (3 * z1)) + z2).toNat = (3 * z1 + z2 + 184).toNat; omega))) ?_
                  refine w_ic ?_
                  refine w_sub ⟨by show (-2147483648 : Int) ≤ (M.1 s (3 * z1 + z2 + 184).toNat) - 1; omega, by show (M.1 s (3 * z1 + z2 + 184).toNat) - 1 < (2147483648 : Int); omega⟩ ?_
                  refine w_goto ?_
                  exact w_iret (fun q => by cases q) (by show some (Sum.inl _) = some (Sum.inl _); unfold lr_contract; split <;> (try split) <;> (try split) <;> first | rfl | (exfalso; omega) | (congr 1; omega) | (rw [show (3 * z1 + z2 + 184).toNat = (3 * z1 + 184).toNat by omega]) | (rw [show (3 * z1 + z2 + 184).toNat = (3 * z1 + 185).toNat by omega]))
              · skip
                refine w_ic ?_
                exact w_iret (fun q => by cases q) (by show some (Sum.inl _) = some (Sum.inl _); unfold lr_contract; split <;> (try split) <;> (try split) <;> first | rfl | (exfalso; omega) | (congr 1; omega) | (rw [show (3 * z1 + z2 + 184).toNat = (3 * z1 + 184).toNat by omega]) | (rw [show (3 * z1 + z2 + 184).toNat = (3 * z1 + 185).toNat by omega]))
end
section
/-! ===== year, town, let, droughts, as the YEAR now tells (laid by a program) ===== -/
section SW
variable {d : Nat} {full : List mj_E} {Q : mj_P} {rest : List mj_E} {L : mj_L} {st : List mj_V} {G : mj_G} {M : mj_M} {cb sb pc : Nat} {im : Int}
theorem w_sw11 {df lo hi z : Int} {offs : _} {t0 t1 t2 t3 t4 t5 t6 t7 t8 t9 t10 t11 : Nat} (k0 : z < lo ∨ hi < z → wz d full Q (full.drop t0) L st G M cb sb) (k1 : z = lo → wz d full Q (full.drop t1) L st G M cb sb) (k2 : z = lo + 1 → wz d full Q (full.drop t2) L st G M cb sb) (k3 : z = lo + 1 + 1 → wz d full Q (full.drop t3) L st G M cb sb) (k4 : z = lo + 1 + 1 + 1 → wz d full Q (full.drop t4) L st G M cb sb) (k5 : z = lo + 1 + 1 + 1 + 1 → wz d full Q (full.drop t5) L st G M cb sb) (k6 : z = lo + 1 + 1 + 1 + 1 + 1 → wz d full Q (full.drop t6) L st G M cb sb) (k7 : z = lo + 1 + 1 + 1 + 1 + 1 + 1 → wz d full Q (full.drop t7) L st G M cb sb) (k8 : z = lo + 1 + 1 + 1 + 1 + 1 + 1 + 1 → wz d full Q (full.drop t8) L st G M cb sb) (k9 : z = lo + 1 + 1 + 1 + 1 + 1 + 1 + 1 + 1 → wz d full Q (full.drop t9) L st G M cb sb) (k10 : z = lo + 1 + 1 + 1 + 1 + 1 + 1 + 1 + 1 + 1 → wz d full Q (full.drop t10) L st G M cb sb) (k11 : z = lo + 1 + 1 + 1 + 1 + 1 + 1 + 1 + 1 + 1 + 1 → wz d full Q (full.drop t11) L st G M cb sb) : wz d full Q ((.tableswitch df lo hi offs, pc, [t0, t1, t2, t3, t4, t5, t6, t7, t8, t9, t10, t11], im) :: rest) L (.inl z :: st) G M cb sb := wz_st ⟨k0, k1, k2, k3, k4, k5, k6, k7, k8, k9, k10, k11, trivial⟩
end SW
def lr_town (H : Nat → Int) (z1 z2 : Int) : Int := if H 221 ≠ 0 ∧ (0 ≤ z1 ∧ z1 < H 0) ∧ (0 ≤ z2 ∧ z2 ≤ 9) then H (11 * z1 + z2 + 232).toNat else -1
def lr_let (H : Nat → Int) (z1 z2 : Int) : Int := if H 221 ≠ 0 ∧ (0 ≤ z1 ∧ z1 < H 222) ∧ (0 ≤ z2 ∧ z2 ≤ 2) then H (3 * z1 + z2 + 320).toNat else -1
def lr_year (H : Nat → Int) (z1 : Int) : Int := if H 221 ≠ 0 ∧ 0 ≤ z1 ∧ z1 ≤ 10 then (if z1 < 8 then H (z1 + 222).toNat else if z1 = 8 then ye_sm (fun t => H (232 + 11 * t)) 8 else if z1 = 9 then H 230 else H 231) else -1001
def lr_db (H : Nat → Int) : Nat → Int
  | 0 => 0
  | k + 1 => if H (320 + 3 * k) = 8 then (Int32.ofInt (lr_db H k) ||| Int32.ofInt (Int32.ofInt 1 <<< (Int32.ofInt (k : Int) &&& 31)).toInt).toInt else lr_db H k
def lr_droughts (H : Nat → Int) : Int := if H 221 ≠ 0 then lr_db H (H 222).toNat else -1
section YU
variable {G : mj_G} {M M' : mj_M} {x m tp s kp bc bt kc kr : Nat} {w : Nat → Nat} {Q : mj_P} {d : Nat} {j k f t u : Nat} {fn : Nat → Int}
theorem yw_V.gf (h : yw_V M w 61 (ye_S (M.1 s) 0)) (j1 : 222 ≤ j) (j2 : j < 232) (e : ye_f j = k) : M.1 (w 61) k = M.1 s j := by
  rw [← e, h.1 j j1 j2]; show M.1 s (0 + j) = _; rw [Nat.zero_add]
theorem yw_V.l1 (h : yw_V M w 61 (ye_S (M.1 s) 0)) (hj : j < 12) (hm : (j : Int) < M.1 s 222) (e : k = 320 + 3 * j) : M.1 (w (61 + 1)) j = M.1 s k := by
  have q := (h.2.1 j hj (by show (j : Int) < M.1 s (0 + 222); exact hm)).1
  rw [q, e]; show M.1 s (0 + (320 + 3 * j)) = _; rw [Nat.zero_add]
theorem yw_V.l2 (h : yw_V M w 61 (ye_S (M.1 s) 0)) (hj : j < 12) (hm : (j : Int) < M.1 s 222) (e : k = 321 + 3 * j) : M.1 (w (61 + 2)) j = M.1 s k := by
  have q := (h.2.1 j hj (by show (j : Int) < M.1 s (0 + 222); exact hm)).2.1
  rw [q, e]; show M.1 s (0 + (321 + 3 * j)) = _; rw [Nat.zero_add]
theorem yw_V.l3 (h : yw_V M w 61 (ye_S (M.1 s) 0)) (hj : j < 12) (hm : (j : Int) < M.1 s 222) (e : k = 322 + 3 * j) : M.1 (w (61 + 3)) j = M.1 s k := by
  have q := (h.2.1 j hj (by show (j : Int) < M.1 s (0 + 222); exact hm)).2.2
  rw [q, e]; show M.1 s (0 + (322 + 3 * j)) = _; rw [Nat.zero_add]
theorem yw_V.rw_ (h : yw_V M w 61 (ye_S (M.1 s) 0)) (ht : t < 8) (hu : u < 11) (e : k = 232 + 11 * t + u) : M.1 (w (61 + 5 + t)) u = M.1 s k := by
  have q := h.2.2 t u ht hu
  rw [q, e]; show M.1 s (0 + (232 + 11 * t + u)) = _; rw [Nat.zero_add]
theorem lq_W.run (h : lq_W G M m s kp kc w) (c : M.1 s 221 ≠ 0) : M.1 s 221 = 1 := h.rn.1.resolve_left c
theorem lq_W.yV (h : lq_W G M m s kp kc w) (c : M.1 s 221 ≠ 0) : yw_V M w 61 (ye_S (M.1 s) 0) := (h.2.2.2.1.1.2.2 (h.run c)).1
theorem lq_W.m2 (h : lq_W G M m s kp kc w) (c : M.1 s 221 ≠ 0) : 0 ≤ M.1 s 222 ∧ M.1 s 222 ≤ 12 := by
  have q := (h.rn.2 (h.run c)).1
  have e : (ye_S (M.1 s) 0).1 222 = M.1 s 222 := by show M.1 s (0 + 222) = _; rw [Nat.zero_add]
  rw [e] at q; exact q
theorem lq_W.pd (h : lq_W G M m s kp kc w) (h6 : rv_r6 (M.1 s) 0) (c : M.1 s 221 ≠ 0) : (∀ t, t < 8 → 0 ≤ M.1 s (232 + 11 * t) ∧ M.1 s (232 + 11 * t) ≤ 999) ∧ ∀ t : Nat, t < 8 → M.1 s 0 ≤ (t : Int) → M.1 s (232 + 11 * t) = 0 := by
  obtain ⟨-, -, -, -, -, -, -, -, -, -, a11, a12, -⟩ := h.rn.2 (h.run c)
  have hH := (ye_H.ofs h6 h.2.2.2.1.2.zy).1
  have e : ∀ t, (ye_S (M.1 s) 0).2.2.2.2 t 0 = M.1 s (232 + 11 * t) := fun t => by show M.1 s (0 + (232 + 11 * t + 0)) = _; rw [Nat.zero_add, Nat.add_zero]
  refine ⟨fun t ht => ?_, fun t ht hn => ?_⟩
  · have q := (a11 t ht).1
    have b := hH.2.2.2.2.1 (5 + 9 * t) (by omega) (by omega)
    rw [e] at q; omega
  · have q := a12 t ht hn 0 (by decide)
    rw [e] at q; exact q
theorem ye_sm_bb (hb : ∀ t, t < 8 → 0 ≤ fn t ∧ fn t ≤ 999) : ∀ k, k ≤ 8 → 0 ≤ ye_sm fn k ∧ ye_sm fn k ≤ 999 * (k : Int)
  | 0, _ => ⟨Int.le_refl 0, by show (0 : Int) ≤ 999 * ((0 : Nat) : Int); decide⟩
  | k + 1, h => by
    have q := ye_sm_bb hb k (by omega)
    have b := hb k (by omega)
    show 0 ≤ ye_sm fn k + fn k ∧ ye_sm fn k + fn k ≤ 999 * ((k + 1 : Nat) : Int)
    omega
theorem ye_sm_z (hz : ∀ t, k ≤ t → t < 8 → fn t = 0) : ∀ n, k ≤ n → n ≤ 8 → ye_sm fn n = ye_sm fn k
  | 0, h, _ => by rw [show k = 0 by omega]
  | n + 1, h, h8 => by
    by_cases c : k = n + 1
    · rw [c]
    · show ye_sm fn n + fn n = _
      rw [hz n (by omega) (by omega), ye_sm_z hz n (by omega) (by omega), Int.add_zero]
theorem ye_or0 {x : Int} (hx : mj_in x) : (Int32.ofInt x ||| Int32.ofInt 0).toInt = x := by
  rw [show Int32.ofInt 0 = 0 from rfl, Int32.or_zero]; exact mj_ti hx
/-- all ponds of the class's YEAR now -/
theorem r_inPonds (gA : lq_WA G w) (hB : lq_WB M w) (hf : ∀ t, t < 8 → M.1 (w (61 + 5 + t)) 0 = fn t) (hb : ∀ t, t < 8 → 0 ≤ fn t ∧ fn t ≤ 999) (h : Q (some (.inl (ye_sm fn 8))) G M) : mj_R mj_tab (d + 1) 95 [.inr (.inr (some (w 61)))] G M Q := by
  obtain ⟨g0, -, -, -, g4, g5⟩ := gA 61 (by decide)
  obtain ⟨-, -, -, r6, r4⟩ := hB.1 61 (by decide)
  have key : ∀ (n : Nat) (i : Int) (cb sb : Nat), i + n = 8 → 0 ≤ i → wz d mt_X10_inPonds.2.2.2.2.1 Q (mt_X10_inPonds.2.2.2.2.1.drop 4) [some (.inr (.inr (some (w 61)))), some (.inl (ye_sm fn i.toNat)), some (.inl i)] [] G M cb sb := by
    intro n
    induction n with
    | zero =>
      intro i cb sb e i0
      obtain rfl : i = 8 := by omega
      refine w_iln rfl ?_
      refine w_bp ?_
      refine w_cmge (fun c => ?_) (fun c => by exfalso; omega)
      refine w_iln rfl ?_
      exact w_iret (fun q => by cases q) h
    | succ n ih =>
      intro i cb sb e i0
      have b := ye_sm_bb hb i.toNat (by omega)
      have v := hb i.toNat (by omega)
      refine w_iln rfl ?_
      refine w_bp ?_
      refine w_cmge (fun c => by exfalso; omega) (fun c => ?_)
      refine w_iln rfl ?_
      refine w_aln rfl ?_
      refine w_gr g0 rfl (by decide) rfl r6 ?_
      refine w_iln rfl ?_
      refine w_aald (b := w (61 + 5 + i.toNat)) g4 rfl (by omega) (by show i < ((8 : Nat) : Int); omega) (r4 _ (by omega)) ?_
      refine w_ic ?_
      refine w_iald (v := fn i.toNat) (g5 _ (by omega)) rfl (by decide) (by decide) (hf _ (by omega)) ?_
      refine w_add ⟨by omega, by omega⟩ ?_
      refine w_isn ?_
      refine w_ii rfl ⟨by omega, by omega⟩ ?_
      refine w_goto ?_
      rw [show ye_sm fn i.toNat + fn i.toNat = ye_sm fn (i + 1).toNat by rw [show (i + 1).toNat = i.toNat + 1 by omega]; rfl]
      exact ih (i + 1) _ _ (by omega) (by omega)
  refine ⟨Nat.le_of_ble_eq_true rfl, ?_⟩
  show wz d mt_X10_inPonds.2.2.2.2.1 Q mt_X10_inPonds.2.2.2.2.1 [some (.inr (.inr (some (w 61)))), none, none] [] G M _ _
  refine w_ic ?_
  refine w_isn ?_
  refine w_ic ?_
  refine w_isn ?_
  exact key 8 0 _ _ (by decide) (by decide)
end YU
set_option maxRecDepth 100000 in
set_option maxHeartbeats 2000000 in
theorem lr_X11_town {G : mj_G} {M : mj_M} {x m tp s kp bc bt kc kr : Nat} {w : Nat → Nat} {z1 z2 : Int} (hK : lq_W G M m s kp kc w) (hI : lp_I G M x m tp s kp bc bt kc kr w) (hz1 : mj_in z1) (hz2 : mj_in z2) : mj_R mj_tab 40 152 [.inr (.inr (some x)), .inl z1, .inl z2] G M (fun r _ _ => r = some (.inl (lr_town (M.1 s) z1 z2))) := by
  obtain ⟨hA, hB, p, q, hN, hG6, -⟩ := hI.J
  have hG := hG6.1
  have hG5 := hG6
  obtain ⟨gpl, gna, gta, gba, gwa, gtr, gbr, itr, ibr, p0, p1, p2, p3, rt, rb⟩ := lq_K hA hB hN.pin.1
  have gx := hI.gx
  have gnw := hA.2.2.1
  have b0 := hI.b0
  have bz1 : (-2147483648 : Int) ≤ z1 ∧ z1 < 2147483648 := hz1
  have bz2 : (-2147483648 : Int) ≤ z2 ∧ z2 < 2147483648 := hz2
  have gy := hK.1 61 (by decide)
  have rY := hK.2.1.1 61 (by decide)
  have y29 := hK.2.1.2.1
  have h221 : M.1 (w 61) 0 = M.1 s 221 := hK.2.2.2.1.1.1
  have hV : M.1 s 221 ≠ 0 → yw_V M w 61 (ye_S (M.1 s) 0) := hK.yV
  have hrn := hK.rn.1
  have hm2 : M.1 s 221 ≠ 0 → 0 ≤ M.1 s 222 ∧ M.1 s 222 ≤ 12 := hK.m2
  have hm3 : M.1 s 221 = 0 ∨ (M.1 s 221 = 1 ∧ 0 ≤ M.1 s 222 ∧ M.1 s 222 ≤ 12) := by
    rcases hrn with e | e
    · exact Or.inl e
    · exact Or.inr ⟨e, hm2 (by omega)⟩
  refine ⟨Nat.le_of_ble_eq_true rfl, ?_⟩
  show wz 39 mt_X11_town.2.2.2.2.1 _ mt_X11_town.2.2.2.2.1 [some (.inr (.inr (some x))), some (.inl z1), some (.inl z2)] [] G M _ _
  refine w_aln rfl ?_
  refine w_gr gx rfl (by decide) rfl (hB.2.1) ?_
  refine w_gr gnw rfl (by decide) rfl (y29) ?_
  refine w_gi gy.1 rfl (by decide) rfl (h221) ?_
  refine w_ifeq (fun c1 => ?_) (fun c1 => ?_)
  · skip
    refine w_ic ?_
    exact w_iret (fun q => by cases q) (by show some (Sum.inl _) = some (Sum.inl _); unfold lr_town; split <;> first | rfl | (exfalso; omega) | exact congrArg (fun k => some (Sum.inl (M.1 s k))) (by omega))
  · skip
    refine w_aln rfl ?_
    refine w_iln rfl ?_
    refine w_cv (st := []) rfl gx rfl (Nat.le_of_ble_eq_true rfl) (fun kk h => h) ⟨Nat.le_of_ble_eq_true rfl, ?_⟩
    show wz (38) mt_X11_isTown.2.2.2.2.1 _ mt_X11_isTown.2.2.2.2.1 [some (.inr (.inr (some x))), some (.inl z1)] [] _ _ _ _
    refine w_iln rfl ?_
    refine w_iflt (fun c2 => ?_) (fun c2 => ?_)
    · skip
      refine w_ic ?_
      refine w_iret (fun _ => Or.inl rfl) ?_
      refine w_ifeq (fun c3 => ?_) (fun c3 => ?_)
      · skip
        refine w_ic ?_
        exact w_iret (fun q => by cases q) (by show some (Sum.inl _) = some (Sum.inl _); unfold lr_town; split <;> first | rfl | (exfalso; omega) | exact congrArg (fun k => some (Sum.inl (M.1 s k))) (by omega))
      · exfalso; omega
    · skip
      refine w_iln rfl ?_
      refine w_aln rfl ?_
      refine w_gr gx rfl (by decide) rfl (hB.2.1) ?_
      refine w_gr gnw rfl (by decide) rfl (hN.1) ?_
      refine w_gi gpl rfl (by decide) rfl (hG.1.symm) ?_
      refine w_cmge (fun c4 => ?_) (fun c4 => ?_)
      · skip
        refine w_ic ?_
        refine w_iret (fun _ => Or.inl rfl) ?_
        refine w_ifeq (fun c5 => ?_) (fun c5 => ?_)
        · skip
          refine w_ic ?_
          exact w_iret (fun q => by cases q) (by show some (Sum.inl _) = some (Sum.inl _); unfold lr_town; split <;> first | rfl | (exfalso; omega) | exact congrArg (fun k => some (Sum.inl (M.1 s k))) (by omega))
        · exfalso; omega
      · skip
        refine w_ic ?_
        refine w_goto ?_
        refine w_iret (fun _ => Or.inr rfl) ?_
        refine w_ifeq (fun c6 => ?_) (fun c6 => ?_)
        · exfalso; omega
        · skip
          refine w_iln rfl ?_
          refine w_iflt (fun c7 => ?_) (fun c7 => ?_)
          · skip
            refine w_ic ?_
            exact w_iret (fun q => by cases q) (by show some (Sum.inl _) = some (Sum.inl _); unfold lr_town; split <;> first | rfl | (exfalso; omega) | exact congrArg (fun k => some (Sum.inl (M.1 s k))) (by omega))
          · skip
            refine w_iln rfl ?_
            refine w_bp ?_
            refine w_cmle (fun c8 => ?_) (fun c8 => ?_)
            · skip
              refine w_aln rfl ?_
              refine w_gr gx rfl (by decide) rfl (hB.2.1) ?_
              refine w_gr gnw rfl (by decide) rfl (y29) ?_
              refine w_gr gy.1 rfl (by decide) rfl (rY.2.2.2.1) ?_
              refine w_iln rfl ?_
              refine w_aald gy.2.2.2.2.1 rfl (by show (0 : Int) ≤ z1; omega) (by show z1 < ((8 : Nat) : Int); omega) (rY.2.2.2.2 _ (by show z1.toNat < 8; omega)) ?_
              refine w_iln rfl ?_
              refine w_iald (v := (M.1 s (11 * z1 + z2 + 232).toNat)) (gy.2.2.2.2.2 _ (by show z1.toNat < 8; omega)) rfl (by show (0 : Int) ≤ z2; omega) (by show z2 < ((11 : Nat) : Int); omega) ((hV (by omega)).rw_ (t := z1.toNat) (u := z2.toNat) (by show z1.toNat < 8; omega) (by show z2.toNat < 11; omega) (by show (11 * z1 + z2 + 232).toNat = 232 + 11 * z1.toNat + z2.toNat; omega)) ?_
              exact w_iret (fun q => by cases q) (by show some (Sum.inl _) = some (Sum.inl _); unfold lr_town; split <;> first | rfl | (exfalso; omega) | exact congrArg (fun k => some (Sum.inl (M.1 s k))) (by omega))
            · skip
              refine w_ic ?_
              exact w_iret (fun q => by cases q) (by show some (Sum.inl _) = some (Sum.inl _); unfold lr_town; split <;> first | rfl | (exfalso; omega) | exact congrArg (fun k => some (Sum.inl (M.1 s k))) (by omega))
set_option maxRecDepth 100000 in
set_option maxHeartbeats 2000000 in
theorem lr_X12_town {G : mj_G} {M : mj_M} {x m tp s kp bc bt kc kr : Nat} {w : Nat → Nat} {z1 z2 : Int} (hK : lq_W G M m s kp kc w) (hI : lp_I G M x m tp s kp bc bt kc kr w) (hz1 : mj_in z1) (hz2 : mj_in z2) : mj_R mj_tab 40 252 [.inr (.inr (some m)), .inl z1, .inl z2] G M (fun r _ _ => r = some (.inl (lr_town (M.1 s) z1 z2))) := by
  have gm := hI.gm
  have gs := hI.gs
  have m6 := hI.m6
  have b0 := hI.b0
  have bz1 : (-2147483648 : Int) ≤ z1 ∧ z1 < 2147483648 := hz1
  have bz2 : (-2147483648 : Int) ≤ z2 ∧ z2 < 2147483648 := hz2
  have hrn := hK.rn.1
  have hm2 : M.1 s 221 ≠ 0 → 0 ≤ M.1 s 222 ∧ M.1 s 222 ≤ 12 := hK.m2
  have hm3 : M.1 s 221 = 0 ∨ (M.1 s 221 = 1 ∧ 0 ≤ M.1 s 222 ∧ M.1 s 222 ≤ 12) := by
    rcases hrn with e | e
    · exact Or.inl e
    · exact Or.inr ⟨e, hm2 (by omega)⟩
  refine ⟨Nat.le_of_ble_eq_true rfl, ?_⟩
  show wz 39 mt_X12_town.2.2.2.2.1 _ mt_X12_town.2.2.2.2.1 [some (.inr (.inr (some m))), some (.inl z1), some (.inl z2)] [] G M _ _
  refine w_aln rfl ?_
  refine w_ic ?_
  refine w_pi gm rfl (by decide) rfl (fun q => by cases q) ?_
  refine w_aln rfl ?_
  refine w_gr gm rfl (by decide) rfl (m6) ?_
  refine w_sp ?_
  refine w_iald (v := (M.1 s 221)) gs rfl (by show (0 : Int) ≤ 221; omega) (by show 221 < ((537 : Nat) : Int); omega) ((hn_n (Or.inl (hn_ne gs gm (by decide)))).trans (congrArg (M.1 s) (by show (221 : Int).toNat = 221; omega))) ?_
  refine w_ic ?_
  refine w_cmne (fun c1 => ?_) (fun c1 => ?_)
  · skip
    refine w_ic ?_
    exact w_iret (fun q => by cases q) (by show some (Sum.inl _) = some (Sum.inl _); unfold lr_town; split <;> first | rfl | (exfalso; omega) | exact congrArg (fun k => some (Sum.inl (M.1 s k))) (by omega))
  · skip
    refine w_aln rfl ?_
    refine w_iln rfl ?_
    refine w_cv (st := []) rfl gm rfl (Nat.le_of_ble_eq_true rfl) (fun kk h => h) ⟨Nat.le_of_ble_eq_true rfl, ?_⟩
    show wz (38) mt_X12_isTown.2.2.2.2.1 _ mt_X12_isTown.2.2.2.2.1 [some (.inr (.inr (some m))), some (.inl z1)] [] _ _ _ _
    refine w_iln rfl ?_
    refine w_ic ?_
    refine w_aln rfl ?_
    refine w_gr gm rfl (by decide) rfl (m6) ?_
    refine w_ic ?_
    refine w_iald (v := (M.1 s 0)) gs rfl (by show (0 : Int) ≤ 0; omega) (by show 0 < ((537 : Nat) : Int); omega) ((hn_n (Or.inl (hn_ne gs gm (by decide)))).trans (congrArg (M.1 s) (by show (0 : Int).toNat = 0; omega))) ?_
    refine w_ic ?_
    refine w_sub ⟨by show (-2147483648 : Int) ≤ (M.1 s 0) - 1; omega, by show (M.1 s 0) - 1 < (2147483648 : Int); omega⟩ ?_
    refine w_cs (st := []) rfl (Nat.le_of_ble_eq_true rfl) (fun kk h => h) ⟨Nat.le_of_ble_eq_true rfl, ?_⟩
    show wz (37) mt_X12_isIn.2.2.2.2.1 _ mt_X12_isIn.2.2.2.2.1 [some (.inl z1), some (.inl 0), some (.inl ((M.1 s 0) - 1))] [] _ _ _ _
    refine w_iln rfl ?_
    refine w_iln rfl ?_
    refine w_cmlt (fun c2 => ?_) (fun c2 => ?_)
    · skip
      refine w_ic ?_
      refine w_iret (fun _ => Or.inl rfl) ?_
      refine w_iret (fun _ => Or.inl rfl) ?_
      refine w_ifeq (fun c3 => ?_) (fun c3 => ?_)
      · skip
        refine w_ic ?_
        exact w_iret (fun q => by cases q) (by show some (Sum.inl _) = some (Sum.inl _); unfold lr_town; split <;> first | rfl | (exfalso; omega) | exact congrArg (fun k => some (Sum.inl (M.1 s k))) (by omega))
      · exfalso; omega
    · skip
      refine w_iln rfl ?_
      refine w_iln rfl ?_
      refine w_cmgt (fun c4 => ?_) (fun c4 => ?_)
      · skip
        refine w_ic ?_
        refine w_iret (fun _ => Or.inl rfl) ?_
        refine w_iret (fun _ => Or.inl rfl) ?_
        refine w_ifeq (fun c5 => ?_) (fun c5 => ?_)
        · skip
          refine w_ic ?_
          exact w_iret (fun q => by cases q) (by show some (Sum.inl _) = some (Sum.inl _); unfold lr_town; split <;> first | rfl | (exfalso; omega) | exact congrArg (fun k => some (Sum.inl (M.1 s k))) (by omega))
        · exfalso; omega
      · skip
        refine w_ic ?_
        refine w_goto ?_
        refine w_iret (fun _ => Or.inr rfl) ?_
        refine w_iret (fun _ => Or.inr rfl) ?_
        refine w_ifeq (fun c6 => ?_) (fun c6 => ?_)
        · exfalso; omega
        · skip
          refine w_iln rfl ?_
          refine w_ic ?_
          refine w_bp ?_
          refine w_cs (st := []) rfl (Nat.le_of_ble_eq_true rfl) (fun kk h => h) ⟨Nat.le_of_ble_eq_true rfl, ?_⟩
          show wz (38) mt_X12_isIn.2.2.2.2.1 _ mt_X12_isIn.2.2.2.2.1 [some (.inl z2), some (.inl 0), some (.inl 9)] [] _ _ _ _
          refine w_iln rfl ?_
          refine w_iln rfl ?_
          refine w_cmlt (fun c7 => ?_) (fun c7 => ?_)
          · skip
            refine w_ic ?_
            refine w_iret (fun _ => Or.inl rfl) ?_
            refine w_ifeq (fun c8 => ?_) (fun c8 => ?_)
            · skip
              refine w_ic ?_
              exact w_iret (fun q => by cases q) (by show some (Sum.inl _) = some (Sum.inl _); unfold lr_town; split <;> first | rfl | (exfalso; omega) | exact congrArg (fun k => some (Sum.inl (M.1 s k))) (by omega))
            · exfalso; omega
          · skip
            refine w_iln rfl ?_
            refine w_iln rfl ?_
            refine w_cmgt (fun c9 => ?_) (fun c9 => ?_)
            · skip
              refine w_ic ?_
              refine w_iret (fun _ => Or.inl rfl) ?_
              refine w_ifeq (fun c10 => ?_) (fun c10 => ?_)
              · skip
                refine w_ic ?_
                exact w_iret (fun q => by cases q) (by show some (Sum.inl _) = some (Sum.inl _); unfold lr_town; split <;> first | rfl | (exfalso; omega) | exact congrArg (fun k => some (Sum.inl (M.1 s k))) (by omega))
              · exfalso; omega
            · skip
              refine w_ic ?_
              refine w_goto ?_
              refine w_iret (fun _ => Or.inr rfl) ?_
              refine w_ifeq (fun c11 => ?_) (fun c11 => ?_)
              · exfalso; omega
              · skip
                refine w_aln rfl ?_
                refine w_iln rfl ?_
                refine w_iln rfl ?_
                refine w_cv (st := []) rfl gm rfl (Nat.le_of_ble_eq_true rfl) (fun kk h => h) ⟨Nat.le_of_ble_eq_true rfl, ?_⟩
                show wz (38) mt_X12_of.2.2.2.2.1 _ mt_X12_of.2.2.2.2.1 [some (.inr (.inr (some m))), some (.inl z1), some (.inl z2)] [] _ _ _ _
                refine w_aln rfl ?_
                refine w_gr gm rfl (by decide) rfl (m6) ?_
                refine w_sp ?_
                refine w_bp ?_
                refine w_iln rfl ?_
                refine w_mul ⟨by show (-2147483648 : Int) ≤ 11 * z1; omega, by show 11 * z1 < (2147483648 : Int); omega⟩ ?_
                refine w_add ⟨by show (-2147483648 : Int) ≤ 232 + (11 * z1); omega, by show 232 + (11 * z1) < (2147483648 : Int); omega⟩ ?_
                refine w_iln rfl ?_
                refine w_add ⟨by show (-2147483648 : Int) ≤ (232 + (11 * z1)) + z2; omega, by show (232 + (11 * z1)) + z2 < (2147483648 : Int); omega⟩ ?_
                refine w_iald (v := (M.1 s (11 * z1 + z2 + 232).toNat)) gs rfl (by show (0 : Int) ≤ (232 + (11 * z1)) + z2; omega) (by show (232 + (11 * z1)) + z2 < ((537 : Nat) : Int); omega) ((hn_n (Or.inl (hn_ne gs gm (by decide)))).trans (congrArg (M.1 s) (by show ((232 + (11 * z1)) + z2).toNat = (11 * z1 + z2 + 232).toNat; omega))) ?_
                refine w_iret (fun q => by cases q) ?_
                refine w_goto ?_
                exact w_iret (fun q => by cases q) (by show some (Sum.inl _) = some (Sum.inl _); unfold lr_town; split <;> first | rfl | (exfalso; omega) | exact congrArg (fun k => some (Sum.inl (M.1 s k))) (by omega))
set_option maxRecDepth 100000 in
set_option maxHeartbeats 2000000 in
theorem lr_X11_let {G : mj_G} {M : mj_M} {x m tp s kp bc bt kc kr : Nat} {w : Nat → Nat} {z1 z2 : Int} (hK : lq_W G M m s kp kc w) (hI : lp_I G M x m tp s kp bc bt kc kr w) (hz1 : mj_in z1) (hz2 : mj_in z2) : mj_R mj_tab 40 133 [.inr (.inr (some x)), .inl z1, .inl z2] G M (fun r _ _ => r = some (.inl (lr_let (M.1 s) z1 z2))) := by
  obtain ⟨hA, hB, p, q, hN, hG6, -⟩ := hI.J
  have hG := hG6.1
  have hG5 := hG6
  obtain ⟨gpl, gna, gta, gba, gwa, gtr, gbr, itr, ibr, p0, p1, p2, p3, rt, rb⟩ := lq_K hA hB hN.pin.1
  have gx := hI.gx
  have gnw := hA.2.2.1
  have b0 := hI.b0
  have bz1 : (-2147483648 : Int) ≤ z1 ∧ z1 < 2147483648 := hz1
  have bz2 : (-2147483648 : Int) ≤ z2 ∧ z2 < 2147483648 := hz2
  have gy := hK.1 61 (by decide)
  have rY := hK.2.1.1 61 (by decide)
  have y29 := hK.2.1.2.1
  have h221 : M.1 (w 61) 0 = M.1 s 221 := hK.2.2.2.1.1.1
  have hV : M.1 s 221 ≠ 0 → yw_V M w 61 (ye_S (M.1 s) 0) := hK.yV
  have hrn := hK.rn.1
  have hm2 : M.1 s 221 ≠ 0 → 0 ≤ M.1 s 222 ∧ M.1 s 222 ≤ 12 := hK.m2
  have hm3 : M.1 s 221 = 0 ∨ (M.1 s 221 = 1 ∧ 0 ≤ M.1 s 222 ∧ M.1 s 222 ≤ 12) := by
    rcases hrn with e | e
    · exact Or.inl e
    · exact Or.inr ⟨e, hm2 (by omega)⟩
  refine ⟨Nat.le_of_ble_eq_true rfl, ?_⟩
  show wz 39 mt_X11_let.2.2.2.2.1 _ mt_X11_let.2.2.2.2.1 [some (.inr (.inr (some x))), some (.inl z1), some (.inl z2)] [] G M _ _
  refine w_aln rfl ?_
  refine w_gr gx rfl (by decide) rfl (hB.2.1) ?_
  refine w_gr gnw rfl (by decide) rfl (y29) ?_
  refine w_gi gy.1 rfl (by decide) rfl (h221) ?_
  refine w_ifeq (fun c1 => ?_) (fun c1 => ?_)
  · skip
    refine w_ic ?_
    exact w_iret (fun q => by cases q) (by show some (Sum.inl _) = some (Sum.inl _); unfold lr_let; split <;> first | rfl | (exfalso; omega) | exact congrArg (fun k => some (Sum.inl (M.1 s k))) (by omega))
  · skip
    refine w_iln rfl ?_
    refine w_cs (st := []) rfl (Nat.le_of_ble_eq_true rfl) (fun kk h => h) ⟨Nat.le_of_ble_eq_true rfl, ?_⟩
    show wz (38) mt_X11_isMonth.2.2.2.2.1 _ mt_X11_isMonth.2.2.2.2.1 [some (.inl z1)] [] _ _ _ _
    refine w_iln rfl ?_
    refine w_iflt (fun c2 => ?_) (fun c2 => ?_)
    · skip
      refine w_ic ?_
      refine w_iret (fun _ => Or.inl rfl) ?_
      refine w_ifeq (fun c3 => ?_) (fun c3 => ?_)
      · skip
        refine w_ic ?_
        exact w_iret (fun q => by cases q) (by show some (Sum.inl _) = some (Sum.inl _); unfold lr_let; split <;> first | rfl | (exfalso; omega) | exact congrArg (fun k => some (Sum.inl (M.1 s k))) (by omega))
      · exfalso; omega
    · skip
      refine w_iln rfl ?_
      refine w_bp ?_
      refine w_cmge (fun c4 => ?_) (fun c4 => ?_)
      · skip
        refine w_ic ?_
        refine w_iret (fun _ => Or.inl rfl) ?_
        refine w_ifeq (fun c5 => ?_) (fun c5 => ?_)
        · skip
          refine w_ic ?_
          exact w_iret (fun q => by cases q) (by show some (Sum.inl _) = some (Sum.inl _); unfold lr_let; split <;> first | rfl | (exfalso; omega) | exact congrArg (fun k => some (Sum.inl (M.1 s k))) (by omega))
        · exfalso; omega
      · skip
        refine w_ic ?_
        refine w_goto ?_
        refine w_iret (fun _ => Or.inr rfl) ?_
        refine w_ifeq (fun c6 => ?_) (fun c6 => ?_)
        · exfalso; omega
        · skip
          refine w_iln rfl ?_
          refine w_aln rfl ?_
          refine w_gr gx rfl (by decide) rfl (hB.2.1) ?_
          refine w_gr gnw rfl (by decide) rfl (y29) ?_
          refine w_gi gy.1 rfl (by decide) rfl ((hV (by omega)).gf (j := 222) (by decide) (by decide) rfl) ?_
          refine w_cmlt (fun c7 => ?_) (fun c7 => ?_)
          · skip
            refine w_iln rfl ?_
            refine w_sw3 (fun c8 => ?_) (fun c9 => ?_) (fun c10 => ?_) (fun c11 => ?_)
            · skip
              refine w_ic ?_
              exact w_iret (fun q => by cases q) (by show some (Sum.inl _) = some (Sum.inl _); unfold lr_let; split <;> first | rfl | (exfalso; omega) | exact congrArg (fun k => some (Sum.inl (M.1 s k))) (by omega))
            · skip
              refine w_aln rfl ?_
              refine w_gr gx rfl (by decide) rfl (hB.2.1) ?_
              refine w_gr gnw rfl (by decide) rfl (y29) ?_
              refine w_gr gy.1 rfl (by decide) rfl (rY.1) ?_
              refine w_iln rfl ?_
              refine w_iald (v := (M.1 s (3 * z1 + 320).toNat)) gy.2.1 rfl (by show (0 : Int) ≤ z1; omega) (by show z1 < ((12 : Nat) : Int); omega) ((hV (by omega)).l1 (by show z1.toNat < 12; omega) (by show ((z1.toNat : Nat) : Int) < M.1 s 222; omega) (by show (3 * z1 + 320).toNat = 320 + 3 * z1.toNat; omega)) ?_
              exact w_iret (fun q => by cases q) (by show some (Sum.inl _) = some (Sum.inl _); unfold lr_let; split <;> first | rfl | (exfalso; omega) | exact congrArg (fun k => some (Sum.inl (M.1 s k))) (by omega))
            · skip
              refine w_aln rfl ?_
              refine w_gr gx rfl (by decide) rfl (hB.2.1) ?_
              refine w_gr gnw rfl (by decide) rfl (y29) ?_
              refine w_gr gy.1 rfl (by decide) rfl (rY.2.1) ?_
              refine w_iln rfl ?_
              refine w_iald (v := (M.1 s (3 * z1 + 321).toNat)) gy.2.2.1 rfl (by show (0 : Int) ≤ z1; omega) (by show z1 < ((12 : Nat) : Int); omega) ((hV (by omega)).l2 (by show z1.toNat < 12; omega) (by show ((z1.toNat : Nat) : Int) < M.1 s 222; omega) (by show (3 * z1 + 321).toNat = 321 + 3 * z1.toNat; omega)) ?_
              exact w_iret (fun q => by cases q) (by show some (Sum.inl _) = some (Sum.inl _); unfold lr_let; split <;> first | rfl | (exfalso; omega) | exact congrArg (fun k => some (Sum.inl (M.1 s k))) (by omega))
            · skip
              refine w_aln rfl ?_
              refine w_gr gx rfl (by decide) rfl (hB.2.1) ?_
              refine w_gr gnw rfl (by decide) rfl (y29) ?_
              refine w_gr gy.1 rfl (by decide) rfl (rY.2.2.1) ?_
              refine w_iln rfl ?_
              refine w_iald (v := (M.1 s (3 * z1 + 322).toNat)) gy.2.2.2.1 rfl (by show (0 : Int) ≤ z1; omega) (by show z1 < ((12 : Nat) : Int); omega) ((hV (by omega)).l3 (by show z1.toNat < 12; omega) (by show ((z1.toNat : Nat) : Int) < M.1 s 222; omega) (by show (3 * z1 + 322).toNat = 322 + 3 * z1.toNat; omega)) ?_
              exact w_iret (fun q => by cases q) (by show some (Sum.inl _) = some (Sum.inl _); unfold lr_let; split <;> first | rfl | (exfalso; omega) | exact congrArg (fun k => some (Sum.inl (M.1 s k))) (by omega))
          · skip
            refine w_ic ?_
            exact w_iret (fun q => by cases q) (by show some (Sum.inl _) = some (Sum.inl _); unfold lr_let; split <;> first | rfl | (exfalso; omega) | exact congrArg (fun k => some (Sum.inl (M.1 s k))) (by omega))
set_option maxRecDepth 100000 in
set_option maxHeartbeats 2000000 in
theorem lr_X12_let {G : mj_G} {M : mj_M} {x m tp s kp bc bt kc kr : Nat} {w : Nat → Nat} {z1 z2 : Int} (hK : lq_W G M m s kp kc w) (hI : lp_I G M x m tp s kp bc bt kc kr w) (hz1 : mj_in z1) (hz2 : mj_in z2) : mj_R mj_tab 40 211 [.inr (.inr (some m)), .inl z1, .inl z2] G M (fun r _ _ => r = some (.inl (lr_let (M.1 s) z1 z2))) := by
  have gm := hI.gm
  have gs := hI.gs
  have m6 := hI.m6
  have b0 := hI.b0
  have bz1 : (-2147483648 : Int) ≤ z1 ∧ z1 < 2147483648 := hz1
  have bz2 : (-2147483648 : Int) ≤ z2 ∧ z2 < 2147483648 := hz2
  have hrn := hK.rn.1
  have hm2 : M.1 s 221 ≠ 0 → 0 ≤ M.1 s 222 ∧ M.1 s 222 ≤ 12 := hK.m2
  have hm3 : M.1 s 221 = 0 ∨ (M.1 s 221 = 1 ∧ 0 ≤ M.1 s 222 ∧ M.1 s 222 ≤ 12) := by
    rcases hrn with e | e
    · exact Or.inl e
    · exact Or.inr ⟨e, hm2 (by omega)⟩
  refine ⟨Nat.le_of_ble_eq_true rfl, ?_⟩
  show wz 39 mt_X12_let.2.2.2.2.1 _ mt_X12_let.2.2.2.2.1 [some (.inr (.inr (some m))), some (.inl z1), some (.inl z2)] [] G M _ _
  refine w_aln rfl ?_
  refine w_ic ?_
  refine w_pi gm rfl (by decide) rfl (fun q => by cases q) ?_
  refine w_aln rfl ?_
  refine w_gr gm rfl (by decide) rfl (m6) ?_
  refine w_sp ?_
  refine w_iald (v := (M.1 s 221)) gs rfl (by show (0 : Int) ≤ 221; omega) (by show 221 < ((537 : Nat) : Int); omega) ((hn_n (Or.inl (hn_ne gs gm (by decide)))).trans (congrArg (M.1 s) (by show (221 : Int).toNat = 221; omega))) ?_
  refine w_ic ?_
  refine w_cmne (fun c1 => ?_) (fun c1 => ?_)
  · skip
    refine w_ic ?_
    exact w_iret (fun q => by cases q) (by show some (Sum.inl _) = some (Sum.inl _); unfold lr_let; split <;> first | rfl | (exfalso; omega) | exact congrArg (fun k => some (Sum.inl (M.1 s k))) (by omega))
  · skip
    refine w_iln rfl ?_
    refine w_ic ?_
    refine w_aln rfl ?_
    refine w_gr gm rfl (by decide) rfl (m6) ?_
    refine w_sp ?_
    refine w_iald (v := (M.1 s 222)) gs rfl (by show (0 : Int) ≤ 222; omega) (by show 222 < ((537 : Nat) : Int); omega) ((hn_n (Or.inl (hn_ne gs gm (by decide)))).trans (congrArg (M.1 s) (by show (222 : Int).toNat = 222; omega))) ?_
    refine w_ic ?_
    refine w_sub ⟨by show (-2147483648 : Int) ≤ (M.1 s 222) - 1; omega, by show (M.1 s 222) - 1 < (2147483648 : Int); omega⟩ ?_
    refine w_cs (st := []) rfl (Nat.le_of_ble_eq_true rfl) (fun kk h => h) ⟨Nat.le_of_ble_eq_true rfl, ?_⟩
    show wz (38) mt_X12_isIn.2.2.2.2.1 _ mt_X12_isIn.2.2.2.2.1 [some (.inl z1), some (.inl 0), some (.inl ((M.1 s 222) - 1))] [] _ _ _ _
    refine w_iln rfl ?_
    refine w_iln rfl ?_
    refine w_cmlt (fun c2 => ?_) (fun c2 => ?_)
    · skip
      refine w_ic ?_
      refine w_iret (fun _ => Or.inl rfl) ?_
      refine w_ifeq (fun c3 => ?_) (fun c3 => ?_)
      · skip
        refine w_ic ?_
        exact w_iret (fun q => by cases q) (by show some (Sum.inl _) = some (Sum.inl _); unfold lr_let; split <;> first | rfl | (exfalso; omega) | exact congrArg (fun k => some (Sum.inl (M.1 s k))) (by omega))
      · exfalso; omega
    · skip
      refine w_iln rfl ?_
      refine w_iln rfl ?_
      refine w_cmgt (fun c4 => ?_) (fun c4 => ?_)
      · skip
        refine w_ic ?_
        refine w_iret (fun _ => Or.inl rfl) ?_
        refine w_ifeq (fun c5 => ?_) (fun c5 => ?_)
        · skip
          refine w_ic ?_
          exact w_iret (fun q => by cases q) (by show some (Sum.inl _) = some (Sum.inl _); unfold lr_let; split <;> first | rfl | (exfalso; omega) | exact congrArg (fun k => some (Sum.inl (M.1 s k))) (by omega))
        · exfalso; omega
      · skip
        refine w_ic ?_
        refine w_goto ?_
        refine w_iret (fun _ => Or.inr rfl) ?_
        refine w_ifeq (fun c6 => ?_) (fun c6 => ?_)
        · exfalso; omega
        · skip
          refine w_iln rfl ?_
          refine w_ic ?_
          refine w_ic ?_
          refine w_cs (st := []) rfl (Nat.le_of_ble_eq_true rfl) (fun kk h => h) ⟨Nat.le_of_ble_eq_true rfl, ?_⟩
          show wz (38) mt_X12_isIn.2.2.2.2.1 _ mt_X12_isIn.2.2.2.2.1 [some (.inl z2), some (.inl 0), some (.inl 2)] [] _ _ _ _
          refine w_iln rfl ?_
          refine w_iln rfl ?_
          refine w_cmlt (fun c7 => ?_) (fun c7 => ?_)
          · skip
            refine w_ic ?_
            refine w_iret (fun _ => Or.inl rfl) ?_
            refine w_ifeq (fun c8 => ?_) (fun c8 => ?_)
            · skip
              refine w_ic ?_
              exact w_iret (fun q => by cases q) (by show some (Sum.inl _) = some (Sum.inl _); unfold lr_let; split <;> first | rfl | (exfalso; omega) | exact congrArg (fun k => some (Sum.inl (M.1 s k))) (by omega))
            · exfalso; omega
          · skip
            refine w_iln rfl ?_
            refine w_iln rfl ?_
            refine w_cmgt (fun c9 => ?_) (fun c9 => ?_)
            · skip
              refine w_ic ?_
              refine w_iret (fun _ => Or.inl rfl) ?_
              refine w_ifeq (fun c10 => ?_) (fun c10 => ?_)
              · skip
                refine w_ic ?_
                exact w_iret (fun q => by cases q) (by show some (Sum.inl _) = some (Sum.inl _); unfold lr_let; split <;> first | rfl | (exfalso; omega) | exact congrArg (fun k => some (Sum.inl (M.1 s k))) (by omega))
              · exfalso; omega
            · skip
              refine w_ic ?_
              refine w_goto ?_
              refine w_iret (fun _ => Or.inr rfl) ?_
              refine w_ifeq (fun c11 => ?_) (fun c11 => ?_)
              · exfalso; omega
              · skip
                refine w_aln rfl ?_
                refine w_gr gm rfl (by decide) rfl (m6) ?_
                refine w_sp ?_
                refine w_ic ?_
                refine w_iln rfl ?_
                refine w_mul ⟨by show (-2147483648 : Int) ≤ 3 * z1; omega, by show 3 * z1 < (2147483648 : Int); omega⟩ ?_
                refine w_add ⟨by show (-2147483648 : Int) ≤ 320 + (3 * z1); omega, by show 320 + (3 * z1) < (2147483648 : Int); omega⟩ ?_
                refine w_iln rfl ?_
                refine w_add ⟨by show (-2147483648 : Int) ≤ (320 + (3 * z1)) + z2; omega, by show (320 + (3 * z1)) + z2 < (2147483648 : Int); omega⟩ ?_
                refine w_iald (v := (M.1 s (3 * z1 + z2 + 320).toNat)) gs rfl (by show (0 : Int) ≤ (320 + (3 * z1)) + z2; omega) (by show (320 + (3 * z1)) + z2 < ((537 : Nat) : Int); omega) ((hn_n (Or.inl (hn_ne gs gm (by decide)))).trans (congrArg (M.1 s) (by show ((320 + (3 * z1)) + z2).toNat = (3 * z1 + z2 + 320).toNat; omega))) ?_
                refine w_goto ?_
                exact w_iret (fun q => by cases q) (by show some (Sum.inl _) = some (Sum.inl _); unfold lr_let; split <;> first | rfl | (exfalso; omega) | exact congrArg (fun k => some (Sum.inl (M.1 s k))) (by omega))
set_option maxRecDepth 100000 in
set_option maxHeartbeats 2000000 in
theorem lr_X11_year {G : mj_G} {M : mj_M} {x m tp s kp bc bt kc kr : Nat} {w : Nat → Nat} {z1 : Int} (hK : lq_W G M m s kp kc w) (hI : lp_I G M x m tp s kp bc bt kc kr w) (hz1 : mj_in z1) : mj_R mj_tab 40 159 [.inr (.inr (some x)), .inl z1] G M (fun r _ _ => r = some (.inl (lr_year (M.1 s) z1))) := by
  obtain ⟨hA, hB, p, q, hN, hG6, -⟩ := hI.J
  have hG := hG6.1
  have hG5 := hG6
  obtain ⟨gpl, gna, gta, gba, gwa, gtr, gbr, itr, ibr, p0, p1, p2, p3, rt, rb⟩ := lq_K hA hB hN.pin.1
  have gx := hI.gx
  have gnw := hA.2.2.1
  have b0 := hI.b0
  have bz1 : (-2147483648 : Int) ≤ z1 ∧ z1 < 2147483648 := hz1
  have gy := hK.1 61 (by decide)
  have rY := hK.2.1.1 61 (by decide)
  have y29 := hK.2.1.2.1
  have h221 : M.1 (w 61) 0 = M.1 s 221 := hK.2.2.2.1.1.1
  have hV : M.1 s 221 ≠ 0 → yw_V M w 61 (ye_S (M.1 s) 0) := hK.yV
  have hrn := hK.rn.1
  have hm2 : M.1 s 221 ≠ 0 → 0 ≤ M.1 s 222 ∧ M.1 s 222 ≤ 12 := hK.m2
  have hm3 : M.1 s 221 = 0 ∨ (M.1 s 221 = 1 ∧ 0 ≤ M.1 s 222 ∧ M.1 s 222 ≤ 12) := by
    rcases hrn with e | e
    · exact Or.inl e
    · exact Or.inr ⟨e, hm2 (by omega)⟩
  refine ⟨Nat.le_of_ble_eq_true rfl, ?_⟩
  show wz 39 mt_X11_year.2.2.2.2.1 _ mt_X11_year.2.2.2.2.1 [some (.inr (.inr (some x))), some (.inl z1)] [] G M _ _
  refine w_aln rfl ?_
  refine w_gr gx rfl (by decide) rfl (hB.2.1) ?_
  refine w_gr gnw rfl (by decide) rfl (y29) ?_
  refine w_gi gy.1 rfl (by decide) rfl (h221) ?_
  refine w_ifeq (fun c1 => ?_) (fun c1 => ?_)
  · skip
    refine w_sp ?_
    exact w_iret (fun q => by cases q) (by show some (Sum.inl _) = some (Sum.inl _); unfold lr_year; rw [if_neg (by omega)])
  · skip
    refine w_aln rfl ?_
    refine w_gr gx rfl (by decide) rfl (hB.2.1) ?_
    refine w_gr gnw rfl (by decide) rfl (y29) ?_
    refine w_iln rfl ?_
    refine w_cv (st := []) rfl gy.1 rfl (Nat.le_of_ble_eq_true rfl) (fun kk h => h) ⟨Nat.le_of_ble_eq_true rfl, ?_⟩
    show wz (38) mt_X10_number.2.2.2.2.1 _ mt_X10_number.2.2.2.2.1 [some (.inr (.inr (some (w 61)))), some (.inl z1)] [] _ _ _ _
    refine w_iln rfl ?_
    refine w_sw11 (fun c2 => ?_) (fun c3 => ?_) (fun c4 => ?_) (fun c5 => ?_) (fun c6 => ?_) (fun c7 => ?_) (fun c8 => ?_) (fun c9 => ?_) (fun c10 => ?_) (fun c11 => ?_) (fun c12 => ?_) (fun c13 => ?_)
    · skip
      refine w_sp ?_
      refine w_iret (fun q => by cases q) ?_
      refine w_goto ?_
      exact w_iret (fun q => by cases q) (by show some (Sum.inl _) = some (Sum.inl _); unfold lr_year; rw [if_neg (by omega)])
    · skip
      refine w_aln rfl ?_
      refine w_gi gy.1 rfl (by decide) rfl ((hV (by omega)).gf (j := 222) (by decide) (by decide) rfl) ?_
      refine w_iret (fun q => by cases q) ?_
      refine w_goto ?_
      exact w_iret (fun q => by cases q) (by show some (Sum.inl _) = some (Sum.inl _); unfold lr_year; rw [if_pos ⟨by omega, by omega, by omega⟩, if_pos (by omega), show (z1 + 222).toNat = 222 by omega])
    · skip
      refine w_aln rfl ?_
      refine w_gi gy.1 rfl (by decide) rfl ((hV (by omega)).gf (j := 223) (by decide) (by decide) rfl) ?_
      refine w_iret (fun q => by cases q) ?_
      refine w_goto ?_
      exact w_iret (fun q => by cases q) (by show some (Sum.inl _) = some (Sum.inl _); unfold lr_year; rw [if_pos ⟨by omega, by omega, by omega⟩, if_pos (by omega), show (z1 + 222).toNat = 223 by omega])
    · skip
      refine w_aln rfl ?_
      refine w_gi gy.1 rfl (by decide) rfl ((hV (by omega)).gf (j := 224) (by decide) (by decide) rfl) ?_
      refine w_iret (fun q => by cases q) ?_
      refine w_goto ?_
      exact w_iret (fun q => by cases q) (by show some (Sum.inl _) = some (Sum.inl _); unfold lr_year; rw [if_pos ⟨by omega, by omega, by omega⟩, if_pos (by omega), show (z1 + 222).toNat = 224 by omega])
    · skip
      refine w_aln rfl ?_
      refine w_gi gy.1 rfl (by decide) rfl ((hV (by omega)).gf (j := 225) (by decide) (by decide) rfl) ?_
      refine w_iret (fun q => by cases q) ?_
      refine w_goto ?_
      exact w_iret (fun q => by cases q) (by show some (Sum.inl _) = some (Sum.inl _); unfold lr_year; rw [if_pos ⟨by omega, by omega, by omega⟩, if_pos (by omega), show (z1 + 222).toNat = 225 by omega])
    · skip
      refine w_aln rfl ?_
      refine w_gi gy.1 rfl (by decide) rfl ((hV (by omega)).gf (j := 226) (by decide) (by decide) rfl) ?_
      refine w_iret (fun q => by cases q) ?_
      refine w_goto ?_
      exact w_iret (fun q => by cases q) (by show some (Sum.inl _) = some (Sum.inl _); unfold lr_year; rw [if_pos ⟨by omega, by omega, by omega⟩, if_pos (by omega), show (z1 + 222).toNat = 226 by omega])
    · skip
      refine w_aln rfl ?_
      refine w_gi gy.1 rfl (by decide) rfl ((hV (by omega)).gf (j := 227) (by decide) (by decide) rfl) ?_
      refine w_iret (fun q => by cases q) ?_
      refine w_goto ?_
      exact w_iret (fun q => by cases q) (by show some (Sum.inl _) = some (Sum.inl _); unfold lr_year; rw [if_pos ⟨by omega, by omega, by omega⟩, if_pos (by omega), show (z1 + 222).toNat = 227 by omega])
    · skip
      refine w_aln rfl ?_
      refine w_gi gy.1 rfl (by decide) rfl ((hV (by omega)).gf (j := 228) (by decide) (by decide) rfl) ?_
      refine w_iret (fun q => by cases q) ?_
      refine w_goto ?_
      exact w_iret (fun q => by cases q) (by show some (Sum.inl _) = some (Sum.inl _); unfold lr_year; rw [if_pos ⟨by omega, by omega, by omega⟩, if_pos (by omega), show (z1 + 222).toNat = 228 by omega])
    · skip
      refine w_aln rfl ?_
      refine w_gi gy.1 rfl (by decide) rfl ((hV (by omega)).gf (j := 229) (by decide) (by decide) rfl) ?_
      refine w_iret (fun q => by cases q) ?_
      refine w_goto ?_
      exact w_iret (fun q => by cases q) (by show some (Sum.inl _) = some (Sum.inl _); unfold lr_year; rw [if_pos ⟨by omega, by omega, by omega⟩, if_pos (by omega), show (z1 + 222).toNat = 229 by omega])
    · skip
      refine w_aln rfl ?_
      refine w_cv (st := []) rfl gy.1 rfl (Nat.le_of_ble_eq_true rfl) (fun kk h => h) (r_inPonds (d := 37) (fn := fun t => M.1 s (232 + 11 * t)) hK.1 hK.2.1 (fun t ht => (hV (by omega)).rw_ ht (by decide) rfl) (hK.pd hI.T.1 (by omega)).1 ?_)
      refine w_iret (fun q => by cases q) ?_
      refine w_goto ?_
      exact w_iret (fun q => by cases q) (by show some (Sum.inl _) = some (Sum.inl _); unfold lr_year; rw [if_pos ⟨by omega, by omega, by omega⟩, if_neg (by omega), if_pos (by omega)])
    · skip
      refine w_aln rfl ?_
      refine w_gi gy.1 rfl (by decide) rfl ((hV (by omega)).gf (j := 230) (by decide) (by decide) rfl) ?_
      refine w_iret (fun q => by cases q) ?_
      refine w_goto ?_
      exact w_iret (fun q => by cases q) (by show some (Sum.inl _) = some (Sum.inl _); unfold lr_year; rw [if_pos ⟨by omega, by omega, by omega⟩, if_neg (by omega), if_neg (by omega), if_pos (by omega)])
    · skip
      refine w_aln rfl ?_
      refine w_gi gy.1 rfl (by decide) rfl ((hV (by omega)).gf (j := 231) (by decide) (by decide) rfl) ?_
      refine w_iret (fun q => by cases q) ?_
      refine w_goto ?_
      exact w_iret (fun q => by cases q) (by show some (Sum.inl _) = some (Sum.inl _); unfold lr_year; rw [if_pos ⟨by omega, by omega, by omega⟩, if_neg (by omega), if_neg (by omega), if_neg (by omega)])
theorem r_yrB {G : mj_G} {M : mj_M} {m s : Nat} {Q : mj_P} {z1 : Int} (gm : G m = (1012, 0)) (gs : G s = (51100, 537)) (m6 : M.2.2 m 6 = some s) (b0 : 0 ≤ M.1 s 0 ∧ M.1 s 0 ≤ 8) (hb : ∀ t, t < 8 → 0 ≤ M.1 s (232 + 11 * t) ∧ M.1 s (232 + 11 * t) ≤ 999) (h : ∀ cb sb, wz 39 mt_X12_year.2.2.2.2.1 Q (mt_X12_year.2.2.2.2.1.drop 34) [some (.inr (.inr (some m))), some (.inl z1), some (.inl (ye_sm (fun t => M.1 s (232 + 11 * t)) (M.1 s 0).toNat)), some (.inl (M.1 s 0))] [] G (mj_p0 M m 0 0) cb sb) : ∀ (n : Nat) (i : Int) (cb sb : Nat), i + n = M.1 s 0 → 0 ≤ i → wz 39 mt_X12_year.2.2.2.2.1 Q (mt_X12_year.2.2.2.2.1.drop 19) [some (.inr (.inr (some m))), some (.inl z1), some (.inl (ye_sm (fun t => M.1 s (232 + 11 * t)) i.toNat)), some (.inl i)] [] G (mj_p0 M m 0 0) cb sb := by
  have sm : s ≠ m := hn_ne gs gm (by decide)
  have es : (mj_p0 M m 0 0).1 s = M.1 s := wz_c sm
  intro n
  induction n with
  | zero =>
    intro i cb sb e i0
    obtain rfl : i = M.1 s 0 := by omega
    refine w_iln rfl ?_
    refine w_aln rfl ?_
    refine w_gr gm rfl (by decide) rfl m6 ?_
    refine w_ic ?_
    refine w_iald (v := M.1 s 0) gs rfl (by decide) (by decide) (congrFun es 0) ?_
    refine w_cmge (fun c => ?_) (fun c => by exfalso; omega)
    exact h _ _
  | succ n ih =>
    intro i cb sb e i0
    have b := ye_sm_bb (fn := fun t => M.1 s (232 + 11 * t)) hb i.toNat (by omega)
    have v := hb i.toNat (by omega)
    refine w_iln rfl ?_
    refine w_aln rfl ?_
    refine w_gr gm rfl (by decide) rfl m6 ?_
    refine w_ic ?_
    refine w_iald (v := M.1 s 0) gs rfl (by decide) (by decide) (congrFun es 0) ?_
    refine w_cmge (fun c => by exfalso; omega) (fun c => ?_)
    refine w_iln rfl ?_
    refine w_aln rfl ?_
    refine w_iln rfl ?_
    refine w_ic ?_
    refine w_cv (st := [.inl (ye_sm (fun t => M.1 s (232 + 11 * t)) i.toNat)]) rfl gm rfl (Nat.le_of_ble_eq_true rfl) (fun kk h => h) ⟨Nat.le_of_ble_eq_true rfl, ?_⟩
    show wz 38 mt_X12_of.2.2.2.2.1 _ mt_X12_of.2.2.2.2.1 [some (.inr (.inr (some m))), some (.inl i), some (.inl 0)] [] _ _ _ _
    refine w_aln rfl ?_
    refine w_gr gm rfl (by decide) rfl m6 ?_
    refine w_sp ?_
    refine w_bp ?_
    refine w_iln rfl ?_
    refine w_mul ⟨by omega, by omega⟩ ?_
    refine w_add ⟨by omega, by omega⟩ ?_
    refine w_iln rfl ?_
    refine w_add ⟨by omega, by omega⟩ ?_
    refine w_iald (v := M.1 s (232 + 11 * i.toNat)) gs rfl (by omega) (by show (232 : Int) + 11 * i + 0 < ((537 : Nat) : Int); omega) ((congrFun es _).trans (congrArg (M.1 s) (by show ((232 : Int) + 11 * i + 0).toNat = _; omega))) ?_
    refine w_iret (fun q => by cases q) ?_
    refine w_add ⟨by omega, by omega⟩ ?_
    refine w_isn ?_
    refine w_ii rfl ⟨by omega, by omega⟩ ?_
    refine w_goto ?_
    rw [show ye_sm (fun t => M.1 s (232 + 11 * t)) i.toNat + M.1 s (232 + 11 * i.toNat) = ye_sm (fun t => M.1 s (232 + 11 * t)) (i + 1).toNat by rw [show (i + 1).toNat = i.toNat + 1 by omega]; rfl]
    exact ih (i + 1) _ _ (by omega) (by omega)
set_option maxRecDepth 100000 in
set_option maxHeartbeats 2000000 in
theorem lr_X12_year {G : mj_G} {M : mj_M} {x m tp s kp bc bt kc kr : Nat} {w : Nat → Nat} {z1 : Int} (hK : lq_W G M m s kp kc w) (hI : lp_I G M x m tp s kp bc bt kc kr w) (hz1 : mj_in z1) : mj_R mj_tab 40 261 [.inr (.inr (some m)), .inl z1] G M (fun r _ _ => r = some (.inl (lr_year (M.1 s) z1))) := by
  have gm := hI.gm
  have gs := hI.gs
  have m6 := hI.m6
  have b0 := hI.b0
  have bz1 : (-2147483648 : Int) ≤ z1 ∧ z1 < 2147483648 := hz1
  have hrn := hK.rn.1
  have hm2 : M.1 s 221 ≠ 0 → 0 ≤ M.1 s 222 ∧ M.1 s 222 ≤ 12 := hK.m2
  have hm3 : M.1 s 221 = 0 ∨ (M.1 s 221 = 1 ∧ 0 ≤ M.1 s 222 ∧ M.1 s 222 ≤ 12) := by
    rcases hrn with e | e
    · exact Or.inl e
    · exact Or.inr ⟨e, hm2 (by omega)⟩
  refine ⟨Nat.le_of_ble_eq_true rfl, ?_⟩
  show wz 39 mt_X12_year.2.2.2.2.1 _ mt_X12_year.2.2.2.2.1 [some (.inr (.inr (some m))), some (.inl z1), none, none] [] G M _ _
  refine w_aln rfl ?_
  refine w_ic ?_
  refine w_pi gm rfl (by decide) rfl (fun q => by cases q) ?_
  refine w_aln rfl ?_
  refine w_gr gm rfl (by decide) rfl (m6) ?_
  refine w_sp ?_
  refine w_iald (v := (M.1 s 221)) gs rfl (by show (0 : Int) ≤ 221; omega) (by show 221 < ((537 : Nat) : Int); omega) ((hn_n (Or.inl (hn_ne gs gm (by decide)))).trans (congrArg (M.1 s) (by show (221 : Int).toNat = 221; omega))) ?_
  refine w_ifeq (fun c1 => ?_) (fun c1 => ?_)
  · skip
    refine w_sp ?_
    exact w_iret (fun q => by cases q) (by show some (Sum.inl _) = some (Sum.inl _); unfold lr_year; rw [if_neg (by omega)])
  · skip
    refine w_iln rfl ?_
    refine w_ic ?_
    refine w_bp ?_
    refine w_cs (st := []) rfl (Nat.le_of_ble_eq_true rfl) (fun kk h => h) ⟨Nat.le_of_ble_eq_true rfl, ?_⟩
    show wz (38) mt_X12_isIn.2.2.2.2.1 _ mt_X12_isIn.2.2.2.2.1 [some (.inl z1), some (.inl 0), some (.inl 10)] [] _ _ _ _
    refine w_iln rfl ?_
    refine w_iln rfl ?_
    refine w_cmlt (fun c2 => ?_) (fun c2 => ?_)
    · skip
      refine w_ic ?_
      refine w_iret (fun _ => Or.inl rfl) ?_
      refine w_ifne (fun c3 => ?_) (fun c3 => ?_)
      · exfalso; omega
      · skip
        refine w_sp ?_
        exact w_iret (fun q => by cases q) (by show some (Sum.inl _) = some (Sum.inl _); unfold lr_year; rw [if_neg (by omega)])
    · skip
      refine w_iln rfl ?_
      refine w_iln rfl ?_
      refine w_cmgt (fun c4 => ?_) (fun c4 => ?_)
      · skip
        refine w_ic ?_
        refine w_iret (fun _ => Or.inl rfl) ?_
        refine w_ifne (fun c5 => ?_) (fun c5 => ?_)
        · exfalso; omega
        · skip
          refine w_sp ?_
          exact w_iret (fun q => by cases q) (by show some (Sum.inl _) = some (Sum.inl _); unfold lr_year; rw [if_neg (by omega)])
      · skip
        refine w_ic ?_
        refine w_goto ?_
        refine w_iret (fun _ => Or.inr rfl) ?_
        refine w_ifne (fun c6 => ?_) (fun c6 => ?_)
        · skip
          refine w_ic ?_
          refine w_isn ?_
          show wz _ _ _ _ [some (.inr (.inr (some m))), some (.inl z1), some (.inl 0), none] _ _ _ _ _
          refine w_ic ?_
          refine w_isn ?_
          show wz _ _ _ _ [some (.inr (.inr (some m))), some (.inl z1), some (.inl 0), some (.inl 0)] _ _ _ _ _
          refine r_yrB gm gs m6 b0 (hK.pd hI.T.1 (by omega)).1 (fun cb sb => ?_) (M.1 s 0).toNat 0 _ _ (by omega) (by decide)
          rw [← ye_sm_z (fn := fun t => M.1 s (232 + 11 * t)) (fun t h1 h2 => (hK.pd hI.T.1 (by omega)).2 t h2 (by omega)) 8 (by omega) (Nat.le_refl 8)]
          refine w_iln rfl ?_
          refine w_bp ?_
          refine w_cmge (fun c7 => ?_) (fun c7 => ?_)
          · skip
            refine w_iln rfl ?_
            refine w_bp ?_
            refine w_cmne (fun c8 => ?_) (fun c8 => ?_)
            · skip
              refine w_iln rfl ?_
              refine w_bp ?_
              refine w_cmne (fun c9 => ?_) (fun c9 => ?_)
              · skip
                refine w_aln rfl ?_
                refine w_gr gm rfl (by decide) rfl (m6) ?_
                refine w_sp ?_
                refine w_iald (v := (M.1 s 231)) gs rfl (by show (0 : Int) ≤ 231; omega) (by show 231 < ((537 : Nat) : Int); omega) ((hn_n (Or.inl (hn_ne gs gm (by decide)))).trans (congrArg (M.1 s) (by show (231 : Int).toNat = 231; omega))) ?_
                exact w_iret (fun q => by cases q) (by show some (Sum.inl _) = some (Sum.inl _); unfold lr_year; rw [if_pos ⟨by omega, by omega, by omega⟩, if_neg (by omega), if_neg (by omega), if_neg (by omega)])
              · skip
                refine w_aln rfl ?_
                refine w_gr gm rfl (by decide) rfl (m6) ?_
                refine w_sp ?_
                refine w_iald (v := (M.1 s 230)) gs rfl (by show (0 : Int) ≤ 230; omega) (by show 230 < ((537 : Nat) : Int); omega) ((hn_n (Or.inl (hn_ne gs gm (by decide)))).trans (congrArg (M.1 s) (by show (230 : Int).toNat = 230; omega))) ?_
                refine w_goto ?_
                exact w_iret (fun q => by cases q) (by show some (Sum.inl _) = some (Sum.inl _); unfold lr_year; rw [if_pos ⟨by omega, by omega, by omega⟩, if_neg (by omega), if_neg (by omega), if_pos (by omega)])
            · skip
              refine w_iln rfl ?_
              refine w_goto ?_
              exact w_iret (fun q => by cases q) (by show some (Sum.inl _) = some (Sum.inl _); unfold lr_year; rw [if_pos ⟨by omega, by omega, by omega⟩, if_neg (by omega), if_pos (by omega)])
          · skip
            refine w_aln rfl ?_
            refine w_gr gm rfl (by decide) rfl (m6) ?_
            refine w_sp ?_
            refine w_iln rfl ?_
            refine w_add ⟨by show (-2147483648 : Int) ≤ 222 + z1; omega, by show 222 + z1 < (2147483648 : Int); omega⟩ ?_
            refine w_iald (v := (M.1 s (z1 + 222).toNat)) gs rfl (by show (0 : Int) ≤ 222 + z1; omega) (by show 222 + z1 < ((537 : Nat) : Int); omega) ((hn_n (Or.inl (hn_ne gs gm (by decide)))).trans (congrArg (M.1 s) (by show (222 + z1).toNat = (z1 + 222).toNat; omega))) ?_
            refine w_goto ?_
            exact w_iret (fun q => by cases q) (by show some (Sum.inl _) = some (Sum.inl _); unfold lr_year; rw [if_pos ⟨by omega, by omega, by omega⟩, if_pos (by omega)])
        · exfalso; omega
theorem r_drC {G : mj_G} {M : mj_M} {x s : Nat} {w : Nat → Nat} {Q : mj_P} (gx : G x = (1011, 0)) (x1 : M.2.2 x 1 = some (w 29)) (gnw : G (w 29) = (1007, 0)) (y29 : M.2.2 (w 29) 3 = some (w 61)) (gy0 : G (w 61) = (1010, 0)) (gy1 : G (w (61 + 1)) = (42100, 12)) (r3 : M.2.2 (w 61) 3 = some (w (61 + 1))) (hV : yw_V M w 61 (ye_S (M.1 s) 0)) (hm : 0 ≤ M.1 s 222 ∧ M.1 s 222 ≤ 12) (h : Q (some (.inl (lr_db (M.1 s) (M.1 s 222).toNat))) G M) : ∀ (n : Nat) (i : Int) (cb sb : Nat), i + n = M.1 s 222 → 0 ≤ i → wz 39 mt_X11_droughts.2.2.2.2.1 Q (mt_X11_droughts.2.2.2.2.1.drop 11) [some (.inr (.inr (some x))), some (.inl (lr_db (M.1 s) i.toNat)), some (.inl i)] [] G M cb sb := by
  intro n
  induction n with
  | zero =>
    intro i cb sb e i0
    obtain rfl : i = M.1 s 222 := by omega
    refine w_iln rfl ?_
    refine w_aln rfl ?_
    refine w_gr gx rfl (by decide) rfl x1 ?_
    refine w_gr gnw rfl (by decide) rfl y29 ?_
    refine w_gi (v := M.1 s 222) gy0 rfl (by decide) rfl (hV.gf (j := 222) (by decide) (by decide) rfl) ?_
    refine w_cmge (fun c => ?_) (fun c => by exfalso; omega)
    refine w_iln rfl ?_
    exact w_iret (fun q => by cases q) h
  | succ n ih =>
    intro i cb sb e i0
    have et : (i + 1).toNat = i.toNat + 1 := by omega
    have ei : ((i.toNat : Nat) : Int) = i := by omega
    refine w_iln rfl ?_
    refine w_aln rfl ?_
    refine w_gr gx rfl (by decide) rfl x1 ?_
    refine w_gr gnw rfl (by decide) rfl y29 ?_
    refine w_gi (v := M.1 s 222) gy0 rfl (by decide) rfl (hV.gf (j := 222) (by decide) (by decide) rfl) ?_
    refine w_cmge (fun c => by exfalso; omega) (fun c => ?_)
    refine w_iln rfl ?_
    refine w_bp ?_
    refine w_cmge (fun c => by exfalso; omega) (fun c => ?_)
    refine w_aln rfl ?_
    refine w_gr gx rfl (by decide) rfl x1 ?_
    refine w_gr gnw rfl (by decide) rfl y29 ?_
    refine w_gr gy0 rfl (by decide) rfl r3 ?_
    refine w_iln rfl ?_
    refine w_iald (v := M.1 s (320 + 3 * i.toNat)) gy1 rfl (by omega) (by show i < ((12 : Nat) : Int); omega) (hV.l1 (by omega) (by omega) rfl) ?_
    refine w_bp ?_
    refine w_cmne (fun c8 => ?_) (fun c8 => ?_)
    · refine w_ii rfl ⟨by omega, by omega⟩ ?_
      refine w_goto ?_
      rw [show lr_db (M.1 s) i.toNat = lr_db (M.1 s) (i + 1).toNat by rw [et]; exact (if_neg c8).symm]
      exact ih (i + 1) _ _ (by omega) (by omega)
    · refine w_iln rfl ?_
      refine w_ic ?_
      refine w_iln rfl ?_
      refine w_shl ?_
      intro y1 hy1 ey1
      refine w_or ?_
      intro y2 hy2 ey2
      refine w_isn ?_
      refine w_ii rfl ⟨by omega, by omega⟩ ?_
      refine w_goto ?_
      rw [show y2 = lr_db (M.1 s) (i + 1).toNat by rw [et, ey2, ey1, ← ei]; exact (if_pos c8).symm]
      exact ih (i + 1) _ _ (by omega) (by omega)
theorem r_drR {G : mj_G} {M : mj_M} {m s : Nat} {Q : mj_P} (gm : G m = (1012, 0)) (gs : G s = (51100, 537)) (m6 : M.2.2 m 6 = some s) (hm : 0 ≤ M.1 s 222 ∧ M.1 s 222 ≤ 12) (h : Q (some (.inl (lr_db (M.1 s) (M.1 s 222).toNat))) G (mj_p0 M m 0 0)) : ∀ (n : Nat) (i : Int) (cb sb : Nat), i + n = M.1 s 222 → 0 ≤ i → mj_in (lr_db (M.1 s) i.toNat) → wz 39 mt_X12_droughts.2.2.2.2.1 Q (mt_X12_droughts.2.2.2.2.1.drop 14) [some (.inr (.inr (some m))), some (.inl (lr_db (M.1 s) i.toNat)), some (.inl i)] [] G (mj_p0 M m 0 0) cb sb := by
  have sm : s ≠ m := hn_ne gs gm (by decide)
  have es : (mj_p0 M m 0 0).1 s = M.1 s := wz_c sm
  intro n
  induction n with
  | zero =>
    intro i cb sb e i0 hi
    obtain rfl : i = M.1 s 222 := by omega
    refine w_iln rfl ?_
    refine w_aln rfl ?_
    refine w_gr gm rfl (by decide) rfl m6 ?_
    refine w_sp ?_
    refine w_iald (v := M.1 s 222) gs rfl (by decide) (by decide) (congrFun es 222) ?_
    refine w_cmge (fun c => ?_) (fun c => by exfalso; omega)
    refine w_iln rfl ?_
    exact w_iret (fun q => by cases q) h
  | succ n ih =>
    intro i cb sb e i0 hi
    have et : (i + 1).toNat = i.toNat + 1 := by omega
    have ei : ((i.toNat : Nat) : Int) = i := by omega
    refine w_iln rfl ?_
    refine w_aln rfl ?_
    refine w_gr gm rfl (by decide) rfl m6 ?_
    refine w_sp ?_
    refine w_iald (v := M.1 s 222) gs rfl (by decide) (by decide) (congrFun es 222) ?_
    refine w_cmge (fun c => by exfalso; omega) (fun c => ?_)
    refine w_iln rfl ?_
    refine w_aln rfl ?_
    refine w_gr gm rfl (by decide) rfl m6 ?_
    refine w_sp ?_
    refine w_ic ?_
    refine w_iln rfl ?_
    refine w_mul ⟨by omega, by omega⟩ ?_
    refine w_add ⟨by omega, by omega⟩ ?_
    refine w_iald (v := M.1 s (320 + 3 * i.toNat)) gs rfl (by omega) (by show (320 : Int) + 3 * i < ((537 : Nat) : Int); omega) ((congrFun es _).trans (congrArg (M.1 s) (by omega))) ?_
    refine w_bp ?_
    refine w_cmne (fun c8 => ?_) (fun c8 => ?_)
    · refine w_ic ?_
      refine w_or ?_
      intro y2 hy2 ey2
      refine w_isn ?_
      refine w_ii rfl ⟨by omega, by omega⟩ ?_
      refine w_goto ?_
      have e2 : y2 = lr_db (M.1 s) (i + 1).toNat := by rw [et, ey2, ye_or0 hi]; exact (if_neg c8).symm
      rw [e2]
      rw [e2] at hy2
      exact ih (i + 1) _ _ (by omega) (by omega) hy2
    · refine w_ic ?_
      refine w_iln rfl ?_
      refine w_shl ?_
      intro y1 hy1 ey1
      refine w_goto ?_
      refine w_or ?_
      intro y2 hy2 ey2
      refine w_isn ?_
      refine w_ii rfl ⟨by omega, by omega⟩ ?_
      refine w_goto ?_
      have e2 : y2 = lr_db (M.1 s) (i + 1).toNat := by rw [et, ey2, ey1, ← ei]; exact (if_pos c8).symm
      rw [e2]
      rw [e2] at hy2
      exact ih (i + 1) _ _ (by omega) (by omega) hy2
set_option maxRecDepth 100000 in
set_option maxHeartbeats 2000000 in
theorem lr_X11_droughts {G : mj_G} {M : mj_M} {x m tp s kp bc bt kc kr : Nat} {w : Nat → Nat} (hK : lq_W G M m s kp kc w) (hI : lp_I G M x m tp s kp bc bt kc kr w) : mj_R mj_tab 40 120 [.inr (.inr (some x))] G M (fun r _ _ => r = some (.inl (lr_droughts (M.1 s)))) := by
  obtain ⟨hA, hB, p, q, hN, hG6, -⟩ := hI.J
  have hG := hG6.1
  have hG5 := hG6
  obtain ⟨gpl, gna, gta, gba, gwa, gtr, gbr, itr, ibr, p0, p1, p2, p3, rt, rb⟩ := lq_K hA hB hN.pin.1
  have gx := hI.gx
  have gnw := hA.2.2.1
  have b0 := hI.b0
  have gy := hK.1 61 (by decide)
  have rY := hK.2.1.1 61 (by decide)
  have y29 := hK.2.1.2.1
  have h221 : M.1 (w 61) 0 = M.1 s 221 := hK.2.2.2.1.1.1
  have hV : M.1 s 221 ≠ 0 → yw_V M w 61 (ye_S (M.1 s) 0) := hK.yV
  have hrn := hK.rn.1
  have hm2 : M.1 s 221 ≠ 0 → 0 ≤ M.1 s 222 ∧ M.1 s 222 ≤ 12 := hK.m2
  have hm3 : M.1 s 221 = 0 ∨ (M.1 s 221 = 1 ∧ 0 ≤ M.1 s 222 ∧ M.1 s 222 ≤ 12) := by
    rcases hrn with e | e
    · exact Or.inl e
    · exact Or.inr ⟨e, hm2 (by omega)⟩
  refine ⟨Nat.le_of_ble_eq_true rfl, ?_⟩
  show wz 39 mt_X11_droughts.2.2.2.2.1 _ mt_X11_droughts.2.2.2.2.1 [some (.inr (.inr (some x))), none, none] [] G M _ _
  refine w_aln rfl ?_
  refine w_gr gx rfl (by decide) rfl (hB.2.1) ?_
  refine w_gr gnw rfl (by decide) rfl (y29) ?_
  refine w_gi gy.1 rfl (by decide) rfl (h221) ?_
  refine w_ifne (fun c1 => ?_) (fun c1 => ?_)
  · skip
    refine w_ic ?_
    refine w_isn ?_
    show wz _ _ _ _ [some (.inr (.inr (some x))), some (.inl 0), none] _ _ _ _ _
    refine w_ic ?_
    refine w_isn ?_
    show wz _ _ _ _ [some (.inr (.inr (some x))), some (.inl 0), some (.inl 0)] _ _ _ _ _
    exact r_drC gx hB.2.1 gnw y29 gy.1 gy.2.1 rY.1 (hV (by omega)) (hm2 (by omega)) (by show some (Sum.inl _) = some (Sum.inl _); unfold lr_droughts; rw [if_pos (by omega)]) (M.1 s 222).toNat 0 _ _ (by have := hm2 (by omega); omega) (by decide)
  · skip
    refine w_ic ?_
    exact w_iret (fun q => by cases q) (by show some (Sum.inl _) = some (Sum.inl _); unfold lr_droughts; rw [if_neg (by omega)])
set_option maxRecDepth 100000 in
set_option maxHeartbeats 2000000 in
theorem lr_X12_droughts {G : mj_G} {M : mj_M} {x m tp s kp bc bt kc kr : Nat} {w : Nat → Nat} (hK : lq_W G M m s kp kc w) (hI : lp_I G M x m tp s kp bc bt kc kr w) : mj_R mj_tab 40 183 [.inr (.inr (some m))] G M (fun r _ _ => r = some (.inl (lr_droughts (M.1 s)))) := by
  have gm := hI.gm
  have gs := hI.gs
  have m6 := hI.m6
  have b0 := hI.b0
  have hrn := hK.rn.1
  have hm2 : M.1 s 221 ≠ 0 → 0 ≤ M.1 s 222 ∧ M.1 s 222 ≤ 12 := hK.m2
  have hm3 : M.1 s 221 = 0 ∨ (M.1 s 221 = 1 ∧ 0 ≤ M.1 s 222 ∧ M.1 s 222 ≤ 12) := by
    rcases hrn with e | e
    · exact Or.inl e
    · exact Or.inr ⟨e, hm2 (by omega)⟩
  refine ⟨Nat.le_of_ble_eq_true rfl, ?_⟩
  show wz 39 mt_X12_droughts.2.2.2.2.1 _ mt_X12_droughts.2.2.2.2.1 [some (.inr (.inr (some m))), none, none] [] G M _ _
  refine w_aln rfl ?_
  refine w_ic ?_
  refine w_pi gm rfl (by decide) rfl (fun q => by cases q) ?_
  refine w_aln rfl ?_
  refine w_gr gm rfl (by decide) rfl (m6) ?_
  refine w_sp ?_
  refine w_iald (v := (M.1 s 221)) gs rfl (by show (0 : Int) ≤ 221; omega) (by show 221 < ((537 : Nat) : Int); omega) ((hn_n (Or.inl (hn_ne gs gm (by decide)))).trans (congrArg (M.1 s) (by show (221 : Int).toNat = 221; omega))) ?_
  refine w_ifne (fun c1 => ?_) (fun c1 => ?_)
  · skip
    refine w_ic ?_
    refine w_isn ?_
    show wz _ _ _ _ [some (.inr (.inr (some m))), some (.inl 0), none] _ _ _ _ _
    refine w_ic ?_
    refine w_isn ?_
    show wz _ _ _ _ [some (.inr (.inr (some m))), some (.inl 0), some (.inl 0)] _ _ _ _ _
    exact r_drR gm gs m6 (hm2 (by omega)) (by show some (Sum.inl _) = some (Sum.inl _); unfold lr_droughts; rw [if_pos (by omega)]) (M.1 s 222).toNat 0 _ _ (by have := hm2 (by omega); omega) (by decide) (show mj_in 0 from ⟨by decide, by decide⟩)
  · skip
    refine w_ic ?_
    exact w_iret (fun q => by cases q) (by show some (Sum.inl _) = some (Sum.inl _); unfold lr_droughts; rw [if_neg (by omega)])
end
section
/-! ===== a SENTENCE as told ===== -/
/-- which word a token is; 24: none that texts know -/
def se_j (t : (Nat × Nat × Int × List Int × Nat)) : Nat := if t.1 = 1 then rv_rs.findIdx (fun w => decide (w = t.2.2.2.1)) else 24
theorem se_j_le (t : (Nat × Nat × Int × List Int × Nat)) : se_j t ≤ 24 := by
  unfold se_j
  split
  · exact List.findIdx_le_length
  · exact Nat.le_refl 24
theorem se_j_lt {t : (Nat × Nat × Int × List Int × Nat)} (h : se_j t < 24) : t.1 = 1 ∧ rv_rs.getD (se_j t) [] = t.2.2.2.1 := by
  unfold se_j at h ⊢
  by_cases c : t.1 = 1
  · rw [if_pos c] at h ⊢
    have hl : rv_rs.findIdx (fun w => decide (w = t.2.2.2.1)) < rv_rs.length := h
    have e := List.findIdx_getElem (w := hl)
    refine ⟨c, ?_⟩
    rw [List.getD_eq_getElem?_getD, List.getElem?_eq_getElem hl]
    exact of_decide_eq_true e
  · rw [if_neg c] at h; exact absurd h (Nat.lt_irrefl 24)
theorem se_j_of {t : (Nat × Nat × Int × List Int × Nat)} {j : Nat} (h1 : t.1 = 1) (hj : j < 24) (e : rv_rs.getD j [] = t.2.2.2.1) : se_j t = j := by
  have hl : j < rv_rs.length := hj
  have e2 : rv_rs[j] = t.2.2.2.1 := by
    rw [List.getD_eq_getElem?_getD, List.getElem?_eq_getElem hl] at e
    exact e
  have h : se_j t < 24 := by
    unfold se_j
    rw [if_pos h1]
    exact List.findIdx_lt_length.mpr ⟨rv_rs[j], List.getElem_mem hl, decide_eq_true e2⟩
  exact rv_rs_i _ h _ hj ((se_j_lt h).2.trans e.symm)
theorem se_j_no {t : (Nat × Nat × Int × List Int × Nat)} (h : se_j t = 24) (h1 : t.1 = 1) : rv_nam t.2.2.2.1 := fun j hj e => by
  have := se_j_of h1 hj e
  omega
def se_s (t : (Nat × Nat × Int × List Int × Nat)) (c : Int) : Prop := t.1 = 3 ∧ t.2.2.1 = c
def se_z (t : (Nat × Nat × Int × List Int × Nat)) : Prop := t.1 = 3 ∧ 60 ≤ t.2.2.1 ∧ t.2.2.1 ≤ 62
/-- whether a token begins a ONE -/
def se_b (t : (Nat × Nat × Int × List Int × Nat)) : Prop := se_s t 40 ∨ (14 ≤ se_j t ∧ se_j t < 24)
/-- a sign and a number of a measure, the sign being at q -/
def se_M (T : Nat → (Nat × Nat × Int × List Int × Nat)) (Kf : Int → Nat → Prop) (q : Nat) (K : Int → Int → Nat → Prop) : Prop := (se_z (T q) → sp_num T 0 999 (rv_x T q) Kf (K (T q).2.2.1 (T (rv_x T q)).2.2.1 (rv_x T (rv_x T q)))) ∧ (¬ se_z (T q) → Kf 1 (T q).2.1)
/-- 0 a ONE, 1 what is joined to it by and, 2 an ALL, 3 a COND, 4 what is joined by or: at depth d, from the token at q on, o ONES and the codes cs being told -/
def se_P (T : Nat → (Nat × Nat × Int × List Int × Nat)) (Kf : Int → Nat → Prop) : Nat → Nat → Nat → (Nat → Nat → (List (Nat × Int × Int)) → Prop) → Nat → Nat → (List (Nat × Int × Int)) → Prop
  | 0, _, _, _, _, _, _ => False
  | N + 1, 0, d, Ko, q, o, cs => (se_b (T q) → ((20 ≤ o ∨ 8 < d) → Kf 4 (T q).2.1) ∧ (¬ (20 ≤ o ∨ 8 < d) → (se_s (T q) 40 → se_P T Kf N 3 (d + 1) (fun q o cs => (se_s (T q) 41 → Ko (rv_x T q) o cs) ∧ (¬ se_s (T q) 41 → Kf 1 (T q).2.1)) (rv_x T q) (o + 1) cs) ∧ (se_j (T q) = 14 → se_P T Kf N 0 (d + 1) (fun q o cs => Ko q o (cs ++ [(14, 0, 0)])) (rv_x T q) (o + 1) cs) ∧ (se_j (T q) = 15 ∨ se_j (T q) = 16 → Ko (rv_x T q) (o + 1) (cs ++ [(se_j (T q), 0, 0)])) ∧ (17 ≤ se_j (T q) → se_j (T q) < 24 → se_M T Kf (rv_x T q) (fun z v q' => Ko q' (o + 1) (cs ++ [(se_j (T q), z, v)]))))) ∧ (¬ se_b (T q) → Kf 1 (T q).2.1)
  | N + 1, 1, d, Ko, q, o, cs => (se_j (T q) = 13 → se_P T Kf N 0 d (fun q o cs => se_P T Kf N 1 d Ko q o (cs ++ [(13, 0, 0)])) (rv_x T q) o cs) ∧ (¬ se_j (T q) = 13 → Ko q o cs)
  | N + 1, 2, d, Ko, q, o, cs => se_P T Kf N 0 d (fun q o cs => se_P T Kf N 1 d Ko q o cs) q o cs
  | N + 1, 3, d, Ko, q, o, cs => se_P T Kf N 2 d (fun q o cs => se_P T Kf N 4 d Ko q o cs) q o cs
  | N + 1, _ + 4, d, Ko, q, o, cs => (se_j (T q) = 12 → se_P T Kf N 2 d (fun q o cs => se_P T Kf N 4 d Ko q o (cs ++ [(12, 0, 0)])) (rv_x T q) o cs) ∧ (¬ se_j (T q) = 12 → Ko q o cs)
/-- the whole text -/
def se_A (T : Nat → (Nat × Nat × Int × List Int × Nat)) (Kf : Int → Nat → Prop) (K : Nat → (List (Nat × Int × Int)) → Prop) (N : Nat) : Prop := se_P T Kf N 3 1 (fun q o cs => ((T q).1 = 0 → K o cs) ∧ (¬ (T q).1 = 0 → Kf 1 (T q).2.1)) 0 0 []
/-- how much is left behind the token at q -/
def se_mu (T : Nat → (Nat × Nat × Int × List Int × Nat)) (n q : Nat) : Nat := if (T q).1 = 0 ∨ (T q).1 = 5 then 0 else 1 + n - rv_x T q
def se_ne : Nat → Nat
  | 2 => 2
  | 3 => 3
  | _ => 1
theorem se_mu_lt {T : Nat → (Nat × Nat × Int × List Int × Nat)} {n q : Nat} (hw : ∀ q, q ≤ n → rv_tw n q (T q)) (hq : q ≤ n) (h0 : (T q).1 ≠ 0) (h5 : (T q).1 ≠ 5) : se_mu T n (rv_x T q) < se_mu T n q ∧ rv_x T q ≤ n := by
  have w := hw q hq
  have l : rv_x T q ≤ n := w.2.2.2.2.2
  refine ⟨?_, l⟩
  have e : se_mu T n q = 1 + n - rv_x T q := if_neg (by omega)
  rw [e]
  have w2 := hw (rv_x T q) l
  by_cases c : (T (rv_x T q)).1 = 0 ∨ (T (rv_x T q)).1 = 5
  · rw [show se_mu T n (rv_x T q) = 0 from if_pos c]; omega
  · rw [show se_mu T n (rv_x T q) = 1 + n - rv_x T (rv_x T q) from if_neg c]
    have b := w2.2.2.2.1 (by omega) (by omega)
    have b2 := w2.2.2.2.2.2
    unfold rv_x at *
    omega
theorem se_mu_le {T : Nat → (Nat × Nat × Int × List Int × Nat)} {n q : Nat} (hw : ∀ q, q ≤ n → rv_tw n q (T q)) (hq : q ≤ n) : rv_x T q ≤ n := (hw q hq).2.2.2.2.2
section DS
variable {β : Type} {T : Nat → (Nat × Nat × Int × List Int × Nat)} {n : Nat} {K : Nat → Nat → (List (Nat × Int × Int)) → (((Int × Nat) ⊕ β) → Prop) → Prop}
theorem dg_M {q : Nat} {K : Int → Int → Nat → (((Int × Nat) ⊕ β) → Prop) → Prop} (hK : (T q).1 = 3 → (T (rv_x T q)).1 = 2 → ∀ z v, rv_Dg (K z v (rv_x T (rv_x T q)))) : rv_Dg (fun P => se_M T (fun f a => P (.inl (f, a))) q (fun z v q' => K z v q' P)) := by
  unfold se_M
  by_cases c : se_z (T q)
  · by_cases c2 : (T (rv_x T q)).1 = 2
    · obtain ⟨y, hy⟩ := dg_num (T := T) (p := rv_x T q) (lo := 0) (hi := 999) (A := fun P => K (T q).2.2.1 (T (rv_x T q)).2.2.1 (rv_x T (rv_x T q)) P) (hK c.1 c2 _ _)
      exact ⟨y, fun P p => ⟨fun _ => hy P p, fun h => absurd c h⟩⟩
    · exact ⟨.inl (1, (T (rv_x T q)).2.1), fun P p => ⟨fun _ => ⟨fun h => absurd h c2, fun _ => p⟩, fun h => absurd c h⟩⟩
  · exact ⟨.inl (1, (T q).2.1), fun P p => ⟨fun h => absurd h c, fun _ => p⟩⟩
theorem dg_P (hw : ∀ q, q ≤ n → rv_tw n q (T q)) : ∀ (N mo d : Nat) (K : Nat → Nat → (List (Nat × Int × Int)) → (((Int × Nat) ⊕ β) → Prop) → Prop) (q o : Nat) (cs : (List (Nat × Int × Int))), q ≤ n → 4 * se_mu T n q + se_ne mo ≤ N → (∀ q' o' cs', q' ≤ n → se_mu T n q' ≤ se_mu T n q → rv_Dg (K q' o' cs')) → rv_Dg (fun P => se_P T (fun f a => P (.inl (f, a))) N mo d (fun q o cs => K q o cs P) q o cs)
  | 0, mo, d, K, q, o, cs, hq, hN, hK => by
    exfalso
    have : 1 ≤ se_ne mo := by
      unfold se_ne
      split <;> decide
    omega
  | N + 1, 0, d, K, q, o, cs, hq, hN, hK => by
    have hN : 4 * se_mu T n q + 1 ≤ N + 1 := hN
    by_cases cb : se_b (T q)
    · by_cases co : 20 ≤ o ∨ 8 < d
      · exact ⟨.inl (4, (T q).2.1), fun P p => ⟨fun _ => ⟨fun _ => p, fun h => absurd co h⟩, fun h => absurd cb h⟩⟩
      · have hk : (T q).1 ≠ 0 ∧ (T q).1 ≠ 5 := by
          rcases cb with e | e
          · exact ⟨by rw [e.1]; decide, by rw [e.1]; decide⟩
          · have := (se_j_lt e.2).1; omega
        obtain ⟨m1, m2⟩ := se_mu_lt hw hq hk.1 hk.2
        by_cases c40 : se_s (T q) 40
        · have nj : ¬ se_j (T q) < 24 := fun h => by have := (se_j_lt h).1; have := c40.1; omega
          obtain ⟨y, hy⟩ := dg_P hw N 3 (d + 1) (fun q o cs P => (se_s (T q) 41 → K (rv_x T q) o cs P) ∧ (¬ se_s (T q) 41 → P (.inl (1, (T q).2.1)))) (rv_x T q) (o + 1) cs m2 (by show 4 * _ + 3 ≤ N; omega) (fun q' o' cs' l1 l2 => by
            by_cases c41 : se_s (T q') 41
            · have l3 := se_mu_lt hw l1 (by rw [c41.1]; decide) (by rw [c41.1]; decide)
              obtain ⟨y, hy⟩ := hK (rv_x T q') o' cs' l3.2 (by omega)
              exact ⟨y, fun P p => ⟨fun _ => hy P p, fun h => absurd c41 h⟩⟩
            · exact ⟨.inl (1, (T q').2.1), fun P p => ⟨fun h => absurd h c41, fun _ => p⟩⟩)
          exact ⟨y, fun P p => ⟨fun _ => ⟨fun h => absurd h co, fun _ => ⟨fun _ => hy P p, fun h => absurd (by omega) nj, fun h => absurd (by omega) nj, fun _ h => absurd h nj⟩⟩, fun h => absurd cb h⟩⟩
        · have hj : 14 ≤ se_j (T q) ∧ se_j (T q) < 24 := cb.resolve_left c40
          by_cases c14 : se_j (T q) = 14
          · obtain ⟨y, hy⟩ := dg_P hw N 0 (d + 1) (fun q o cs P => K q o (cs ++ [(14, 0, 0)]) P) (rv_x T q) (o + 1) cs m2 (by show 4 * _ + 1 ≤ N; omega) (fun q' o' cs' l1 l2 => hK q' o' _ l1 (by omega))
            exact ⟨y, fun P p => ⟨fun _ => ⟨fun h => absurd h co, fun _ => ⟨fun h => absurd h c40, fun _ => hy P p, fun h => by exfalso; omega, fun h _ => by exfalso; omega⟩⟩, fun h => absurd cb h⟩⟩
          · by_cases c15 : se_j (T q) = 15 ∨ se_j (T q) = 16
            · obtain ⟨y, hy⟩ := hK (rv_x T q) (o + 1) (cs ++ [(se_j (T q), 0, 0)]) m2 (by omega)
              exact ⟨y, fun P p => ⟨fun _ => ⟨fun h => absurd h co, fun _ => ⟨fun h => absurd h c40, fun h => absurd h c14, fun _ => hy P p, fun h _ => by exfalso; omega⟩⟩, fun h => absurd cb h⟩⟩
            · obtain ⟨y, hy⟩ := dg_M (T := T) (q := rv_x T q) (K := fun z v q' P => K q' (o + 1) (cs ++ [(se_j (T q), z, v)]) P) (fun k3 k2 z v => by
                have l1 := se_mu_lt hw m2 (by rw [k3]; decide) (by rw [k3]; decide)
                have l2 := se_mu_lt hw l1.2 (by rw [k2]; decide) (by rw [k2]; decide)
                exact hK _ _ _ l2.2 (by omega))
              exact ⟨y, fun P p => ⟨fun _ => ⟨fun h => absurd h co, fun _ => ⟨fun h => absurd h c40, fun h => absurd h c14, fun h => absurd h c15, fun _ _ => hy P p⟩⟩, fun h => absurd cb h⟩⟩
    · exact ⟨.inl (1, (T q).2.1), fun P p => ⟨fun h => absurd h cb, fun _ => p⟩⟩
  | N + 1, 1, d, K, q, o, cs, hq, hN, hK => by
    have hN : 4 * se_mu T n q + 1 ≤ N + 1 := hN
    by_cases c : se_j (T q) = 13
    · have k1 := (se_j_lt (t := T q) (by omega)).1
      obtain ⟨m1, m2⟩ := se_mu_lt hw hq (by omega) (by omega)
      obtain ⟨y, hy⟩ := dg_P hw N 0 d (fun q o cs P => se_P T (fun f a => P (.inl (f, a))) N 1 d (fun q o cs => K q o cs P) q o (cs ++ [(13, 0, 0)])) (rv_x T q) o cs m2 (by show 4 * _ + 1 ≤ N; omega) (fun q' o' cs' l1 l2 => dg_P hw N 1 d K q' o' _ l1 (by show 4 * _ + 1 ≤ N; omega) (fun q'' o'' cs'' g1 g2 => hK q'' o'' cs'' g1 (by omega)))
      exact ⟨y, fun P p => ⟨fun _ => hy P p, fun h => absurd c h⟩⟩
    · obtain ⟨y, hy⟩ := hK q o cs hq (Nat.le_refl _)
      exact ⟨y, fun P p => ⟨fun h => absurd h c, fun _ => hy P p⟩⟩
  | N + 1, 2, d, K, q, o, cs, hq, hN, hK => by
    have hN : 4 * se_mu T n q + 2 ≤ N + 1 := hN
    exact dg_P hw N 0 d (fun q o cs P => se_P T (fun f a => P (.inl (f, a))) N 1 d (fun q o cs => K q o cs P) q o cs) q o cs hq (by show 4 * _ + 1 ≤ N; omega) (fun q' o' cs' l1 l2 => dg_P hw N 1 d K q' o' _ l1 (by show 4 * _ + 1 ≤ N; omega) (fun q'' o'' cs'' g1 g2 => hK q'' o'' cs'' g1 (by omega)))
  | N + 1, 3, d, K, q, o, cs, hq, hN, hK => by
    have hN : 4 * se_mu T n q + 3 ≤ N + 1 := hN
    exact dg_P hw N 2 d (fun q o cs P => se_P T (fun f a => P (.inl (f, a))) N 4 d (fun q o cs => K q o cs P) q o cs) q o cs hq (by show 4 * _ + 2 ≤ N; omega) (fun q' o' cs' l1 l2 => dg_P hw N 4 d K q' o' _ l1 (by show 4 * _ + 1 ≤ N; omega) (fun q'' o'' cs'' g1 g2 => hK q'' o'' cs'' g1 (by omega)))
  | N + 1, _ + 4, d, K, q, o, cs, hq, hN, hK => by
    have hN : 4 * se_mu T n q + 1 ≤ N + 1 := hN
    by_cases c : se_j (T q) = 12
    · have k1 := (se_j_lt (t := T q) (by omega)).1
      obtain ⟨m1, m2⟩ := se_mu_lt hw hq (by omega) (by omega)
      obtain ⟨y, hy⟩ := dg_P hw N 2 d (fun q o cs P => se_P T (fun f a => P (.inl (f, a))) N 4 d (fun q o cs => K q o cs P) q o (cs ++ [(12, 0, 0)])) (rv_x T q) o cs m2 (by show 4 * _ + 2 ≤ N; omega) (fun q' o' cs' l1 l2 => dg_P hw N 4 d K q' o' _ l1 (by show 4 * _ + 1 ≤ N; omega) (fun q'' o'' cs'' g1 g2 => hK q'' o'' cs'' g1 (by omega)))
      exact ⟨y, fun P p => ⟨fun _ => hy P p, fun h => absurd c h⟩⟩
    · obtain ⟨y, hy⟩ := hK q o cs hq (Nat.le_refl _)
      exact ⟨y, fun P p => ⟨fun h => absurd h c, fun _ => hy P p⟩⟩
theorem dg_A (hw : ∀ q, q ≤ n → rv_tw n q (T q)) : rv_Dg (β := Nat × (List (Nat × Int × Int))) (fun P => se_A T (fun f a => P (.inl (f, a))) (fun o cs => P (.inr (o, cs))) (4 * n + 7)) := by
  refine dg_P hw (4 * n + 7) 3 1 (fun q o cs P => ((T q).1 = 0 → P (.inr (o, cs))) ∧ (¬ (T q).1 = 0 → P (.inl (1, (T q).2.1)))) 0 0 [] (Nat.zero_le n) ?_ (fun q' o' cs' _ _ => ?_)
  · have : se_mu T n 0 ≤ 1 + n := by
      unfold se_mu
      split <;> omega
    show 4 * se_mu T n 0 + 3 ≤ 4 * n + 7
    omega
  · by_cases c : (T q').1 = 0
    · exact ⟨.inr (o', cs'), fun P p => ⟨fun _ => p, fun h => absurd c h⟩⟩
    · exact ⟨.inl (1, (T q').2.1), fun P p => ⟨fun h => absurd h c, fun _ => p⟩⟩
end DS
/-- the spec asks for less where the outcomes do -/
theorem se_M.mono {T : Nat → (Nat × Nat × Int × List Int × Nat)} {Kf Kf' : Int → Nat → Prop} {q : Nat} {K K' : Int → Int → Nat → Prop} (h : se_M T Kf q K) (hf : ∀ f a, Kf f a → Kf' f a) (ho : ∀ z v q, K z v q → K' z v q) : se_M T Kf' q K' := ⟨fun c => (h.1 c).mono hf (fun _ _ _ k => ho _ _ _ k), fun c => hf _ _ (h.2 c)⟩
theorem se_P.mono {T : Nat → (Nat × Nat × Int × List Int × Nat)} {Kf Kf' : Int → Nat → Prop} (hf : ∀ f a, Kf f a → Kf' f a) : ∀ (N mo d : Nat) (Ko Ko' : Nat → Nat → (List (Nat × Int × Int)) → Prop) (q o : Nat) (cs : (List (Nat × Int × Int))), (∀ q o cs, Ko q o cs → Ko' q o cs) → se_P T Kf N mo d Ko q o cs → se_P T Kf' N mo d Ko' q o cs
  | 0, _, _, _, _, _, _, _, _, h => False.elim h
  | N + 1, 0, d, Ko, Ko', q, o, cs, ho, h => ⟨fun cb => ⟨fun c => hf _ _ ((h.1 cb).1 c), fun c => ⟨fun e => se_P.mono hf N 3 (d + 1) _ _ _ _ _ (fun q o cs k => ⟨fun g => ho _ _ _ (k.1 g), fun g => hf _ _ (k.2 g)⟩) (((h.1 cb).2 c).1 e), fun e => se_P.mono hf N 0 (d + 1) _ _ _ _ _ (fun q o cs k => ho _ _ _ k) (((h.1 cb).2 c).2.1 e), fun e => ho _ _ _ (((h.1 cb).2 c).2.2.1 e), fun e1 e2 => (((h.1 cb).2 c).2.2.2 e1 e2).mono hf (fun _ _ _ k => ho _ _ _ k)⟩⟩, fun cb => hf _ _ (h.2 cb)⟩
  | N + 1, 1, d, Ko, Ko', q, o, cs, ho, h => ⟨fun c => se_P.mono hf N 0 d _ _ _ _ _ (fun q o cs k => se_P.mono hf N 1 d _ _ _ _ _ ho k) (h.1 c), fun c => ho _ _ _ (h.2 c)⟩
  | N + 1, 2, d, Ko, Ko', q, o, cs, ho, h => se_P.mono hf N 0 d _ _ _ _ _ (fun q o cs k => se_P.mono hf N 1 d _ _ _ _ _ ho k) h
  | N + 1, 3, d, Ko, Ko', q, o, cs, ho, h => se_P.mono hf N 2 d _ _ _ _ _ (fun q o cs k => se_P.mono hf N 4 d _ _ _ _ _ ho k) h
  | N + 1, _ + 4, d, Ko, Ko', q, o, cs, ho, h => ⟨fun c => se_P.mono hf N 2 d _ _ _ _ _ (fun q o cs k => se_P.mono hf N 4 d _ _ _ _ _ ho k) (h.1 c), fun c => ho _ _ _ (h.2 c)⟩
end
section
/-! ===== the class reads a SENTENCE: leaves ===== -/
theorem w_aast {d : Nat} {full : List mj_E} {Q : mj_P} {rest : List mj_E} {L : mj_L} {st : List mj_V} {G : mj_G} {M : mj_M} {cb sb pc : Nat} {aux : List Nat} {im : Int} {a b t n x y : Nat} {i : Int} (ha : G a = (t, n)) (ht : t % 1000 = 105) (h9 : t < 900000) (h0 : 0 ≤ i) (h1 : i < n) (gb : G b = (x, y)) (hx : x % 1000 = 50) (kk : wz d full Q rest L st G (mj_p2 M a i.toNat (some b)) cb sb) : wz d full Q ((.aastore, pc, 5 :: aux, im) :: rest) L (.inr (.inr (some b)) :: .inl i :: .inr (.inr (some a)) :: st) G M cb sb := wz_st ⟨t, n, ha, ht, h9, h0, h1, fun b' hb => Or.inr ⟨rfl, x, y, by cases hb; exact gb, hx, trivial⟩, kk⟩
/-- the cells of a SENTENCE -/
def se_D (G : mj_G) (M : mj_M) (se st sg nu : Nat) : Prop := G se = (1006, 0) ∧ G st = (34105, 40) ∧ G sg = (35100, 40) ∧ G nu = (36100, 40) ∧ M.2.2 se 0 = some st ∧ M.2.2 se 1 = some sg ∧ M.2.2 se 2 = some nu
/-- the codes cs and o ONES are told there -/
def se_R (G : mj_G) (M : mj_M) (se st sg nu : Nat) (cs : (List (Nat × Int × Int))) (o : Nat) : Prop := M.1 se 4 = (cs.length : Int) ∧ M.1 se 5 = (o : Int) ∧ ∀ j, j < cs.length → (∃ a, M.2.2 st j = some a ∧ G a = (900050 + 1000 * (cs.getD j (0, 0, 0)).1, 0)) ∧ M.1 sg j = (cs.getD j (0, 0, 0)).2.1 ∧ M.1 nu j = (cs.getD j (0, 0, 0)).2.2
def se_o (se st sg nu : Nat) (M0 M : mj_M) : Prop := (∀ a, a ≠ se → a ≠ sg → a ≠ nu → M.1 a = M0.1 a) ∧ M.2.1 = M0.2.1 ∧ ∀ a, a ≠ st → M.2.2 a = M0.2.2 a
theorem se_o.refl {se st sg nu : Nat} {M0 : mj_M} : se_o se st sg nu M0 M0 := ⟨fun _ _ _ _ => rfl, rfl, fun _ _ => rfl⟩
theorem se_o.trans {se st sg nu : Nat} {M0 M1 M2 : mj_M} (h1 : se_o se st sg nu M0 M1) (h2 : se_o se st sg nu M1 M2) : se_o se st sg nu M0 M2 := ⟨fun a b1 b2 b3 => (h2.1 a b1 b2 b3).trans (h1.1 a b1 b2 b3), h2.2.1.trans h1.2.1, fun a b => (h2.2.2 a b).trans (h1.2.2 a b)⟩
theorem se_gl {cs : (List (Nat × Int × Int))} {c x : Nat × Int × Int} {j : Nat} (h : j < cs.length) : (cs ++ [c]).getD j x = cs.getD j x := by
  rw [List.getD_eq_getElem?_getD, List.getD_eq_getElem?_getD, List.getElem?_append_left h]
theorem se_gr {cs : (List (Nat × Int × Int))} {c x : Nat × Int × Int} : (cs ++ [c]).getD cs.length x = c := by
  rw [List.getD_eq_getElem?_getD, List.getElem?_append_right (Nat.le_refl _), Nat.sub_self]; rfl
theorem se_len {cs : (List (Nat × Int × Int))} {c : Nat × Int × Int} : (cs ++ [c]).length = cs.length + 1 := by rw [List.length_append]; rfl
theorem se_eq {G : mj_G} {w a j k : Nat} (hI : ∀ a b, (G a).1 % 1000 = 50 → G a = G b → a = b) (gw : G w = (900050 + 1000 * j, 0)) (ga : G a = (900050 + 1000 * k, 0)) : (some w = some a → j = k) ∧ (j = k → some w = some a) := by
  constructor
  · intro e
    have e := Option.some.inj e
    subst e
    have := (Prod.mk.inj (gw.symm.trans ga)).1
    omega
  · intro e
    subst e
    exact congrArg some (hI w a (by rw [gw]; show (900050 + 1000 * j) % 1000 = 50; omega) (gw.trans ga.symm))
section UB
variable {G : mj_G} {M0 M : mj_M} {B : Nat → Int} {n tp bc pl na ta ba wa oa : Nat} {tr br : Nat → Nat} {T : Nat → (Nat × Nat × Int × List Int × Nat)} {PL WA OA : Nat → Int} {TO BI : Nat → Nat → Int} {nm : Nat → List Int} {Q : mj_P} {d q : Nat} {se st sg nu : Nat} {cs : (List (Nat × Int × Int))} {o j w : Nat} {z v c : Int} {t : (Nat × Nat × Int × List Int × Nat)}
theorem se_D.so {M1 : mj_M} (hD : se_D G M0 se st sg nu) (h : se_o se st sg nu M0 M1) : se_D G M1 se st sg nu := by
  obtain ⟨g1, g2, g3, g4, e0, e1, e2⟩ := hD
  have n1 : se ≠ st := hn_ne g1 g2 (by decide)
  exact ⟨g1, g2, g3, g4, by rw [h.2.2 se n1]; exact e0, by rw [h.2.2 se n1]; exact e1, by rw [h.2.2 se n1]; exact e2⟩
theorem rv_AT.so {M1 : mj_M} (hA : rv_AT G M0 B n 200 tp bc pl na ta ba wa oa tr br T) (hD : se_D G M0 se st sg nu) (h : se_o se st sg nu M0 M1) : rv_AT G M1 B n 200 tp bc pl na ta ba wa oa tr br T := by
  obtain ⟨⟨gtp, gbc, gpl, gna, gta, gba, gwa, goa, gtr, gbr, itr, ibr, r1, r2, r3, r4, r5, r6, r7, r8, rb, rw0, n1, n2, hIw⟩, hT⟩ := id hA
  obtain ⟨g1, g2, g3, g4, e0, e1, e2⟩ := hD
  refine ⟨⟨gtp, gbc, gpl, gna, gta, gba, gwa, goa, gtr, gbr, itr, ibr, ?_, ?_, ?_, ?_, ?_, ?_, fun t ht => ?_, fun t ht => ?_, fun k => by rw [h.1 bc (hn_ne gbc g1 (by decide)) (hn_ne gbc g3 (by decide)) (hn_ne gbc g4 (by decide))]; exact rb k, fun a ha k hk => ?_, n1, n2, hIw⟩, hT⟩
  · rw [h.2.2 tp (hn_ne gtp g2 (by decide))]; exact r1
  · rw [h.2.2 pl (hn_ne gpl g2 (by decide))]; exact r2
  · rw [h.2.2 pl (hn_ne gpl g2 (by decide))]; exact r3
  · rw [h.2.2 pl (hn_ne gpl g2 (by decide))]; exact r4
  · rw [h.2.2 pl (hn_ne gpl g2 (by decide))]; exact r5
  · rw [h.2.2 pl (hn_ne gpl g2 (by decide))]; exact r6
  · rw [h.2.2 ta (hn_ne gta g2 (by decide))]; exact r7 t ht
  · rw [h.2.2 ba (hn_ne gba g2 (by decide))]; exact r8 t ht
  · rw [h.2.2 a (hn_ne ha g2 (by decide))]; exact rw0 a ha k hk
theorem rv_S.put2 {a j x y : Nat} {b : Option Nat} (hA : rv_AT G M0 B n 200 tp bc pl na ta ba wa oa tr br T) (hS : rv_S G M0 n 200 tp pl na wa oa tr br t PL WA OA TO BI nm M) (g : G a = (x, y)) (hx : x ≠ 1008) : rv_S G (mj_p2 M0 a j b) n 200 tp pl na wa oa tr br t PL WA OA TO BI nm (mj_p2 M a j b) := by
  have gtp := hA.1.1
  have n1 : a ≠ tp := hn_ne g gtp hx
  obtain ⟨h1, h4, h5, h6, h7, h8, h9, h10, f1, f2, f3⟩ := hS
  refine ⟨h1, h4.cg rfl rfl (funext fun k => wz_nr (Or.inl n1.symm)), h5, h6, h7, h8, h9, h10, f1, f2, fun c k hk => ?_⟩
  by_cases e : c = a ∧ k = j
  · rw [e.1, e.2]; exact wz_sr.trans wz_sr.symm
  · have ne : c ≠ a ∨ k ≠ j := by
      by_cases e1 : c = a
      · exact Or.inr (fun e2 => e ⟨e1, e2⟩)
      · exact Or.inl e1
    exact (wz_nr ne).trans ((f3 c k hk).trans (wz_nr ne).symm)
/-- the word of the token now -/
theorem se_wd (hA : rv_AT G M0 B n 200 tp bc pl na ta ba wa oa tr br T) (hS : rv_S G M0 n 200 tp pl na wa oa tr br (T q) PL WA OA TO BI nm M) (hq : q ≤ n) : (∃ w, M.2.2 tp 9 = some w ∧ se_j (T q) < 24 ∧ G w = (900050 + 1000 * se_j (T q), 0)) ∨ (se_j (T q) = 24 ∧ M.2.2 tp 9 = none) := by
  obtain ⟨k4, k5, k11, k6, k7, k8, k9⟩ := id hS.2.1
  by_cases c : (T q).1 = 1
  · rcases (k8 c).2 with ⟨j, w, j1, j2, gw, e9⟩ | ⟨j1, e9⟩
    · have e := se_j_of c j1 (rv_5i (rv_rs_o j j1) (rv_x_wo hA hq c) ((rv_rs_5 j j1).trans j2))
      exact Or.inl ⟨w, e9, by omega, by rw [e]; exact gw⟩
    · refine Or.inr ⟨?_, e9⟩
      have l := se_j_le (T q)
      rcases Nat.lt_or_ge (se_j (T q)) 24 with h | h
      · exfalso
        have e := (se_j_lt h).2
        exact j1 _ h ((rv_rs_5 _ h).symm.trans (by rw [e]))
      · omega
  · exact Or.inr ⟨by unfold se_j; rw [if_neg c], k9 c⟩
theorem r_X7_isSign (hA : rv_AT G M0 B n 200 tp bc pl na ta ba wa oa tr br T) (hS : rv_S G M0 n 200 tp pl na wa oa tr br (T q) PL WA OA TO BI nm M) (h1 : se_s (T q) c → Q (some (.inl 1)) G M) (h0 : ¬ se_s (T q) c → Q (some (.inl 0)) G M) : mj_R mj_tab (d + 1) 75 [.inr (.inr (some tp)), .inl c] G M Q := by
  have gtp := hA.1.1
  obtain ⟨k4, k5, k11, k6, k7, k8, k9⟩ := id hS.2.1
  have out : ¬ se_s (T q) c → ∀ cb sb, wz d mt_X7_isSign.2.2.2.2.1 Q (mt_X7_isSign.2.2.2.2.1.drop 10) [some (.inr (.inr (some tp))), some (.inl c)] [] G M cb sb := fun e cb sb => by
    refine w_ic ?_
    exact w_iret (fun _ => Or.inl rfl) (h0 e)
  refine ⟨Nat.le_of_ble_eq_true rfl, ?_⟩
  show wz d mt_X7_isSign.2.2.2.2.1 Q mt_X7_isSign.2.2.2.2.1 [some (.inr (.inr (some tp))), some (.inl c)] [] G M _ _
  refine w_aln rfl ?_
  refine w_gi gtp rfl (by decide) rfl rfl ?_
  refine w_ic ?_
  refine w_cmne (fun e => out (fun g => by have := g.1; omega) _ _) (fun e => ?_)
  have k3 : (T q).1 = 3 := by omega
  refine w_aln rfl ?_
  refine w_gi gtp rfl (by decide) rfl (k7 k3) ?_
  refine w_iln rfl ?_
  refine w_cmne (fun e => out (fun g => e g.2) _ _) (fun e => ?_)
  refine w_ic ?_
  refine w_goto ?_
  exact w_iret (fun _ => Or.inr rfl) (h1 ⟨k3, e⟩)
theorem r_X7_fin (hA : rv_AT G M0 B n 200 tp bc pl na ta ba wa oa tr br T) (hS : rv_S G M0 n 200 tp pl na wa oa tr br (T q) PL WA OA TO BI nm M) (h0 : (T q).1 = 0 → Q (some (.inl 1)) G M) (h5 : ¬ (T q).1 = 0 → ∀ M', rv_F tp pl na wa oa tr br M0 1 (T q).2.1 M' → Q (some (.inl 0)) G M') : mj_R mj_tab (d + 2) 70 [.inr (.inr (some tp))] G M Q := by
  by_cases hc : (T q).1 = 0 ∨ (T q).1 = 5
  · exact r_X7_finish hA hS h0 (fun e => h5 (by omega)) hc
  · have gtp := hA.1.1
    obtain ⟨k4, k5, k11, k6, k7, k8, k9⟩ := id hS.2.1
    refine ⟨Nat.le_of_ble_eq_true rfl, ?_⟩
    show wz (d + 1) mt_X7_finish.2.2.2.2.1 Q mt_X7_finish.2.2.2.2.1 [some (.inr (.inr (some tp)))] [] G M _ _
    refine w_aln rfl ?_
    refine w_gi gtp rfl (by decide) rfl rfl ?_
    refine w_ifne (fun c => ?_) (fun c => by exfalso; omega)
    refine w_aln rfl ?_
    refine w_ic ?_
    refine w_cv (st := []) rfl gtp rfl (Nat.le_of_ble_eq_true rfl) (fun kk h => h) (r_X7_refuse (d := d) hA hS (by decide) (fun M' F => ?_))
    refine w_ifeq (fun c => ?_) (fun c => absurd rfl c)
    refine w_ic ?_
    exact w_iret (fun _ => Or.inl rfl) (h5 (by omega) M' F)
theorem r_X5_add (hA : rv_AT G M0 B n 200 tp bc pl na ta ba wa oa tr br T) (hS : rv_S G M0 n 200 tp pl na wa oa tr br t PL WA OA TO BI nm M) (hD : se_D G M0 se st sg nu) (hR : se_R G M0 se st sg nu cs o) (hl : cs.length < 40) (gw : G w = (900050 + 1000 * j, 0)) (hQ : ∀ M0' M', rv_AT G M0' B n 200 tp bc pl na ta ba wa oa tr br T → se_o se st sg nu M0 M0' → rv_S G M0' n 200 tp pl na wa oa tr br t PL WA OA TO BI nm M' → se_R G M0' se st sg nu (cs ++ [(j, z, v)]) o → Q (some (.inl 1)) G M') : mj_R mj_tab (d + 1) 54 [.inr (.inr (some se)), .inr (.inr (some w)), .inl z, .inl v] G M Q := by
  have hD0 := hD
  obtain ⟨gse, gst, gsg, gnu, e0, e1, e2⟩ := hD0
  obtain ⟨s4, s5, sj⟩ := hR
  have gtp := hA.1.1
  have hx : ∀ x ∈ [1006, 34105, 35100, 36100], x ≠ 1008 ∧ x ≠ 1004 ∧ x ≠ 29100 ∧ x ≠ 30100 ∧ x ≠ 26100 ∧ x ≠ 28100 := by decide
  have ese := rv_S.fx hA hS gse (hx _ (by decide))
  have m4 : M.1 se 4 = (cs.length : Int) := (congrFun ese 4).trans s4
  refine ⟨Nat.le_of_ble_eq_true rfl, ?_⟩
  show wz d mt_X5_add.2.2.2.2.1 Q mt_X5_add.2.2.2.2.1 [some (.inr (.inr (some se))), some (.inr (.inr (some w))), some (.inl z), some (.inl v)] [] G M _ _
  refine w_aln rfl ?_
  refine w_gi gse rfl (by decide) rfl m4 ?_
  refine w_bp ?_
  refine w_cmge (fun c => by exfalso; omega) (fun c => ?_)
  refine w_aln rfl ?_
  refine w_gr gse rfl (by decide) rfl (hS.rq gse gtp (by decide) e0) ?_
  refine w_aln rfl ?_
  refine w_gi gse rfl (by decide) rfl m4 ?_
  refine w_aln rfl ?_
  refine w_aast gst rfl (by decide) (by omega) (by show ((cs.length : Nat) : Int) < ((40 : Nat) : Int); omega) gw (by omega) ?_
  refine w_aln rfl ?_
  refine w_gr gse rfl (by decide) rfl ((wz_nr (Or.inl (hn_ne gse gst (by decide)))).trans (hS.rq gse gtp (by decide) e1)) ?_
  refine w_aln rfl ?_
  refine w_gi gse rfl (by decide) rfl m4 ?_
  refine w_iln rfl ?_
  refine w_iast gsg rfl (by decide) (by omega) (by show ((cs.length : Nat) : Int) < ((40 : Nat) : Int); omega) ?_
  refine w_aln rfl ?_
  refine w_gr gse rfl (by decide) rfl ((wz_nr (Or.inl (hn_ne gse gst (by decide)))).trans (hS.rq gse gtp (by decide) e2)) ?_
  refine w_aln rfl ?_
  refine w_gi gse rfl (by decide) rfl ((hn_n (Or.inl (hn_ne gse gsg (by decide)))).trans m4) ?_
  refine w_iln rfl ?_
  refine w_iast gnu rfl (by decide) (by omega) (by show ((cs.length : Nat) : Int) < ((40 : Nat) : Int); omega) ?_
  refine w_aln rfl ?_
  refine w_dupr ?_
  refine w_gi gse rfl (by decide) rfl ((hn_n (Or.inl (hn_ne gse gnu (by decide)))).trans ((hn_n (Or.inl (hn_ne gse gsg (by decide)))).trans m4)) ?_
  refine w_ic ?_
  refine w_add ⟨by omega, by omega⟩ ?_
  refine w_pi gse rfl (by decide) rfl (fun q => by cases q) ?_
  rw [Int.toNat_natCast]
  refine w_ic ?_
  have nsg : sg ≠ se := hn_ne gsg gse (by decide)
  have nnu : nu ≠ se := hn_ne gnu gse (by decide)
  have nsn : sg ≠ nu := hn_ne gsg gnu (by decide)
  have oo : se_o se st sg nu M0 (mj_p0 (mj_p0 (mj_p0 (mj_p2 M0 st cs.length (some w)) sg cs.length z) nu cs.length v) se 4 ((cs.length : Int) + 1)) := ⟨fun a a1 a2 a3 => (wz_c a1).trans ((wz_c a3).trans (wz_c a2)), rfl, fun a a1 => funext fun k => wz_nr (Or.inl a1)⟩
  have a1 : rv_AT G (mj_p2 M0 st cs.length (some w)) B n 200 tp bc pl na ta ba wa oa tr br T := hA.so hD ⟨fun _ _ _ _ => rfl, rfl, fun a a1 => funext fun k => wz_nr (Or.inl a1)⟩
  have s1 := rv_S.put2 (j := cs.length) (b := some w) hA hS gst (by decide)
  have a2 := a1.put (a := sg) (j := cs.length) (v := z) (hn_ne gsg hA.1.2.1 (by decide))
  have s2 := rv_S.put (j := cs.length) (v := z) a1 s1 gsg (hx _ (by decide))
  have a3 := a2.put (a := nu) (j := cs.length) (v := v) (hn_ne gnu hA.1.2.1 (by decide))
  have s3 := rv_S.put (j := cs.length) (v := v) a2 s2 gnu (hx _ (by decide))
  have s4' := rv_S.put (j := 4) (v := (cs.length : Int) + 1) a3 s3 gse (hx _ (by decide))
  refine w_iret (fun _ => Or.inr rfl) (hQ _ _ (hA.so hD oo) oo s4' ⟨hn_s.trans (by rw [se_len]; rfl), (hn_n (Or.inr (by decide))).trans ((hn_n (Or.inl (hn_ne gse gnu (by decide)))).trans ((hn_n (Or.inl (hn_ne gse gsg (by decide)))).trans s5)), fun i hi => ?_⟩)
  rw [se_len] at hi
  by_cases c : i < cs.length
  · obtain ⟨⟨a, p1, p2⟩, p3, p4⟩ := sj i c
    rw [se_gl c]
    exact ⟨⟨a, (wz_nr (Or.inr (by omega))).trans p1, p2⟩, (congrFun (wz_c nsg) i).trans ((congrFun (wz_c nsn) i).trans ((hn_n (Or.inr (by omega))).trans p3)), (congrFun (wz_c nnu) i).trans ((hn_n (Or.inr (by omega))).trans ((congrFun (wz_c nsn.symm) i).trans p4))⟩
  · have e : i = cs.length := by omega
    subst e
    rw [se_gr]
    exact ⟨⟨w, wz_sr, gw⟩, (congrFun (wz_c nsg) _).trans ((congrFun (wz_c nsn) _).trans hn_s), (congrFun (wz_c nnu) _).trans hn_s⟩
theorem r_isMeasure (hI : ∀ a b, (G a).1 % 1000 = 50 → G a = G b → a = b) (gw : G w = (900050 + 1000 * j, 0)) (j1 : j < 24) (h1 : 17 ≤ j → Q (some (.inl 1)) G M) (h0 : ¬ 17 ≤ j → Q (some (.inl 0)) G M) : mj_R mj_tab (d + 1) 264 [.inr (.inr (some w))] G M Q := by
  have yes : 17 ≤ j → ∀ cb sb, wz d mt_X9_isMeasure.2.2.2.2.1 Q (mt_X9_isMeasure.2.2.2.2.1.drop 21) [some (.inr (.inr (some w)))] [] G M cb sb := fun e cb sb => by
    refine w_ic ?_
    refine w_goto ?_
    exact w_iret (fun _ => Or.inr rfl) (h1 e)
  refine ⟨Nat.le_of_ble_eq_true rfl, ?_⟩
  show wz d mt_X9_isMeasure.2.2.2.2.1 Q mt_X9_isMeasure.2.2.2.2.1 [some (.inr (.inr (some w)))] [] G M _ _
  refine w_aln rfl ?_
  refine w_gs ?_
  intro a17 ga17
  have e17 := se_eq (k := 17) hI gw ga17
  refine w_aceq (fun c => yes (by have := e17.1 c; omega) _ _) (fun c => ?_)
  have n17 : j ≠ 17 := fun h => c (e17.2 h)
  refine w_aln rfl ?_
  refine w_gs ?_
  intro a18 ga18
  have e18 := se_eq (k := 18) hI gw ga18
  refine w_aceq (fun c => yes (by have := e18.1 c; omega) _ _) (fun c => ?_)
  have n18 : j ≠ 18 := fun h => c (e18.2 h)
  refine w_aln rfl ?_
  refine w_gs ?_
  intro a19 ga19
  have e19 := se_eq (k := 19) hI gw ga19
  refine w_aceq (fun c => yes (by have := e19.1 c; omega) _ _) (fun c => ?_)
  have n19 : j ≠ 19 := fun h => c (e19.2 h)
  refine w_aln rfl ?_
  refine w_gs ?_
  intro a20 ga20
  have e20 := se_eq (k := 20) hI gw ga20
  refine w_aceq (fun c => yes (by have := e20.1 c; omega) _ _) (fun c => ?_)
  have n20 : j ≠ 20 := fun h => c (e20.2 h)
  refine w_aln rfl ?_
  refine w_gs ?_
  intro a21 ga21
  have e21 := se_eq (k := 21) hI gw ga21
  refine w_aceq (fun c => yes (by have := e21.1 c; omega) _ _) (fun c => ?_)
  have n21 : j ≠ 21 := fun h => c (e21.2 h)
  refine w_aln rfl ?_
  refine w_gs ?_
  intro a22 ga22
  have e22 := se_eq (k := 22) hI gw ga22
  refine w_aceq (fun c => yes (by have := e22.1 c; omega) _ _) (fun c => ?_)
  have n22 : j ≠ 22 := fun h => c (e22.2 h)
  refine w_aln rfl ?_
  refine w_gs ?_
  intro a23 ga23
  have e23 := se_eq (k := 23) hI gw ga23
  refine w_acne (fun c => ?_) (fun c => yes (by have := e23.1 c; omega) _ _)
  have n23 : j ≠ 23 := fun h => c (e23.2 h)
  refine w_ic ?_
  exact w_iret (fun _ => Or.inl rfl) (h0 (by omega))
theorem se_begins {r : Option Nat} (hI : ∀ a b, (G a).1 % 1000 = 50 → G a = G b → a = b) (hr : (∃ w, r = some w ∧ j < 24 ∧ G w = (900050 + 1000 * j, 0)) ∨ (j = 24 ∧ r = none)) (h1 : 14 ≤ j ∧ j < 24 → Q (some (.inl 1)) G M) (h0 : ¬ (14 ≤ j ∧ j < 24) → Q (some (.inl 0)) G M) : mj_R mj_tab (d + 2) 55 [.inr (.inr r)] G M Q := by
  have yes : 14 ≤ j ∧ j < 24 → ∀ cb sb, wz (d + 1) mt_X5_begins.2.2.2.2.1 Q (mt_X5_begins.2.2.2.2.1.drop 14) [some (.inr (.inr r))] [] G M cb sb := fun e cb sb => by
    refine w_ic ?_
    refine w_goto ?_
    exact w_iret (fun _ => Or.inr rfl) (h1 e)
  have no : ¬ (14 ≤ j ∧ j < 24) → ∀ cb sb, wz (d + 1) mt_X5_begins.2.2.2.2.1 Q (mt_X5_begins.2.2.2.2.1.drop 16) [some (.inr (.inr r))] [] G M cb sb := fun e cb sb => by
    refine w_ic ?_
    exact w_iret (fun _ => Or.inl rfl) (h0 e)
  refine ⟨Nat.le_of_ble_eq_true rfl, ?_⟩
  show wz (d + 1) mt_X5_begins.2.2.2.2.1 Q mt_X5_begins.2.2.2.2.1 [some (.inr (.inr r))] [] G M _ _
  rcases hr with ⟨w, rfl, j1, gw⟩ | ⟨j1, rfl⟩
  · refine w_aln rfl ?_
    refine w_ifnull (fun c => by cases c) (fun _ => ?_)
    refine w_aln rfl ?_
    refine w_gs ?_
    intro a14 ga14
    have e14 := se_eq (k := 14) hI gw ga14
    refine w_aceq (fun c => yes (by have := e14.1 c; omega) _ _) (fun c => ?_)
    have n14 : j ≠ 14 := fun h => c (e14.2 h)
    refine w_aln rfl ?_
    refine w_gs ?_
    intro a15 ga15
    have e15 := se_eq (k := 15) hI gw ga15
    refine w_aceq (fun c => yes (by have := e15.1 c; omega) _ _) (fun c => ?_)
    have n15 : j ≠ 15 := fun h => c (e15.2 h)
    refine w_aln rfl ?_
    refine w_gs ?_
    intro a16 ga16
    have e16 := se_eq (k := 16) hI gw ga16
    refine w_aceq (fun c => yes (by have := e16.1 c; omega) _ _) (fun c => ?_)
    have n16 : j ≠ 16 := fun h => c (e16.2 h)
    refine w_aln rfl ?_
    refine w_cv (st := []) rfl gw (by omega) (Nat.le_of_ble_eq_true rfl) (fun kk h => h) (r_isMeasure (d := d) hI gw j1 (fun e => ?_) (fun e => ?_))
    · refine w_ifeq (fun c => absurd c (by decide)) (fun _ => ?_)
      exact yes (by omega) _ _
    · refine w_ifeq (fun _ => ?_) (fun c => absurd rfl c)
      exact no (by omega) _ _
  · refine w_aln rfl ?_
    refine w_ifnull (fun _ => no (by omega) _ _) (fun c => absurd rfl c)
theorem r_readClosing (hA : rv_AT G M0 B n 200 tp bc pl na ta ba wa oa tr br T) (hS : rv_S G M0 n 200 tp pl na wa oa tr br (T q) PL WA OA TO BI nm M) (hq : q ≤ n) (h : (se_s (T q) 41 → ∀ M', rv_S G M0 n 200 tp pl na wa oa tr br (T (rv_x T q)) PL WA OA TO BI nm M' → Q (some (.inl 1)) G M') ∧ (¬ se_s (T q) 41 → ∀ M', rv_F tp pl na wa oa tr br M0 1 (T q).2.1 M' → Q (some (.inl 0)) G M')) : mj_R mj_tab (d + 4) 62 [.inr (.inr (some se)), .inr (.inr (some tp))] G M Q := by
  have gtp := hA.1.1
  refine ⟨Nat.le_of_ble_eq_true rfl, ?_⟩
  show wz (d + 3) mt_X5_readClosing.2.2.2.2.1 Q mt_X5_readClosing.2.2.2.2.1 [some (.inr (.inr (some se))), some (.inr (.inr (some tp)))] [] G M _ _
  refine w_aln rfl ?_
  refine w_bp ?_
  refine w_cv (st := []) rfl gtp rfl (Nat.le_of_ble_eq_true rfl) (fun kk h => h) (r_X7_isSign (d := d + 2) hA hS (fun e => ?_) (fun e => ?_))
  · refine w_ifne (fun _ => ?_) (fun c => absurd c (by decide))
    refine w_aln rfl ?_
    refine w_cv (st := []) rfl gtp rfl (Nat.le_of_ble_eq_true rfl) (fun kk h => h) (r_adv2 (d := d) hA hS hq (fun M1 s1 => ?_))
    refine w_ic ?_
    exact w_iret (fun _ => Or.inr rfl) (h.1 e M1 s1)
  · refine w_ifne (fun c => absurd rfl c) (fun _ => ?_)
    refine w_aln rfl ?_
    refine w_ic ?_
    refine w_cv (st := []) rfl gtp rfl (Nat.le_of_ble_eq_true rfl) (fun kk h => h) (r_X7_refuse (d := d + 2) hA hS (by decide) (fun M' F => ?_))
    exact w_iret (fun _ => Or.inl rfl) (h.2 e M' F)
theorem r_readMeasure (hA : rv_AT G M0 B n 200 tp bc pl na ta ba wa oa tr br T) (hS : rv_S G M0 n 200 tp pl na wa oa tr br (T q) PL WA OA TO BI nm M) (hq : q ≤ n) (hD : se_D G M0 se st sg nu) (hR : se_R G M0 se st sg nu cs o) (hl : cs.length < 40) (gw : G w = (900050 + 1000 * j, 0)) (h : se_M T (fun f a => ∀ M', rv_F tp pl na wa oa tr br M0 f a M' → Q (some (.inl 0)) G M') q (fun z v q' => q ≤ q' → q' ≤ n → ∀ M0' M', rv_AT G M0' B n 200 tp bc pl na ta ba wa oa tr br T → se_o se st sg nu M0 M0' → rv_S G M0' n 200 tp pl na wa oa tr br (T q') PL WA OA TO BI nm M' → se_R G M0' se st sg nu (cs ++ [(j, z, v)]) o → Q (some (.inl 1)) G M')) : mj_R mj_tab (d + 5) 64 [.inr (.inr (some se)), .inr (.inr (some tp)), .inr (.inr (some w))] G M Q := by
  have gtp := hA.1.1
  have gse := hD.1
  obtain ⟨k4, k5, k11, k6, k7, k8, k9⟩ := id hS.2.1
  have l1 := rv_x_le hA hq
  have g1 := rv_x_ge hA hq
  have l2 := rv_x_le hA l1
  have g2 := rv_x_ge hA l1
  have good : se_z (T q) → ∀ cb sb, wz (d + 4) mt_X5_readMeasure.2.2.2.2.1 Q (mt_X5_readMeasure.2.2.2.2.1.drop 16) [some (.inr (.inr (some se))), some (.inr (.inr (some tp))), some (.inr (.inr (some w))), none, none] [] G M cb sb := fun e cb sb => by
    refine w_aln rfl ?_
    refine w_gi gtp rfl (by decide) rfl (k7 e.1) ?_
    refine w_isn ?_
    refine w_aln rfl ?_
    refine w_ic ?_
    refine w_sp ?_
    refine w_cv (st := []) rfl gtp rfl (Nat.le_of_ble_eq_true rfl) (fun kk h => h) (r_X7_nextNumber (d := d) hA hS hq ((h.1 e).mono (fun f a hf M' F => ?_) (fun b0 b9 b2 hk M1 s1 => ?_)))
    · refine w_is ?_
      refine w_il rfl ?_
      refine w_ic ?_
      refine w_cmne (fun c => absurd rfl c) (fun c => ?_)
      refine w_ic ?_
      exact w_iret (fun _ => Or.inl rfl) (hf M' F)
    · refine w_is ?_
      refine w_il rfl ?_
      refine w_ic ?_
      refine w_cmne (fun c => ?_) (fun c => by exfalso; omega)
      refine w_aln rfl ?_
      refine w_cv (st := []) rfl gtp rfl (Nat.le_of_ble_eq_true rfl) (fun kk h => h) (r_adv2 (d := d + 1) hA s1 l1 (fun M2 s2 => ?_))
      refine w_aln rfl ?_
      refine w_aln rfl ?_
      refine w_iln rfl ?_
      refine w_il rfl ?_
      refine w_cv (st := []) rfl gse rfl (Nat.le_of_ble_eq_true rfl) (fun kk h => h) (r_X5_add (d := d + 3) hA s2 hD hR hl gw (fun M0' M3 a3 o3 s3 r3 => ?_))
      exact w_iret (fun _ => Or.inr rfl) (hk (by omega) l2 M0' M3 a3 o3 s3 r3)
  refine ⟨Nat.le_of_ble_eq_true rfl, ?_⟩
  show wz (d + 4) mt_X5_readMeasure.2.2.2.2.1 Q mt_X5_readMeasure.2.2.2.2.1 [some (.inr (.inr (some se))), some (.inr (.inr (some tp))), some (.inr (.inr (some w))), none, none] [] G M _ _
  refine w_aln rfl ?_
  refine w_bp ?_
  refine w_cv (st := []) rfl gtp rfl (Nat.le_of_ble_eq_true rfl) (fun kk h => h) (r_X7_isSign (d := d + 3) hA hS (fun e => w_ifne (fun _ => good ⟨e.1, by have := e.2; omega, by have := e.2; omega⟩ _ _) (fun c => absurd c (by decide))) (fun e60 => ?_))
  refine w_ifne (fun c => absurd rfl c) (fun _ => ?_)
  refine w_aln rfl ?_
  refine w_bp ?_
  refine w_cv (st := []) rfl gtp rfl (Nat.le_of_ble_eq_true rfl) (fun kk h => h) (r_X7_isSign (d := d + 3) hA hS (fun e => w_ifne (fun _ => good ⟨e.1, by have := e.2; omega, by have := e.2; omega⟩ _ _) (fun c => absurd c (by decide))) (fun e61 => ?_))
  refine w_ifne (fun c => absurd rfl c) (fun _ => ?_)
  refine w_aln rfl ?_
  refine w_bp ?_
  refine w_cv (st := []) rfl gtp rfl (Nat.le_of_ble_eq_true rfl) (fun kk h => h) (r_X7_isSign (d := d + 3) hA hS (fun e => w_ifne (fun _ => good ⟨e.1, by have := e.2; omega, by have := e.2; omega⟩ _ _) (fun c => absurd c (by decide))) (fun e62 => ?_))
  refine w_ifne (fun c => absurd rfl c) (fun _ => ?_)
  refine w_aln rfl ?_
  refine w_ic ?_
  refine w_cv (st := []) rfl gtp rfl (Nat.le_of_ble_eq_true rfl) (fun kk h => h) (r_X7_refuse (d := d + 3) hA hS (by decide) (fun M' F => ?_))
  refine w_iret (fun _ => Or.inl rfl) (h.2 (fun e => ?_) M' F)
  have b1 := e.2.1
  have b2 := e.2.2
  have c0 : ¬ (T q).2.2.1 = 60 := fun g => e60 ⟨e.1, g⟩
  have c1 : ¬ (T q).2.2.1 = 61 := fun g => e61 ⟨e.1, g⟩
  have c2 : ¬ (T q).2.2.1 = 62 := fun g => e62 ⟨e.1, g⟩
  omega
end UB
end
section
/-! ===== the class reads a SENTENCE: its recursion ===== -/
def se_c0 (G : mj_G) (B : Nat → Int) (n tp bc pl na ta ba wa oa : Nat) (tr br : Nat → Nat) (T : Nat → (Nat × Nat × Int × List Int × Nat)) (PL WA OA : Nat → Int) (TO BI : Nat → Nat → Int) (nm : Nat → List Int) (se st sg nu : Nat) (N : Nat) : Prop := ∀ (g D d q o : Nat) (cs : (List (Nat × Int × Int))) (M0 M : mj_M) (Q : mj_P), d + g = 9 → q ≤ n → o ≤ 20 → cs.length ≤ 2 * o → rv_AT G M0 B n 200 tp bc pl na ta ba wa oa tr br T → se_D G M0 se st sg nu → rv_S G M0 n 200 tp pl na wa oa tr br (T q) PL WA OA TO BI nm M → se_R G M0 se st sg nu cs o → 3 * g + 6 ≤ D → se_P T (fun f a => ∀ M0' M', se_o se st sg nu M0 M0' → rv_F tp pl na wa oa tr br M0' f a M' → Q (some (.inl 0)) G M') N 0 d (fun q' o' cs' => q ≤ q' → q' ≤ n → o < o' → cs'.length + 1 + 2 * o ≤ cs.length + 2 * o' → o' ≤ 20 → ∀ M0' M', rv_AT G M0' B n 200 tp bc pl na ta ba wa oa tr br T → se_o se st sg nu M0 M0' → rv_S G M0' n 200 tp pl na wa oa tr br (T q') PL WA OA TO BI nm M' → se_R G M0' se st sg nu cs' o' → Q (some (.inl 1)) G M') q o cs → mj_R mj_tab D 65 [.inr (.inr (some se)), .inr (.inr (some tp)), .inl (d : Int)] G M Q
def se_c1 (G : mj_G) (B : Nat → Int) (n tp bc pl na ta ba wa oa : Nat) (tr br : Nat → Nat) (T : Nat → (Nat × Nat × Int × List Int × Nat)) (PL WA OA : Nat → Int) (TO BI : Nat → Nat → Int) (nm : Nat → List Int) (se st sg nu : Nat) (N : Nat) : Prop := ∀ (g D d q o : Nat) (cs : (List (Nat × Int × Int))) (M0 M : mj_M) (Q : mj_P), d + g = 9 → q ≤ n → o ≤ 20 → cs.length ≤ 2 * o → rv_AT G M0 B n 200 tp bc pl na ta ba wa oa tr br T → se_D G M0 se st sg nu → rv_S G M0 n 200 tp pl na wa oa tr br (T q) PL WA OA TO BI nm M → se_R G M0 se st sg nu cs o → 3 * g + 6 ≤ D → ∀ (i cb sb : Nat), i < o → se_P T (fun f a => ∀ M0' M', se_o se st sg nu M0 M0' → rv_F tp pl na wa oa tr br M0' f a M' → Q (some (.inl 0)) G M') N 1 d (fun q' o' cs' => q ≤ q' → q' ≤ n → o ≤ o' → cs'.length + 2 * o ≤ cs.length + 2 * o' → o' ≤ 20 → ∀ M0' M', rv_AT G M0' B n 200 tp bc pl na ta ba wa oa tr br T → se_o se st sg nu M0 M0' → rv_S G M0' n 200 tp pl na wa oa tr br (T q') PL WA OA TO BI nm M' → se_R G M0' se st sg nu cs' o' → Q (some (.inl 1)) G M') q o cs → wz D mt_X5_readAll.2.2.2.2.1 Q (mt_X5_readAll.2.2.2.2.1.drop 9) [some (.inr (.inr (some se))), some (.inr (.inr (some tp))), some (.inl (d : Int)), some (.inl (i : Int))] [] G M cb sb
def se_c2 (G : mj_G) (B : Nat → Int) (n tp bc pl na ta ba wa oa : Nat) (tr br : Nat → Nat) (T : Nat → (Nat × Nat × Int × List Int × Nat)) (PL WA OA : Nat → Int) (TO BI : Nat → Nat → Int) (nm : Nat → List Int) (se st sg nu : Nat) (N : Nat) : Prop := ∀ (g D d q o : Nat) (cs : (List (Nat × Int × Int))) (M0 M : mj_M) (Q : mj_P), d + g = 9 → q ≤ n → o ≤ 20 → cs.length ≤ 2 * o → rv_AT G M0 B n 200 tp bc pl na ta ba wa oa tr br T → se_D G M0 se st sg nu → rv_S G M0 n 200 tp pl na wa oa tr br (T q) PL WA OA TO BI nm M → se_R G M0 se st sg nu cs o → 3 * g + 7 ≤ D → se_P T (fun f a => ∀ M0' M', se_o se st sg nu M0 M0' → rv_F tp pl na wa oa tr br M0' f a M' → Q (some (.inl 0)) G M') N 2 d (fun q' o' cs' => q ≤ q' → q' ≤ n → o < o' → cs'.length + 1 + 2 * o ≤ cs.length + 2 * o' → o' ≤ 20 → ∀ M0' M', rv_AT G M0' B n 200 tp bc pl na ta ba wa oa tr br T → se_o se st sg nu M0 M0' → rv_S G M0' n 200 tp pl na wa oa tr br (T q') PL WA OA TO BI nm M' → se_R G M0' se st sg nu cs' o' → Q (some (.inl 1)) G M') q o cs → mj_R mj_tab D 61 [.inr (.inr (some se)), .inr (.inr (some tp)), .inl (d : Int)] G M Q
def se_c3 (G : mj_G) (B : Nat → Int) (n tp bc pl na ta ba wa oa : Nat) (tr br : Nat → Nat) (T : Nat → (Nat × Nat × Int × List Int × Nat)) (PL WA OA : Nat → Int) (TO BI : Nat → Nat → Int) (nm : Nat → List Int) (se st sg nu : Nat) (N : Nat) : Prop := ∀ (g D d q o : Nat) (cs : (List (Nat × Int × Int))) (M0 M : mj_M) (Q : mj_P), d + g = 9 → q ≤ n → o ≤ 20 → cs.length ≤ 2 * o → rv_AT G M0 B n 200 tp bc pl na ta ba wa oa tr br T → se_D G M0 se st sg nu → rv_S G M0 n 200 tp pl na wa oa tr br (T q) PL WA OA TO BI nm M → se_R G M0 se st sg nu cs o → 3 * g + 8 ≤ D → se_P T (fun f a => ∀ M0' M', se_o se st sg nu M0 M0' → rv_F tp pl na wa oa tr br M0' f a M' → Q (some (.inl 0)) G M') N 3 d (fun q' o' cs' => q ≤ q' → q' ≤ n → o < o' → cs'.length + 1 + 2 * o ≤ cs.length + 2 * o' → o' ≤ 20 → ∀ M0' M', rv_AT G M0' B n 200 tp bc pl na ta ba wa oa tr br T → se_o se st sg nu M0 M0' → rv_S G M0' n 200 tp pl na wa oa tr br (T q') PL WA OA TO BI nm M' → se_R G M0' se st sg nu cs' o' → Q (some (.inl 1)) G M') q o cs → mj_R mj_tab D 63 [.inr (.inr (some se)), .inr (.inr (some tp)), .inl (d : Int)] G M Q
def se_c4 (G : mj_G) (B : Nat → Int) (n tp bc pl na ta ba wa oa : Nat) (tr br : Nat → Nat) (T : Nat → (Nat × Nat × Int × List Int × Nat)) (PL WA OA : Nat → Int) (TO BI : Nat → Nat → Int) (nm : Nat → List Int) (se st sg nu : Nat) (N : Nat) : Prop := ∀ (g D d q o : Nat) (cs : (List (Nat × Int × Int))) (M0 M : mj_M) (Q : mj_P), d + g = 9 → q ≤ n → o ≤ 20 → cs.length ≤ 2 * o → rv_AT G M0 B n 200 tp bc pl na ta ba wa oa tr br T → se_D G M0 se st sg nu → rv_S G M0 n 200 tp pl na wa oa tr br (T q) PL WA OA TO BI nm M → se_R G M0 se st sg nu cs o → 3 * g + 7 ≤ D → ∀ (i cb sb : Nat), i < o → se_P T (fun f a => ∀ M0' M', se_o se st sg nu M0 M0' → rv_F tp pl na wa oa tr br M0' f a M' → Q (some (.inl 0)) G M') N 4 d (fun q' o' cs' => q ≤ q' → q' ≤ n → o ≤ o' → cs'.length + 2 * o ≤ cs.length + 2 * o' → o' ≤ 20 → ∀ M0' M', rv_AT G M0' B n 200 tp bc pl na ta ba wa oa tr br T → se_o se st sg nu M0 M0' → rv_S G M0' n 200 tp pl na wa oa tr br (T q') PL WA OA TO BI nm M' → se_R G M0' se st sg nu cs' o' → Q (some (.inl 1)) G M') q o cs → wz D mt_X5_readCond.2.2.2.2.1 Q (mt_X5_readCond.2.2.2.2.1.drop 9) [some (.inr (.inr (some se))), some (.inr (.inr (some tp))), some (.inl (d : Int)), some (.inl (i : Int))] [] G M cb sb
section UC
variable {G : mj_G} {B : Nat → Int} {n tp bc pl na ta ba wa oa : Nat} {tr br : Nat → Nat} {T : Nat → (Nat × Nat × Int × List Int × Nat)} {PL WA OA : Nat → Int} {TO BI : Nat → Nat → Int} {nm : Nat → List Int} {se st sg nu : Nat}
theorem se_l1 {N : Nat} (h0 : se_c0 G B n tp bc pl na ta ba wa oa tr br T PL WA OA TO BI nm se st sg nu N) (h1 : se_c1 G B n tp bc pl na ta ba wa oa tr br T PL WA OA TO BI nm se st sg nu N) : se_c1 G B n tp bc pl na ta ba wa oa tr br T PL WA OA TO BI nm se st sg nu (N + 1) := by
  intro g D d q o cs M0 M Q hg hq ho hl hA hD hS hR hd i cb sb hi h
  have gtp := hA.1.1
  have gse := hD.1
  obtain ⟨⟨gtp, gbc, gpl, gna, gta, gba, gwa, goa, gtr, gbr, itr, ibr, r1, r2, r3, r4, r5, r6, r7, r8, rb, rw0, n1, n2, hIw⟩, hT⟩ := id hA
  obtain ⟨e, rfl⟩ : ∃ e, D = e + 6 := ⟨D - 6, by omega⟩
  have out : ¬ se_j (T q) = 13 → ∀ cb sb, wz (e + 6) mt_X5_readAll.2.2.2.2.1 Q (mt_X5_readAll.2.2.2.2.1.drop 33) [some (.inr (.inr (some se))), some (.inr (.inr (some tp))), some (.inl (d : Int)), some (.inl (i : Int))] [] G M cb sb := fun c cb sb => by
    refine w_ic ?_
    exact w_iret (fun _ => Or.inr rfl) (h.2 c (Nat.le_refl q) hq (Nat.le_refl o) (Nat.le_refl _) ho M0 M hA se_o.refl hS hR)
  refine w_iln rfl ?_
  refine w_bp ?_
  refine w_cmge (fun c => by exfalso; omega) (fun c => ?_)
  refine w_aln rfl ?_
  rcases se_wd hA hS hq with ⟨w, e9, j1, gw⟩ | ⟨j1, e9⟩
  · refine w_gr gtp rfl (by decide) rfl e9 ?_
    refine w_gs ?_
    intro a ga
    have ee := se_eq (k := 13) hIw gw ga
    refine w_acne (fun c => out (fun h => c (ee.2 h)) _ _) (fun c => ?_)
    have jq := ee.1 c
    have k1 := (se_j_lt j1).1
    have l1 := rv_x_le hA hq
    have p1 := rv_x_ge hA hq
    refine w_aln rfl ?_
    refine w_cv (st := []) rfl gtp rfl (Nat.le_of_ble_eq_true rfl) (fun kk h => h) (r_adv2 (d := e + 3) hA hS hq (fun M1 s1 => ?_))
    refine w_aln rfl ?_
    refine w_aln rfl ?_
    refine w_iln rfl ?_
    refine w_cv (st := []) rfl gse rfl (Nat.le_of_ble_eq_true rfl) (fun kk h => h) (h0 g (e + 6) d (rv_x T q) o cs M0 M1 _ hg l1 ho hl hA hD s1 hR (by omega) ?_)
    refine se_P.mono (fun f a hf M0' M' o1 F1 => ?_) N 0 d _ _ _ _ _ (fun q1 o1 cs1 hk p2 l2 lo ll l20 M0' M' a1 oo s2 r2 => ?_) (h.1 jq)
    · refine w_ifne (fun c => absurd rfl c) (fun _ => ?_)
      refine w_ic ?_
      exact w_iret (fun _ => Or.inl rfl) (hf M0' M' o1 F1)
    · refine w_ifne (fun _ => ?_) (fun c => absurd c (by decide))
      refine w_aln rfl ?_
      refine w_gs ?_
      intro a2 ga2
      refine w_ic ?_
      refine w_ic ?_
      refine w_cv (st := []) rfl gse rfl (Nat.le_of_ble_eq_true rfl) (fun kk h => h) (r_X5_add (d := e + 5) (j := 13) a1 s2 (hD.so oo) r2 (by omega) ga2 (fun M0'' M'' a3 o3 s3 r3 => ?_))
      refine w_pop ?_
      refine w_ii rfl ⟨by omega, by omega⟩ ?_
      refine w_goto ?_
      refine h1 g (e + 6) d q1 o1 (cs1 ++ [(13, 0, 0)]) M0'' M'' Q hg l2 l20 (by rw [se_len]; omega) a3 ((hD.so oo).so o3) s3 r3 hd (i + 1) _ _ (by omega) ?_
      refine se_P.mono (fun f a hf N0 N' o4 F4 => hf N0 N' ((oo.trans o3).trans o4) F4) N 1 d _ _ _ _ _ (fun q2 o2 cs2 hk2 p3 l3 lo3 ll3 l23 N0 N' a4 o4 s4 r4 => hk2 (by omega) l3 (by omega) (by rw [se_len] at ll3; omega) l23 N0 N' a4 ((oo.trans o3).trans o4) s4 r4) hk
  · refine w_gro gtp rfl (by decide) rfl e9 ?_
    refine w_gs ?_
    intro a ga
    refine w_acne (fun c => out (by omega) _ _) (fun c => by cases c)
theorem se_l4 {N : Nat} (h0 : se_c2 G B n tp bc pl na ta ba wa oa tr br T PL WA OA TO BI nm se st sg nu N) (h1 : se_c4 G B n tp bc pl na ta ba wa oa tr br T PL WA OA TO BI nm se st sg nu N) : se_c4 G B n tp bc pl na ta ba wa oa tr br T PL WA OA TO BI nm se st sg nu (N + 1) := by
  intro g D d q o cs M0 M Q hg hq ho hl hA hD hS hR hd i cb sb hi h
  have gtp := hA.1.1
  have gse := hD.1
  obtain ⟨⟨gtp, gbc, gpl, gna, gta, gba, gwa, goa, gtr, gbr, itr, ibr, r1, r2, r3, r4, r5, r6, r7, r8, rb, rw0, n1, n2, hIw⟩, hT⟩ := id hA
  obtain ⟨e, rfl⟩ : ∃ e, D = e + 6 := ⟨D - 6, by omega⟩
  have out : ¬ se_j (T q) = 12 → ∀ cb sb, wz (e + 6) mt_X5_readCond.2.2.2.2.1 Q (mt_X5_readCond.2.2.2.2.1.drop 33) [some (.inr (.inr (some se))), some (.inr (.inr (some tp))), some (.inl (d : Int)), some (.inl (i : Int))] [] G M cb sb := fun c cb sb => by
    refine w_ic ?_
    exact w_iret (fun _ => Or.inr rfl) (h.2 c (Nat.le_refl q) hq (Nat.le_refl o) (Nat.le_refl _) ho M0 M hA se_o.refl hS hR)
  refine w_iln rfl ?_
  refine w_bp ?_
  refine w_cmge (fun c => by exfalso; omega) (fun c => ?_)
  refine w_aln rfl ?_
  rcases se_wd hA hS hq with ⟨w, e9, j1, gw⟩ | ⟨j1, e9⟩
  · refine w_gr gtp rfl (by decide) rfl e9 ?_
    refine w_gs ?_
    intro a ga
    have ee := se_eq (k := 12) hIw gw ga
    refine w_acne (fun c => out (fun h => c (ee.2 h)) _ _) (fun c => ?_)
    have jq := ee.1 c
    have k1 := (se_j_lt j1).1
    have l1 := rv_x_le hA hq
    have p1 := rv_x_ge hA hq
    refine w_aln rfl ?_
    refine w_cv (st := []) rfl gtp rfl (Nat.le_of_ble_eq_true rfl) (fun kk h => h) (r_adv2 (d := e + 3) hA hS hq (fun M1 s1 => ?_))
    refine w_aln rfl ?_
    refine w_aln rfl ?_
    refine w_iln rfl ?_
    refine w_cv (st := []) rfl gse rfl (Nat.le_of_ble_eq_true rfl) (fun kk h => h) (h0 g (e + 6) d (rv_x T q) o cs M0 M1 _ hg l1 ho hl hA hD s1 hR (by omega) ?_)
    refine se_P.mono (fun f a hf M0' M' o1 F1 => ?_) N 2 d _ _ _ _ _ (fun q1 o1 cs1 hk p2 l2 lo ll l20 M0' M' a1 oo s2 r2 => ?_) (h.1 jq)
    · refine w_ifne (fun c => absurd rfl c) (fun _ => ?_)
      refine w_ic ?_
      exact w_iret (fun _ => Or.inl rfl) (hf M0' M' o1 F1)
    · refine w_ifne (fun _ => ?_) (fun c => absurd c (by decide))
      refine w_aln rfl ?_
      refine w_gs ?_
      intro a2 ga2
      refine w_ic ?_
      refine w_ic ?_
      refine w_cv (st := []) rfl gse rfl (Nat.le_of_ble_eq_true rfl) (fun kk h => h) (r_X5_add (d := e + 5) (j := 12) a1 s2 (hD.so oo) r2 (by omega) ga2 (fun M0'' M'' a3 o3 s3 r3 => ?_))
      refine w_pop ?_
      refine w_ii rfl ⟨by omega, by omega⟩ ?_
      refine w_goto ?_
      refine h1 g (e + 6) d q1 o1 (cs1 ++ [(12, 0, 0)]) M0'' M'' Q hg l2 l20 (by rw [se_len]; omega) a3 ((hD.so oo).so o3) s3 r3 hd (i + 1) _ _ (by omega) ?_
      refine se_P.mono (fun f a hf N0 N' o4 F4 => hf N0 N' ((oo.trans o3).trans o4) F4) N 4 d _ _ _ _ _ (fun q2 o2 cs2 hk2 p3 l3 lo3 ll3 l23 N0 N' a4 o4 s4 r4 => hk2 (by omega) l3 (by omega) (by rw [se_len] at ll3; omega) l23 N0 N' a4 ((oo.trans o3).trans o4) s4 r4) hk
  · refine w_gro gtp rfl (by decide) rfl e9 ?_
    refine w_gs ?_
    intro a ga
    refine w_acne (fun c => out (by omega) _ _) (fun c => by cases c)
theorem se_w2 {N : Nat} (h0 : se_c0 G B n tp bc pl na ta ba wa oa tr br T PL WA OA TO BI nm se st sg nu N) (h1 : se_c1 G B n tp bc pl na ta ba wa oa tr br T PL WA OA TO BI nm se st sg nu N) : se_c2 G B n tp bc pl na ta ba wa oa tr br T PL WA OA TO BI nm se st sg nu (N + 1) := by
  intro g D d q o cs M0 M Q hg hq ho hl hA hD hS hR hd h
  have gse := hD.1
  obtain ⟨e, rfl⟩ : ∃ e, D = e + 7 := ⟨D - 7, by omega⟩
  refine ⟨Nat.le_of_ble_eq_true rfl, ?_⟩
  show wz (e + 6) mt_X5_readAll.2.2.2.2.1 Q mt_X5_readAll.2.2.2.2.1 [some (.inr (.inr (some se))), some (.inr (.inr (some tp))), some (.inl (d : Int)), none] [] G M _ _
  refine w_aln rfl ?_
  refine w_aln rfl ?_
  refine w_iln rfl ?_
  refine w_cv (st := []) rfl gse rfl (Nat.le_of_ble_eq_true rfl) (fun kk h => h) (h0 g (e + 6) d q o cs M0 M _ hg hq ho hl hA hD hS hR (by omega) ?_)
  refine se_P.mono (fun f a hf M0' M' o1 F1 => ?_) N 0 d _ _ _ _ _ (fun q1 o1 cs1 hk p2 l2 lo ll l20 M0' M' a1 oo s2 r2 => ?_) h
  · refine w_ifne (fun c => absurd rfl c) (fun _ => ?_)
    refine w_ic ?_
    exact w_iret (fun _ => Or.inl rfl) (hf M0' M' o1 F1)
  · refine w_ifne (fun _ => ?_) (fun c => absurd c (by decide))
    refine w_ic ?_
    refine w_isn ?_
    refine h1 g (e + 6) d q1 o1 cs1 M0' M' Q hg l2 l20 (by omega) a1 (hD.so oo) s2 r2 (by omega) 0 _ _ (by omega) ?_
    exact se_P.mono (fun f a hf N0 N' o4 F4 => hf N0 N' (oo.trans o4) F4) N 1 d _ _ _ _ _ (fun q2 o2 cs2 hk2 p3 l3 lo3 ll3 l23 N0 N' a4 o4 s4 r4 => hk2 (by omega) l3 (by omega) (by omega) l23 N0 N' a4 (oo.trans o4) s4 r4) hk
theorem se_w3 {N : Nat} (h0 : se_c2 G B n tp bc pl na ta ba wa oa tr br T PL WA OA TO BI nm se st sg nu N) (h1 : se_c4 G B n tp bc pl na ta ba wa oa tr br T PL WA OA TO BI nm se st sg nu N) : se_c3 G B n tp bc pl na ta ba wa oa tr br T PL WA OA TO BI nm se st sg nu (N + 1) := by
  intro g D d q o cs M0 M Q hg hq ho hl hA hD hS hR hd h
  have gse := hD.1
  obtain ⟨e, rfl⟩ : ∃ e, D = e + 7 := ⟨D - 7, by omega⟩
  refine ⟨Nat.le_of_ble_eq_true rfl, ?_⟩
  show wz (e + 6) mt_X5_readCond.2.2.2.2.1 Q mt_X5_readCond.2.2.2.2.1 [some (.inr (.inr (some se))), some (.inr (.inr (some tp))), some (.inl (d : Int)), none] [] G M _ _
  refine w_aln rfl ?_
  refine w_aln rfl ?_
  refine w_iln rfl ?_
  refine w_cv (st := []) rfl gse rfl (Nat.le_of_ble_eq_true rfl) (fun kk h => h) (h0 g (e + 6) d q o cs M0 M _ hg hq ho hl hA hD hS hR (by omega) ?_)
  refine se_P.mono (fun f a hf M0' M' o1 F1 => ?_) N 2 d _ _ _ _ _ (fun q1 o1 cs1 hk p2 l2 lo ll l20 M0' M' a1 oo s2 r2 => ?_) h
  · refine w_ifne (fun c => absurd rfl c) (fun _ => ?_)
    refine w_ic ?_
    exact w_iret (fun _ => Or.inl rfl) (hf M0' M' o1 F1)
  · refine w_ifne (fun _ => ?_) (fun c => absurd c (by decide))
    refine w_ic ?_
    refine w_isn ?_
    refine h1 g (e + 6) d q1 o1 cs1 M0' M' Q hg l2 l20 (by omega) a1 (hD.so oo) s2 r2 (by omega) 0 _ _ (by omega) ?_
    exact se_P.mono (fun f a hf N0 N' o4 F4 => hf N0 N' (oo.trans o4) F4) N 4 d _ _ _ _ _ (fun q2 o2 cs2 hk2 p3 l3 lo3 ll3 l23 N0 N' a4 o4 s4 r4 => hk2 (by omega) l3 (by omega) (by omega) l23 N0 N' a4 (oo.trans o4) s4 r4) hk
theorem se_one {N : Nat} (h0 : se_c0 G B n tp bc pl na ta ba wa oa tr br T PL WA OA TO BI nm se st sg nu N) (h3 : se_c3 G B n tp bc pl na ta ba wa oa tr br T PL WA OA TO BI nm se st sg nu N) : se_c0 G B n tp bc pl na ta ba wa oa tr br T PL WA OA TO BI nm se st sg nu (N + 1) := by
  intro g D d q o cs M0 M Q hg hq ho hl hA hD hS hR hd h
  have gtp := hA.1.1
  have hD0 := hD
  obtain ⟨gse, gst, gsg, gnu, e0, e1, e2⟩ := hD0
  obtain ⟨⟨gtp, gbc, gpl, gna, gta, gba, gwa, goa, gtr, gbr, itr, ibr, r1, r2, r3, r4, r5, r6, r7, r8, rb, rw0, n1, n2, hIw⟩, hT⟩ := id hA
  have hx : ∀ x ∈ [1006, 34105, 35100, 36100], x ≠ 1008 ∧ x ≠ 1004 ∧ x ≠ 29100 ∧ x ≠ 30100 ∧ x ≠ 26100 ∧ x ≠ 28100 := by decide
  have m5 : M.1 se 5 = (o : Int) := (congrFun (rv_S.fx hA hS gse (hx _ (by decide))) 5).trans hR.2.1
  have l1 := rv_x_le hA hq
  have p1 := rv_x_ge hA hq
  obtain ⟨e, rfl⟩ : ∃ e, D = e + 6 := ⟨D - 6, by omega⟩
  -- behind the count of ONES and the next token
  have oo : se_o se st sg nu M0 (mj_p0 M0 se 5 ((o : Int) + 1)) := ⟨fun a a1 _ _ => wz_c a1, rfl, fun _ _ => rfl⟩
  have aa := hA.so hD oo
  have dd := hD.so oo
  have rr : se_R G (mj_p0 M0 se 5 ((o : Int) + 1)) se st sg nu cs (o + 1) := ⟨(hn_n (Or.inr (by decide))).trans hR.1, hn_s.trans rfl, fun j hj => by
    obtain ⟨b1, b2, b3⟩ := hR.2.2 j hj
    exact ⟨b1, (congrFun (wz_c (hn_ne gsg gse (by decide))) j).trans b2, (congrFun (wz_c (hn_ne gnu gse (by decide))) j).trans b3⟩⟩
  have main : ∀ (r : Option Nat) (b : Int), se_b (T q) → ((se_s (T q) 40 ∧ b = 1) ∨ (¬ se_s (T q) 40 ∧ b = 0 ∧ ∃ w, r = some w ∧ G w = (900050 + 1000 * se_j (T q), 0))) → ∀ cb sb, wz (e + 5) mt_X5_readOne.2.2.2.2.1 Q (mt_X5_readOne.2.2.2.2.1.drop 16) [some (.inr (.inr (some se))), some (.inr (.inr (some tp))), some (.inl (d : Int)), some (.inr (.inr r)), some (.inl b)] [] G M cb sb := by
    intro r b hb hc cb sb
    obtain ⟨h4, h5⟩ := h.1 hb
    refine w_aln rfl ?_
    refine w_gi gse rfl (by decide) rfl m5 ?_
    refine w_bp ?_
    have full : (20 ≤ o ∨ 8 < d) → ∀ cb sb, wz (e + 5) mt_X5_readOne.2.2.2.2.1 Q (mt_X5_readOne.2.2.2.2.1.drop 23) [some (.inr (.inr (some se))), some (.inr (.inr (some tp))), some (.inl (d : Int)), some (.inr (.inr r)), some (.inl b)] [] G M cb sb := fun c cb sb => by
      refine w_aln rfl ?_
      refine w_ic ?_
      refine w_cv (st := []) rfl gtp rfl (Nat.le_of_ble_eq_true rfl) (fun kk h => h) (r_X7_refuse (d := e + 4) hA hS (by decide) (fun M' F1 => ?_))
      exact w_iret (fun _ => Or.inl rfl) (h4 c M0 M' se_o.refl F1)
    refine w_cmge (fun c => full (by omega) _ _) (fun c => ?_)
    refine w_iln rfl ?_
    refine w_bp ?_
    refine w_cmle (fun c2 => ?_) (fun c2 => full (by omega) _ _)
    have hk := h5 (by omega)
    refine w_aln rfl ?_
    refine w_dupr ?_
    refine w_gi gse rfl (by decide) rfl m5 ?_
    refine w_ic ?_
    refine w_add ⟨by omega, by omega⟩ ?_
    refine w_pi gse rfl (by decide) rfl (fun q => by cases q) ?_
    have s0 := rv_S.put (j := 5) (v := (o : Int) + 1) hA hS gse (hx _ (by decide))
    refine w_aln rfl ?_
    refine w_cv (st := []) rfl gtp rfl (Nat.le_of_ble_eq_true rfl) (fun kk h => h) (r_adv2 (d := e + 2) aa s0 hq (fun M1 s1 => ?_))
    refine w_il rfl ?_
    rcases hc with ⟨c40, rfl⟩ | ⟨c40, rfl, w, rfl, gw⟩
    · refine w_ifeq (fun c => absurd c (by decide)) (fun _ => ?_)
      refine w_aln rfl ?_
      refine w_aln rfl ?_
      refine w_iln rfl ?_
      refine w_ic ?_
      refine w_add ⟨by omega, by omega⟩ ?_
      refine w_cv (st := []) rfl gse rfl (Nat.le_of_ble_eq_true rfl) (fun kk h => h) (h3 (g - 1) (e + 5) (d + 1) (rv_x T q) (o + 1) cs _ M1 _ (by omega) l1 (by omega) (by omega) aa dd s1 rr (by omega) ?_)
      have fin : ∀ (M' : mj_M) cb sb, Q (some (.inl 0)) G M' → wz (e + 5) mt_X5_readOne.2.2.2.2.1 Q (mt_X5_readOne.2.2.2.2.1.drop 50) [some (.inr (.inr (some se))), some (.inr (.inr (some tp))), some (.inl (d : Int)), some (.inr (.inr r)), some (.inl 1)] [] G M' cb sb := fun M' cb sb hQ => by
        refine w_ic ?_
        exact w_iret (fun _ => Or.inl rfl) hQ
      refine se_P.mono (fun f a hf M0' M' o1 F1 => ?_) N 3 (d + 1) _ _ _ _ _ (fun q1 o1 cs1 hk p2 l2 lo ll l20 M0' M' a1 o2 s2 r2 => ?_) (hk.1 c40)
      · refine w_ifeq (fun _ => ?_) (fun c => absurd rfl c)
        exact fin M' _ _ (hf M0' M' (oo.trans o1) F1)
      · refine w_ifeq (fun c => absurd c (by decide)) (fun _ => ?_)
        refine w_aln rfl ?_
        refine w_aln rfl ?_
        have l3 := rv_x_le a1 l2
        have p3 := rv_x_ge a1 l2
        refine w_cv (st := []) rfl gse rfl (Nat.le_of_ble_eq_true rfl) (fun kk h => h) (r_readClosing (d := e + 1) (se := se) a1 s2 l2 ⟨fun c M2 s3 => ?_, fun c M2 F2 => ?_⟩)
        · refine w_ifeq (fun c => absurd c (by decide)) (fun _ => ?_)
          refine w_ic ?_
          refine w_goto ?_
          exact w_iret (fun _ => Or.inr rfl) (hk.1 c (by omega) l3 (by omega) (by omega) l20 M0' M2 a1 (oo.trans o2) s3 r2)
        · refine w_ifeq (fun _ => ?_) (fun c => absurd rfl c)
          exact fin M2 _ _ (hk.2 c M0' M2 (oo.trans o2) F2)
    · refine w_ifeq (fun _ => ?_) (fun c => absurd rfl c)
      have hj : 14 ≤ se_j (T q) ∧ se_j (T q) < 24 := hb.resolve_left c40
      refine w_aln rfl ?_
      refine w_gs ?_
      intro a ga
      have ee := se_eq (k := 14) hIw gw ga
      refine w_acne (fun c => ?_) (fun c => ?_)
      · have n14 : se_j (T q) ≠ 14 := fun h => c (ee.2 h)
        have leaf : se_j (T q) = 15 ∨ se_j (T q) = 16 → ∀ cb sb, wz (e + 5) mt_X5_readOne.2.2.2.2.1 Q (mt_X5_readOne.2.2.2.2.1.drop 78) [some (.inr (.inr (some se))), some (.inr (.inr (some tp))), some (.inl (d : Int)), some (.inr (.inr (some w))), some (.inl 0)] [] G M1 cb sb := fun c15 cb sb => by
          refine w_aln rfl ?_
          refine w_aln rfl ?_
          refine w_ic ?_
          refine w_ic ?_
          refine w_cv (st := []) rfl gse rfl (Nat.le_of_ble_eq_true rfl) (fun kk h => h) (r_X5_add (d := e + 4) aa s1 dd rr (by omega) gw (fun M0' M' a3 o3 s3 r3 => ?_))
          exact w_iret (fun _ => Or.inr rfl) (hk.2.2.1 c15 p1 l1 (by omega) (by rw [se_len]; omega) (by omega) M0' M' a3 (oo.trans o3) s3 r3)
        refine w_aln rfl ?_
        refine w_gs ?_
        intro a5 ga5
        have e5 := se_eq (k := 15) hIw gw ga5
        refine w_aceq (fun c => leaf (Or.inl (e5.1 c)) _ _) (fun c5 => ?_)
        have n15 : se_j (T q) ≠ 15 := fun h => c5 (e5.2 h)
        refine w_aln rfl ?_
        refine w_gs ?_
        intro a6 ga6
        have e6 := se_eq (k := 16) hIw gw ga6
        refine w_acne (fun c6 => ?_) (fun c6 => leaf (Or.inr (e6.1 c6)) _ _)
        have n16 : se_j (T q) ≠ 16 := fun h => c6 (e6.2 h)
        refine w_aln rfl ?_
        refine w_aln rfl ?_
        refine w_aln rfl ?_
        refine w_cv (st := []) rfl gse rfl (Nat.le_of_ble_eq_true rfl) (fun kk h => h) (r_readMeasure (d := e) aa s1 l1 dd rr (by omega) gw ((hk.2.2.2 (by omega) hj.2).mono (fun f a hf M' F1 => ?_) (fun z v q1 hk2 p2 l2 M0' M' a3 o3 s3 r3 => ?_)))
        · exact w_iret (fun _ => Or.inl rfl) (hf _ M' oo F1)
        · exact w_iret (fun _ => Or.inr rfl) (hk2 (by omega) l2 (by omega) (by rw [se_len]; omega) (by omega) M0' M' a3 (oo.trans o3) s3 r3)
      · have c14 := ee.1 c
        refine w_aln rfl ?_
        refine w_aln rfl ?_
        refine w_iln rfl ?_
        refine w_ic ?_
        refine w_add ⟨by omega, by omega⟩ ?_
        refine w_cv (st := []) rfl gse rfl (Nat.le_of_ble_eq_true rfl) (fun kk h => h) (h0 (g - 1) (e + 5) (d + 1) (rv_x T q) (o + 1) cs _ M1 _ (by omega) l1 (by omega) (by omega) aa dd s1 rr (by omega) ?_)
        refine se_P.mono (fun f a hf M0' M' o1 F1 => ?_) N 0 (d + 1) _ _ _ _ _ (fun q1 o1 cs1 hk p2 l2 lo ll l20 M0' M' a1 o2 s2 r2 => ?_) (hk.2.1 c14)
        · refine w_ifeq (fun _ => ?_) (fun c => absurd rfl c)
          refine w_ic ?_
          exact w_iret (fun _ => Or.inl rfl) (hf M0' M' (oo.trans o1) F1)
        · refine w_ifeq (fun c => absurd c (by decide)) (fun _ => ?_)
          refine w_aln rfl ?_
          refine w_gs ?_
          intro a2 ga2
          refine w_ic ?_
          refine w_ic ?_
          refine w_cv (st := []) rfl gse rfl (Nat.le_of_ble_eq_true rfl) (fun kk h => h) (r_X5_add (d := e + 4) (j := 14) a1 s2 (dd.so o2) r2 (by omega) ga2 (fun M0'' M'' a3 o3 s3 r3 => ?_))
          refine w_ifeq (fun c => absurd c (by decide)) (fun _ => ?_)
          refine w_ic ?_
          refine w_goto ?_
          exact w_iret (fun _ => Or.inr rfl) (hk (by omega) l2 (by omega) (by rw [se_len]; omega) l20 M0'' M'' a3 ((oo.trans o2).trans o3) s3 r3)
  have no : ∀ (r : Option Nat) (b : Int), ¬ se_b (T q) → ∀ cb sb, wz (e + 5) mt_X5_readOne.2.2.2.2.1 Q (mt_X5_readOne.2.2.2.2.1.drop 12) [some (.inr (.inr (some se))), some (.inr (.inr (some tp))), some (.inl (d : Int)), some (.inr (.inr r)), some (.inl b)] [] G M cb sb := fun r b hb cb sb => by
    refine w_aln rfl ?_
    refine w_ic ?_
    refine w_cv (st := []) rfl gtp rfl (Nat.le_of_ble_eq_true rfl) (fun kk h => h) (r_X7_refuse (d := e + 4) hA hS (by decide) (fun M' F1 => ?_))
    exact w_iret (fun _ => Or.inl rfl) (h.2 hb M0 M' se_o.refl F1)
  have start : ∀ (r : Option Nat), M.2.2 tp 9 = r → ((∃ w, r = some w ∧ se_j (T q) < 24 ∧ G w = (900050 + 1000 * se_j (T q), 0)) ∨ (se_j (T q) = 24 ∧ r = none)) → mj_R mj_tab (e + 6) 65 [.inr (.inr (some se)), .inr (.inr (some tp)), .inl (d : Int)] G M Q := fun r e9 hr => by
    refine ⟨Nat.le_of_ble_eq_true rfl, ?_⟩
    show wz (e + 5) mt_X5_readOne.2.2.2.2.1 Q mt_X5_readOne.2.2.2.2.1 [some (.inr (.inr (some se))), some (.inr (.inr (some tp))), some (.inl (d : Int)), none, none] [] G M _ _
    refine w_aln rfl ?_
    refine w_gro gtp rfl (by decide) rfl e9 ?_
    refine w_asn ?_
    show wz _ _ _ _ [some (.inr (.inr (some se))), some (.inr (.inr (some tp))), some (.inl (d : Int)), some (.inr (.inr r)), none] _ _ _ _ _
    refine w_aln rfl ?_
    refine w_bp ?_
    refine w_cv (st := []) rfl gtp rfl (Nat.le_of_ble_eq_true rfl) (fun kk h => h) (r_X7_isSign (d := e + 4) hA hS (fun c => ?_) (fun c => ?_))
    · refine w_is ?_
      show wz _ _ _ _ [some (.inr (.inr (some se))), some (.inr (.inr (some tp))), some (.inl (d : Int)), some (.inr (.inr r)), some (.inl 1)] _ _ _ _ _
      refine w_il rfl ?_
      refine w_ifne (fun _ => ?_) (fun c => absurd c (by decide))
      exact main r 1 (Or.inl c) (Or.inl ⟨c, rfl⟩) _ _
    · refine w_is ?_
      show wz _ _ _ _ [some (.inr (.inr (some se))), some (.inr (.inr (some tp))), some (.inl (d : Int)), some (.inr (.inr r)), some (.inl 0)] _ _ _ _ _
      refine w_il rfl ?_
      refine w_ifne (fun c => absurd rfl c) (fun _ => ?_)
      refine w_aln rfl ?_
      refine w_cs (st := []) rfl (Nat.le_of_ble_eq_true rfl) (fun kk h => h) (se_begins (d := e + 3) hIw hr (fun hj => ?_) (fun hj => ?_))
      · refine w_ifne (fun _ => ?_) (fun c => absurd c (by decide))
        refine main r 0 (Or.inr hj) (Or.inr ⟨c, rfl, ?_⟩) _ _
        rcases hr with ⟨w, r1, -, gw⟩ | ⟨j1, -⟩
        · exact ⟨w, r1, gw⟩
        · exfalso; omega
      · refine w_ifne (fun c => absurd rfl c) (fun _ => ?_)
        exact no r 0 (fun hb => hb.elim c hj) _ _
  rcases se_wd hA hS hq with ⟨w, e9, j1, gw⟩ | ⟨j1, e9⟩
  · exact start (some w) e9 (Or.inl ⟨w, rfl, j1, gw⟩)
  · exact start none e9 (Or.inr ⟨j1, rfl⟩)
theorem se_all : ∀ N : Nat, se_c0 G B n tp bc pl na ta ba wa oa tr br T PL WA OA TO BI nm se st sg nu N ∧ se_c1 G B n tp bc pl na ta ba wa oa tr br T PL WA OA TO BI nm se st sg nu N ∧ se_c2 G B n tp bc pl na ta ba wa oa tr br T PL WA OA TO BI nm se st sg nu N ∧ se_c3 G B n tp bc pl na ta ba wa oa tr br T PL WA OA TO BI nm se st sg nu N ∧ se_c4 G B n tp bc pl na ta ba wa oa tr br T PL WA OA TO BI nm se st sg nu N
  | 0 => ⟨fun _ _ _ _ _ _ _ _ _ _ _ _ _ _ _ _ _ _ h => False.elim h, fun _ _ _ _ _ _ _ _ _ _ _ _ _ _ _ _ _ _ _ _ _ _ h => False.elim h, fun _ _ _ _ _ _ _ _ _ _ _ _ _ _ _ _ _ _ h => False.elim h, fun _ _ _ _ _ _ _ _ _ _ _ _ _ _ _ _ _ _ h => False.elim h, fun _ _ _ _ _ _ _ _ _ _ _ _ _ _ _ _ _ _ _ _ _ _ h => False.elim h⟩
  | N + 1 => by
    obtain ⟨h0, h1, h2, h3, h4⟩ := se_all N
    exact ⟨se_one h0 h3, se_l1 h0 h1, se_w2 h0 h1, se_w3 h2 h4, se_l4 h2 h4⟩
end UC
end
section
/-! ===== the class's sentence() ===== -/
def sc_X (G : mj_G) (M : mj_M) (x tp sp nw se sn : Nat) : Prop := (G x = (1011, 0) ∧ G sp = (1007, 0) ∧ G nw = (1007, 0) ∧ sp ≠ nw) ∧ M.2.2 x 0 = some tp ∧ M.2.2 x 1 = some nw ∧ M.2.2 x 2 = some sp ∧ M.2.2 sp 2 = some se ∧ M.2.2 nw 2 = some sn
def sc_fr (G : mj_G) (tp se st sg nu sp nw : Nat) (M M' : mj_M) : Prop := (∀ a t n, G a = (t, n) → t ≠ 1011 → t ≠ 1008 → t ≠ 1004 → t ≠ 29100 → t ≠ 30100 → t ≠ 26100 → t ≠ 28100 → a ≠ se → a ≠ sg → a ≠ nu → M'.1 a = M.1 a) ∧ ∀ a j, a ≠ st → ¬ (a = tp ∧ j = 9) → ¬ (a = sp ∧ j = 2) → ¬ (a = nw ∧ j = 2) → M'.2.2 a j = M.2.2 a j
def sc_O (G : mj_G) (x tp se st sg nu sp nw sn : Nat) (cs : (List (Nat × Int × Int))) (o : Nat) (M M' : mj_M) : Prop := M'.2.2 nw 2 = some se ∧ M'.2.2 sp 2 = some sn ∧ se_R G M' se st sg nu cs o ∧ M'.1 x 12 = 0 ∧ sc_fr G tp se st sg nu sp nw M M'
def sc_F (G : mj_G) (x tp se st sg nu sp nw sn : Nat) (f : Int) (M M' : mj_M) : Prop := M'.2.2 nw 2 = some sn ∧ M'.2.2 sp 2 = some se ∧ M'.1 x 12 = f ∧ sc_fr G tp se st sg nu sp nw M M'
section UD
variable {G : mj_G} {M0 M M' : mj_M} {B : Nat → Int} {n tp bc pl na ta ba wa oa : Nat} {tr br : Nat → Nat} {T : Nat → (Nat × Nat × Int × List Int × Nat)} {PL WA OA : Nat → Int} {TO BI : Nat → Nat → Int} {nm : Nat → List Int} {se st sg nu sn sp nw x : Nat} {Q : mj_P} {d o : Nat} {cs : (List (Nat × Int × Int))} {t : (Nat × Nat × Int × List Int × Nat)}
theorem sc_fr.of (h : sc_fr G tp se st sg nu sp nw M0 M') (o : se_o se st sg nu M M0) (g1 : G se = (1006, 0)) (g2 : G st = (34105, 40)) : sc_fr G tp se st sg nu sp nw M M' := ⟨fun a t n g c1 c2 c3 c4 c5 c6 c7 a1 a2 a3 => (h.1 a t n g c1 c2 c3 c4 c5 c6 c7 a1 a2 a3).trans (o.1 a a1 a2 a3), fun a j a1 a2 a3 a4 => (h.2 a j a1 a2 a3 a4).trans (congrFun (o.2.2 a a1) j)⟩
theorem sc_X.so {M1 : mj_M} (h : sc_X G M x tp sp nw se sn) (o : se_o se st sg nu M M1) (g2 : G st = (34105, 40)) : sc_X G M1 x tp sp nw se sn := by
  obtain ⟨⟨gx, gsp, gnw, hsn⟩, e0, e1, e2, e3, e4⟩ := h
  exact ⟨⟨gx, gsp, gnw, hsn⟩, by rw [o.2.2 x (hn_ne gx g2 (by decide))]; exact e0, by rw [o.2.2 x (hn_ne gx g2 (by decide))]; exact e1, by rw [o.2.2 x (hn_ne gx g2 (by decide))]; exact e2, by rw [o.2.2 sp (hn_ne gsp g2 (by decide))]; exact e3, by rw [o.2.2 nw (hn_ne gnw g2 (by decide))]; exact e4⟩
theorem sc_tO (hA : rv_AT G M0 B n 200 tp bc pl na ta ba wa oa tr br T) (hS : rv_S G M0 n 200 tp pl na wa oa tr br t PL WA OA TO BI nm M) (hD : se_D G M0 se st sg nu) (hX : sc_X G M0 x tp sp nw se sn) (hR : se_R G M0 se st sg nu cs o) (hQ : ∀ M', sc_O G x tp se st sg nu sp nw sn cs o M0 M' → Q (some (.inl (o : Int))) G M') (cb sb : Nat) : wz (d + 1) mt_X11_sentence.2.2.2.2.1 Q (mt_X11_sentence.2.2.2.2.1.drop 14) [some (.inr (.inr (some x))), some (.inr (.inr (some se)))] [] G M cb sb := by
  obtain ⟨⟨gtp, gbc, gpl, gna, gta, gba, gwa, goa, gtr, gbr, itr, ibr, r1, r2, r3, r4, r5, r6, r7, r8, rb, rw0, n1, n2, hIw⟩, hT⟩ := id hA
  obtain ⟨⟨gx, gsp, gnw, hsn⟩, e0, e1, e2, e3, e4⟩ := hX
  obtain ⟨gse, gst, gsg, gnu, d0, d1, d2⟩ := hD
  have hx : ∀ x ∈ [1006, 34105, 35100, 36100], x ≠ 1008 ∧ x ≠ 1004 ∧ x ≠ 29100 ∧ x ≠ 30100 ∧ x ≠ 26100 ∧ x ≠ 28100 := by decide
  have m5 : M.1 se 5 = (o : Int) := (congrFun (rv_S.fx hA hS gse (hx _ (by decide))) 5).trans hR.2.1
  have f3 := hS.2.2.2.2.2.2.2.2.2.2
  have f1 := hS.2.2.2.2.2.2.2.2.1
  have x0 := hS.rq gx gtp (by decide) e0
  have x1 := hS.rq gx gtp (by decide) e1
  have x2 := hS.rq gx gtp (by decide) e2
  have n2 := hS.rq gnw gtp (by decide) e4
  have xs : x ≠ sp := hn_ne gx gsp (by decide)
  have xn : x ≠ nw := hn_ne gx gnw (by decide)
  refine w_aln rfl ?_
  refine w_gr gx rfl (by decide) rfl x0 ?_
  refine w_gi gtp rfl (by decide) rfl hS.1.2.2 ?_
  refine w_ifne (fun c => absurd rfl c) (fun _ => ?_)
  refine w_aln rfl ?_
  refine w_gr gx rfl (by decide) rfl x2 ?_
  refine w_aln rfl ?_
  refine w_gr gx rfl (by decide) rfl x1 ?_
  refine w_gr gnw rfl (by decide) rfl n2 ?_
  refine w_pr gsp rfl (by decide) rfl ?_
  refine w_aln rfl ?_
  refine w_gr gx rfl (by decide) rfl ((wz_nr (Or.inl xs)).trans x1) ?_
  refine w_aln rfl ?_
  refine w_pr gnw rfl (by decide) rfl ?_
  refine w_aln rfl ?_
  refine w_aln rfl ?_
  refine w_gi gse rfl (by decide) rfl m5 ?_
  refine w_cv (st := []) rfl gx rfl (Nat.le_of_ble_eq_true rfl) (fun kk h => h) ⟨Nat.le_of_ble_eq_true rfl, ?_⟩
  show wz d mt_X11_closeTape.2.2.2.2.1 _ mt_X11_closeTape.2.2.2.2.1 [some (.inr (.inr (some x))), some (.inl (o : Int))] [] _ _ _ _
  have y0 : (mj_p2 (mj_p2 M sp 2 (some sn)) nw 2 (some se)).2.2 x 0 = some tp := (wz_nr (Or.inl xn)).trans ((wz_nr (Or.inl xs)).trans x0)
  refine w_aln rfl ?_
  refine w_gr gx rfl (by decide) rfl y0 ?_
  refine w_ic ?_
  refine w_pi gtp rfl (by decide) rfl (fun q => by cases q) ?_
  refine w_aln rfl ?_
  refine w_aln rfl ?_
  refine w_gr gx rfl (by decide) rfl y0 ?_
  refine w_gi gtp rfl (by decide) rfl ((hn_n (Or.inr (by decide))).trans hS.1.2.2) ?_
  refine w_pi gx rfl (by decide) rfl (fun q => by cases q) ?_
  refine w_aln rfl ?_
  refine w_gi gx rfl (by decide) rfl hn_s ?_
  refine w_ifne (fun c => absurd rfl c) (fun _ => ?_)
  refine w_iln rfl ?_
  refine w_goto ?_
  refine w_iret (fun q => by cases q) ?_
  refine w_iret (fun q => by cases q) (hQ _ ⟨wz_sr, (wz_nr (Or.inl hsn)).trans wz_sr, ?_, hn_s, fun a t n g c1 c2 c3 c4 c5 c6 c7 a1 a2 a3 => (wz_c (hn_ne g gx c1)).trans ((wz_c (hn_ne g gtp c2)).trans (f1 a (hn_ne g gtp c2) (hn_ne g gpl c3) (hn_ne g gwa c4) (hn_ne g goa c5) (fun s hs => hn_ne g (gtr s hs) c6) (fun s hs => hn_ne g (gbr s hs) c7))), fun a j a1 a2 a3 a4 => (wz_nr (by by_cases e : a = nw; exact Or.inr (fun e2 => a4 ⟨e, e2⟩); exact Or.inl e)).trans ((wz_nr (by by_cases e : a = sp; exact Or.inr (fun e2 => a3 ⟨e, e2⟩); exact Or.inl e)).trans (f3 a j a2))⟩)
  have eq : ∀ a t n, G a = (t, n) → t ≠ 1011 → t ≠ 1008 → t ∈ [1006, 34105, 35100, 36100] → (mj_p0 (mj_p0 (mj_p2 (mj_p2 M sp 2 (some sn)) nw 2 (some se)) tp 1 0) x 12 0).1 a = M0.1 a := fun a t n g c1 c2 c3 => (wz_c (hn_ne g gx c1)).trans ((wz_c (hn_ne g gtp c2)).trans (show M.1 a = M0.1 a from rv_S.fx hA hS g (hx _ c3)))
  exact ⟨(congrFun (eq se _ _ gse (by decide) (by decide) (by decide)) 4).trans hR.1, (congrFun (eq se _ _ gse (by decide) (by decide) (by decide)) 5).trans hR.2.1, fun j hj => by
    obtain ⟨⟨a, b1, b2⟩, b3, b4⟩ := hR.2.2 j hj
    exact ⟨⟨a, (wz_nr (Or.inl (hn_ne gst gnw (by decide)))).trans ((wz_nr (Or.inl (hn_ne gst gsp (by decide)))).trans (hS.rq gst gtp (by decide) b1)), b2⟩, (congrFun (eq sg _ _ gsg (by decide) (by decide) (by decide)) j).trans b3, (congrFun (eq nu _ _ gnu (by decide) (by decide) (by decide)) j).trans b4⟩⟩
theorem sc_tF {f : Int} {a : Nat} (hA : rv_AT G M0 B n 200 tp bc pl na ta ba wa oa tr br T) (hF : rv_F tp pl na wa oa tr br M0 f a M) (hD : se_D G M0 se st sg nu) (hX : sc_X G M0 x tp sp nw se sn) (hQ : ∀ M', sc_F G x tp se st sg nu sp nw sn f M0 M' → Q (some (.inl (rv_vf a))) G M') (cb sb : Nat) : wz (d + 1) mt_X11_sentence.2.2.2.2.1 Q (mt_X11_sentence.2.2.2.2.1.drop 14) [some (.inr (.inr (some x))), some (.inr (.inr (some se)))] [] G M cb sb := by
  obtain ⟨⟨gtp, gbc, gpl, gna, gta, gba, gwa, goa, gtr, gbr, itr, ibr, r1, r2, r3, r4, r5, r6, r7, r8, rb, rw0, n1, n2, hIw⟩, hT⟩ := id hA
  obtain ⟨⟨gx, gsp, gnw, hsn⟩, e0, e1, e2, e3, e4⟩ := hX
  obtain ⟨gse, gst, gsg, gnu, d0, d1, d2⟩ := hD
  obtain ⟨h2, h3, ⟨f1, f2, f3⟩, f0⟩ := hF
  have x0 : M.2.2 x 0 = some tp := (f3 x 0 (fun e => hn_ne gx gtp (by decide) e.1)).trans e0
  refine w_aln rfl ?_
  refine w_gr gx rfl (by decide) rfl x0 ?_
  refine w_gi gtp rfl (by decide) rfl h2 ?_
  refine w_ifne (fun _ => ?_) (fun c => absurd c f0)
  refine w_aln rfl ?_
  refine w_aln rfl ?_
  refine w_gi gse rfl (by decide) rfl rfl ?_
  refine w_cv (st := []) rfl gx rfl (Nat.le_of_ble_eq_true rfl) (fun kk h => h) ⟨Nat.le_of_ble_eq_true rfl, ?_⟩
  show wz d mt_X11_closeTape.2.2.2.2.1 _ mt_X11_closeTape.2.2.2.2.1 [some (.inr (.inr (some x))), some (.inl (M.1 se 5))] [] _ _ _ _
  refine w_aln rfl ?_
  refine w_gr gx rfl (by decide) rfl x0 ?_
  refine w_ic ?_
  refine w_pi gtp rfl (by decide) rfl (fun q => by cases q) ?_
  refine w_aln rfl ?_
  refine w_aln rfl ?_
  refine w_gr gx rfl (by decide) rfl x0 ?_
  refine w_gi gtp rfl (by decide) rfl ((hn_n (Or.inr (by decide))).trans h2) ?_
  refine w_pi gx rfl (by decide) rfl (fun q => by cases q) ?_
  refine w_aln rfl ?_
  refine w_gi gx rfl (by decide) rfl hn_s ?_
  refine w_ifne (fun _ => ?_) (fun c => absurd c f0)
  refine w_ic ?_
  refine w_aln rfl ?_
  refine w_gr gx rfl (by decide) rfl x0 ?_
  refine w_gi gtp rfl (by decide) rfl ((hn_n (Or.inl (hn_ne gtp gx (by decide)))).trans ((hn_n (Or.inr (by decide))).trans h3)) ?_
  refine w_subw ?_
  intro z hz ez
  have ev : z = rv_vf a := ez
  refine w_iret (fun q => by cases q) ?_
  refine w_iret (fun q => by cases q) ?_
  rw [ev]
  exact hQ _ ⟨(f3 nw 2 (fun e => hn_ne gnw gtp (by decide) e.1)).trans e4, (f3 sp 2 (fun e => hn_ne gsp gtp (by decide) e.1)).trans e3, hn_s, fun a t n g c1 c2 c3 c4 c5 c6 c7 a1 a2 a3 => (wz_c (hn_ne g gx c1)).trans ((wz_c (hn_ne g gtp c2)).trans (f1 a (hn_ne g gtp c2) (hn_ne g gpl c3) (hn_ne g gwa c4) (hn_ne g goa c5) (fun s hs => hn_ne g (gtr s hs) c6) (fun s hs => hn_ne g (gbr s hs) c7))), fun a j a1 a2 a3 a4 => f3 a j a2⟩
theorem r_X11_sentence (hA : rv_AT G M B n 200 tp bc pl na ta ba wa oa tr br T) (hX : sc_X G M x tp sp nw se sn) (hD : se_D G M se st sg nu) (hn : M.1 tp 1 = (n : Int)) (hN : ∀ s, s < 8 → M.2.1 na s = rv_5 (nm s) ∧ rv_wo (nm s)) (h : se_A T (fun f a => ∀ M', sc_F G x tp se st sg nu sp nw sn f M M' → Q (some (.inl (rv_vf a))) G M') (fun o cs => 0 < o → o ≤ 20 → cs.length + 1 ≤ 2 * o → ∀ M', sc_O G x tp se st sg nu sp nw sn cs o M M' → Q (some (.inl (o : Int))) G M') (4 * n + 7)) : mj_R mj_tab (d + 34) 147 [.inr (.inr (some x))] G M Q := by
  obtain ⟨⟨gtp, gbc, gpl, gna, gta, gba, gwa, goa, gtr, gbr, itr, ibr, r1, r2, r3, r4, r5, r6, r7, r8, rb, rw0, n1, n2, hIw⟩, hT⟩ := id hA
  have hX0 := hX
  obtain ⟨⟨gx, gsp, gnw, hsn⟩, e0, e1, e2, e3, e4⟩ := hX0
  have hD0 := hD
  obtain ⟨gse, gst, gsg, gnu, d0, d1, d2⟩ := hD0
  refine ⟨Nat.le_of_ble_eq_true rfl, ?_⟩
  show wz (d + 33) mt_X11_sentence.2.2.2.2.1 Q mt_X11_sentence.2.2.2.2.1 [some (.inr (.inr (some x))), none] [] G M _ _
  refine w_aln rfl ?_
  refine w_gr gx rfl (by decide) rfl e2 ?_
  refine w_gr gsp rfl (by decide) rfl e3 ?_
  refine w_asn ?_
  show wz _ _ _ _ [some (.inr (.inr (some x))), some (.inr (.inr (some se)))] _ _ _ _ _
  refine w_aln rfl ?_
  refine w_cv (st := []) rfl gse rfl (Nat.le_of_ble_eq_true rfl) (fun kk h => h) ⟨Nat.le_of_ble_eq_true rfl, ?_⟩
  show wz (d + 32) mt_X5_clear.2.2.2.2.1 _ mt_X5_clear.2.2.2.2.1 [some (.inr (.inr (some se)))] [] _ _ _ _
  refine w_aln rfl ?_
  refine w_ic ?_
  refine w_pi gse rfl (by decide) rfl (fun q => by cases q) ?_
  refine w_aln rfl ?_
  refine w_ic ?_
  refine w_pi gse rfl (by decide) rfl (fun q => by cases q) ?_
  refine w_ret ?_
  have o1 : se_o se st sg nu M (mj_p0 (mj_p0 M se 4 0) se 5 0) := ⟨fun a a1 _ _ => (wz_c a1).trans (wz_c a1), rfl, fun _ _ => rfl⟩
  have R1 : se_R G (mj_p0 (mj_p0 M se 4 0) se 5 0) se st sg nu [] 0 := ⟨(hn_n (Or.inr (by decide))).trans hn_s, hn_s, fun j hj => absurd hj (Nat.not_lt_zero j)⟩
  have A1 : rv_AT G (mj_p0 (mj_p0 M se 4 0) se 5 0) B n 200 tp bc pl na ta ba wa oa tr br T := hA.so hD o1
  have D1 := hD.so o1
  have X1 := hX.so o1 gst
  have tpf : (mj_p0 (mj_p0 M se 4 0) se 5 0).1 tp = M.1 tp := o1.1 tp (hn_ne gtp gse (by decide)) (hn_ne gtp gsg (by decide)) (hn_ne gtp gnu (by decide))
  generalize (mj_p0 (mj_p0 M se 4 0) se 5 0) = M1 at *
  have u2 : M1.2.1 = M.2.1 := o1.2.1
  have x01 : M1.2.2 x 0 = some tp := X1.2.1
  refine w_aln rfl ?_
  refine w_gr gx rfl (by decide) rfl x01 ?_
  refine w_sp ?_
  refine w_cv (st := []) rfl gtp rfl (Nat.le_of_ble_eq_true rfl) (fun kk h => h) ⟨Nat.le_of_ble_eq_true rfl, ?_⟩
  show wz (d + 32) mt_X7_open.2.2.2.2.1 _ mt_X7_open.2.2.2.2.1 [some (.inr (.inr (some tp))), some (.inl 200)] [] _ _ _ _
  refine w_aln rfl ?_
  refine w_iln rfl ?_
  refine w_pi gtp rfl (by decide) rfl (fun q => by cases q) ?_
  refine w_aln rfl ?_
  refine w_ic ?_
  refine w_pi gtp rfl (by decide) rfl (fun q => by cases q) ?_
  refine w_aln rfl ?_
  refine w_ic ?_
  refine w_pi gtp rfl (by decide) rfl (fun q => by cases q) ?_
  refine w_aln rfl ?_
  refine w_ic ?_
  refine w_pi gtp rfl (by decide) rfl (fun q => by cases q) ?_
  refine w_ret ?_
  refine w_aln rfl ?_
  refine w_aln rfl ?_
  refine w_gr gx rfl (by decide) rfl x01 ?_
  have e4' : ∀ b, b ≠ tp → (mj_p0 (mj_p0 (mj_p0 (mj_p0 M1 tp 10 200) tp 11 0) tp 2 0) tp 3 0).1 b = M1.1 b := fun b hb => (wz_c hb).trans ((wz_c hb).trans ((wz_c hb).trans (wz_c hb)))
  have S0 : rv_S0 G M1 n 200 tp pl na wa oa tr br 0 (M1.1 pl) (M1.1 wa) (M1.1 oa) (fun s => M1.1 (tr s)) (fun s => M1.1 (br s)) nm (mj_p0 (mj_p0 (mj_p0 (mj_p0 M1 tp 10 200) tp 11 0) tp 2 0) tp 3 0) := ⟨⟨(hn_n (Or.inr (by decide))).trans ((hn_n (Or.inr (by decide))).trans ((hn_n (Or.inr (by decide))).trans ((hn_n (Or.inr (by decide))).trans ((congrFun tpf 1).trans hn)))), (hn_n (Or.inr (by decide))).trans ((hn_n (Or.inr (by decide))).trans ((hn_n (Or.inr (by decide))).trans hn_s)), (hn_n (Or.inr (by decide))).trans hn_s⟩, (hn_n (Or.inr (by decide))).trans ((hn_n (Or.inr (by decide))).trans hn_s), e4' pl (hn_ne gpl gtp (by decide)), e4' wa (hn_ne gwa gtp (by decide)), e4' oa (hn_ne goa gtp (by decide)), fun s hs => e4' _ (hn_ne (gtr s hs) gtp (by decide)), fun s hs => e4' _ (hn_ne (gbr s hs) gtp (by decide)), fun s hs => ⟨by show M1.2.1 na s = _; rw [u2]; exact (hN s hs).1, (hN s hs).2⟩, fun a a1 a2 a3 a4 a5 a6 => e4' a a1, fun a a1 _ => rfl, fun a j _ => rfl⟩
  refine w_cv (st := []) rfl gse rfl (Nat.le_of_ble_eq_true rfl) (fun kk h => h) ⟨Nat.le_of_ble_eq_true rfl, ?_⟩
  show wz (d + 32) mt_X5_readText.2.2.2.2.1 _ mt_X5_readText.2.2.2.2.1 [some (.inr (.inr (some se))), some (.inr (.inr (some tp)))] [] _ _ _ _
  refine w_aln rfl ?_
  refine w_cv (st := []) rfl gtp rfl (Nat.le_of_ble_eq_true rfl) (fun kk h => h) (r_adv0 (d := d + 29) A1.1 S0 (Nat.zero_le n) (fun M2 s2 => ?_))
  rw [← hT] at s2
  refine w_aln rfl ?_
  refine w_aln rfl ?_
  refine w_ic ?_
  refine w_cv (st := []) rfl gse rfl (Nat.le_of_ble_eq_true rfl) (fun kk h => h) ((se_all (4 * n + 7)).2.2.2.1 8 (d + 32) 1 0 0 [] M1 M2 _ (by decide) (Nat.zero_le n) (by decide) (by decide) A1 D1 s2 R1 (by omega) ?_)
  refine se_P.mono (fun f a hf M0' M' oo F => ?_) (4 * n + 7) 3 1 _ _ _ _ _ (fun q1 o' cs' hk p1 l1 lo ll l20 M0' M' a1 oo s3 r3 => ?_) h
  · refine w_ifeq (fun _ => ?_) (fun c => absurd rfl c)
    refine w_ret ?_
    exact sc_tF (d := d + 32) (A1.so D1 oo) F (D1.so oo) (X1.so oo gst) (fun M3 h3 => hf M3 ⟨h3.1, h3.2.1, h3.2.2.1, h3.2.2.2.of (o1.trans oo) gse gst⟩) _ _
  · refine w_ifeq (fun c => absurd c (by decide)) (fun _ => ?_)
    refine w_aln rfl ?_
    refine w_cv (st := []) rfl gtp rfl (Nat.le_of_ble_eq_true rfl) (fun kk h => h) (r_X7_fin (d := d + 30) a1 s3 (fun e => ?_) (fun e M3 F3 => ?_))
    · refine w_pop ?_
      refine w_ret ?_
      exact sc_tO (d := d + 32) a1 s3 (D1.so oo) (X1.so oo gst) r3 (fun M3 h3 => hk.1 e (by omega) l20 (by have : ([] : (List (Nat × Int × Int))).length = 0 := rfl; omega) M3 ⟨h3.1, h3.2.1, h3.2.2.1, h3.2.2.2.1, h3.2.2.2.2.of (o1.trans oo) gse gst⟩) _ _
    · refine w_pop ?_
      refine w_ret ?_
      exact sc_tF (d := d + 32) a1 F3 (D1.so oo) (X1.so oo gst) (fun M4 h4 => hk.2 e M4 ⟨h4.1, h4.2.1, h4.2.2.1, h4.2.2.2.of (o1.trans oo) gse gst⟩) _ _
end UD
end
