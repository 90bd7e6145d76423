/-! ===== YEARS in the whole invariant ===== -/
def lp_U (G : mj_G) (M : mj_M) (x m tp s kp bc bt kc kr : Nat) (w : Nat → Nat) (c : Int) : Prop := lp_Z G M x m tp s kp bc bt kc kr w c ∧ lq_W G M m s kp kc w
/-- whether on goes on -/
def lr_c (H : Nat → Int) (n : Int) : Prop := H 221 = 1 ∧ 0 ≤ n ∧ n ≤ 12
def lr_oT (H : Nat → Int) (n : Int) : ye_T := ye_it H (fun _ => 0) (ye_S H 0) (lr_on H n).toNat
section YT2
variable {G : mj_G} {M M' : mj_M} {x m tp s kp bc bt kc kr ud : Nat} {w : Nat → Nat} {c c' z z1 z2 z3 n : Int} {P : Nat → Int} {W : List (Nat × Nat × Nat)}
theorem lp_U.le (h : lp_U G M x m tp s kp bc bt kc kr w c) (hc : c ≤ c') : lp_U G M x m tp s kp bc bt kc kr w c' := ⟨h.1.le hc, h.2⟩
theorem lp_U.mv (h : lp_U G M x m tp s kp bc bt kc kr w c) (e1 : M'.1 = M.1) (e2 : M'.2.2 = M.2.2) (e3 : ∀ y k, (G y).1 ≠ 90103 → M'.2.1 y k = M.2.1 y k) : lp_U G M' x m tp s kp bc bt kc kr w c := ⟨h.1.mv e1 e2 e3, h.2.mv e1 e2⟩
theorem lq_W.p0m {k : Nat} {v : Int} (h : lq_W G M m s kp kc w) (gm : G m = (1012, 0)) (gs : G s = (51100, 537)) (gk : G kp = (70100, 1076)) (gc : G kc = (48102, 2)) (hk : k ≠ 32) : lq_W G (mj_p0 M m k v) m s kp kc w := h.cg (h.2.1.cg (fun _ _ _ _ _ => rfl) (fun _ _ _ _ => rfl) (fun _ _ => rfl)) (hn_n (Or.inr (fun e => hk e.symm))) (fun Y hY u hu => wz_c (fun e => yw_nt h.1 hY gm (by decide) u hu e.symm)) (fun j _ => congrFun (wz_c (hn_ne gs gm (by decide))) j) (wz_c (hn_ne gk gm (by decide))) (wz_c (hn_ne gc gm (by decide)))
theorem lq_W.ctY {y : rv_Od} (h : lq_W G M m s kp kc w) (hA : lq_A G w) (f : ab_frm W G M M') (cW : lq_Wu W) (e32 : M'.1 m 32 = M.1 m 32) (ek : M'.1 kp = M.1 kp) (ec : M'.1 kc = M.1 kc) (b0 : 0 ≤ M.1 s 0) (hdb : ∀ R r, y = .inr (R, r) → rv_db (M.1 s 0) R) (o1 : ∀ e, y = .inl e → M'.1 s = M.1 s) (o2 : ∀ R r, y = .inr (R, r) → rq_O s R r M M') : lq_W G M' m s kp kc w := by
  rcases y with e | ⟨R, r⟩
  · exact h.tr hA f cW e32 (fun j _ => by rw [o1 e rfl]) ek ec
  · exact h.dl hA f cW e32 (fun j hj => (o2 R r rfl).2.2 j (by omega)) ek ec (yd_ok.ct (hdb R r rfl) b0 (o2 R r rfl))
theorem lq_W.tkY (h : lq_W G M m s kp kc w) (hA : lq_A G w) (gs : G s = (51100, 537)) (f : ab_frm W G M M') (cW : lq_Wu W) (cS : ∀ q ∈ W, q.1 ≠ 51100 ∨ (88 ≤ q.2.1 ∧ q.2.2 < 221) ∨ 356 ≤ q.2.1) (e32 : M'.1 m 32 = M.1 m 32) (ek : M'.1 kp = M.1 kp) (ec : M'.1 kc = M.1 kc) (h6 : rv_r6 (M.1 s) 0) (hP : z ≠ 0 → ∀ j, j < 12 → P j = 8 ∨ (0 ≤ P j ∧ P j < M.1 s 0)) (o1 : z = 0 → M'.1 s = M.1 s) (o2 : z ≠ 0 → rq_T s P M M') : lq_W G M' m s kp kc w := by
  by_cases hz : z = 0
  · exact h.tr hA f cW e32 (fun j _ => by rw [o1 hz]) ek ec
  · have es : ∀ j, j < 88 ∨ (221 ≤ j ∧ j < 356) → M'.1 s j = M.1 s j := fun j hj => (f s j (by rw [gs]; rintro ⟨r, hr, e1, e2, e3⟩; have := cS r hr; omega)).1
    exact h.dl hA f cW e32 es ek ec (yd_ok.tk h6 (hP hz) (es 0 (Or.inl (by decide))) (o2 hz))
theorem lq_imgY (hI : ab_Inv G M) (gx : G x = (1011, 0)) (hA : lq_A G w) (hB : lq_B M w x) (gA : lq_WA G w) (wB : lq_WB M w) (x4 : M.2.2 x 4 = some kc) (gkc : G kc = (48102, 2)) : mj_R mj_tab 40 127 [.inr (.inr (some x)), .inl z1] G M (fun _ _ M' => lq_yiy G M M' kc w z1) :=
  r_X11_imageY hI gx hA hB gA wB x4 gkc (fun hz => ⟨fun _ => rfl, fun k hk e => absurd ⟨by omega, by omega⟩ hz⟩) (fun k hk e M1 M2 al hc => ⟨fun hz => absurd ⟨by omega, by omega⟩ hz, fun k' hk' e' => by
    obtain rfl : k' = k := by omega
    exact ⟨M1, M2, al, hc, rfl⟩⟩)
theorem lq_rstY (hI : ab_Inv G M) (gx : G x = (1011, 0)) (hA : lq_A G w) (hB : lq_B M w x) (gA : lq_WA G w) (wB : lq_WB M w) (x4 : M.2.2 x 4 = some kc) (gkc : G kc = (48102, 2)) (x5 : M.2.2 x 5 = some ud) (gud : G ud = (1009, 0)) : mj_R mj_tab 40 144 [.inr (.inr (some x)), .inl z1] G M (fun _ _ M' => lq_yry G M M' kc ud w z1) :=
  r_X11_restoreY hI gx hA hB gA wB x4 gkc x5 gud (fun hz => ⟨fun _ => rfl, fun k hk e h0 => by
    rcases hz with hz | ⟨k2, a, b, e0⟩
    · exact absurd ⟨by omega, by omega⟩ hz
    · obtain rfl : k2 = k := by omega
      exact absurd e0 h0⟩) (fun k hk e h0 M1 M2 al hc => ⟨fun hz => absurd (hz k hk e) h0, fun k' hk' e' _ => by
    obtain rfl : k' = k := by omega
    exact ⟨M1, M2, al, hc, rfl⟩⟩)
theorem ye_oS (h : ye_okT (fun j => M.1 s (0 + j)) (ye_S (M.1 s) 0)) : ye_okT (M.1 s) (ye_S (M.1 s) 0) := by
  have e : (fun j => M.1 s (0 + j)) = M.1 s := funext fun j => by rw [Nat.zero_add]
  rw [e] at h; exact h
theorem lq_W.rn (h : lq_W G M m s kp kc w) : (M.1 s 221 = 0 ∨ M.1 s 221 = 1) ∧ (M.1 s 221 = 1 → ye_okT (M.1 s) (ye_S (M.1 s) 0)) := ⟨h.2.2.2.1.1.2.1, fun c => ye_oS (h.2.2.2.1.1.2.2 c).2⟩
theorem lr_on_b (hH : ye_H (M.1 s)) (hk : ye_okT (M.1 s) (ye_S (M.1 s) 0)) (hc : lr_c (M.1 s) n) : ye_okT (M.1 s) (lr_oT (M.1 s) n) := by
  have e : lr_on (M.1 s) n = (if n < 12 - M.1 s 222 then n else 12 - M.1 s 222) := if_pos hc
  have e2 : (ye_S (M.1 s) 0).1 222 = M.1 s 222 := by show M.1 s (0 + 222) = _; rw [Nat.zero_add]
  have b := hk.1
  have h0 := hc.2.1
  rw [e2] at b
  have hd : 0 ≤ lr_on (M.1 s) n ∧ lr_on (M.1 s) n ≤ 12 - M.1 s 222 := by rw [e]; split <;> omega
  exact (ye_it_ok hH hk (xs := fun _ => 0) (fun _ => ⟨Int.le_refl 0, by decide⟩) (lr_on (M.1 s) n).toNat (by rw [e2]; omega)).1
theorem lq_begY (hZ : lp_Z G M x m tp s kp bc bt kc kr w c) (hW : lq_W G M m s kp kc w) : mj_R mj_tab 40 110 [.inr (.inr (some x))] G M (fun _ _ M' => (M.1 s 0 = 0 → lq_W G M' m s kp kc w) ∧ (M.1 s 0 ≠ 0 → lq_Wo G M' m s kp kc w (ye_fr (M.1 s)))) := by
  have hI := hZ.1.1.1
  obtain ⟨hA, hB, p, q, hN, hG, -⟩ := hI.J
  obtain ⟨dA, dB, ⟨dn, ds, hDN, hE⟩, -⟩ := hZ.2
  exact r_X11_beginY hI.gx hA hB hN hG hW.1 hW.2.1 dA dB hDN hE (fun h0 => ⟨fun _ => hW, fun n => absurd h0 n⟩) (fun h0 M1 ho hC => ⟨fun e => absurd e h0, fun _ => hW.on1 hA hI.gm hI.gs hI.gk hI.gc ho hC (ye_fr_ok (ye_H.ofs hI.T.1 hW.2.2.2.1.2.zy)).1⟩)
theorem lq_onY (hZ : lp_Z G M x m tp s kp bc bt kc kr w c) (hW : lq_W G M m s kp kc w) : mj_R mj_tab 40 137 [.inr (.inr (some x)), .inl n] G M (fun r _ M' => r = some (.inl (lr_on (M.1 s) n)) ∧ (¬ lr_c (M.1 s) n → lq_W G M' m s kp kc w) ∧ (lr_c (M.1 s) n → lq_Wo G M' m s kp kc w (lr_oT (M.1 s) n))) := by
  have hI := hZ.1.1.1
  obtain ⟨hA, hB, p, q, hN, hG, -⟩ := hI.J
  obtain ⟨dA, dB, ⟨dn, ds, hDN, hE⟩, -⟩ := hZ.2
  have hH := (ye_H.ofs hI.T.1 hW.2.2.2.1.2.zy).1
  obtain ⟨hr, hk⟩ := hW.rn
  have h1 : M.1 (w 61) 0 = M.1 s 221 := hW.2.2.2.1.1.1
  refine r_X11_onY hI.gx hA hB hN hG hW.1 hW.2.1 dA dB hDN hE hH h1 hr (fun c => ⟨⟨h1.trans c, (hW.2.2.2.1.1.2.2 c).1⟩, hk c⟩) (fun hc => ?_) (fun hc M1 ho hC => ?_)
  · refine ⟨?_, fun _ => hW, fun q => absurd q hc⟩
    rw [show lr_on (M.1 s) n = -1 from if_neg hc]
  · exact ⟨rfl, fun q => absurd hc q, fun _ => hW.on1 hA hI.gm hI.gs hI.gk hI.gc ho hC (lr_on_b hH (hk hc.1) hc)⟩
theorem lq_begR (gm : G m = (1012, 0)) (gs : G s = (51100, 537)) (m6 : M.2.2 m 6 = some s) (h32 : M.1 m 32 = -1) (hH : ye_H2 (M.1 s)) : mj_R mj_tab 40 162 [.inr (.inr (some m))] G M (fun _ _ M' => (M.1 s 0 = 0 → M' = mj_p0 M m 0 0) ∧ (M.1 s 0 ≠ 0 → yw_R s m 1 (ye_fr (M.1 s)) M M')) :=
  r_X12_beginY ⟨gm, gs, m6, fun _ _ => rfl, h32⟩ hH (fun h0 => ⟨fun _ => rfl, fun n => absurd h0 n⟩) (fun h0 M1 hR => ⟨fun e => absurd e h0, fun _ => hR⟩)
theorem lq_onR (gm : G m = (1012, 0)) (gs : G s = (51100, 537)) (m6 : M.2.2 m 6 = some s) (h32 : M.1 m 32 = -1) (hH : ye_H2 (M.1 s)) (hr : M.1 s 221 = 0 ∨ M.1 s 221 = 1) (hk : M.1 s 221 = 1 → ye_okT (M.1 s) (ye_S (M.1 s) 0)) : mj_R mj_tab 40 221 [.inr (.inr (some m)), .inl n] G M (fun r _ M' => r = some (.inl (lr_on (M.1 s) n)) ∧ (¬ lr_c (M.1 s) n → M' = mj_p0 M m 0 0) ∧ (lr_c (M.1 s) n → yw_R s m 1 (lr_oT (M.1 s) n) M M')) := by
  refine r_X12_onY ⟨gm, gs, m6, fun _ _ => rfl, h32⟩ hH hr hk (fun hc => ?_) (fun hc M1 hR => ⟨rfl, fun q => absurd hc q, fun _ => hR⟩)
  refine ⟨?_, fun _ => rfl, fun q => absurd q hc⟩
  rw [show lr_on (M.1 s) n = -1 from if_neg hc]
theorem lq_worR (hV : lw_V G M x m tp s kp) (hW : lq_W G M m s kp kc w) (h6 : rv_r6 (M.1 s) 0) : mj_R mj_tab 40 259 [.inr (.inr (some m)), .inl z1] G M (fun r _ M' => r = some (.inl (lr_worth (M.1 s) z1)) ∧ (∀ j, j < 537 → M'.1 s j = M.1 s j) ∧ M'.1 m 32 = M.1 m 32) := by
  obtain ⟨inv, ⟨gx, gm, gtp, gs, -⟩, ⟨x0, m6, -⟩, -⟩ := hV
  obtain ⟨bf, m45, gf⟩ := hn_rf (k := 45) (q := (64100, 135)) inv gm rfl (by decide) (by decide) (by decide) (fun e => absurd e (by decide))
  obtain ⟨bk, m46, gk⟩ := hn_rf (k := 46) (q := (65100, 12)) inv gm rfl (by decide) (by decide) (by decide) (fun e => absurd e (by decide))
  exact r_X12_worthC ⟨gm, gs, m6, fun _ _ => rfl, hW.2.2.1⟩ gf m45 (ye_H.ofs h6 hW.2.2.2.1.2.zy) m46 gk (fun M1 hK => ⟨rfl, hK.2.2.1, hK.2.2.2 32 (by decide) (by decide) (by decide) (by decide) (by decide)⟩)
theorem lq_musR (hV : lw_V G M x m tp s kp) (hW : lq_W G M m s kp kc w) (h6 : rv_r6 (M.1 s) 0) : mj_R mj_tab 40 215 [.inr (.inr (some m)), .inl z1, .inl z2] G M (fun r _ M' => r = some (.inl (lr_must (M.1 s) z1 z2)) ∧ (∀ j, j < 537 → M'.1 s j = M.1 s j) ∧ M'.1 m 32 = M.1 m 32) := by
  obtain ⟨inv, ⟨gx, gm, gtp, gs, -⟩, ⟨x0, m6, -⟩, -⟩ := hV
  obtain ⟨bf, m45, gf⟩ := hn_rf (k := 45) (q := (64100, 135)) inv gm rfl (by decide) (by decide) (by decide) (fun e => absurd e (by decide))
  exact r_X12_mustC ⟨gm, gs, m6, fun _ _ => rfl, hW.2.2.1⟩ gf m45 (ye_H.ofs h6 hW.2.2.2.1.2.zy) (fun M1 hK => ⟨rfl, hK.2.2.1, hK.2.2.2 32 (by decide) (by decide) (by decide) (by decide) (by decide)⟩)
theorem lq_shoR (hV : lw_V G M x m tp s kp) (hW : lq_W G M m s kp kc w) (h6 : rv_r6 (M.1 s) 0) : mj_R mj_tab 40 240 [.inr (.inr (some m)), .inl z1, .inl z2, .inl z3] G M (fun r _ M' => r = some (.inl (lr_shores (M.1 s) z1 z2 z3)) ∧ (∀ j, j < 537 → M'.1 s j = M.1 s j) ∧ M'.1 m 32 = M.1 m 32) := by
  obtain ⟨inv, ⟨gx, gm, gtp, gs, -⟩, ⟨x0, m6, -⟩, -⟩ := hV
  obtain ⟨bf, m45, gf⟩ := hn_rf (k := 45) (q := (64100, 135)) inv gm rfl (by decide) (by decide) (by decide) (fun e => absurd e (by decide))
  exact r_X12_shoresC ⟨gm, gs, m6, fun _ _ => rfl, hW.2.2.1⟩ gf m45 (ye_H.ofs h6 hW.2.2.2.1.2.zy) (fun M1 hK => ⟨rfl, hK.2.2.1, hK.2.2.2 32 (by decide) (by decide) (by decide) (by decide) (by decide)⟩)
theorem lq_soR (hV : lw_V G M x m tp s kp) (hW : lq_W G M m s kp kc w) (h6 : rv_r6 (M.1 s) 0) : mj_R mj_tab 40 241 [.inr (.inr (some m))] G M (fun r _ M' => r = some (.inl (lr_shoresOf (M.1 s))) ∧ (∀ j, j < 537 → M'.1 s j = M.1 s j) ∧ M'.1 m 32 = M.1 m 32) := by
  obtain ⟨inv, ⟨gx, gm, gtp, gs, -⟩, ⟨x0, m6, -⟩, -⟩ := hV
  obtain ⟨bf, m45, gf⟩ := hn_rf (k := 45) (q := (64100, 135)) inv gm rfl (by decide) (by decide) (by decide) (fun e => absurd e (by decide))
  exact r_X12_shoresOfC (d := 34) ⟨gm, gs, m6, fun _ _ => rfl, hW.2.2.1⟩ gf m45 (ye_H.ofs h6 hW.2.2.2.1.2.zy) (fun M1 hK => ⟨rfl, hK.2.2.1, hK.2.2.2 32 (by decide) (by decide) (by decide) (by decide) (by decide)⟩)
theorem lq_thR (hV : lw_V G M x m tp s kp) (hW : lq_W G M m s kp kc w) (h6 : rv_r6 (M.1 s) 0) : mj_R mj_tab 40 248 [.inr (.inr (some m))] G M (fun r _ M' => r = some (.inl (lr_thirsty (M.1 s))) ∧ (∀ j, j < 537 → M'.1 s j = M.1 s j) ∧ M'.1 m 32 = M.1 m 32) := by
  obtain ⟨inv, ⟨gx, gm, gtp, gs, -⟩, ⟨x0, m6, -⟩, -⟩ := hV
  obtain ⟨bf, m45, gf⟩ := hn_rf (k := 45) (q := (64100, 135)) inv gm rfl (by decide) (by decide) (by decide) (fun e => absurd e (by decide))
  exact r_X12_thirstyC (d := 34) ⟨gm, gs, m6, fun _ _ => rfl, hW.2.2.1⟩ gf m45 (ye_H.ofs h6 hW.2.2.2.1.2.zy) (fun M1 hK => ⟨rfl, hK.2.2.1, hK.2.2.2 32 (by decide) (by decide) (by decide) (by decide) (by decide)⟩)
theorem lq_drR (hV : lw_V G M x m tp s kp) (hW : lq_W G M m s kp kc w) (h6 : rv_r6 (M.1 s) 0) : mj_R mj_tab 40 182 [.inr (.inr (some m)), .inl z1] G M (fun r _ M' => r = some (.inl (lr_drawn (M.1 s) z1)) ∧ (∀ j, j < 537 → M'.1 s j = M.1 s j) ∧ M'.1 m 32 = M.1 m 32) := by
  obtain ⟨inv, ⟨gx, gm, gtp, gs, -⟩, ⟨x0, m6, -⟩, -⟩ := hV
  obtain ⟨bf, m45, gf⟩ := hn_rf (k := 45) (q := (64100, 135)) inv gm rfl (by decide) (by decide) (by decide) (fun e => absurd e (by decide))
  exact r_X12_drawnC (d := 34) ⟨gm, gs, m6, fun _ _ => rfl, hW.2.2.1⟩ gf m45 (ye_H.ofs h6 hW.2.2.2.1.2.zy) (fun M1 hK => ⟨rfl, hK.2.2.1, hK.2.2.2 32 (by decide) (by decide) (by decide) (by decide) (by decide)⟩)
theorem lq_leR (hV : lw_V G M x m tp s kp) (hW : lq_W G M m s kp kc w) (b0 : 0 ≤ M.1 s 0 ∧ M.1 s 0 ≤ 8) : mj_R mj_tab 40 210 [.inr (.inr (some m))] G M (fun _ _ M' => (∀ j, j < 537 → M'.1 s j = M.1 s j) ∧ M'.1 m 32 = M.1 m 32) := by
  obtain ⟨inv, ⟨gx, gm, gtp, gs, -⟩, ⟨x0, m6, -⟩, -⟩ := hV
  exact r_X12_leaksY inv gm gs m6 b0 hW.2.2.1 (fun z M' e1 e2 => ⟨e1, e2.trans hW.2.2.1.symm⟩)
theorem sz_headW {w : sx_w} {h : sx_H} {G : mj_G} {M : mj_M} (hR : sx_RH w h G M) (k2 : sz_hk h = true) : lq_W (sz_G w h G) (sz_M w h G M) (w.2.2.2 336) (w.2.2.2 338) (w.2.2.2 357) (w.2.2.2 120) w.2.2.2 := by
  have n1 := (sz_hk_s k2).1
  obtain ⟨ya, yb, -, -, -⟩ := sz_hy_s k2
  have tg : ∀ i t n, (i, t, n) ∈ sz_lt → sz_G w h G (w.2.2.2 i) = (t, n) := fun i t n he => sz_tg_s (yb (i, t, n) he) hR (by have := sz_lt_lt _ he; omega)
  have rq : ∀ i k j, (i, k, j) ∈ sz_lr → (sz_M w h G M).2.2 (w.2.2.2 i) k = some (w.2.2.2 j) := fun i k j he => sz_rq_s (ya (i, k, j) he) hR (by have := (sz_lr_lt _ he).1; omega) (sz_lr_lt _ he).2
  have c0 : (sz_M w h G M).1 (w.2.2.2 120) 0 = 0 := sz_q_s hR k2 (by decide +kernel)
  have c1 : (sz_M w h G M).1 (w.2.2.2 120) 1 = 0 := sz_q_s hR k2 (by decide +kernel)
  have s0 : ∀ j, j < 36 → (sz_M w h G M).1 (w.2.2.2 338) (184 + j) = 0 := fun j hj => sz_q_s hR k2 ((by decide +kernel : ∀ j, j < 36 → sz_q 338 (184 + j) = true) j hj)
  have s1 : (sz_M w h G M).1 (w.2.2.2 338) 0 = 0 := sz_q_s hR k2 (by decide +kernel)
  have s2 : (sz_M w h G M).1 (w.2.2.2 338) (0 + 221) = 0 := sz_q_s hR k2 (by decide +kernel)
  have y0 : (sz_M w h G M).1 (w.2.2.2 61) 0 = 0 := sz_q_s hR k2 (by decide +kernel)
  have m32 : (sz_M w h G M).1 (w.2.2.2 336) 32 = -1 := sz_iv_s ((sz_hz_s k2).2 (336, 32, -1) (by decide +kernel)) hR (by omega) (by decide) (by
    have g := tg 336 1012 0 (by decide +kernel)
    rw [sz_G_in (by omega)] at g
    rw [g]; decide)
  refine ⟨fun Y hY => ?_, ⟨fun Y hY => ?_, rq 29 3 61 (by decide +kernel), fun k hk => ?_⟩, m32, ⟨⟨y0.trans s2.symm, Or.inl s2, fun e => by rw [s2] at e; exact absurd e (by decide)⟩, (yd_ok.of0 (by rw [s1]; exact Int.le_refl 0) s0).zz⟩, fun k hk h0 => ?_⟩
  · rcases yw_Y3 hY with e | e | e <;> subst e
    · exact ⟨tg _ _ _ (by decide +kernel), tg _ _ _ (by decide +kernel), tg _ _ _ (by decide +kernel), tg _ _ _ (by decide +kernel), tg _ _ _ (by decide +kernel), fun t ht => tg _ _ _ ((by decide +kernel : ∀ t, t < 8 → (61 + 5 + t, 46100, 11) ∈ sz_lt) t ht)⟩
    · exact ⟨tg _ _ _ (by decide +kernel), tg _ _ _ (by decide +kernel), tg _ _ _ (by decide +kernel), tg _ _ _ (by decide +kernel), tg _ _ _ (by decide +kernel), fun t ht => tg _ _ _ ((by decide +kernel : ∀ t, t < 8 → (278 + 5 + t, 46100, 11) ∈ sz_lt) t ht)⟩
    · exact ⟨tg _ _ _ (by decide +kernel), tg _ _ _ (by decide +kernel), tg _ _ _ (by decide +kernel), tg _ _ _ (by decide +kernel), tg _ _ _ (by decide +kernel), fun t ht => tg _ _ _ ((by decide +kernel : ∀ t, t < 8 → (323 + 5 + t, 46100, 11) ∈ sz_lt) t ht)⟩
  · rcases yw_Y3 hY with e | e | e <;> subst e
    · exact ⟨rq _ _ _ (by decide +kernel), rq _ _ _ (by decide +kernel), rq _ _ _ (by decide +kernel), rq _ _ _ (by decide +kernel), fun t ht => rq _ _ _ ((by decide +kernel : ∀ t, t < 8 → (61 + 4, t, 61 + 5 + t) ∈ sz_lr) t ht)⟩
    · exact ⟨rq _ _ _ (by decide +kernel), rq _ _ _ (by decide +kernel), rq _ _ _ (by decide +kernel), rq _ _ _ (by decide +kernel), fun t ht => rq _ _ _ ((by decide +kernel : ∀ t, t < 8 → (278 + 4, t, 278 + 5 + t) ∈ sz_lr) t ht)⟩
    · exact ⟨rq _ _ _ (by decide +kernel), rq _ _ _ (by decide +kernel), rq _ _ _ (by decide +kernel), rq _ _ _ (by decide +kernel), fun t ht => rq _ _ _ ((by decide +kernel : ∀ t, t < 8 → (323 + 4, t, 323 + 5 + t) ∈ sz_lr) t ht)⟩
  · rcases (by omega : k = 0 ∨ k = 1) with e | e <;> subst e
    · exact rq 246 3 278 (by decide +kernel)
    · exact rq 291 3 323 (by decide +kernel)
  · exfalso
    rcases (by omega : k = 0 ∨ k = 1) with e | e <;> subst e
    · exact h0 c0
    · exact h0 c1
end YT2
