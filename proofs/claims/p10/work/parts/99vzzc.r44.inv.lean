/-! ===== the loop's invariant: tapes alike, images' marks alike, PLAINS alike ===== -/
/-- what a PLAIN's numbers are within -/
def rv_r4 (H : Nat → Int) (o : Nat) : Prop := (0 ≤ H o ∧ H o ≤ 8) ∧ (0 ≤ H (o + 1) ∧ H (o + 1) ≤ 99) ∧ (0 ≤ H (o + 2) ∧ H (o + 2) ≤ 999) ∧ (1 ≤ H (o + 3) ∧ H (o + 3) ≤ 12) ∧ (∀ t v, t < 8 → v < 9 → 0 ≤ H (o + (4 + 9 * t + v)) ∧ H (o + (4 + 9 * t + v)) ≤ 999 ∧ ((t : Int) < H o ∨ H (o + (4 + 9 * t + v)) = 0)) ∧ (∀ v, v < 12 → 0 ≤ H (o + (76 + v)) ∧ H (o + (76 + v)) ≤ 999)
theorem rv_r4.cg {H H' : Nat → Int} {o o' : Nat} (h : rv_r4 H o) (e : ∀ k, k < 88 → H' (o' + k) = H (o + k)) : rv_r4 H' o' := by
  obtain ⟨h1, h2, h3, h4, h5, h6⟩ := h
  have e0 : H' o' = H o := e 0 (by decide)
  refine ⟨by rw [e0]; exact h1, by rw [e 1 (by decide)]; exact h2, by rw [e 2 (by decide)]; exact h3, by rw [e 3 (by decide)]; exact h4, fun t v ht hv => ?_, fun v hv => ?_⟩
  · rw [e0, e _ (by omega)]; exact h5 t v ht hv
  · rw [e _ (by omega)]; exact h6 v hv
theorem rv_r4.of {H PL WA : Nat → Int} {TO BI : Nat → Nat → Int} (h : rv_H H PL WA TO BI) (r : rv_ps PL WA TO BI) : rv_r4 H 0 := by
  obtain ⟨q1, q2, q3, q4, q5, q6, -⟩ := h
  obtain ⟨a1, a2, a3, a4, a5, a6, a7, a8, a9⟩ := r
  refine ⟨by rw [q1]; exact a1, by rw [Nat.zero_add, q2]; exact a3, by rw [Nat.zero_add, q3]; exact a4, by rw [Nat.zero_add, q4]; exact a5, fun t v ht hv => ?_, fun v hv => ?_⟩
  · rw [Nat.zero_add, q5 t v ht hv, q1]; exact a6 t v ht hv
  · rw [Nat.zero_add, q6 v hv]; exact a7 v hv
def lq_T (M : mj_M) (s kp kr : Nat) : Prop := rv_r4 (M.1 s) 0 ∧ ∀ k, k < 2 → M.1 kr k ≠ 0 → rv_r4 (M.1 kp) (538 * k)
def lp_R (G : mj_G) (M : mj_M) (x m s kp kc kr : Nat) (w : Nat → Nat) : Prop := lw_K G M x m kc kr ∧ lq_mk M kc kr ∧ lq_J G M x s kp kc w ∧ lq_T M s kp kr
abbrev lp_Rc (W : List (Nat × Nat × Nat)) : Prop := lw_kx W = true ∧ lq_8c W ∧ ∀ q ∈ W, q.1 ≠ 72102
def lp_I (G : mj_G) (M : mj_M) (x m tp s kp bc bt kc kr : Nat) (w : Nat → Nat) : Prop := ((lw_V G M x m tp s kp ∧ M.1 tp 1 = M.1 m 2) ∧ lp_6 G M tp m bc bt ∧ M.1 bc = M.1 bt) ∧ lp_R G M x m s kp kc kr w
theorem lp_ok5 : an_ok mj_tab 40 127 = true ∧ an_ok mj_tab 40 144 = true ∧ an_ok mj_tab 40 157 = true ∧ an_ok mj_tab 40 110 = true ∧ an_ok mj_tab 40 162 = true := by decide +kernel
section PI
variable {G : mj_G} {M M' : mj_M} {x m tp s kp bc bt kc kr : Nat} {w : Nat → Nat} {W : List (Nat × Nat × Nat)}
theorem lp_mk_go (h : lq_mk M kc kr) (gc : G kc = (48102, 2)) (gr : G kr = (72102, 2)) (f : ab_frm W G M M') (c1 : ∀ q ∈ W, q.1 ≠ 48102) (c2 : ∀ q ∈ W, q.1 ≠ 72102) : lq_mk M' kc kr := fun k hk => by
  have e1 : M'.1 kc k = M.1 kc k := (f kc k (by rw [gc]; rintro ⟨q, hq, e1, -⟩; exact c1 q hq e1)).1
  have e2 : M'.1 kr k = M.1 kr k := (f kr k (by rw [gr]; rintro ⟨q, hq, e1, -⟩; exact c2 q hq e1)).1
  rw [e1, e2]; exact h k hk
theorem lq_T.go (h : lq_T M s kp kr) (gs : G s = (51100, 537)) (gk : G kp = (70100, 1076)) (gr : G kr = (72102, 2)) (f : ab_frm W G M M') (c1 : ∀ q ∈ W, ¬ (q.1 = 51100 ∧ q.2.1 < 88)) (c2 : ∀ q ∈ W, q.1 ≠ 70100) (c3 : ∀ q ∈ W, q.1 ≠ 72102) : lq_T M' s kp kr := by
  have es : ∀ k, k < 88 → M'.1 s k = M.1 s k := fun k hk => (f _ k (by
    rw [gs]; rintro ⟨r, hr, e1, e2, e3⟩; exact c1 r hr ⟨e1, by omega⟩)).1
  have ek : ∀ k, M'.1 kp k = M.1 kp k := fun k => (f _ k (by
    rw [gk]; rintro ⟨r, hr, e1, e2, e3⟩; exact c2 r hr e1)).1
  have er : ∀ k, M'.1 kr k = M.1 kr k := fun k => (f _ k (by
    rw [gr]; rintro ⟨r, hr, e1, e2, e3⟩; exact c3 r hr e1)).1
  refine ⟨h.1.cg (fun k hk => by rw [Nat.zero_add]; exact es k hk), fun k hk h0 => ?_⟩
  rw [er k] at h0
  exact (h.2 k hk h0).cg (fun j _ => ek _)
theorem lq_T.pl {y : rv_Om} (h : lq_T M s kp kr) (gk : G kp = (70100, 1076)) (gr : G kr = (72102, 2)) (f : ab_frm W G M M') (c2 : ∀ q ∈ W, q.1 ≠ 70100) (c3 : ∀ q ∈ W, q.1 ≠ 72102) (o1 : ∀ e, y = .inl e → M'.1 s = M.1 s) (o2 : ∀ PL WA OA TO BI nm r, y = .inr (PL, WA, OA, TO, BI, nm, r) → (∃ ns, rv_QO s ns PL WA TO BI nm M') ∧ rv_ps PL WA TO BI) : lq_T M' s kp kr := by
  have ek : ∀ k, M'.1 kp k = M.1 kp k := fun k => (f _ k (by
    rw [gk]; rintro ⟨r, hr, e1, e2, e3⟩; exact c2 r hr e1)).1
  have er : ∀ k, M'.1 kr k = M.1 kr k := fun k => (f _ k (by
    rw [gr]; rintro ⟨r, hr, e1, e2, e3⟩; exact c3 r hr e1)).1
  refine ⟨?_, fun k hk h0 => ?_⟩
  · rcases y with e | ⟨PL', WA', OA', TO', BI', nm', r'⟩
    · rw [o1 e rfl]; exact h.1
    · obtain ⟨⟨ns, q, -⟩, hp⟩ := o2 _ _ _ _ _ _ _ rfl
      exact rv_r4.of q hp
  · rw [er k] at h0
    exact (h.2 k hk h0).cg (fun j _ => ek _)
theorem lq_T.img {z1 : Int} (h : lq_T M s kp kr) (gs : G s = (51100, 537)) (f : ab_frm hn_WI G M M') (o : (¬ (0 ≤ z1 ∧ z1 ≤ 1) ∧ (∀ q, M'.1 kr q = M.1 kr q) ∧ M'.1 kp = M.1 kp) ∨ (∃ k : Nat, k ≤ 1 ∧ z1 = (k : Int) ∧ M'.1 kr k = 1 ∧ (∀ q, q ≠ k → M'.1 kr q = M.1 kr q) ∧ (∀ p, p < 537 → M'.1 kp (538 * k + p) = M.1 s p) ∧ (∀ q, q < 538 * k ∨ 538 * k + 538 ≤ q → M'.1 kp q = M.1 kp q))) : lq_T M' s kp kr := by
  have es : M'.1 s = M.1 s := funext fun k => (f s k (by rw [gs]; exact hn_nt (by decide))).1
  refine ⟨by rw [es]; exact h.1, fun k hk h0 => ?_⟩
  rcases o with ⟨n1, n2, n3⟩ | ⟨k0, j1, j2, j3, j4, j5, j6⟩
  · rw [n2] at h0; rw [n3]; exact h.2 k hk h0
  · by_cases e : k = k0
    · subst e
      exact h.1.cg (fun i hi => by rw [Nat.zero_add]; exact j5 i (by omega))
    · rw [j4 k e] at h0
      exact (h.2 k hk h0).cg (fun i hi => j6 _ (by omega))
theorem lq_T.rst {z1 : Int} (h : lq_T M s kp kr) (gk : G kp = (70100, 1076)) (gkr : G kr = (72102, 2)) (f : ab_frm hn_WR G M M') (o : ((¬ (0 ≤ z1 ∧ z1 ≤ 1) ∨ M.1 kr z1.toNat = 0) ∧ M'.1 s = M.1 s) ∨ (∃ k : Nat, k ≤ 1 ∧ z1 = (k : Int) ∧ M.1 kr k ≠ 0 ∧ (∀ p, p < 537 → M'.1 s p = M.1 kp (538 * k + p)))) : lq_T M' s kp kr := by
  have ek : M'.1 kp = M.1 kp := funext fun k => (f kp k (by rw [gk]; exact hn_nt (by decide))).1
  have er : M'.1 kr = M.1 kr := funext fun k => (f kr k (by rw [gkr]; exact hn_nt (by decide))).1
  refine ⟨?_, fun k hk h0 => by rw [er] at h0; rw [ek]; exact h.2 k hk h0⟩
  rcases o with ⟨n1, n2⟩ | ⟨k0, j1, j2, j3, j4⟩
  · rw [n2]; exact h.1
  · exact (h.2 k0 (by omega) j3).cg (fun i hi => by rw [Nat.zero_add]; exact j4 i (by omega))
theorem lp_R.go (h : lp_R G M x m s kp kc kr w) (g : G x = (1011, 0) ∧ G m = (1012, 0) ∧ G tp = (1008, 0) ∧ G s = (51100, 537) ∧ G kp = (70100, 1076)) (f : ab_frm W G M M') (c : lp_Rc W) : lp_R G M' x m s kp kc kr w :=
  ⟨h.1.fr g.1 g.2.1 f c.1, lp_mk_go h.2.1 h.1.1 h.1.2.1 f (fun q hq => (c.2.1.2 q hq).1) c.2.2, h.2.2.1.go g.1 g.2.2.2.1 g.2.2.2.2 h.1.1 f c.2.1, h.2.2.2.go g.2.2.2.1 g.2.2.2.2 h.1.2.1 f (fun q hq => (c.2.1.2 q hq).2.2) (fun q hq => (c.2.1.2 q hq).2.1) c.2.2⟩
theorem lp_I.go (hI : lp_I G M x m tp s kp bc bt kc kr w) (V : lw_V G M' x m tp s kp) (S : M'.1 tp 1 = M.1 tp 1 ∧ M'.1 m 2 = M.1 m 2) (f : ab_frm W G M M') (c6 : lp_6c W) (c7 : lp_7c W) (cR : lp_Rc W) : lp_I G M' x m tp s kp bc bt kc kr w :=
  ⟨⟨⟨V, S.1.trans (hI.1.1.2.trans S.2.symm)⟩, hI.1.2.1.go hI.1.1.1.2.1.2.2.1 hI.1.1.1.2.1.2.1 f c6, (lp_7.c hI.1.2.1.1 f (fun q hq => (c7 q hq).1)).trans (hI.1.2.2.trans (lp_7.t hI.1.2.1.2.1 f (fun q hq => (c7 q hq).2)).symm)⟩, hI.2.go hI.1.1.1.2.1 f cR⟩
theorem lq_J.mv (h : lq_J G M x s kp kc w) (e1 : M'.1 = M.1) (e2 : M'.2.2 = M.2.2) : lq_J G M' x s kp kc w := by
  obtain ⟨hA, hB, p, q, hN, h1, h2⟩ := h
  refine ⟨hA, by unfold lq_B; rw [e2]; exact hB, p, q, by unfold lq_N; rw [e2]; exact hN, by unfold rv_G4; rw [e1]; exact h1, fun k hk h0 => ?_⟩
  rw [e1] at h0
  unfold rv_G4; rw [e1]; exact h2 k hk h0
theorem lp_I.mv (hI : lp_I G M x m tp s kp bc bt kc kr w) (e1 : M'.1 = M.1) (e2 : M'.2.2 = M.2.2) (e3 : ∀ y k, (G y).1 = 55103 → M'.2.1 y k = M.2.1 y k) : lp_I G M' x m tp s kp bc bt kc kr w := by
  obtain ⟨⟨⟨⟨⟨i1, i2, i3, i4, i5⟩, g, r, f1, f2, f3⟩, e⟩, ⟨a1, a2, a3, a4, a5, a6⟩, a7⟩, ⟨q1, q2, q3, q4⟩, q5, q6, q7⟩ := hI
  refine ⟨⟨⟨⟨⟨?_, ?_, i3, i4, fun a k ha hk => (e3 a k ha).trans (i5 a k ha hk)⟩, g, ?_, f1.cg (fun k _ => by rw [e1]), f2.cg (fun k _ => by rw [e1]), f3.cg (fun k _ => by rw [e1])⟩, ?_⟩, ⟨a1, a2, by rw [e2]; exact a3, by rw [e2]; exact a4, fun a ha k hk => ?_, fun a ha s t hs ht q => a6 a ha s t hs ht (by rw [e2] at q; exact q)⟩, by rw [e1]; exact a7⟩, ⟨q1, q2, by rw [e2]; exact q3, by rw [e2]; exact q4⟩, fun k hk => by rw [e1]; exact q5 k hk, q6.mv e1 e2, by unfold lq_T; rw [e1]; exact q7⟩
  · rw [e1]; exact i1
  · rw [e2]; exact i2
  · rw [e2]; exact r
  · rw [e1]; exact e
  · rw [e2]; exact a5 a ha k hk
end PI
/-! ===== begin, as the PLAIN now asks for it ===== -/
def lr_begin (H : Nat → Int) : Int := if H 0 = 0 then 0 else 1
section RB
variable {G : mj_G} {M : mj_M} {x m tp s kp bc bt kc kr : Nat} {w : Nat → Nat}
theorem lr_X11_begin (hI : lp_I G M x m tp s kp bc bt kc kr w) : mj_R mj_tab 40 110 [.inr (.inr (some x))] G M (fun r _ _ => r = some (.inl (lr_begin (M.1 s)))) := by
  obtain ⟨hA, hB, p, q, hN, h1, -⟩ := hI.2.2.2.1
  have e : M.1 s 0 = M.1 (w p) 4 := h1.1
  exact r_X11_begin4 hI.1.1.1.1 hI.1.1.1.2.1.1 hA hB hN (fun h _ => by unfold lr_begin; rw [e, if_pos h]) (fun h _ => by unfold lr_begin; rw [e, if_neg h])
theorem lr_X12_begin (hI : lp_I G M x m tp s kp bc bt kc kr w) : mj_R mj_tab 40 162 [.inr (.inr (some m))] G M (fun r _ _ => r = some (.inl (lr_begin (M.1 s)))) :=
  r_X12_begin4 hI.1.1.1.1 hI.1.1.1.2.1.2.1 hI.1.1.1.2.1.2.2.2.1 hI.1.1.1.2.2.1.2.1 (fun h _ => by unfold lr_begin; rw [if_pos h]) (fun h _ => by unfold lr_begin; rw [if_neg h])
end RB
theorem sz_head4 {w : sx_w} {h : sx_H} {G : mj_G} {M : mj_M} (hR : sx_RH w h G M) (k2 : sz_hk h = true) : rv_r4 ((sz_M w h G M).1 (w.2.2.2 338)) 0 := by
  have n1 := (sz_hk_s k2).1
  obtain ⟨ya, yb, yc, y3, y4⟩ := sz_hy_s k2
  have zr : ∀ i k, (i, k) ∈ sz_lz → (sz_M w h G M).1 (w.2.2.2 i) k = 0 := fun i k he => sz_ik_s (yc (i, k) he) hR (by have := (sz_lz_lt _ he).1; omega) (sz_lz_lt _ he).2
  have s3 : (sz_M w h G M).1 (w.2.2.2 338) 3 = 3 := sz_i3_s y4 hR (by omega) (by decide) (by
    have g := sz_tg_s (sz_hk_s k2).2.2.1.2.2.2.1 hR (by omega)
    rw [sz_G_in (by omega)] at g
    rw [g]; decide)
  have zs : ∀ k, k < 88 → k ≠ 3 → (sz_M w h G M).1 (w.2.2.2 338) k = 0 := by
    intro k hk h3
    have key : ∀ k : Fin 88, k.val ≠ 3 → (338, k.val) ∈ sz_lz := by decide +kernel
    exact zr 338 k (key ⟨k, hk⟩ h3)
  refine ⟨by rw [zs 0 (by decide) (by decide)]; decide, by rw [Nat.zero_add, zs 1 (by decide) (by decide)]; decide, by rw [Nat.zero_add, zs 2 (by decide) (by decide)]; decide, by rw [Nat.zero_add, s3]; decide, fun t v ht hv => ?_, fun v hv => ?_⟩
  · rw [Nat.zero_add, zs _ (by omega) (by omega)]; exact ⟨by decide, by decide, Or.inr rfl⟩
  · rw [Nat.zero_add, zs _ (by omega) (by omega)]; decide
