/-! ===== the loop's invariant: tapes, images' marks, PLAINS with bids, what can be undone ===== -/
abbrev lq_8d (W : List (Nat × Nat × Nat)) : Prop := lq_9c W ∧ ∀ q ∈ W, q.1 ≠ 48102 ∧ q.1 ≠ 70100
abbrev lq_Ud (W : List (Nat × Nat × Nat)) : Prop := lq_Uo W ∧ ∀ q ∈ W, ¬ (q.1 = 1009 ∧ q.2.1 ≤ 3) ∧ ¬ (q.1 = 1012 ∧ q.2.1 ≤ 28 ∧ 28 ≤ q.2.2)
def lp_R (G : mj_G) (M : mj_M) (x m s kp kc kr : Nat) (w : Nat → Nat) : Prop := lw_K G M x m kc kr ∧ lq_mk M kc kr ∧ lq_J G M x s kp kc w ∧ lq_T M s kp kr ∧ lq_U G M x m s w
abbrev lp_Rd (W : List (Nat × Nat × Nat)) : Prop := lw_kx W = true ∧ lq_8d W ∧ (∀ q ∈ W, q.1 ≠ 72102) ∧ lq_Ud W
abbrev lp_Rc (W : List (Nat × Nat × Nat)) : Prop := lp_Rd W ∧ ∀ q ∈ W, ¬ (q.1 = 51100 ∧ q.2.1 < 184)
def lp_I (G : mj_G) (M : mj_M) (x m tp s kp bc bt kc kr : Nat) (w : Nat → Nat) : Prop := ((lw_V G M x m tp s kp ∧ M.1 tp 1 = M.1 m 2) ∧ lp_6 G M tp m bc bt ∧ M.1 bc = M.1 bt) ∧ lp_R G M x m s kp kc kr w
theorem lp_ok5 : an_ok mj_tab 40 127 = true ∧ an_ok mj_tab 40 144 = true ∧ an_ok mj_tab 40 157 = true ∧ an_ok mj_tab 40 110 = true ∧ an_ok mj_tab 40 162 = true := by decide +kernel
theorem lp_ok6 : an_ok mj_tab 40 136 = true ∧ an_ok mj_tab 40 220 = true ∧ an_ok mj_tab 40 154 = true ∧ an_ok mj_tab 40 253 = true ∧ an_ok mj_tab 40 259 = true ∧ an_ok mj_tab 40 215 = true := by decide +kernel
section PI
variable {G : mj_G} {M M' : mj_M} {x m tp s kp bc bt kc kr : Nat} {w : Nat → Nat} {W : List (Nat × Nat × Nat)}
theorem lp_mk_go (h : lq_mk M kc kr) (gc : G kc = (48102, 2)) (gr : G kr = (72102, 2)) (f : ab_frm W G M M') (c1 : ∀ q ∈ W, q.1 ≠ 48102) (c2 : ∀ q ∈ W, q.1 ≠ 72102) : lq_mk M' kc kr := fun k hk => by
  have e1 : M'.1 kc k = M.1 kc k := (f kc k (by rw [gc]; rintro ⟨q, hq, e1, -⟩; exact c1 q hq e1)).1
  have e2 : M'.1 kr k = M.1 kr k := (f kr k (by rw [gr]; rintro ⟨q, hq, e1, -⟩; exact c2 q hq e1)).1
  rw [e1, e2]; exact h k hk
theorem lp_es (gs : G s = (51100, 537)) (f : ab_frm W G M M') (c : ∀ q ∈ W, ¬ (q.1 = 51100 ∧ q.2.1 < 88)) (h : ∀ j, 88 ≤ j → j < 184 → M'.1 s j = M.1 s j) : ∀ k, k < 184 → M'.1 s k = M.1 s k := fun k hk => by
  rcases Nat.lt_or_ge k 88 with q | q
  · exact (f _ k (by rw [gs]; rintro ⟨r, hr, e1, e2, e3⟩; exact c r hr ⟨e1, by omega⟩)).1
  · exact h k q hk
theorem lp_es2 (gs : G s = (51100, 537)) (f : ab_frm W G M M') (c : ∀ q ∈ W, ¬ (q.1 = 51100 ∧ q.2.1 < 184)) : ∀ k, k < 184 → M'.1 s k = M.1 s k := fun k hk =>
  (f _ k (by rw [gs]; rintro ⟨r, hr, e1, e2, e3⟩; exact c r hr ⟨e1, by omega⟩)).1
theorem lq_J.ge (h : lq_J G M x s kp kc w) (gx : G x = (1011, 0)) (gk : G kp = (70100, 1076)) (gc : G kc = (48102, 2)) (f : ab_frm W G M M') (c : lq_8d W) (es : ∀ k, k < 184 → M'.1 s k = M.1 s k) : lq_J G M' x s kp kc w := by
  obtain ⟨hA, hB, p, q, hN, h1, h2⟩ := h
  have ek : ∀ k, M'.1 kp k = M.1 kp k := fun k => (f _ k (by
    rw [gk]; rintro ⟨r, hr, e1, e2, e3⟩; exact (c.2 r hr).2 e1)).1
  have ec : ∀ k, M'.1 kc k = M.1 kc k := fun k => (f _ k (by
    rw [gc]; rintro ⟨r, hr, e1, e2, e3⟩; exact (c.2 r hr).1 e1)).1
  refine ⟨hA, hB.go hA gx f c.1, p, q, hN.go hA f c.1, h1.cg (lq_E6.go hA hN.pin.1 f c.1) (fun k hk => by rw [Nat.zero_add]; exact es k hk), fun k hk h0 => ?_⟩
  rw [ec k] at h0
  exact (h2 k hk h0).cg (lq_E6.go hA (lq_ip_in k) f c.1) (fun j _ => ek _)
theorem lq_T.ge (h : lq_T M s kp kr) (gk : G kp = (70100, 1076)) (gr : G kr = (72102, 2)) (f : ab_frm W G M M') (c2 : ∀ q ∈ W, q.1 ≠ 70100) (c3 : ∀ q ∈ W, q.1 ≠ 72102) (es : ∀ k, k < 184 → M'.1 s k = M.1 s k) : lq_T M' s kp kr := by
  have ek : ∀ k, M'.1 kp k = M.1 kp k := fun k => (f _ k (by
    rw [gk]; rintro ⟨r, hr, e1, e2, e3⟩; exact c2 r hr e1)).1
  have er : ∀ k, M'.1 kr k = M.1 kr k := fun k => (f _ k (by
    rw [gr]; rintro ⟨r, hr, e1, e2, e3⟩; exact c3 r hr e1)).1
  refine ⟨h.1.cg (fun k hk => by rw [Nat.zero_add]; exact es k hk), fun k hk h0 => ?_⟩
  rw [er k] at h0
  exact (h.2 k hk h0).cg (fun j _ => ek _)
theorem lq_U.ge (h : lq_U G M x m s w) (gx : G x = (1011, 0)) (gm : G m = (1012, 0)) (f : ab_frm W G M M') (c : lq_Ud W) (es : ∀ k, k < 184 → M'.1 s k = M.1 s k) : lq_U G M' x m s w := by
  obtain ⟨hA, hB, z, z1, z2, z3, z4⟩ := h
  obtain ⟨a1, a2, a3, a4⟩ := hA.ar f c.1
  refine ⟨hA, hB.go hA gx gm f c.1, z, (f _ _ ?_).1.trans z1, z2.cg (fun i _ => by rw [a4]) (es 0 (by decide)) (fun i hi => es _ (by omega)), (f _ _ ?_).1.trans z3, fun i hi => ?_⟩
  · rw [gm]; rintro ⟨r, hr, e1, e2, e3⟩; exact (c.2 r hr).2 ⟨e1, e2, e3⟩
  · rw [hA.1]; rintro ⟨r, hr, e1, e2, e3⟩; exact (c.2 r hr).1 ⟨e1, e2⟩
  · rw [a1, a2, a3, a4]; exact z4 i hi
theorem lq_T.pl {y : rv_Om} (h : lq_T M s kp kr) (gk : G kp = (70100, 1076)) (gr : G kr = (72102, 2)) (f : ab_frm W G M M') (c2 : ∀ q ∈ W, q.1 ≠ 70100) (c3 : ∀ q ∈ W, q.1 ≠ 72102) (o1 : ∀ e, y = .inl e → M'.1 s = M.1 s) (o2 : ∀ PL WA OA TO BI nm r, y = .inr (PL, WA, OA, TO, BI, nm, r) → (∃ ns, rv_QO s ns PL WA TO BI nm M') ∧ rv_ps PL WA TO BI) : lq_T M' s kp kr := by
  have ek : ∀ k, M'.1 kp k = M.1 kp k := fun k => (f _ k (by
    rw [gk]; rintro ⟨r, hr, e1, e2, e3⟩; exact c2 r hr e1)).1
  have er : ∀ k, M'.1 kr k = M.1 kr k := fun k => (f _ k (by
    rw [gr]; rintro ⟨r, hr, e1, e2, e3⟩; exact c3 r hr e1)).1
  refine ⟨?_, fun k hk h0 => ?_⟩
  · rcases y with e | ⟨PL', WA', OA', TO', BI', nm', r'⟩
    · rw [o1 e rfl]; exact h.1
    · obtain ⟨⟨ns, q, -⟩, hp⟩ := o2 _ _ _ _ _ _ _ rfl
      exact rv_r6.of q hp
  · rw [er k] at h0
    exact (h.2 k hk h0).cg (fun j _ => ek _)
theorem lq_T.img {z1 : Int} (h : lq_T M s kp kr) (gs : G s = (51100, 537)) (f : ab_frm hn_WI G M M') (o : (¬ (0 ≤ z1 ∧ z1 ≤ 1) ∧ (∀ q, M'.1 kr q = M.1 kr q) ∧ M'.1 kp = M.1 kp) ∨ (∃ k : Nat, k ≤ 1 ∧ z1 = (k : Int) ∧ M'.1 kr k = 1 ∧ (∀ q, q ≠ k → M'.1 kr q = M.1 kr q) ∧ (∀ p, p < 537 → M'.1 kp (538 * k + p) = M.1 s p) ∧ (∀ q, q < 538 * k ∨ 538 * k + 538 ≤ q → M'.1 kp q = M.1 kp q))) : lq_T M' s kp kr := by
  have es : M'.1 s = M.1 s := funext fun k => (f s k (by rw [gs]; exact hn_nt (by decide))).1
  refine ⟨by rw [es]; exact h.1, fun k hk h0 => ?_⟩
  rcases o with ⟨n1, n2, n3⟩ | ⟨k0, j1, j2, j3, j4, j5, j6⟩
  · rw [n2] at h0; rw [n3]; exact h.2 k hk h0
  · by_cases e : k = k0
    · subst e
      exact h.1.cg (fun i hi => by rw [Nat.zero_add]; exact j5 i (by omega))
    · rw [j4 k e] at h0
      exact (h.2 k hk h0).cg (fun i hi => j6 _ (by omega))
theorem lq_T.rst {z1 : Int} (h : lq_T M s kp kr) (gk : G kp = (70100, 1076)) (gkr : G kr = (72102, 2)) (f : ab_frm hn_WR G M M') (o : ((¬ (0 ≤ z1 ∧ z1 ≤ 1) ∨ M.1 kr z1.toNat = 0) ∧ M'.1 s = M.1 s) ∨ (∃ k : Nat, k ≤ 1 ∧ z1 = (k : Int) ∧ M.1 kr k ≠ 0 ∧ (∀ p, p < 537 → M'.1 s p = M.1 kp (538 * k + p)))) : lq_T M' s kp kr := by
  have ek : M'.1 kp = M.1 kp := funext fun k => (f kp k (by rw [gk]; exact hn_nt (by decide))).1
  have er : M'.1 kr = M.1 kr := funext fun k => (f kr k (by rw [gkr]; exact hn_nt (by decide))).1
  refine ⟨?_, fun k hk h0 => by rw [er] at h0; rw [ek]; exact h.2 k hk h0⟩
  rcases o with ⟨n1, n2⟩ | ⟨k0, j1, j2, j3, j4⟩
  · rw [n2]; exact h.1
  · exact (h.2 k0 (by omega) j3).cg (fun i hi => by rw [Nat.zero_add]; exact j4 i (by omega))
/-- what can be undone between plain of the class and of the reference -/
def lq_up (G : mj_G) (M : mj_M) (x m s : Nat) (w : Nat → Nat) (y : rv_Om) : Prop := lq_UA G w ∧ lq_UB M w x m ∧ (∀ e, y = .inl e → lq_U G M x m s w) ∧ (∀ e, y = .inr e → M.1 (w 121) 3 = 0)
theorem lq_up1 {y : rv_Om} (hU : lq_U G M x m s w) (gx : G x = (1011, 0)) (gm : G m = (1012, 0)) (gs : G s = (51100, 537)) (f : ab_frm W G M M') (c : lq_Uo W) (c2 : ∀ q ∈ W, q.1 ≠ 1012 ∧ q.1 ≠ 51100) (o1 : ∀ e, y = .inl e → M'.1 (w 121) = M.1 (w 121)) (o2 : ∀ e, y = .inr e → M'.1 (w 121) 3 = 0) : lq_up G M' x m s w y := by
  obtain ⟨hA, hB, z, z1, z2, z3, z4⟩ := hU
  obtain ⟨a1, a2, a3, a4⟩ := hA.ar f c
  have B' := hB.go hA gx gm f c
  have es : ∀ k, M'.1 s k = M.1 s k := fun k => (f _ k (by
    rw [gs]; rintro ⟨r, hr, e1, -⟩; exact (c2 r hr).2 e1)).1
  refine ⟨hA, B', fun e he => ⟨hA, B', z, (f _ _ ?_).1.trans z1, z2.cg (fun i _ => by rw [a4]) (es 0) (fun i hi => es _), by rw [o1 e he]; exact z3, fun i hi => ?_⟩, o2⟩
  · rw [gm]; rintro ⟨r, hr, e1, -⟩; exact (c2 r hr).1 e1
  · rw [a1, a2, a3, a4]; exact z4 i hi
theorem lq_up2 {y : rv_Om} (h : lq_up G M x m s w y) (gx : G x = (1011, 0)) (gm : G m = (1012, 0)) (f : ab_frm W G M M') (c : lq_Uo W) (c2 : ∀ q ∈ W, q.1 ≠ 1009) (o1 : ∀ e, y = .inl e → M'.1 s = M.1 s ∧ M'.1 m 28 = M.1 m 28) (o2 : ∀ e, y = .inr e → M'.1 m 28 = 0) (r6 : rv_r6 (M'.1 s) 0) : lq_U G M' x m s w := by
  obtain ⟨hA, hB, h1, h2⟩ := h
  obtain ⟨a1, a2, a3, a4⟩ := hA.ar f c
  have B' := hB.go hA gx gm f c
  have eu : M'.1 (w 121) 3 = M.1 (w 121) 3 := (f _ _ (by
    rw [hA.1]; rintro ⟨r, hr, e1, -⟩; exact c2 r hr e1)).1
  rcases y with e | e
  · obtain ⟨-, -, z, z1, z2, z3, z4⟩ := h1 e rfl
    obtain ⟨s1, s2⟩ := o1 e rfl
    exact ⟨hA, B', z, s2.trans z1, z2.cg (fun i _ => by rw [a4]) (by rw [s1]) (fun i hi => by rw [s1]), eu.trans z3, fun i hi => by rw [a1, a2, a3, a4]; exact z4 i hi⟩
  · have ct := r6.2.2
    rw [lq_ct_cg (g := fun i => M'.1 s (88 + i)) 96 (fun i hi => by rw [Nat.zero_add])] at ct
    exact ⟨hA, B', 0, o2 e rfl, lq_Uz.no ct, eu.trans (h2 e rfl), fun i hi => absurd hi (Nat.not_lt_zero i)⟩
/-- and between restore of both sides -/
def lq_ur (G : mj_G) (M : mj_M) (x m s kc : Nat) (w : Nat → Nat) (z1 : Int) : Prop := lq_UA G w ∧ lq_UB M w x m ∧ ((∀ k : Nat, k < 2 → z1 = (k : Int) → M.1 kc k = 0) → lq_U G M x m s w) ∧ (∀ k : Nat, k < 2 → z1 = (k : Int) → M.1 kc k ≠ 0 → M.1 (w 121) 3 = 0)
theorem lq_ur1 {z1 : Int} (hU : lq_U G M x m s w) (gx : G x = (1011, 0)) (gm : G m = (1012, 0)) (gs : G s = (51100, 537)) (gkc : G kc = (48102, 2)) (f : ab_frm W G M M') (c : lq_Uo W) (c2 : ∀ q ∈ W, q.1 ≠ 1012 ∧ q.1 ≠ 51100 ∧ q.1 ≠ 48102) (o1 : (∀ k : Nat, k < 2 → z1 = (k : Int) → M.1 kc k = 0) → M'.1 (w 121) = M.1 (w 121)) (o2 : ∀ k : Nat, k < 2 → z1 = (k : Int) → M.1 kc k ≠ 0 → M'.1 (w 121) 3 = 0) : lq_ur G M' x m s kc w z1 := by
  obtain ⟨hA, hB, z, h1, h2, h3, h4⟩ := hU
  obtain ⟨a1, a2, a3, a4⟩ := hA.ar f c
  have B' := hB.go hA gx gm f c
  have es : ∀ k, M'.1 s k = M.1 s k := fun k => (f _ k (by
    rw [gs]; rintro ⟨r, hr, e1, -⟩; exact (c2 r hr).2.1 e1)).1
  have ec : ∀ k, M'.1 kc k = M.1 kc k := fun k => (f _ k (by
    rw [gkc]; rintro ⟨r, hr, e1, -⟩; exact (c2 r hr).2.2 e1)).1
  refine ⟨hA, B', fun hn => ⟨hA, B', z, (f _ _ ?_).1.trans h1, h2.cg (fun i _ => by rw [a4]) (es 0) (fun i hi => es _), ?_, fun i hi => ?_⟩, fun k hk e hc => o2 k hk e (by rw [← ec k]; exact hc)⟩
  · rw [gm]; rintro ⟨r, hr, e1, -⟩; exact (c2 r hr).1 e1
  · rw [o1 (fun k hk e => by rw [← ec k]; exact hn k hk e)]; exact h3
  · rw [a1, a2, a3, a4]; exact h4 i hi
theorem lq_ur2 {z1 : Int} (h : lq_ur G M x m s kc w z1) (hmk : lq_mk M kc kr) (hT : lq_T M s kp kr) (gx : G x = (1011, 0)) (gm : G m = (1012, 0)) (f : ab_frm W G M M') (c : lq_Uo W) (c2 : ∀ q ∈ W, q.1 ≠ 1009) (o : ((¬ (0 ≤ z1 ∧ z1 ≤ 1) ∨ M.1 kr z1.toNat = 0) ∧ M'.1 s = M.1 s ∧ M'.1 m 28 = M.1 m 28) ∨ (∃ k : Nat, k ≤ 1 ∧ z1 = (k : Int) ∧ M.1 kr k ≠ 0 ∧ (∀ p, p < 537 → M'.1 s p = M.1 kp (538 * k + p)) ∧ M'.1 m 28 = 0)) : lq_U G M' x m s w := by
  obtain ⟨hA, hB, h1, h2⟩ := h
  obtain ⟨a1, a2, a3, a4⟩ := hA.ar f c
  have B' := hB.go hA gx gm f c
  have eu : M'.1 (w 121) 3 = M.1 (w 121) 3 := (f _ _ (by
    rw [hA.1]; rintro ⟨r, hr, e1, -⟩; exact c2 r hr e1)).1
  rcases o with ⟨n1, s1, s2⟩ | ⟨k0, j1, j2, j3, j4, j5⟩
  · have hn : ∀ k : Nat, k < 2 → z1 = (k : Int) → M.1 kc k = 0 := fun k hk e => by
      rcases n1 with n1 | n1
      · exact absurd ⟨by omega, by omega⟩ n1
      · rw [hmk k hk]
        rw [show z1.toNat = k by omega] at n1
        exact n1
    obtain ⟨-, -, z, z1, z2, z3, z4⟩ := h1 hn
    exact ⟨hA, B', z, s2.trans z1, z2.cg (fun i _ => by rw [a4]) (by rw [s1]) (fun i hi => by rw [s1]), eu.trans z3, fun i hi => by rw [a1, a2, a3, a4]; exact z4 i hi⟩
  · have ct := (hT.2 k0 (by omega) j3).2.2
    rw [lq_ct_cg (g := fun i => M'.1 s (88 + i)) 96 (fun i hi => (j4 (88 + i) (by omega)).symm)] at ct
    exact ⟨hA, B', 0, j5, lq_Uz.no ct, eu.trans (h2 k0 (by omega) j2 (by rw [hmk k0 (by omega)]; exact j3)), fun i hi => absurd hi (Nat.not_lt_zero i)⟩
theorem lp_R.ge (h : lp_R G M x m s kp kc kr w) (g : G x = (1011, 0) ∧ G m = (1012, 0) ∧ G tp = (1008, 0) ∧ G s = (51100, 537) ∧ G kp = (70100, 1076)) (f : ab_frm W G M M') (c : lp_Rd W) (es : ∀ k, k < 184 → M'.1 s k = M.1 s k) : lp_R G M' x m s kp kc kr w :=
  ⟨h.1.fr g.1 g.2.1 f c.1, lp_mk_go h.2.1 h.1.1 h.1.2.1 f (fun q hq => (c.2.1.2 q hq).1) c.2.2.1, h.2.2.1.ge g.1 g.2.2.2.2 h.1.1 f c.2.1 es, h.2.2.2.1.ge g.2.2.2.2 h.1.2.1 f (fun q hq => (c.2.1.2 q hq).2) c.2.2.1 es, h.2.2.2.2.ge g.1 g.2.1 f c.2.2.2 es⟩
theorem lp_R.go (h : lp_R G M x m s kp kc kr w) (g : G x = (1011, 0) ∧ G m = (1012, 0) ∧ G tp = (1008, 0) ∧ G s = (51100, 537) ∧ G kp = (70100, 1076)) (f : ab_frm W G M M') (c : lp_Rc W) : lp_R G M' x m s kp kc kr w := h.ge g f c.1 (lp_es2 g.2.2.2.1 f c.2)
theorem lp_I.ge (hI : lp_I G M x m tp s kp bc bt kc kr w) (V : lw_V G M' x m tp s kp) (S : M'.1 tp 1 = M.1 tp 1 ∧ M'.1 m 2 = M.1 m 2) (f : ab_frm W G M M') (c6 : lp_6c W) (c7 : lp_7c W) (cR : lp_Rd W) (es : ∀ k, k < 184 → M'.1 s k = M.1 s k) : lp_I G M' x m tp s kp bc bt kc kr w :=
  ⟨⟨⟨V, S.1.trans (hI.1.1.2.trans S.2.symm)⟩, hI.1.2.1.go hI.1.1.1.2.1.2.2.1 hI.1.1.1.2.1.2.1 f c6, (lp_7.c hI.1.2.1.1 f (fun q hq => (c7 q hq).1)).trans (hI.1.2.2.trans (lp_7.t hI.1.2.1.2.1 f (fun q hq => (c7 q hq).2)).symm)⟩, hI.2.ge hI.1.1.1.2.1 f cR es⟩
theorem lp_I.go (hI : lp_I G M x m tp s kp bc bt kc kr w) (V : lw_V G M' x m tp s kp) (S : M'.1 tp 1 = M.1 tp 1 ∧ M'.1 m 2 = M.1 m 2) (f : ab_frm W G M M') (c6 : lp_6c W) (c7 : lp_7c W) (cR : lp_Rc W) : lp_I G M' x m tp s kp bc bt kc kr w := hI.ge V S f c6 c7 cR.1 (lp_es2 hI.1.1.1.2.1.2.2.2.1 f cR.2)
theorem lq_J.mv (h : lq_J G M x s kp kc w) (e1 : M'.1 = M.1) (e2 : M'.2.2 = M.2.2) : lq_J G M' x s kp kc w := by
  obtain ⟨hA, hB, p, q, hN, h1, h2⟩ := h
  refine ⟨hA, by unfold lq_B; rw [e2]; exact hB, p, q, by unfold lq_N; rw [e2]; exact hN, by unfold rv_G6 rv_G4; rw [e1]; exact h1, fun k hk h0 => ?_⟩
  rw [e1] at h0
  unfold rv_G6 rv_G4; rw [e1]; exact h2 k hk h0
theorem lp_I.mv (hI : lp_I G M x m tp s kp bc bt kc kr w) (e1 : M'.1 = M.1) (e2 : M'.2.2 = M.2.2) (e3 : ∀ y k, (G y).1 = 55103 → M'.2.1 y k = M.2.1 y k) : lp_I G M' x m tp s kp bc bt kc kr w := by
  obtain ⟨⟨⟨⟨⟨i1, i2, i3, i4, i5⟩, g, r, f1, f2, f3⟩, e⟩, ⟨a1, a2, a3, a4, a5, a6⟩, a7⟩, ⟨q1, q2, q3, q4⟩, q5, q6, q7, q8⟩ := hI
  refine ⟨⟨⟨⟨⟨?_, ?_, i3, i4, fun a k ha hk => (e3 a k ha).trans (i5 a k ha hk)⟩, g, ?_, f1.cg (fun k _ => by rw [e1]), f2.cg (fun k _ => by rw [e1]), f3.cg (fun k _ => by rw [e1])⟩, ?_⟩, ⟨a1, a2, by rw [e2]; exact a3, by rw [e2]; exact a4, fun a ha k hk => ?_, fun a ha s t hs ht q => a6 a ha s t hs ht (by rw [e2] at q; exact q)⟩, by rw [e1]; exact a7⟩, ⟨q1, q2, by rw [e2]; exact q3, by rw [e2]; exact q4⟩, fun k hk => by rw [e1]; exact q5 k hk, q6.mv e1 e2, by unfold lq_T; rw [e1]; exact q7, q8.mv e1 e2⟩
  · rw [e1]; exact i1
  · rw [e2]; exact i2
  · rw [e2]; exact r
  · rw [e1]; exact e
  · rw [e2]; exact a5 a ha k hk
/-! what the invariant tells, by name -/
theorem lp_I.gx (h : lp_I G M x m tp s kp bc bt kc kr w) : G x = (1011, 0) := h.1.1.1.2.1.1
theorem lp_I.gm (h : lp_I G M x m tp s kp bc bt kc kr w) : G m = (1012, 0) := h.1.1.1.2.1.2.1
theorem lp_I.gs (h : lp_I G M x m tp s kp bc bt kc kr w) : G s = (51100, 537) := h.1.1.1.2.1.2.2.2.1
theorem lp_I.m6 (h : lp_I G M x m tp s kp bc bt kc kr w) : M.2.2 m 6 = some s := h.1.1.1.2.2.1.2.1
theorem lp_I.V (h : lp_I G M x m tp s kp bc bt kc kr w) : lw_V G M x m tp s kp := h.1.1.1
theorem lp_I.J (h : lp_I G M x m tp s kp bc bt kc kr w) : lq_J G M x s kp kc w := h.2.2.2.1
theorem lp_I.T (h : lp_I G M x m tp s kp bc bt kc kr w) : lq_T M s kp kr := h.2.2.2.2.1
theorem lp_I.U (h : lp_I G M x m tp s kp bc bt kc kr w) : lq_U G M x m s w := h.2.2.2.2.2
theorem lp_I.r4 (h : lp_I G M x m tp s kp bc bt kc kr w) : rv_r4 (M.1 s) 0 := h.2.2.2.2.1.1.1
theorem lp_I.b0 (h : lp_I G M x m tp s kp bc bt kc kr w) : 0 ≤ M.1 s 0 ∧ M.1 s 0 ≤ 8 := h.2.2.2.2.1.1.1.1
end PI
/-! ===== begin, as the PLAIN now asks for it ===== -/
def lr_begin (H : Nat → Int) : Int := if H 0 = 0 then 0 else 1
section RB
variable {G : mj_G} {M : mj_M} {x m tp s kp bc bt kc kr : Nat} {w : Nat → Nat}
theorem lr_X11_begin (hI : lp_I G M x m tp s kp bc bt kc kr w) : mj_R mj_tab 40 110 [.inr (.inr (some x))] G M (fun r _ _ => r = some (.inl (lr_begin (M.1 s)))) := by
  obtain ⟨hA, hB, p, q, hN, h1, -⟩ := hI.J
  have e : M.1 s 0 = M.1 (w p) 4 := h1.1.1
  exact r_X11_begin4 hI.1.1.1.1 hI.gx hA hB hN (fun h _ => by unfold lr_begin; rw [e, if_pos h]) (fun h _ => by unfold lr_begin; rw [e, if_neg h])
theorem lr_X12_begin (hI : lp_I G M x m tp s kp bc bt kc kr w) : mj_R mj_tab 40 162 [.inr (.inr (some m))] G M (fun r _ _ => r = some (.inl (lr_begin (M.1 s)))) :=
  r_X12_begin4 hI.1.1.1.1 hI.gm hI.gs hI.m6 (fun h _ => by unfold lr_begin; rw [if_pos h]) (fun h _ => by unfold lr_begin; rw [if_neg h])
end RB
