/-! ===== the whole invariant: names, the PLAIN's number, the latest cheapest() ===== -/
section YX
variable {G : mj_G} {M M' : mj_M} {x m tp s kp bc bt kc kr : Nat} {w : Nat → Nat} {c c' : Int}
def lp_Y (G : mj_G) (M : mj_M) (x m tp s kp bc bt kc kr : Nat) (w : Nat → Nat) (c : Int) : Prop := lp_X G M x m tp s kp bc bt kc kr w ∧ lq_V G M x m s kp kc w c
theorem lq_V.le (h : lq_V G M x m s kp kc w c) (hc : c ≤ c') : lq_V G M x m s kp kc w c' := h.mv hc rfl rfl
theorem lp_Y.le (h : lp_Y G M x m tp s kp bc bt kc kr w c) (hc : c ≤ c') : lp_Y G M x m tp s kp bc bt kc kr w c' := ⟨h.1, h.2.le hc⟩
theorem lp_Y.mv (h : lp_Y G M x m tp s kp bc bt kc kr w c) (e1 : M'.1 = M.1) (e2 : M'.2.2 = M.2.2) (e3 : ∀ y k, (G y).1 ≠ 90103 → M'.2.1 y k = M.2.1 y k) : lp_Y G M' x m tp s kp bc bt kc kr w c := ⟨h.1.mv e1 e2 e3, h.2.mv (Int.le_refl _) e1 e2⟩
theorem lp_I.k8 (h : lp_I G M x m tp s kp bc bt kc kr w) : lq_k8 M kp kc := fun k hk h0 => (h.T.2 k hk (by rw [← h.2.2.1 k hk]; exact h0)).1.1
/-- behind the class's call -/
def lq_V2 (G : mj_G) (M : mj_M) (x m s kp kc : Nat) (w : Nat → Nat) (c : Int) : Prop := lq_V G M x m s kp kc w c ∧ 0 ≤ M.1 s 0 ∧ M.1 s 0 ≤ 8
theorem lp_I.Vc {W : List (Nat × Nat × Nat)} (hI : lp_I G M x m tp s kp bc bt kc kr w) (h : lq_V G M x m s kp kc w c) (f : ab_frm W G M M') (cW : lq_Vw W) (c2 : ∀ q ∈ W, q.1 ≠ 51100) : lq_V2 G M' x m s kp kc w c := by
  have e : M'.1 s 0 = M.1 s 0 := (f s 0 (by rw [hI.gs]; rintro ⟨r, hr, e1, -⟩; exact c2 r hr e1)).1
  exact ⟨h.go (Int.le_refl _) hI.b0 hI.J.1 hI.gx hI.gm hI.gs hI.gk hI.gc f cW, by rw [e]; exact hI.b0⟩
theorem lp_I.Vr {W : List (Nat × Nat × Nat)} {M0 : mj_M} (hI : lp_I G M0 x m tp s kp bc bt kc kr w) (h : lq_V2 G M x m s kp kc w c) (hc : c ≤ c') (f : ab_frm W G M M') (cW : lq_Vw W) : lq_V G M' x m s kp kc w c' := h.1.go hc h.2 hI.J.1 hI.gx hI.gm hI.gs hI.gk hI.gc f cW
theorem sz_headV {w : sx_w} {h : sx_H} {G : mj_G} {M : mj_M} (hR : sx_RH w h G M) (k2 : sz_hk h = true) (hA : lq_A (sz_G w h G) w.2.2.2) : lq_V (sz_G w h G) (sz_M w h G M) (w.2.2.2 26) (w.2.2.2 336) (w.2.2.2 338) (w.2.2.2 357) (w.2.2.2 120) w.2.2.2 0 := by
  have n1 := (sz_hk_s k2).1
  obtain ⟨ya, yb, -, -, -⟩ := sz_hy_s k2
  have tg : ∀ i t n, (i, t, n) ∈ sz_lt → sz_G w h G (w.2.2.2 i) = (t, n) := fun i t n he => sz_tg_s (yb (i, t, n) he) hR (by have := sz_lt_lt _ he; omega)
  have rq : ∀ i k j, (i, k, j) ∈ sz_lr → (sz_M w h G M).2.2 (w.2.2.2 i) k = some (w.2.2.2 j) := fun i k j he => sz_rq_s (ya (i, k, j) he) hR (by have := (sz_lr_lt _ he).1; omega) (sz_lr_lt _ he).2
  have c0 : (sz_M w h G M).1 (w.2.2.2 120) 0 = 0 := sz_q_s hR k2 (by decide +kernel)
  have c1 : (sz_M w h G M).1 (w.2.2.2 120) 1 = 0 := sz_q_s hR k2 (by decide +kernel)
  have g0 := rq 29 0 30 (by decide +kernel)
  have m25 : (sz_M w h G M).1 (w.2.2.2 336) 25 = 0 := sz_q_s hR k2 (by decide +kernel)
  have m26 : (sz_M w h G M).1 (w.2.2.2 336) 26 = 0 := sz_q_s hR k2 (by decide +kernel)
  have m39 : (sz_M w h G M).1 (w.2.2.2 336) 39 = 0 := sz_q_s hR k2 (by decide +kernel)
  have x13 : (sz_M w h G M).1 (w.2.2.2 26) 13 = 0 := sz_q_s hR k2 (by decide +kernel)
  have p9 : (sz_M w h G M).1 (w.2.2.2 30) 9 = 0 := sz_q_s hR k2 (by decide +kernel)
  have d1 : (sz_M w h G M).1 (w.2.2.2 125) 1 = 0 := sz_q_s hR k2 (by decide +kernel)
  have d3 : (sz_M w h G M).1 (w.2.2.2 125) 3 = -1 := sz_iv_s ((sz_hz_s k2).2 (125, 3, -1) (by decide +kernel)) hR (by omega) (by decide) (by
    have g := tg 125 1001 0 (by decide +kernel)
    rw [sz_G_in (by omega)] at g
    rw [g]; decide)
  have L1 : ∀ e ∈ cp_lt, (e.1, e.2.1, e.2.2) ∈ sz_lt := by decide +kernel
  have L2 : ∀ e ∈ cp_lr, (e.1, e.2.1, e.2.2) ∈ sz_lr := by decide +kernel
  refine ⟨⟨⟨hA.1, fun e he => tg _ _ _ (L1 e he)⟩, fun e he => rq _ _ _ (L2 e he), rq _ _ _ (by decide +kernel), ⟨tg _ _ _ (by decide +kernel), tg _ _ _ (by decide +kernel), tg _ _ _ (by decide +kernel), tg _ _ _ (by decide +kernel)⟩, ⟨rq _ _ _ (by decide +kernel), rq _ _ _ (by decide +kernel), rq _ _ _ (by decide +kernel), rq _ _ _ (by decide +kernel)⟩⟩, ⟨by rw [m26]; exact Int.le_refl _, by rw [m26]; exact Int.le_refl _⟩, by rw [x13, m26], fun _ => cs_A ((sz_M w h G M).1 (w.2.2.2 338)), ⟨by rw [m25, m26]; decide, fun p q hn => ?_, rfl⟩, fun k hk h0 => ?_, Or.inl d3, ⟨by rw [d1, m39], fun z => absurd d1 z⟩⟩
  · have e := Option.some.inj (hn.1.symm.trans g0)
    have hp4 := lq_P4 hn.pin.1
    have e := hA.1 _ _ (by omega) (by omega) e
    rw [e, p9, m25]
  · exfalso
    rcases (by omega : k = 0 ∨ k = 1) with rfl | rfl
    · exact h0 c0
    · exact h0 c1
end YX
