/-! ===== the invariant with names; calls told twice, with longs ===== -/
theorem lv_C.an {y : Nat} {av : List mj_V} {G : mj_G} {M : mj_M} {P P' : Int → mj_M → Prop} (hk : st_in an_St y = true) (h1 : lv_C y av G M P) (h2 : lv_C y av G M P') : lv_C y av G M (fun z M' => P z M' ∧ P' z M') := fun Q hQ =>
  sn_and hk (h1 (fun r G' M' => ∃ z, r = some (.inl z) ∧ G' = G ∧ P z M') (fun z M' p => ⟨z, rfl, rfl, p⟩)) (h2 (fun r G' M' => ∃ z, r = some (.inl z) ∧ G' = G ∧ P' z M') (fun z M' p => ⟨z, rfl, rfl, p⟩)) (fun r G' M' g1 g2 => by
    obtain ⟨z, e1, rfl, p1⟩ := g1
    obtain ⟨z2, e2, -, p2⟩ := g2
    obtain rfl : z2 = z := Sum.inl.inj (Option.some.inj (e2.symm.trans e1))
    rw [e1]; exact hQ _ M' ⟨p1, p2⟩)
theorem lv_C.im {y : Nat} {av : List mj_V} {G : mj_G} {M : mj_M} {P P' : Int → mj_M → Prop} (h1 : lv_C y av G M P) (h : ∀ z M', P z M' → P' z M') : lv_C y av G M P' := fun Q hQ => h1 Q (fun z M' p => hQ z M' (h z M' p))
theorem lv_C.vl {y : Nat} {av : List mj_V} {G : mj_G} {M : mj_M} {P : Int → mj_M → Prop} {v : Int} (hk : st_in an_St y = true) (h1 : lv_C y av G M P) (h2 : mj_R mj_tab 40 y av G M (fun r _ _ => r = some (.inl v))) : lv_C y av G M (fun z M' => P z M' ∧ z = v) := fun Q hQ =>
  sn_and hk (h1 (fun r G' M' => ∃ z, r = some (.inl z) ∧ G' = G ∧ P z M') (fun z M' p => ⟨z, rfl, rfl, p⟩)) h2 (fun r G' M' g1 g2 => by
    obtain ⟨z, e1, rfl, p1⟩ := g1
    rw [e1]; exact hQ _ M' ⟨p1, Sum.inl.inj (Option.some.inj (e1.symm.trans g2))⟩)
theorem lv_C.lnn {y : Nat} {av : List mj_V} {G : mj_G} {M : mj_M} {P P' : Int → mj_M → Prop} (hk : st_in ln_St y = true) (h1 : lv_C y av G M (fun z M' => P z M' ∧ (ln G M M' → P' z M'))) : lv_C y av G M (fun z M' => P z M' ∧ P' z M') := fun Q hQ =>
  sn_ln hk (h1 (fun r G' M' => ∃ z, r = some (.inl z) ∧ G' = G ∧ P z M' ∧ (ln G M M' → P' z M')) (fun z M' p => ⟨z, rfl, rfl, p⟩)) (fun r M' q l => by
    obtain ⟨z, rfl, -, a, b⟩ := q
    exact hQ z M' ⟨a, b l⟩)
theorem lv_C.l1 {y : Nat} {av : List mj_V} {G : mj_G} {M : mj_M} {P : Int → mj_M → Prop} (hk : st_in ln_St y = true) (h1 : lv_C y av G M (fun z M' => ln G M M' → P z M')) : lv_C y av G M P := fun Q hQ =>
  sn_ln hk (h1 (fun r G' M' => ∃ z, r = some (.inl z) ∧ G' = G ∧ (ln G M M' → P z M')) (fun z M' p => ⟨z, rfl, rfl, p⟩)) (fun r M' q l => by
    obtain ⟨z, rfl, -, b⟩ := q
    exact hQ z M' (b l))
def lp_X (G : mj_G) (M : mj_M) (x m tp s kp bc bt kc kr : Nat) (w : Nat → Nat) : Prop := lp_I G M x m tp s kp bc bt kc kr w ∧ nz G M s m kp kc w
theorem lp_I.gk {G : mj_G} {M : mj_M} {x m tp s kp bc bt kc kr : Nat} {w : Nat → Nat} (h : lp_I G M x m tp s kp bc bt kc kr w) : G kp = (70100, 1076) := h.1.1.1.2.1.2.2.2.2
theorem lp_I.gc {G : mj_G} {M : mj_M} {x m tp s kp bc bt kc kr : Nat} {w : Nat → Nat} (h : lp_I G M x m tp s kp bc bt kc kr w) : G kc = (48102, 2) := h.2.1.1
theorem lp_I.gr {G : mj_G} {M : mj_M} {x m tp s kp bc bt kc kr : Nat} {w : Nat → Nat} (h : lp_I G M x m tp s kp bc bt kc kr w) : G kr = (72102, 2) := h.2.1.2.1
theorem lp_I.gt {G : mj_G} {M : mj_M} {x m tp s kp bc bt kc kr : Nat} {w : Nat → Nat} (h : lp_I G M x m tp s kp bc bt kc kr w) : G tp = (1008, 0) := h.1.1.1.2.1.2.2.1
/-- names, by a call's frame and longs -/
theorem lp_I.nz {G : mj_G} {M M0 M' : mj_M} {x m tp s kp bc bt kc kr : Nat} {w : Nat → Nat} {W : List (Nat × Nat × Nat)} (hI : lp_I G M0 x m tp s kp bc bt kc kr w) (h : nz G M s m kp kc w) (f : ab_frm W G M M') (c : nz_c W) (l : ln G M M') : nz G M' s m kp kc w := h.go hI.J.1 hI.gm hI.gs hI.gk hI.gc f l c
theorem lp_X.mv {G : mj_G} {M M' : mj_M} {x m tp s kp bc bt kc kr : Nat} {w : Nat → Nat} (h : lp_X G M x m tp s kp bc bt kc kr w) (e1 : M'.1 = M.1) (e2 : M'.2.2 = M.2.2) (e3 : ∀ y k, (G y).1 ≠ 90103 → M'.2.1 y k = M.2.1 y k) : lp_X G M' x m tp s kp bc bt kc kr w := ⟨h.1.mv e1 e2 (fun y k hy => e3 y k (by rw [hy]; decide)), h.2.mv h.1.J.1 e1 e2 (fun a k _ ha => e3 a k ha)⟩
theorem sz_headN {w : sx_w} {h : sx_H} {G : mj_G} {M : mj_M} (hR : sx_RH w h G M) (k2 : sz_hk h = true) (hA : lq_A (sz_G w h G) w.2.2.2) : nz (sz_G w h G) (sz_M w h G M) (w.2.2.2 338) (w.2.2.2 336) (w.2.2.2 357) (w.2.2.2 120) w.2.2.2 := by
  have n1 := (sz_hk_s k2).1
  obtain ⟨ya, yb, -, -, -⟩ := sz_hy_s k2
  have tg : ∀ i t n, (i, t, n) ∈ sz_lt → sz_G w h G (w.2.2.2 i) = (t, n) := fun i t n he => sz_tg_s (yb (i, t, n) he) hR (by have := sz_lt_lt _ he; omega)
  have rq : ∀ i k j, (i, k, j) ∈ sz_lr → (sz_M w h G M).2.2 (w.2.2.2 i) k = some (w.2.2.2 j) := fun i k j he => sz_rq_s (ya (i, k, j) he) hR (by have := (sz_lr_lt _ he).1; omega) (sz_lr_lt _ he).2
  have s0 : (sz_M w h G M).1 (w.2.2.2 338) 0 = 0 := sz_q_s hR k2 (by decide +kernel)
  have c0 : (sz_M w h G M).1 (w.2.2.2 120) 0 = 0 := sz_q_s hR k2 (by decide +kernel)
  have c1 : (sz_M w h G M).1 (w.2.2.2 120) 1 = 0 := sz_q_s hR k2 (by decide +kernel)
  have g0 := rq 29 0 30 (by decide +kernel)
  refine ⟨w.2.2.2 341, w.2.2.2 358, ⟨rq _ _ _ (by decide +kernel), tg _ _ _ (by decide +kernel), rq _ _ _ (by decide +kernel), tg _ _ _ (by decide +kernel)⟩, fun p q hn => ?_, fun k hk h0 => ?_⟩
  · have e := Option.some.inj (hn.1.symm.trans g0)
    have hp4 := lq_P4 hn.pin.1
    have e := hA.1 _ _ (by omega) (by omega) e
    subst e
    refine ⟨fun _ => [], fun j hj => ⟨?_, by show 0 ≤ 8; decide, fun y hy => by cases hy⟩, fun j hj => ?_⟩
    · obtain ⟨r1, r2, r3⟩ := hR.2.2.1 31 (by omega)
      show M.2.1 (w.2.2.2 31) j = _
      rw [(r3 j (by omega)).2.1, sz_d3_s k2 j hj]; rfl
    · rw [s0] at hj; omega
  · exfalso
    have : k = 0 ∨ k = 1 := by omega
    rcases this with rfl | rfl
    · exact h0 c0
    · exact h0 c1
