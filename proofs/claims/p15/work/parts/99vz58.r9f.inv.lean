/-! ===== the PLAIN's number on both sides, and what the latest cheapest() found ===== -/
theorem cs_S_H {H H' : Nat → Int} (h : ∀ j, j < 88 → H j = H' j) (h0 : 0 ≤ H 0 ∧ H 0 ≤ 8) : ∀ (r m a : Nat) (L : Nat → Int), m + r ≤ 12 → cs_S H r m a L = cs_S H' r m a L
  | 0, m, a, L, _ => by
    have et : cs_t H = cs_t H' := by unfold cs_t; rw [h 0 (by decide)]
    have e : cs_met H L ↔ cs_met H' L := by unfold cs_met; rw [et]
    unfold cs_S
    by_cases c : cs_met H L
    · rw [if_pos c, if_pos (e.mp c)]
    · rw [if_neg c, if_neg (fun z => c (e.mpr z))]
  | r + 1, m, a, L, hm => by
    have et : cs_t H = cs_t H' := by unfold cs_t; rw [h 0 (by decide)]
    have t8 : cs_t H ≤ 8 := by unfold cs_t; omega
    show cs_fold _ (cs_t H + 1) = cs_fold _ (cs_t H' + 1)
    rw [← et]
    refine cs_fold_cg _ (fun c hc => ?_)
    have e1 : cs_cost H a c = cs_cost H' a c := by
      unfold cs_cost
      rw [← et, h 1 (by decide)]
      by_cases q : c < cs_t H ∧ a ≠ c
      · rw [if_pos q, if_pos q, h (10 + 9 * c) (by omega)]
      · rw [if_neg q, if_neg q]
    have e2 : cs_code H c = cs_code H' c := by unfold cs_code; rw [et]
    have e3 : cs_lk H L c m = cs_lk H' L c m := by
      unfold cs_lk cs_gain
      rw [h (4 + 9 * c) (by omega), h (76 + m) (by omega)]
    show cs_add (cs_cost H a c) m (cs_code H c) (cs_S H r (m + 1) c (cs_lk H L c m)) = cs_add (cs_cost H' a c) m (cs_code H' c) (cs_S H' r (m + 1) c (cs_lk H' L c m))
    rw [e1, e2, e3, cs_S_H h h0 r (m + 1) c _ (by omega)]
theorem cs_A_H {H H' : Nat → Int} (h : ∀ j, j < 88 → H j = H' j) (h0 : 0 ≤ H 0 ∧ H 0 ≤ 8) : cs_A H = cs_A H' := by
  have et : cs_t H = cs_t H' := by unfold cs_t; rw [h 0 (by decide)]
  have t8 : cs_t H ≤ 8 := by unfold cs_t; omega
  unfold cs_A
  rw [cs_S_H h h0 12 0 _ _ (by decide), et]
  exact cs_S_cg _ _ _ _ _ (fun k hk => h (8 + 9 * k) (by omega))
def lq_Vg (G : mj_G) (M : mj_M) (x m : Nat) (w : Nat → Nat) : Prop := cp_GA G w ∧ cp_BA M w ∧ M.2.2 x 6 = some (w 125) ∧ cp_GR G w ∧ cp_BR M w m
def lq_Vn (A : Int → cs_R) (M : mj_M) (m s : Nat) (w : Nat → Nat) : Prop := (0 ≤ M.1 m 25 ∧ M.1 m 25 ≤ M.1 m 26) ∧ (∀ p q, lq_N M w p q → M.1 (w p) 9 = M.1 m 25) ∧ A (M.1 m 25) = cs_A (M.1 s)
def lq_V1 (A : Int → cs_R) (M : mj_M) (m kp : Nat) (w : Nat → Nat) (k : Nat) : Prop := M.1 (w (lq_ip k)) 9 = M.1 kp (538 * k + 537) ∧ (0 ≤ M.1 kp (538 * k + 537) ∧ M.1 kp (538 * k + 537) ≤ M.1 m 26) ∧ A (M.1 kp (538 * k + 537)) = cs_A (fun j => M.1 kp (538 * k + j))
def lq_Vk (A : Int → cs_R) (M : mj_M) (m kp kc : Nat) (w : Nat → Nat) : Prop := ∀ k, k < 2 → M.1 kc k ≠ 0 → lq_V1 A M m kp w k
def lq_Vs (A : Int → cs_R) (M : mj_M) (m : Nat) (w : Nat → Nat) : Prop := M.1 (w 125) 3 = -1 ∨ ((0 ≤ M.1 (w 125) 3 ∧ M.1 (w 125) 3 ≤ M.1 m 26) ∧ ((A (M.1 (w 125) 3) = none ∧ M.1 (w 125) 4 = -1) ∨ ∃ c P, A (M.1 (w 125) 3) = some (c, P) ∧ 0 ≤ c ∧ M.1 (w 125) 4 = c ∧ M.1 (w 125) 1 = 1 ∧ M.1 (w 125) 2 = M.1 (w 125) 3 ∧ ∀ j, j < 12 → M.1 (w 126) j = P j))
def lq_Vp (A : Int → cs_R) (M : mj_M) (m : Nat) (w : Nat → Nat) : Prop := M.1 (w 125) 1 = M.1 m 39 ∧ (M.1 (w 125) 1 ≠ 0 → M.1 (w 125) 2 = M.1 m 40 ∧ (∀ j, j < 12 → M.1 (w 126) j = M.1 (w 348) j) ∧ (0 ≤ M.1 m 40 ∧ M.1 m 40 ≤ M.1 m 26) ∧ ∃ c P, A (M.1 m 40) = some (c, P) ∧ ∀ j, j < 12 → M.1 (w 348) j = P j)
/-- the numbers read so far: c at most -/
def lq_Vc (M : mj_M) (m : Nat) (c : Int) : Prop := 0 ≤ M.1 m 26 ∧ M.1 m 26 ≤ c
def lq_V (G : mj_G) (M : mj_M) (x m s kp kc : Nat) (w : Nat → Nat) (c : Int) : Prop := lq_Vg G M x m w ∧ lq_Vc M m c ∧ M.1 x 13 = M.1 m 26 ∧ ∃ A, lq_Vn A M m s w ∧ lq_Vk A M m kp kc w ∧ lq_Vs A M m w ∧ lq_Vp A M m w
abbrev lq_Vw (W : List (Nat × Nat × Nat)) : Prop := ∀ q ∈ W, ¬ (q.1 = 51100 ∧ q.2.1 < 88) ∧ q.1 ≠ 70100 ∧ q.1 ≠ 48102 ∧ (q.1 ≠ 1012 ∨ ((q.2.2 < 25 ∨ 26 < q.2.1) ∧ (q.2.2 < 35 ∨ 40 < q.2.1))) ∧ (q.1 ≠ 1011 ∨ ((q.2.2 < 6 ∨ 6 < q.2.1) ∧ (q.2.2 < 13 ∨ 13 < q.2.1))) ∧ ¬ (q.1 = 1007 ∧ q.2.1 = 0) ∧ (q.1 ≠ 1004 ∨ q.2.2 < 9 ∨ 9 < q.2.1) ∧ q.1 ≠ 1001 ∧ q.1 ≠ 2100 ∧ q.1 ≠ 5104 ∧ q.1 ≠ 7104 ∧ q.1 ≠ 10104 ∧ q.1 ≠ 61100
section VV
variable {G : mj_G} {M M' : mj_M} {x s m kp kc tp : Nat} {w : Nat → Nat} {c c' z1 : Int} {A : Int → cs_R}
theorem lq_Vs.cg {A' : Int → cs_R} (h : lq_Vs A M m w) (e1 : ∀ k, 1 ≤ k → k ≤ 4 → M'.1 (w 125) k = M.1 (w 125) k) (e2 : M'.1 (w 126) = M.1 (w 126)) (em : M.1 m 26 ≤ M'.1 m 26) (eA : ∀ v, 0 ≤ v → v ≤ M.1 m 26 → A' v = A v) : lq_Vs A' M' m w := by
  unfold lq_Vs
  rw [e1 1 (by decide) (by decide), e1 2 (by decide) (by decide), e1 3 (by decide) (by decide), e1 4 (by decide) (by decide), e2]
  rcases h with h | ⟨⟨h1, h2⟩, h3⟩
  · exact Or.inl h
  · rw [eA _ h1 h2]
    exact Or.inr ⟨⟨h1, by omega⟩, h3⟩
theorem lq_Vp.cg {A' : Int → cs_R} (h : lq_Vp A M m w) (e1 : ∀ k, 1 ≤ k → k ≤ 4 → M'.1 (w 125) k = M.1 (w 125) k) (e2 : M'.1 (w 126) = M.1 (w 126)) (e3 : M'.1 m 39 = M.1 m 39 ∧ M'.1 m 40 = M.1 m 40) (e4 : M'.1 (w 348) = M.1 (w 348)) (em : M.1 m 26 ≤ M'.1 m 26) (eA : ∀ v, 0 ≤ v → v ≤ M.1 m 26 → A' v = A v) : lq_Vp A' M' m w := by
  unfold lq_Vp
  rw [e1 1 (by decide) (by decide), e1 2 (by decide) (by decide), e2, e3.1, e3.2, e4]
  refine ⟨h.1, fun z => ?_⟩
  obtain ⟨h1, h2, ⟨h3, h4⟩, h5⟩ := h.2 z
  rw [eA _ h3 h4]
  exact ⟨h1, h2, ⟨h3, by omega⟩, h5⟩
theorem lq_V1.cg {A' : Int → cs_R} {k : Nat} (h : lq_V1 A M m kp w k) (e9 : M'.1 (w (lq_ip k)) 9 = M.1 (w (lq_ip k)) 9) (ek : ∀ j, j < 538 → M'.1 kp (538 * k + j) = M.1 kp (538 * k + j)) (h8 : 0 ≤ M.1 kp (538 * k) ∧ M.1 kp (538 * k) ≤ 8) (em : M.1 m 26 ≤ M'.1 m 26) (eA : ∀ v, 0 ≤ v → v ≤ M.1 m 26 → A' v = A v) : lq_V1 A' M' m kp w k := by
  obtain ⟨h1, ⟨h2, h3⟩, h4⟩ := h
  unfold lq_V1
  rw [e9, ek 537 (by decide), eA _ h2 h3, h4]
  exact ⟨h1, ⟨h2, by omega⟩, cs_A_H (fun j hj => (ek j (by omega)).symm) h8⟩
theorem lq_V.cg (h : lq_V G M x m s kp kc w c) (hc : c ≤ c') (h8 : 0 ≤ M.1 s 0 ∧ M.1 s 0 ≤ 8) (rg : lq_Vg G M' x m w) (n1 : M'.2.2 (w 29) 0 = M.2.2 (w 29) 0) (n2 : M'.2.2 (w 74) 0 = M.2.2 (w 74) 0) (ex : M'.1 x 13 = M.1 x 13) (em : ∀ k, k = 25 ∨ k = 26 ∨ k = 39 ∨ k = 40 → M'.1 m k = M.1 m k) (e1 : ∀ k, 1 ≤ k → k ≤ 4 → M'.1 (w 125) k = M.1 (w 125) k) (e2 : M'.1 (w 126) = M.1 (w 126)) (e4 : M'.1 (w 348) = M.1 (w 348)) (e9 : ∀ P, P ∈ lq_Ps → (∀ p q, lq_N M w p q → P ≠ q) → M'.1 (w P) 9 = M.1 (w P) 9) (es : ∀ j, j < 88 → M'.1 s j = M.1 s j) (ek : M'.1 kp = M.1 kp) (ec : M'.1 kc = M.1 kc) : lq_V G M' x m s kp kc w c' := by
  obtain ⟨hg, ⟨c1, c2⟩, hx, A, ⟨a1, a2, a3⟩, hk, hs, hp⟩ := h
  have m5 := em 25 (Or.inl rfl)
  have m6 := em 26 (Or.inr (Or.inl rfl))
  have m9 := em 39 (Or.inr (Or.inr (Or.inl rfl)))
  have m0 := em 40 (Or.inr (Or.inr (Or.inr rfl)))
  refine ⟨rg, ⟨by rw [m6]; exact c1, by rw [m6]; omega⟩, by rw [ex, m6]; exact hx, A, ⟨by rw [m5, m6]; exact a1, fun p q hn => ?_, ?_⟩, fun k hk2 h0 => ?_, hs.cg e1 e2 (by omega) (fun _ _ _ => rfl), hp.cg e1 e2 ⟨m9, m0⟩ e4 (by omega) (fun _ _ _ => rfl)⟩
  · have hn0 := lq_N.back n1 n2 hn
    rw [m5, e9 p hn0.pin.1 (fun p' q' hn' e => ?_)]
    · exact a2 p q hn0
    · have := hn'.qin.2
      have e3 := hg.1.1 _ _ (by have := lq_P4 hn0.pin.1; omega) (by have := lq_P4 hn'.pin.1; omega) (Option.some.inj (hn0.1.symm.trans hn'.1))
      omega
  · rw [m5, a3]
    exact cs_A_H (fun j hj => (es j hj).symm) h8
  · rw [ec] at h0
    have h1 := hk k hk2 h0
    obtain ⟨q1, ⟨q2, q3⟩, q4⟩ := h1
    unfold lq_V1
    rw [ek, m6, e9 _ (lq_ip_in k) (fun p q hn => hn.nip k)]
    exact ⟨q1, ⟨q2, q3⟩, q4⟩
theorem lq_Vg.go {W : List (Nat × Nat × Nat)} (h : lq_Vg G M x m w) (gx : G x = (1011, 0)) (gm : G m = (1012, 0)) (f : ab_frm W G M M') (cW : ∀ q ∈ W, (q.1 ≠ 1012 ∨ (q.2.2 < 35 ∨ 38 < q.2.1)) ∧ (q.1 ≠ 1011 ∨ (q.2.2 < 6 ∨ 6 < q.2.1)) ∧ (q.1 ≠ 1001 ∨ (q.2.2 = q.2.1 ∧ 1 ≤ q.2.1 ∧ q.2.1 ≤ 6) ∨ (q.2.1 = 15 ∧ q.2.2 = 15) ∨ (q.2.1 = 18 ∧ q.2.2 = 18)) ∧ q.1 ≠ 5104 ∧ q.1 ≠ 7104 ∧ q.1 ≠ 10104) : lq_Vg G M' x m w := by
  obtain ⟨ga, gb, x6, gr, b1, b2, b3, b4⟩ := h
  have fm : ∀ k, 35 ≤ k → k ≤ 38 → M'.2.2 m k = M.2.2 m k := fun k h1 h2 => (f m k (by rw [gm]; rintro ⟨r, hr, e1, e2, e3⟩; have := (cW r hr).1; omega)).2
  refine ⟨ga, fun e he => ?_, (f x 6 (by rw [gx]; rintro ⟨r, hr, e1, e2, e3⟩; have := (cW r hr).2.1; omega)).2.trans x6, gr, (fm 35 (by decide) (by decide)).trans b1, (fm 36 (by decide) (by decide)).trans b2, (fm 37 (by decide) (by decide)).trans b3, (fm 38 (by decide) (by decide)).trans b4⟩
  refine (f (w e.1) e.2.1 ?_).2.trans (gb e he)
  have key : ∀ (t n k : Nat), G (w e.1) = (t, n) → e.2.1 = k → (∀ r ∈ W, r.1 = t → r.2.1 ≤ k → k ≤ r.2.2 → False) → ¬ ab_cov W (G (w e.1)).1 e.2.1 := fun t n k g ek hh => by
    rw [g, ek]; rintro ⟨r, hr, e1, e2, e3⟩; exact hh r hr e1 e2 e3
  have hl : ∀ e ∈ cp_lr, e.1 = 125 ∧ (e.2.1 = 0 ∨ (7 ≤ e.2.1 ∧ e.2.1 ≤ 14) ∨ e.2.1 = 16 ∨ e.2.1 = 17) ∨ e.1 = 129 ∨ e.1 = 133 ∨ e.1 = 138 := by decide
  rcases hl e he with ⟨h1, h2⟩ | h1 | h1 | h1
  · exact key 1001 0 e.2.1 (by rw [h1]; exact ga.g125) rfl (fun r hr z1 z2 z3 => by have := (cW r hr).2.2.1; omega)
  · exact key 5104 3 e.2.1 (by rw [h1]; exact ga.g129) rfl (fun r hr z1 z2 z3 => (cW r hr).2.2.2.1 z1)
  · exact key 7104 3 e.2.1 (by rw [h1]; exact ga.g133) rfl (fun r hr z1 z2 z3 => (cW r hr).2.2.2.2.1 z1)
  · exact key 10104 3 e.2.1 (by rw [h1]; exact ga.g138) rfl (fun r hr z1 z2 z3 => (cW r hr).2.2.2.2.2 z1)
theorem lq_V.go {W : List (Nat × Nat × Nat)} (h : lq_V G M x m s kp kc w c) (hc : c ≤ c') (h8 : 0 ≤ M.1 s 0 ∧ M.1 s 0 ≤ 8) (hA : lq_A G w) (gx : G x = (1011, 0)) (gm : G m = (1012, 0)) (gs : G s = (51100, 537)) (gk : G kp = (70100, 1076)) (gc : G kc = (48102, 2)) (f : ab_frm W G M M') (cW : lq_Vw W) : lq_V G M' x m s kp kc w c' := by
  have ga := h.1.1
  have gr := h.1.2.2.2.1
  refine h.cg hc h8 (h.1.go gx gm f (fun q hq => ?_)) (f _ 0 (by rw [hA.2.2.1]; rintro ⟨r, hr, e1, e2, e3⟩; exact (cW r hr).2.2.2.2.2.1 ⟨e1, by omega⟩)).2 (f _ 0 (by rw [hA.2.2.2.1]; rintro ⟨r, hr, e1, e2, e3⟩; exact (cW r hr).2.2.2.2.2.1 ⟨e1, by omega⟩)).2 (f x 13 (by rw [gx]; rintro ⟨r, hr, e1, e2, e3⟩; have := (cW r hr).2.2.2.2.1; omega)).1 (fun k hk => (f m k (by rw [gm]; rintro ⟨r, hr, e1, e2, e3⟩; have := (cW r hr).2.2.2.1; omega)).1) (fun k _ _ => (f _ k (by rw [ga.g125]; rintro ⟨r, hr, e1, e2, e3⟩; exact (cW r hr).2.2.2.2.2.2.2.1 e1)).1) (funext fun k => (f _ k (by rw [ga.g126]; rintro ⟨r, hr, e1, e2, e3⟩; exact (cW r hr).2.2.2.2.2.2.2.2.1 e1)).1) (funext fun k => (f _ k (by rw [gr.2.2.2]; rintro ⟨r, hr, e1, e2, e3⟩; exact (cW r hr).2.2.2.2.2.2.2.2.2.2.2.2 e1)).1) (fun P hP _ => (f _ 9 (by rw [(hA.2.1 P hP).1]; rintro ⟨r, hr, e1, e2, e3⟩; have := (cW r hr).2.2.2.2.2.2.1; omega)).1) (fun j hj => (f s j (by rw [gs]; rintro ⟨r, hr, e1, e2, e3⟩; exact (cW r hr).1 ⟨e1, by omega⟩)).1) (funext fun k => (f kp k (by rw [gk]; rintro ⟨r, hr, e1, e2, e3⟩; exact (cW r hr).2.1 e1)).1) (funext fun k => (f kc k (by rw [gc]; rintro ⟨r, hr, e1, e2, e3⟩; exact (cW r hr).2.2.1 e1)).1)
  have q9 := cW q hq
  refine ⟨?_, ?_, Or.inl q9.2.2.2.2.2.2.2.1, q9.2.2.2.2.2.2.2.2.2.1, q9.2.2.2.2.2.2.2.2.2.2.1, q9.2.2.2.2.2.2.2.2.2.2.2.1⟩
  · have := q9.2.2.2.1; omega
  · have := q9.2.2.2.2.1; omega
theorem lq_V.mv (h : lq_V G M x m s kp kc w c) (hc : c ≤ c') (e1 : M'.1 = M.1) (e2 : M'.2.2 = M.2.2) : lq_V G M' x m s kp kc w c' := by
  obtain ⟨hg, ⟨c1, c2⟩, hx, A, hn, hk, hs, hp⟩ := h
  have hv : lq_V G M x m s kp kc w c' := ⟨hg, ⟨c1, by omega⟩, hx, A, hn, hk, hs, hp⟩
  have eM : ∀ p q, lq_N M' w p q → lq_N M w p q := fun p q hn => by unfold lq_N at hn ⊢; rw [← e2]; exact hn
  obtain ⟨⟨g1, g2, g3, g4, g5⟩, hc9, hx, A, ⟨n1, n2, n3⟩, hk, hs, hp⟩ := hv
  refine ⟨⟨g1, ?_, by rw [e2]; exact g3, g4, ?_⟩, ?_, by rw [e1]; exact hx, A, ⟨by rw [e1]; exact n1, fun p q hn => by rw [e1]; exact n2 p q (eM p q hn), by rw [e1]; exact n3⟩, ?_, ?_, ?_⟩
  · unfold cp_BA; rw [e2]; exact g2
  · unfold cp_BR; rw [e2]; exact g5
  · unfold lq_Vc; rw [e1]; exact hc9
  · unfold lq_Vk lq_V1; rw [e1]; exact hk
  · unfold lq_Vs; rw [e1]; exact hs
  · unfold lq_Vp; rw [e1]; exact hp
end VV
