/-! ===== a PLAIN copied, as the invariant sees it ===== -/
section CQ
variable {G : mj_G} {M M' : mj_M} {w : Nat → Nat} {x p q P P' R : Nat}
theorem rv_G6.cp {H : Nat → Int} {o : Nat} (h : rv_G6 H o w P M) (c : lq_cp G w P P' M M') : rv_G6 H o w P' M' := by
  obtain ⟨⟨h1, h2, h3, h4, h5, h6⟩, h7, h8⟩ := h
  obtain ⟨c1, c2, c3, c4, -, -⟩ := c
  exact ⟨⟨h1.trans (c1 4 (by decide) (by decide)).symm, h2.trans (c1 6 (by decide) (by decide)).symm, h3.trans (c1 7 (by decide) (by decide)).symm, h4.trans (c1 8 (by decide) (by decide)).symm, fun t v ht hv => (h5 t v ht hv).trans (c2 t ht v hv).symm, fun v hv => (h6 v hv).trans (c4 v hv).symm⟩, fun t v ht hv => (h7 t v ht hv).trans (c3 t ht v hv).symm, (c1 5 (by decide) (by decide)).trans h8⟩
theorem lq_cp.E (hA : lq_A G w) (hP : P' ∈ lq_Ps) (hR : R ∈ lq_Ps) (hne : R ≠ P') (c : lq_cp G w P P' M M') : lq_E6 w R M M' := by
  obtain ⟨g1, g2, g3, g4, g5, g6, g7⟩ := hA.2.1 R hR
  have h4 := lq_P4 hP
  have h5 := lq_P4 hR
  have key : ∀ u, R ≤ u → u < R + 22 → rv_no (G (w u)).1 → M'.1 (w u) = M.1 (w u) := by
    intro u h1 h2 hn
    refine c.2.2.2.2.2 _ hn (fun e => ?_) (fun e => ?_) (fun t ht e => ?_) (fun t ht e => ?_)
    all_goals
      have := hA.1 _ _ (by omega) (by omega) e
      omega
  have k0 : M'.1 (w R) = M.1 (w R) := key R (by omega) (by omega) (by rw [g1]; unfold rv_no; decide)
  refine ⟨⟨⟨by rw [k0], by rw [k0], by rw [k0], by rw [k0]⟩, fun t v ht hv => ?_, fun v hv => ?_⟩, by rw [k0], fun t v ht hv => ?_⟩
  · rw [key (R + 3 + t) (by omega) (by omega) (by rw [g6 t ht]; unfold rv_no; decide)]
  · rw [key (R + 20) (by omega) (by omega) (by rw [g5]; unfold rv_no; decide)]
  · rw [key (R + 12 + t) (by omega) (by omega) (by rw [g7 t ht]; unfold rv_no; decide)]
theorem lq_cp.o (hA : lq_A G w) (hP : P' ∈ lq_Ps) (c : lq_cp G w P P' M M') {a t n : Nat} (ga : G a = (t, n)) (ha : rv_no t) (h1 : t ≠ 1004) (h2 : t ≠ 26100) (h3 : t ≠ 28100) (h4 : t ≠ 29100) : M'.1 a = M.1 a := by
  obtain ⟨g1, g2, g3, g4, g5, g6, g7⟩ := hA.2.1 P' hP
  exact c.2.2.2.2.2 a (by rw [ga]; exact ha) (hn_ne ga g1 h1) (hn_ne ga g5 h4) (fun t ht => hn_ne ga (g6 t ht) h2) (fun t ht => hn_ne ga (g7 t ht) h3)
theorem lq_cp.B (hA : lq_A G w) (gx : G x = (1011, 0)) (hB : lq_B M w x) (c : lq_cp G w P P' M M') : lq_B M' w x := hB.no hA gx c.2.2.2.2.1
theorem lq_cp.N (hA : lq_A G w) (hN : lq_N M w p q) (c : lq_cp G w P P' M M') : lq_N M' w p q :=
  ⟨(c.2.2.2.2.1 _ _ (lq_no29 hA).1).trans hN.1, (c.2.2.2.2.1 _ _ (lq_no29 hA).2).trans hN.2.1, hN.2.2⟩
theorem lq_E6.p0 {a k t n : Nat} {v : Int} (hA : lq_A G w) (hR : R ∈ lq_Ps) (ga : G a = (t, n)) (h1 : 1004 ≠ t) (h2 : 26100 ≠ t) (h4 : 29100 ≠ t) (h5 : 28100 ≠ t) : lq_E6 w R M (mj_p0 M a k v) := by
  obtain ⟨g1, g2, g3, g4, g5, g6, g7⟩ := hA.2.1 R hR
  exact ⟨⟨⟨hn_n (Or.inl (hn_ne g1 ga h1)), hn_n (Or.inl (hn_ne g1 ga h1)), hn_n (Or.inl (hn_ne g1 ga h1)), hn_n (Or.inl (hn_ne g1 ga h1))⟩, fun t v ht hv => hn_n (Or.inl (hn_ne (g6 t ht) ga h2)), fun v hv => hn_n (Or.inl (hn_ne g5 ga h4))⟩, hn_n (Or.inl (hn_ne g1 ga h1)), fun t v ht hv => hn_n (Or.inl (hn_ne (g7 t ht) ga h5))⟩
theorem lq_E.tr {M'' : mj_M} (h : lq_E w P M M') (h' : lq_E w P M' M'') : lq_E w P M M'' :=
  ⟨⟨h'.1.1.trans h.1.1, h'.1.2.1.trans h.1.2.1, h'.1.2.2.1.trans h.1.2.2.1, h'.1.2.2.2.trans h.1.2.2.2⟩, fun t v ht hv => (h'.2.1 t v ht hv).trans (h.2.1 t v ht hv), fun v hv => (h'.2.2 v hv).trans (h.2.2 v hv)⟩
theorem lq_E6.tr {M'' : mj_M} (h : lq_E6 w P M M') (h' : lq_E6 w P M' M'') : lq_E6 w P M M'' :=
  ⟨h.1.tr h'.1, h'.2.1.trans h.2.1, fun t v ht hv => (h'.2.2 t v ht hv).trans (h.2.2 t v ht hv)⟩
end CQ
