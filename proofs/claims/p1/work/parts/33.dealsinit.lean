/-! ===== CONTRACTS are made ===== -/
theorem iv_tx {G : mj_G} {x : Nat} (h : (G x).1 ≠ 0) : ∃ t n, G x = (t, n) ∧ t ≠ 0 := ⟨(G x).1, (G x).2, rfl, h⟩
set_option maxRecDepth 100000 in
theorem r_deals_init {d a : Nat} {G : mj_G} {M : mj_M} {Q : mj_P} (ha : G a = (1002, 0))
    (h : ∀ G' M' f s c, iv_ext (fun x => x = a) G M G' M' → iv_cs G' M' a f s c → (∀ k, k < 12 → M'.1 f k = -1 ∧ M'.1 s k = -1 ∧ M'.1 c k = 0) → M'.1 a 3 = 0 → Q none G' M') : mj_R mj_tab (d + 2) n_X1_init [.inr (.inr (some a))] G M Q := by
  refine ⟨Nat.le_refl 1, mj_W.run (mj_R_mo _ _) 50 ?_⟩
  refine And.intro (by decide) ?_
  refine ⟨by decide, by decide, by decide, by decide, 5100, rfl, fun f hf => ?_⟩
  have a1 := iv_gn (t := 5100) (n := 12) hf ha (by decide)
  refine And.intro (List.cons_ne_nil _ _) ⟨1002, 0, a1, rfl, by decide, ?_⟩
  refine ⟨by decide, by decide, by decide, by decide, 6100, rfl, fun s hs => ?_⟩
  have a2 := iv_gn (t := 6100) (n := 12) hs a1 (by decide)
  have f2 := iv_gn (t := 6100) (n := 12) hs (iv_gs (G := G) (a := f) (t := 5100) (n := 12)) (by decide)
  refine And.intro (List.cons_ne_nil _ _) ⟨1002, 0, a2, rfl, by decide, ?_⟩
  refine ⟨by decide, by decide, by decide, by decide, 1100, rfl, fun c hc => ?_⟩
  have a3 := iv_gn (t := 1100) (n := 12) hc a2 (by decide)
  have f3 := iv_gn (t := 1100) (n := 12) hc f2 (by decide)
  have s3 := iv_gn (t := 1100) (n := 12) hc (iv_gs (G := mj_g G f 5100 12) (a := s) (t := 6100) (n := 12)) (by decide)
  refine And.intro (List.cons_ne_nil _ _) ⟨1002, 0, a3, rfl, by decide, ?_⟩
  refine And.intro (List.cons_ne_nil _ _) ⟨1002, 0, a3, rfl, by decide, (fun q => by cases q), ?_⟩
  have naf : a ≠ f := iv_ne hf ha (by decide)
  have nas : a ≠ s := iv_ne hs a1 (by decide)
  have nac : a ≠ c := iv_ne hc a2 (by decide)
  refine And.intro (List.cons_ne_nil _ _) ⟨1002, 0, a3, rfl, by decide, by decide, by decide, ?_⟩
  refine r_deals_clear (f := f) (s := s) (c := c) ⟨a3, ⟨?_, f3⟩, ⟨?_, s3⟩, ?_, iv_gs⟩ (fun M' e1 e2 e3 e4 => ?_)
  · simp [mj_p0, mj_p2, mj_h1, mj_z, nas, nac]
  · simp [mj_p0, mj_p2, mj_h1, mj_z, nac]
  · simp [mj_p0, mj_p2, mj_h1]
  · have e22 : M'.2.2 = _ := congrArg Prod.snd e1
    refine And.intro rfl (h _ M' f s c (fun x hx hxa => ?_) ⟨a3, ⟨?_, f3⟩, ⟨?_, s3⟩, ?_, iv_gs⟩ e3 e4)
    · obtain ⟨t, n, g0, gt⟩ := iv_tx hx
      have nf : x ≠ f := iv_ne hf g0 gt
      have g1 := iv_gn (t := 5100) (n := 12) hf g0 gt
      have ns : x ≠ s := iv_ne hs g1 gt
      have g2 := iv_gn (t := 6100) (n := 12) hs g1 gt
      have nc : x ≠ c := iv_ne hc g2 gt
      have g3 := iv_gn (t := 1100) (n := 12) hc g2 gt
      have hxa : x ≠ a := hxa
      refine ⟨g3.trans g0.symm, fun k => ?_, fun k => ?_, fun k => ?_⟩
      · rw [e2 x k nf ns nc (fun q => hxa q.1)]
        simp [mj_p0, mj_p2, mj_z, hxa, nf, ns, nc]
      · rw [show M'.2.1 = _ from congrArg Prod.fst e1]
        simp [mj_p0, mj_p2, mj_z, nf, ns, nc]
      · rw [e22]
        simp [mj_p0, mj_p2, mj_z, hxa, nf, ns, nc]
    · rw [e22]; simp [mj_p0, mj_p2, mj_h1, mj_z, nas, nac]
    · rw [e22]; simp [mj_p0, mj_p2, mj_h1, mj_z, nac]
    · rw [e22]; simp [mj_p0, mj_p2, mj_h1]
