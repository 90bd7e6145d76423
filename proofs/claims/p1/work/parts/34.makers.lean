/-! ===== makers that call no maker, laid by a program ===== -/
set_option maxRecDepth 100000 in
set_option maxHeartbeats 4000000 in
theorem r_undo_init {d a : Nat} {G : mj_G} {M : mj_M} {Q : mj_P} (ha : G a = (1009, 0))
    (h : ∀ G' M' b0 b1 b2, iv_ext (fun x => x = a) G M G' M' → G' a = (1009, 0) → ((M'.2.2 a 0 = some b0 ∧ G' b0 = (8100, 8)) ∧ (M'.2.2 a 1 = some b1 ∧ G' b1 = (9100, 8)) ∧ (M'.2.2 a 2 = some b2 ∧ G' b2 = (1100, 8))) → (M'.1 a 3 = 0) → Q none G' M') : mj_R mj_tab (d + 1) n_X8_init [.inr (.inr (some a))] G M Q := by
  refine ⟨Nat.le_refl 1, mj_W.run (mj_R_mo _ _) 23 ?_⟩
  refine And.intro (by decide) ?_
  refine ⟨by decide, by decide, by decide, by decide, 8100, rfl, fun b0 f1 => ?_⟩
  have g1_a := iv_gn (t := 8100) (n := 8) f1 ha (by decide)
  have n1_a := iv_ne f1 ha (by decide)
  refine And.intro (List.cons_ne_nil _ _) ⟨1009, 0, g1_a, rfl, by decide, ?_⟩
  refine ⟨by decide, by decide, by decide, by decide, 9100, rfl, fun b1 f2 => ?_⟩
  have g2_a := iv_gn (t := 9100) (n := 8) f2 g1_a (by decide)
  have n2_a := iv_ne f2 g1_a (by decide)
  have g2_b0 := iv_gn (t := 9100) (n := 8) f2 (iv_gs) (by decide)
  have n2_b0 := iv_ne f2 (iv_gs) (by decide)
  refine And.intro (List.cons_ne_nil _ _) ⟨1009, 0, g2_a, rfl, by decide, ?_⟩
  refine ⟨by decide, by decide, by decide, by decide, 1100, rfl, fun b2 f3 => ?_⟩
  have g3_a := iv_gn (t := 1100) (n := 8) f3 g2_a (by decide)
  have n3_a := iv_ne f3 g2_a (by decide)
  have g3_b0 := iv_gn (t := 1100) (n := 8) f3 g2_b0 (by decide)
  have n3_b0 := iv_ne f3 g2_b0 (by decide)
  have g3_b1 := iv_gn (t := 1100) (n := 8) f3 (iv_gs) (by decide)
  have n3_b1 := iv_ne f3 (iv_gs) (by decide)
  refine And.intro (List.cons_ne_nil _ _) ⟨1009, 0, g3_a, rfl, by decide, ?_⟩
  refine And.intro (List.cons_ne_nil _ _) ⟨1009, 0, g3_a, rfl, by decide, (fun q => by cases q), ?_⟩
  refine And.intro rfl (h _ _ b0 b1 b2 ?_ g3_a ?_ ?_)
  · refine iv_ext.trans ?_ (iv_ext.p0 rfl)
    refine iv_ext.trans ?_ (iv_ext.p2 rfl)
    refine iv_ext.trans ?_ (iv_ext.g f3)
    refine iv_ext.trans ?_ (iv_ext.p2 rfl)
    refine iv_ext.trans ?_ (iv_ext.g f2)
    refine iv_ext.trans ?_ (iv_ext.p2 rfl)
    exact iv_ext.g f1
  · exact ⟨⟨by simp [mj_p0, mj_p1, mj_p2, mj_h1, mj_z, mj_zz, n1_a, n1_a.symm, n2_a, n2_a.symm, n2_b0, n2_b0.symm, n3_a, n3_a.symm, n3_b0, n3_b0.symm, n3_b1, n3_b1.symm], g3_b0⟩, ⟨by simp [mj_p0, mj_p1, mj_p2, mj_h1, mj_z, mj_zz, n1_a, n1_a.symm, n2_a, n2_a.symm, n2_b0, n2_b0.symm, n3_a, n3_a.symm, n3_b0, n3_b0.symm, n3_b1, n3_b1.symm], g3_b1⟩, ⟨by simp [mj_p0, mj_p1, mj_p2, mj_h1, mj_z, mj_zz, n1_a, n1_a.symm, n2_a, n2_a.symm, n2_b0, n2_b0.symm, n3_a, n3_a.symm, n3_b0, n3_b0.symm, n3_b1, n3_b1.symm], (iv_gs)⟩⟩
  · simp [mj_p0, mj_p1, mj_p2, mj_h1, mj_z, mj_zz, n1_a, n1_a.symm, n2_a, n2_a.symm, n2_b0, n2_b0.symm, n3_a, n3_a.symm, n3_b0, n3_b0.symm, n3_b1, n3_b1.symm]
set_option maxRecDepth 100000 in
set_option maxHeartbeats 4000000 in
theorem r_rounds_init {d a : Nat} {G : mj_G} {M : mj_M} {Q : mj_P} (ha : G a = (1005, 0))
    (h : ∀ G' M' b1 b2 b3, iv_ext (fun x => x = a) G M G' M' → G' a = (1005, 0) → ((M'.2.2 a 1 = some b1 ∧ G' b1 = (10100, 8)) ∧ (M'.2.2 a 2 = some b2 ∧ G' b2 = (1100, 12)) ∧ (M'.2.2 a 3 = some b3 ∧ G' b3 = (6100, 12))) → (M'.1 a 0 = 0) → Q none G' M') : mj_R mj_tab (d + 1) n_X4_init [.inr (.inr (some a))] G M Q := by
  refine ⟨Nat.le_refl 1, mj_W.run (mj_R_mo _ _) 23 ?_⟩
  refine And.intro (by decide) ?_
  refine And.intro (List.cons_ne_nil _ _) ⟨1005, 0, ha, rfl, by decide, (fun _ => Or.inl rfl), ?_⟩
  refine ⟨by decide, by decide, by decide, by decide, 10100, rfl, fun b1 f1 => ?_⟩
  have g1_a := iv_gn (t := 10100) (n := 8) f1 ha (by decide)
  have n1_a := iv_ne f1 ha (by decide)
  refine And.intro (List.cons_ne_nil _ _) ⟨1005, 0, g1_a, rfl, by decide, ?_⟩
  refine ⟨by decide, by decide, by decide, by decide, 1100, rfl, fun b2 f2 => ?_⟩
  have g2_a := iv_gn (t := 1100) (n := 12) f2 g1_a (by decide)
  have n2_a := iv_ne f2 g1_a (by decide)
  have g2_b1 := iv_gn (t := 1100) (n := 12) f2 (iv_gs) (by decide)
  have n2_b1 := iv_ne f2 (iv_gs) (by decide)
  refine And.intro (List.cons_ne_nil _ _) ⟨1005, 0, g2_a, rfl, by decide, ?_⟩
  refine ⟨by decide, by decide, by decide, by decide, 6100, rfl, fun b3 f3 => ?_⟩
  have g3_a := iv_gn (t := 6100) (n := 12) f3 g2_a (by decide)
  have n3_a := iv_ne f3 g2_a (by decide)
  have g3_b1 := iv_gn (t := 6100) (n := 12) f3 g2_b1 (by decide)
  have n3_b1 := iv_ne f3 g2_b1 (by decide)
  have g3_b2 := iv_gn (t := 6100) (n := 12) f3 (iv_gs) (by decide)
  have n3_b2 := iv_ne f3 (iv_gs) (by decide)
  refine And.intro (List.cons_ne_nil _ _) ⟨1005, 0, g3_a, rfl, by decide, ?_⟩
  refine And.intro rfl (h _ _ b1 b2 b3 ?_ g3_a ?_ ?_)
  · refine iv_ext.trans ?_ (iv_ext.p2 rfl)
    refine iv_ext.trans ?_ (iv_ext.g f3)
    refine iv_ext.trans ?_ (iv_ext.p2 rfl)
    refine iv_ext.trans ?_ (iv_ext.g f2)
    refine iv_ext.trans ?_ (iv_ext.p2 rfl)
    refine iv_ext.trans ?_ (iv_ext.g f1)
    exact iv_ext.p0 rfl
  · exact ⟨⟨by simp [mj_p0, mj_p1, mj_p2, mj_h1, mj_z, mj_zz, n1_a, n1_a.symm, n2_a, n2_a.symm, n2_b1, n2_b1.symm, n3_a, n3_a.symm, n3_b1, n3_b1.symm, n3_b2, n3_b2.symm], g3_b1⟩, ⟨by simp [mj_p0, mj_p1, mj_p2, mj_h1, mj_z, mj_zz, n1_a, n1_a.symm, n2_a, n2_a.symm, n2_b1, n2_b1.symm, n3_a, n3_a.symm, n3_b1, n3_b1.symm, n3_b2, n3_b2.symm], g3_b2⟩, ⟨by simp [mj_p0, mj_p1, mj_p2, mj_h1, mj_z, mj_zz, n1_a, n1_a.symm, n2_a, n2_a.symm, n2_b1, n2_b1.symm, n3_a, n3_a.symm, n3_b1, n3_b1.symm, n3_b2, n3_b2.symm], (iv_gs)⟩⟩
  · simp [mj_p0, mj_p1, mj_p2, mj_h1, mj_z, mj_zz, n1_a, n1_a.symm, n2_a, n2_a.symm, n2_b1, n2_b1.symm, n3_a, n3_a.symm, n3_b1, n3_b1.symm, n3_b2, n3_b2.symm]
set_option maxRecDepth 100000 in
set_option maxHeartbeats 4000000 in
theorem r_sent_init {d a : Nat} {G : mj_G} {M : mj_M} {Q : mj_P} (ha : G a = (1006, 0))
    (h : ∀ G' M' b0 b1 b2 b3, iv_ext (fun x => x = a) G M G' M' → G' a = (1006, 0) → ((M'.2.2 a 0 = some b0 ∧ G' b0 = (1105, 40)) ∧ (M'.2.2 a 1 = some b1 ∧ G' b1 = (1100, 40)) ∧ (M'.2.2 a 2 = some b2 ∧ G' b2 = (1100, 40)) ∧ (M'.2.2 a 3 = some b3 ∧ G' b3 = (1102, 40))) → (M'.1 a 4 = 0 ∧ M'.1 a 5 = 0) → Q none G' M') : mj_R mj_tab (d + 1) n_X5_init [.inr (.inr (some a))] G M Q := by
  refine ⟨Nat.le_refl 1, mj_W.run (mj_R_mo _ _) 30 ?_⟩
  refine And.intro (by decide) ?_
  refine ⟨by decide, by decide, by decide, by decide, 1105, rfl, fun b0 f1 => ?_⟩
  have g1_a := iv_gn (t := 1105) (n := 40) f1 ha (by decide)
  have n1_a := iv_ne f1 ha (by decide)
  refine And.intro (List.cons_ne_nil _ _) ⟨1006, 0, g1_a, rfl, by decide, ?_⟩
  refine ⟨by decide, by decide, by decide, by decide, 1100, rfl, fun b1 f2 => ?_⟩
  have g2_a := iv_gn (t := 1100) (n := 40) f2 g1_a (by decide)
  have n2_a := iv_ne f2 g1_a (by decide)
  have g2_b0 := iv_gn (t := 1100) (n := 40) f2 (iv_gs) (by decide)
  have n2_b0 := iv_ne f2 (iv_gs) (by decide)
  refine And.intro (List.cons_ne_nil _ _) ⟨1006, 0, g2_a, rfl, by decide, ?_⟩
  refine ⟨by decide, by decide, by decide, by decide, 1100, rfl, fun b2 f3 => ?_⟩
  have g3_a := iv_gn (t := 1100) (n := 40) f3 g2_a (by decide)
  have n3_a := iv_ne f3 g2_a (by decide)
  have g3_b0 := iv_gn (t := 1100) (n := 40) f3 g2_b0 (by decide)
  have n3_b0 := iv_ne f3 g2_b0 (by decide)
  have g3_b1 := iv_gn (t := 1100) (n := 40) f3 (iv_gs) (by decide)
  have n3_b1 := iv_ne f3 (iv_gs) (by decide)
  refine And.intro (List.cons_ne_nil _ _) ⟨1006, 0, g3_a, rfl, by decide, ?_⟩
  refine ⟨by decide, by decide, by decide, by decide, 1102, rfl, fun b3 f4 => ?_⟩
  have g4_a := iv_gn (t := 1102) (n := 40) f4 g3_a (by decide)
  have n4_a := iv_ne f4 g3_a (by decide)
  have g4_b0 := iv_gn (t := 1102) (n := 40) f4 g3_b0 (by decide)
  have n4_b0 := iv_ne f4 g3_b0 (by decide)
  have g4_b1 := iv_gn (t := 1102) (n := 40) f4 g3_b1 (by decide)
  have n4_b1 := iv_ne f4 g3_b1 (by decide)
  have g4_b2 := iv_gn (t := 1102) (n := 40) f4 (iv_gs) (by decide)
  have n4_b2 := iv_ne f4 (iv_gs) (by decide)
  refine And.intro (List.cons_ne_nil _ _) ⟨1006, 0, g4_a, rfl, by decide, ?_⟩
  refine And.intro (List.cons_ne_nil _ _) ⟨1006, 0, g4_a, rfl, by decide, (fun q => by cases q), ?_⟩
  refine And.intro (List.cons_ne_nil _ _) ⟨1006, 0, g4_a, rfl, by decide, (fun q => by cases q), ?_⟩
  refine And.intro rfl (h _ _ b0 b1 b2 b3 ?_ g4_a ?_ ?_)
  · refine iv_ext.trans ?_ (iv_ext.p0 rfl)
    refine iv_ext.trans ?_ (iv_ext.p0 rfl)
    refine iv_ext.trans ?_ (iv_ext.p2 rfl)
    refine iv_ext.trans ?_ (iv_ext.g f4)
    refine iv_ext.trans ?_ (iv_ext.p2 rfl)
    refine iv_ext.trans ?_ (iv_ext.g f3)
    refine iv_ext.trans ?_ (iv_ext.p2 rfl)
    refine iv_ext.trans ?_ (iv_ext.g f2)
    refine iv_ext.trans ?_ (iv_ext.p2 rfl)
    exact iv_ext.g f1
  · exact ⟨⟨by simp [mj_p0, mj_p1, mj_p2, mj_h1, mj_z, mj_zz, n1_a, n1_a.symm, n2_a, n2_a.symm, n2_b0, n2_b0.symm, n3_a, n3_a.symm, n3_b0, n3_b0.symm, n3_b1, n3_b1.symm, n4_a, n4_a.symm, n4_b0, n4_b0.symm, n4_b1, n4_b1.symm, n4_b2, n4_b2.symm], g4_b0⟩, ⟨by simp [mj_p0, mj_p1, mj_p2, mj_h1, mj_z, mj_zz, n1_a, n1_a.symm, n2_a, n2_a.symm, n2_b0, n2_b0.symm, n3_a, n3_a.symm, n3_b0, n3_b0.symm, n3_b1, n3_b1.symm, n4_a, n4_a.symm, n4_b0, n4_b0.symm, n4_b1, n4_b1.symm, n4_b2, n4_b2.symm], g4_b1⟩, ⟨by simp [mj_p0, mj_p1, mj_p2, mj_h1, mj_z, mj_zz, n1_a, n1_a.symm, n2_a, n2_a.symm, n2_b0, n2_b0.symm, n3_a, n3_a.symm, n3_b0, n3_b0.symm, n3_b1, n3_b1.symm, n4_a, n4_a.symm, n4_b0, n4_b0.symm, n4_b1, n4_b1.symm, n4_b2, n4_b2.symm], g4_b2⟩, ⟨by simp [mj_p0, mj_p1, mj_p2, mj_h1, mj_z, mj_zz, n1_a, n1_a.symm, n2_a, n2_a.symm, n2_b0, n2_b0.symm, n3_a, n3_a.symm, n3_b0, n3_b0.symm, n3_b1, n3_b1.symm, n4_a, n4_a.symm, n4_b0, n4_b0.symm, n4_b1, n4_b1.symm, n4_b2, n4_b2.symm], (iv_gs)⟩⟩
  · refine ⟨?_, ?_⟩ <;> simp [mj_p0, mj_p1, mj_p2, mj_h1, mj_z, mj_zz, n1_a, n1_a.symm, n2_a, n2_a.symm, n2_b0, n2_b0.symm, n3_a, n3_a.symm, n3_b0, n3_b0.symm, n3_b1, n3_b1.symm, n4_a, n4_a.symm, n4_b0, n4_b0.symm, n4_b1, n4_b1.symm, n4_b2, n4_b2.symm]
