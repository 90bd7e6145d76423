/-! ===== makers that call no maker, laid by a program ===== -/
set_option maxRecDepth 100000 in
set_option maxHeartbeats 4000000 in
theorem r_undo_init {d a : Nat} {G : mj_G} {M : mj_M} {Q : mj_P} (ha : G a = (1009, 0))
    (h : ∀ G' M' b0 b1 b2, iv_ext (fun x => x = a) G M G' M' → G' a = (1009, 0) → ((M'.2.2 a 0 = some b0 ∧ G' b0 = (8100, 8)) ∧ (M'.2.2 a 1 = some b1 ∧ G' b1 = (9100, 8)) ∧ (M'.2.2 a 2 = some b2 ∧ G' b2 = (1100, 8))) → (M'.1 a 3 = 0) → Q none G' M') : mj_R mj_tab (d + 1) n_X8_init [.inr (.inr (some a))] G M Q := by
  refine ⟨Nat.le_refl 1, mj_W.run (mj_R_mo _ _) 23 ?_⟩
  refine And.intro (by decide) ?_
  refine ⟨by decide, by decide, by decide, by decide, 8100, rfl, fun b0 f1 => ?_⟩
  have g1_a := iv_gn (t := 8100) (n := 8) f1 ha (by decide)
  have n1_a := iv_ne f1 ha (by decide)
  refine And.intro (List.cons_ne_nil _ _) ⟨1009, 0, g1_a, rfl, by decide, ?_⟩
  refine ⟨by decide, by decide, by decide, by decide, 9100, rfl, fun b1 f2 => ?_⟩
  have g2_a := iv_gn (t := 9100) (n := 8) f2 g1_a (by decide)
  have n2_a := iv_ne f2 g1_a (by decide)
  have g2_b0 := iv_gn (t := 9100) (n := 8) f2 (iv_gs) (by decide)
  have n2_b0 := iv_ne f2 (iv_gs) (by decide)
  refine And.intro (List.cons_ne_nil _ _) ⟨1009, 0, g2_a, rfl, by decide, ?_⟩
  refine ⟨by decide, by decide, by decide, by decide, 1100, rfl, fun b2 f3 => ?_⟩
  have g3_a := iv_gn (t := 1100) (n := 8) f3 g2_a (by decide)
  have n3_a := iv_ne f3 g2_a (by decide)
  have g3_b0 := iv_gn (t := 1100) (n := 8) f3 g2_b0 (by decide)
  have n3_b0 := iv_ne f3 g2_b0 (by decide)
  have g3_b1 := iv_gn (t := 1100) (n := 8) f3 (iv_gs) (by decide)
  have n3_b1 := iv_ne f3 (iv_gs) (by decide)
  refine And.intro (List.cons_ne_nil _ _) ⟨1009, 0, g3_a, rfl, by decide, ?_⟩
  refine And.intro (List.cons_ne_nil _ _) ⟨1009, 0, g3_a, rfl, by decide, (fun q => by cases q), ?_⟩
  refine And.intro rfl (h _ _ b0 b1 b2 ?_ g3_a ?_ ?_)
  · refine iv_ext.trans ?_ (iv_ext.p0 rfl)
    refine iv_ext.trans ?_ (iv_ext.p2 rfl)
    refine iv_ext.trans ?_ (iv_ext.g f3)
    refine iv_ext.trans ?_ (iv_ext.p2 rfl)
    refine iv_ext.trans ?_ (iv_ext.g f2)
    refine iv_ext.trans ?_ (iv_ext.p2 rfl)
    exact iv_ext.g f1
  · exact ⟨⟨by simp [mj_p0, mj_p1, mj_p2, mj_h1, mj_z, mj_zz, n1_a, n1_a.symm, n2_a, n2_a.symm, n2_b0, n2_b0.symm, n3_a, n3_a.symm, n3_b0, n3_b0.symm, n3_b1, n3_b1.symm], g3_b0⟩, ⟨by simp [mj_p0, mj_p1, mj_p2, mj_h1, mj_z, mj_zz, n1_a, n1_a.symm, n2_a, n2_a.symm, n2_b0, n2_b0.symm, n3_a, n3_a.symm, n3_b0, n3_b0.symm, n3_b1, n3_b1.symm], g3_b1⟩, ⟨by simp [mj_p0, mj_p1, mj_p2, mj_h1, mj_z, mj_zz, n1_a, n1_a.symm, n2_a, n2_a.symm, n2_b0, n2_b0.symm, n3_a, n3_a.symm, n3_b0, n3_b0.symm, n3_b1, n3_b1.symm], (iv_gs)⟩⟩
  · simp [mj_p0, mj_p1, mj_p2, mj_h1, mj_z, mj_zz, n1_a, n1_a.symm, n2_a, n2_a.symm, n2_b0, n2_b0.symm, n3_a, n3_a.symm, n3_b0, n3_b0.symm, n3_b1, n3_b1.symm]
set_option maxRecDepth 100000 in
set_option maxHeartbeats 4000000 in
theorem r_rounds_init {d a : Nat} {G : mj_G} {M : mj_M} {Q : mj_P} (ha : G a = (1005, 0))
    (h : ∀ G' M' b1 b2 b3, iv_ext (fun x => x = a) G M G' M' → G' a = (1005, 0) → ((M'.2.2 a 1 = some b1 ∧ G' b1 = (10100, 8)) ∧ (M'.2.2 a 2 = some b2 ∧ G' b2 = (1100, 12)) ∧ (M'.2.2 a 3 = some b3 ∧ G' b3 = (6100, 12))) → (M'.1 a 0 = 0) → Q none G' M') : mj_R mj_tab (d + 1) n_X4_init [.inr (.inr (some a))] G M Q := by
  refine ⟨Nat.le_refl 1, mj_W.run (mj_R_mo _ _) 23 ?_⟩
  refine And.intro (by decide) ?_
  refine And.intro (List.cons_ne_nil _ _) ⟨1005, 0, ha, rfl, by decide, (fun _ => Or.inl rfl), ?_⟩
  refine ⟨by decide, by decide, by decide, by decide, 10100, rfl, fun b1 f1 => ?_⟩
  have g1_a := iv_gn (t := 10100) (n := 8) f1 ha (by decide)
  have n1_a := iv_ne f1 ha (by decide)
  refine And.intro (List.cons_ne_nil _ _) ⟨1005, 0, g1_a, rfl, by decide, ?_⟩
  refine ⟨by decide, by decide, by decide, by decide, 1100, rfl, fun b2 f2 => ?_⟩
  have g2_a := iv_gn (t := 1100) (n := 12) f2 g1_a (by decide)
  have n2_a := iv_ne f2 g1_a (by decide)
  have g2_b1 := iv_gn (t := 1100) (n := 12) f2 (iv_gs) (by decide)
  have n2_b1 := iv_ne f2 (iv_gs) (by decide)
  refine And.intro (List.cons_ne_nil _ _) ⟨1005, 0, g2_a, rfl, by decide, ?_⟩
  refine ⟨by decide, by decide, by decide, by decide, 6100, rfl, fun b3 f3 => ?_⟩
  have g3_a := iv_gn (t := 6100) (n := 12) f3 g2_a (by decide)
  have n3_a := iv_ne f3 g2_a (by decide)
  have g3_b1 := iv_gn (t := 6100) (n := 12) f3 g2_b1 (by decide)
  have n3_b1 := iv_ne f3 g2_b1 (by decide)
  have g3_b2 := iv_gn (t := 6100) (n := 12) f3 (iv_gs) (by decide)
  have n3_b2 := iv_ne f3 (iv_gs) (by decide)
  refine And.intro (List.cons_ne_nil _ _) ⟨1005, 0, g3_a, rfl, by decide, ?_⟩
  refine And.intro rfl (h _ _ b1 b2 b3 ?_ g3_a ?_ ?_)
  · refine iv_ext.trans ?_ (iv_ext.p2 rfl)
    refine iv_ext.trans ?_ (iv_ext.g f3)
    refine iv_ext.trans ?_ (iv_ext.p2 rfl)
    refine iv_ext.trans ?_ (iv_ext.g f2)
    refine iv_ext.trans ?_ (iv_ext.p2 rfl)
    refine iv_ext.trans ?_ (iv_ext.g f1)
    exact iv_ext.p0 rfl
  · exact ⟨⟨by simp [mj_p0, mj_p1, mj_p2, mj_h1, mj_z, mj_zz, n1_a, n1_a.symm, n2_a, n2_a.symm, n2_b1, n2_b1.symm, n3_a, n3_a.symm, n3_b1, n3_b1.symm, n3_b2, n3_b2.symm], g3_b1⟩, ⟨by simp [mj_p0, mj_p1, mj_p2, mj_h1, mj_z, mj_zz, n1_a, n1_a.symm, n2_a, n2_a.symm, n2_b1, n2_b1.symm, n3_a, n3_a.symm, n3_b1, n3_b1.symm, n3_b2, n3_b2.symm], g3_b2⟩, ⟨by simp [mj_p0, mj_p1, mj_p2, mj_h1, mj_z, mj_zz, n1_a, n1_a.symm, n2_a, n2_a.symm, n2_b1, n2_b1.symm, n3_a, n3_a.symm, n3_b1, n3_b1.symm, n3_b2, n3_b2.symm], (iv_gs)⟩⟩
  · simp [mj_p0, mj_p1, mj_p2, mj_h1, mj_z, mj_zz, n1_a, n1_a.symm, n2_a, n2_a.symm, n2_b1, n2_b1.symm, n3_a, n3_a.symm, n3_b1, n3_b1.symm, n3_b2, n3_b2.symm]
set_option maxRecDepth 100000 in
set_option maxHeartbeats 4000000 in
theorem r_sent_init {d a : Nat} {G : mj_G} {M : mj_M} {Q : mj_P} (ha : G a = (1006, 0))
    (h : ∀ G' M' b0 b1 b2 b3, iv_ext (fun x => x = a) G M G' M' → G' a = (1006, 0) → ((M'.2.2 a 0 = some b0 ∧ G' b0 = (1105, 40)) ∧ (M'.2.2 a 1 = some b1 ∧ G' b1 = (1100, 40)) ∧ (M'.2.2 a 2 = some b2 ∧ G' b2 = (1100, 40)) ∧ (M'.2.2 a 3 = some b3 ∧ G' b3 = (1102, 40))) → (M'.1 a 4 = 0 ∧ M'.1 a 5 = 0) → Q none G' M') : mj_R mj_tab (d + 1) n_X5_init [.inr (.inr (some a))] G M Q := by
  refine ⟨Nat.le_refl 1, mj_W.run (mj_R_mo _ _) 30 ?_⟩
  refine And.intro (by decide) ?_
  refine ⟨by decide, by decide, by decide, by decide, 1105, rfl, fun b0 f1 => ?_⟩
  have g1_a := iv_gn (t := 1105) (n := 40) f1 ha (by decide)
  have n1_a := iv_ne f1 ha (by decide)
  refine And.intro (List.cons_ne_nil _ _) ⟨1006, 0, g1_a, rfl, by decide, ?_⟩
  refine ⟨by decide, by decide, by decide, by decide, 1100, rfl, fun b1 f2 => ?_⟩
  have g2_a := iv_gn (t := 1100) (n := 40) f2 g1_a (by decide)
  have n2_a := iv_ne f2 g1_a (by decide)
  have g2_b0 := iv_gn (t := 1100) (n := 40) f2 (iv_gs) (by decide)
  have n2_b0 := iv_ne f2 (iv_gs) (by decide)
  refine And.intro (List.cons_ne_nil _ _) ⟨1006, 0, g2_a, rfl, by decide, ?_⟩
  refine ⟨by decide, by decide, by decide, by decide, 1100, rfl, fun b2 f3 => ?_⟩
  have g3_a := iv_gn (t := 1100) (n := 40) f3 g2_a (by decide)
  have n3_a := iv_ne f3 g2_a (by decide)
  have g3_b0 := iv_gn (t := 1100) (n := 40) f3 g2_b0 (by decide)
  have n3_b0 := iv_ne f3 g2_b0 (by decide)
  have g3_b1 := iv_gn (t := 1100) (n := 40) f3 (iv_gs) (by decide)
  have n3_b1 := iv_ne f3 (iv_gs) (by decide)
  refine And.intro (List.cons_ne_nil _ _) ⟨1006, 0, g3_a, rfl, by decide, ?_⟩
  refine ⟨by decide, by decide, by decide, by decide, 1102, rfl, fun b3 f4 => ?_⟩
  have g4_a := iv_gn (t := 1102) (n := 40) f4 g3_a (by decide)
  have n4_a := iv_ne f4 g3_a (by decide)
  have g4_b0 := iv_gn (t := 1102) (n := 40) f4 g3_b0 (by decide)
  have n4_b0 := iv_ne f4 g3_b0 (by decide)
  have g4_b1 := iv_gn (t := 1102) (n := 40) f4 g3_b1 (by decide)
  have n4_b1 := iv_ne f4 g3_b1 (by decide)
  have g4_b2 := iv_gn (t := 1102) (n := 40) f4 (iv_gs) (by decide)
  have n4_b2 := iv_ne f4 (iv_gs) (by decide)
  refine And.intro (List.cons_ne_nil _ _) ⟨1006, 0, g4_a, rfl, by decide, ?_⟩
  refine And.intro (List.cons_ne_nil _ _) ⟨1006, 0, g4_a, rfl, by decide, (fun q => by cases q), ?_⟩
  refine And.intro (List.cons_ne_nil _ _) ⟨1006, 0, g4_a, rfl, by decide, (fun q => by cases q), ?_⟩
  refine And.intro rfl (h _ _ b0 b1 b2 b3 ?_ g4_a ?_ ?_)
  · refine iv_ext.trans ?_ (iv_ext.p0 rfl)
    refine iv_ext.trans ?_ (iv_ext.p0 rfl)
    refine iv_ext.trans ?_ (iv_ext.p2 rfl)
    refine iv_ext.trans ?_ (iv_ext.g f4)
    refine iv_ext.trans ?_ (iv_ext.p2 rfl)
    refine iv_ext.trans ?_ (iv_ext.g f3)
    refine iv_ext.trans ?_ (iv_ext.p2 rfl)
    refine iv_ext.trans ?_ (iv_ext.g f2)
    refine iv_ext.trans ?_ (iv_ext.p2 rfl)
    exact iv_ext.g f1
  · exact ⟨⟨by simp [mj_p0, mj_p1, mj_p2, mj_h1, mj_z, mj_zz, n1_a, n1_a.symm, n2_a, n2_a.symm, n2_b0, n2_b0.symm, n3_a, n3_a.symm, n3_b0, n3_b0.symm, n3_b1, n3_b1.symm, n4_a, n4_a.symm, n4_b0, n4_b0.symm, n4_b1, n4_b1.symm, n4_b2, n4_b2.symm], g4_b0⟩, ⟨by simp [mj_p0, mj_p1, mj_p2, mj_h1, mj_z, mj_zz, n1_a, n1_a.symm, n2_a, n2_a.symm, n2_b0, n2_b0.symm, n3_a, n3_a.symm, n3_b0, n3_b0.symm, n3_b1, n3_b1.symm, n4_a, n4_a.symm, n4_b0, n4_b0.symm, n4_b1, n4_b1.symm, n4_b2, n4_b2.symm], g4_b1⟩, ⟨by simp [mj_p0, mj_p1, mj_p2, mj_h1, mj_z, mj_zz, n1_a, n1_a.symm, n2_a, n2_a.symm, n2_b0, n2_b0.symm, n3_a, n3_a.symm, n3_b0, n3_b0.symm, n3_b1, n3_b1.symm, n4_a, n4_a.symm, n4_b0, n4_b0.symm, n4_b1, n4_b1.symm, n4_b2, n4_b2.symm], g4_b2⟩, ⟨by simp [mj_p0, mj_p1, mj_p2, mj_h1, mj_z, mj_zz, n1_a, n1_a.symm, n2_a, n2_a.symm, n2_b0, n2_b0.symm, n3_a, n3_a.symm, n3_b0, n3_b0.symm, n3_b1, n3_b1.symm, n4_a, n4_a.symm, n4_b0, n4_b0.symm, n4_b1, n4_b1.symm, n4_b2, n4_b2.symm], (iv_gs)⟩⟩
  · refine ⟨?_, ?_⟩ <;> simp [mj_p0, mj_p1, mj_p2, mj_h1, mj_z, mj_zz, n1_a, n1_a.symm, n2_a, n2_a.symm, n2_b0, n2_b0.symm, n3_a, n3_a.symm, n3_b0, n3_b0.symm, n3_b1, n3_b1.symm, n4_a, n4_a.symm, n4_b0, n4_b0.symm, n4_b1, n4_b1.symm, n4_b2, n4_b2.symm]
set_option maxRecDepth 100000 in
set_option maxHeartbeats 4000000 in
theorem r_year_init {d a : Nat} {G : mj_G} {M : mj_M} {Q : mj_P} (ha : G a = (1010, 0))
    (h : ∀ G' M' b3 b4 b5 b6, iv_ext (fun x => x = a) G M G' M' → G' a = (1010, 0) → ((M'.2.2 a 3 = some b3 ∧ G' b3 = (2100, 12)) ∧ (M'.2.2 a 4 = some b4 ∧ G' b4 = (6100, 12)) ∧ (M'.2.2 a 5 = some b5 ∧ G' b5 = (1100, 12)) ∧ (M'.2.2 a 6 = some b6 ∧ G' b6 = (7104, 8) ∧ ∀ k, k < 8 → M'.2.2 b6 k = some (b6 + 1 + k) ∧ G' (b6 + 1 + k) = (1100, 11))) → (M'.1 a 0 = 0 ∧ M'.1 a 1 = 0 ∧ M'.1 a 2 = 0 ∧ M'.1 a 7 = 8 ∧ M'.1 a 8 = 0 ∧ M'.1 a 9 = 0 ∧ M'.1 a 10 = 0 ∧ M'.1 a 11 = 0 ∧ M'.1 a 12 = 0 ∧ M'.1 a 13 = 0 ∧ M'.1 a 14 = 0) → Q none G' M') : mj_R mj_tab (d + 1) n_X10_init [.inr (.inr (some a))] G M Q := by
  refine ⟨Nat.le_refl 1, mj_W.run (mj_R_mo _ _) 58 ?_⟩
  refine And.intro (by decide) ?_
  refine And.intro (List.cons_ne_nil _ _) ⟨1010, 0, ha, rfl, by decide, (fun _ => Or.inl rfl), ?_⟩
  refine And.intro (List.cons_ne_nil _ _) ⟨1010, 0, ha, rfl, by decide, (fun q => by cases q), ?_⟩
  refine And.intro (List.cons_ne_nil _ _) ⟨1010, 0, ha, rfl, by decide, (fun q => by cases q), ?_⟩
  refine ⟨by decide, by decide, by decide, by decide, 2100, rfl, fun b3 f1 => ?_⟩
  have g1_a := iv_gn (t := 2100) (n := 12) f1 ha (by decide)
  have n1_a := iv_ne f1 ha (by decide)
  refine And.intro (List.cons_ne_nil _ _) ⟨1010, 0, g1_a, rfl, by decide, ?_⟩
  refine ⟨by decide, by decide, by decide, by decide, 6100, rfl, fun b4 f2 => ?_⟩
  have g2_a := iv_gn (t := 6100) (n := 12) f2 g1_a (by decide)
  have n2_a := iv_ne f2 g1_a (by decide)
  have g2_b3 := iv_gn (t := 6100) (n := 12) f2 (iv_gs) (by decide)
  have n2_b3 := iv_ne f2 (iv_gs) (by decide)
  refine And.intro (List.cons_ne_nil _ _) ⟨1010, 0, g2_a, rfl, by decide, ?_⟩
  refine ⟨by decide, by decide, by decide, by decide, 1100, rfl, fun b5 f3 => ?_⟩
  have g3_a := iv_gn (t := 1100) (n := 12) f3 g2_a (by decide)
  have n3_a := iv_ne f3 g2_a (by decide)
  have g3_b3 := iv_gn (t := 1100) (n := 12) f3 g2_b3 (by decide)
  have n3_b3 := iv_ne f3 g2_b3 (by decide)
  have g3_b4 := iv_gn (t := 1100) (n := 12) f3 (iv_gs) (by decide)
  have n3_b4 := iv_ne f3 (iv_gs) (by decide)
  refine And.intro (List.cons_ne_nil _ _) ⟨1010, 0, g3_a, rfl, by decide, ?_⟩
  refine ⟨by decide, by decide, by decide, by decide, by decide, by decide, 7104, 1100, rfl, rfl, fun b6 f4 => ?_⟩
  have g4_a := iv_ggn (t := 7104) (n := 8) (t2 := 1100) (m := 11) f4 g3_a (by decide)
  have q4_a := iv_nge f4 g3_a (by decide)
  have n4_a : a ≠ b6 := fun q => q4_a (by omega)
  have g4_b3 := iv_ggn (t := 7104) (n := 8) (t2 := 1100) (m := 11) f4 g3_b3 (by decide)
  have q4_b3 := iv_nge f4 g3_b3 (by decide)
  have n4_b3 : b3 ≠ b6 := fun q => q4_b3 (by omega)
  have g4_b4 := iv_ggn (t := 7104) (n := 8) (t2 := 1100) (m := 11) f4 g3_b4 (by decide)
  have q4_b4 := iv_nge f4 g3_b4 (by decide)
  have n4_b4 : b4 ≠ b6 := fun q => q4_b4 (by omega)
  have g4_b5 := iv_ggn (t := 7104) (n := 8) (t2 := 1100) (m := 11) f4 (iv_gs) (by decide)
  have q4_b5 := iv_nge f4 (iv_gs) (by decide)
  have n4_b5 : b5 ≠ b6 := fun q => q4_b5 (by omega)
  refine And.intro (List.cons_ne_nil _ _) ⟨1010, 0, g4_a, rfl, by decide, ?_⟩
  refine And.intro (List.cons_ne_nil _ _) ⟨1010, 0, g4_a, rfl, by decide, (fun q => by cases q), ?_⟩
  refine And.intro (List.cons_ne_nil _ _) ⟨1010, 0, g4_a, rfl, by decide, (fun q => by cases q), ?_⟩
  refine And.intro (List.cons_ne_nil _ _) ⟨1010, 0, g4_a, rfl, by decide, (fun q => by cases q), ?_⟩
  refine And.intro (List.cons_ne_nil _ _) ⟨1010, 0, g4_a, rfl, by decide, (fun q => by cases q), ?_⟩
  refine And.intro (List.cons_ne_nil _ _) ⟨1010, 0, g4_a, rfl, by decide, (fun q => by cases q), ?_⟩
  refine And.intro (List.cons_ne_nil _ _) ⟨1010, 0, g4_a, rfl, by decide, (fun q => by cases q), ?_⟩
  refine And.intro (List.cons_ne_nil _ _) ⟨1010, 0, g4_a, rfl, by decide, (fun q => by cases q), ?_⟩
  refine And.intro (List.cons_ne_nil _ _) ⟨1010, 0, g4_a, rfl, by decide, (fun q => by cases q), ?_⟩
  refine And.intro rfl (h _ _ b3 b4 b5 b6 ?_ g4_a ?_ ?_)
  · refine iv_ext.trans ?_ (iv_ext.p0 rfl)
    refine iv_ext.trans ?_ (iv_ext.p0 rfl)
    refine iv_ext.trans ?_ (iv_ext.p0 rfl)
    refine iv_ext.trans ?_ (iv_ext.p0 rfl)
    refine iv_ext.trans ?_ (iv_ext.p0 rfl)
    refine iv_ext.trans ?_ (iv_ext.p0 rfl)
    refine iv_ext.trans ?_ (iv_ext.p0 rfl)
    refine iv_ext.trans ?_ (iv_ext.p0 rfl)
    refine iv_ext.trans ?_ (iv_ext.p2 rfl)
    refine iv_ext.trans ?_ (iv_ext.gg f4)
    refine iv_ext.trans ?_ (iv_ext.p2 rfl)
    refine iv_ext.trans ?_ (iv_ext.g f3)
    refine iv_ext.trans ?_ (iv_ext.p2 rfl)
    refine iv_ext.trans ?_ (iv_ext.g f2)
    refine iv_ext.trans ?_ (iv_ext.p2 rfl)
    refine iv_ext.trans ?_ (iv_ext.g f1)
    refine iv_ext.trans ?_ (iv_ext.p0 rfl)
    refine iv_ext.trans ?_ (iv_ext.p0 rfl)
    exact iv_ext.p0 rfl
  · exact ⟨⟨by simp [mj_p0, mj_p1, mj_p2, mj_h1, mj_z, mj_zz, n1_a, n1_a.symm, n2_a, n2_a.symm, n2_b3, n2_b3.symm, n3_a, n3_a.symm, n3_b3, n3_b3.symm, n3_b4, n3_b4.symm, q4_a, n4_a, n4_a.symm, q4_b3, n4_b3, n4_b3.symm, q4_b4, n4_b4, n4_b4.symm, q4_b5, n4_b5, n4_b5.symm], g4_b3⟩, ⟨by simp [mj_p0, mj_p1, mj_p2, mj_h1, mj_z, mj_zz, n1_a, n1_a.symm, n2_a, n2_a.symm, n2_b3, n2_b3.symm, n3_a, n3_a.symm, n3_b3, n3_b3.symm, n3_b4, n3_b4.symm, q4_a, n4_a, n4_a.symm, q4_b3, n4_b3, n4_b3.symm, q4_b4, n4_b4, n4_b4.symm, q4_b5, n4_b5, n4_b5.symm], g4_b4⟩, ⟨by simp [mj_p0, mj_p1, mj_p2, mj_h1, mj_z, mj_zz, n1_a, n1_a.symm, n2_a, n2_a.symm, n2_b3, n2_b3.symm, n3_a, n3_a.symm, n3_b3, n3_b3.symm, n3_b4, n3_b4.symm, q4_a, n4_a, n4_a.symm, q4_b3, n4_b3, n4_b3.symm, q4_b4, n4_b4, n4_b4.symm, q4_b5, n4_b5, n4_b5.symm], g4_b5⟩, ⟨by simp [mj_p0, mj_p1, mj_p2, mj_h1, mj_z, mj_zz, n1_a, n1_a.symm, n2_a, n2_a.symm, n2_b3, n2_b3.symm, n3_a, n3_a.symm, n3_b3, n3_b3.symm, n3_b4, n3_b4.symm, q4_a, n4_a, n4_a.symm, q4_b3, n4_b3, n4_b3.symm, q4_b4, n4_b4, n4_b4.symm, q4_b5, n4_b5, n4_b5.symm], (iv_ggs), fun k hk => ⟨by simp [mj_p0, mj_p1, mj_p2, mj_h1, mj_z, mj_zz, n1_a, n1_a.symm, n2_a, n2_a.symm, n2_b3, n2_b3.symm, n3_a, n3_a.symm, n3_b3, n3_b3.symm, n3_b4, n3_b4.symm, q4_a, n4_a, n4_a.symm, q4_b3, n4_b3, n4_b3.symm, q4_b4, n4_b4, n4_b4.symm, q4_b5, n4_b5, n4_b5.symm, hk], iv_ggr hk⟩⟩⟩
  · refine ⟨?_, ?_, ?_, ?_, ?_, ?_, ?_, ?_, ?_, ?_, ?_⟩ <;> simp [mj_p0, mj_p1, mj_p2, mj_h1, mj_z, mj_zz, n1_a, n1_a.symm, n2_a, n2_a.symm, n2_b3, n2_b3.symm, n3_a, n3_a.symm, n3_b3, n3_b3.symm, n3_b4, n3_b4.symm, q4_a, n4_a, n4_a.symm, q4_b3, n4_b3, n4_b3.symm, q4_b4, n4_b4, n4_b4.symm, q4_b5, n4_b5, n4_b5.symm]
set_option maxRecDepth 100000 in
set_option maxHeartbeats 4000000 in
theorem r_plain_init {d a : Nat} {G : mj_G} {M : mj_M} {Q : mj_P} (ha : G a = (1004, 0))
    (h : ∀ G' M' b0 b1 b2 b3 b10, iv_ext (fun x => x = a) G M G' M' → G' a = (1004, 0) → ((M'.2.2 a 0 = some b0 ∧ G' b0 = (1103, 8)) ∧ (M'.2.2 a 1 = some b1 ∧ G' b1 = (2104, 8) ∧ ∀ k, k < 8 → M'.2.2 b1 k = some (b1 + 1 + k) ∧ G' (b1 + 1 + k) = (1100, 9)) ∧ (M'.2.2 a 2 = some b2 ∧ G' b2 = (1104, 8) ∧ ∀ k, k < 8 → M'.2.2 b2 k = some (b2 + 1 + k) ∧ G' (b2 + 1 + k) = (1100, 12)) ∧ (M'.2.2 a 3 = some b3 ∧ G' b3 = (1100, 12)) ∧ (M'.2.2 a 10 = some b10 ∧ G' b10 = (1100, 8))) → (M'.1 a 4 = 0 ∧ M'.1 a 5 = 0 ∧ M'.1 a 6 = 0 ∧ M'.1 a 7 = 0 ∧ M'.1 a 8 = 3 ∧ M'.1 a 9 = 0 ∧ M'.1 a 11 = 0 ∧ M'.1 a 12 = 0 ∧ M'.1 a 13 = 0 ∧ M'.1 a 14 = 0) → Q none G' M') : mj_R mj_tab (d + 1) n_X3_init [.inr (.inr (some a))] G M Q := by
  refine ⟨Nat.le_refl 1, mj_W.run (mj_R_mo _ _) 60 ?_⟩
  refine And.intro (by decide) ?_
  refine ⟨by decide, by decide, by decide, by decide, 1103, rfl, fun b0 f1 => ?_⟩
  have g1_a := iv_gn (t := 1103) (n := 8) f1 ha (by decide)
  have n1_a := iv_ne f1 ha (by decide)
  refine And.intro (List.cons_ne_nil _ _) ⟨1004, 0, g1_a, rfl, by decide, ?_⟩
  refine ⟨by decide, by decide, by decide, by decide, by decide, by decide, 2104, 1100, rfl, rfl, fun b1 f2 => ?_⟩
  have g2_a := iv_ggn (t := 2104) (n := 8) (t2 := 1100) (m := 9) f2 g1_a (by decide)
  have q2_a := iv_nge f2 g1_a (by decide)
  have n2_a : a ≠ b1 := fun q => q2_a (by omega)
  have g2_b0 := iv_ggn (t := 2104) (n := 8) (t2 := 1100) (m := 9) f2 (iv_gs) (by decide)
  have q2_b0 := iv_nge f2 (iv_gs) (by decide)
  have n2_b0 : b0 ≠ b1 := fun q => q2_b0 (by omega)
  refine And.intro (List.cons_ne_nil _ _) ⟨1004, 0, g2_a, rfl, by decide, ?_⟩
  refine ⟨by decide, by decide, by decide, by decide, by decide, by decide, 1104, 1100, rfl, rfl, fun b2 f3 => ?_⟩
  have g3_a := iv_ggn (t := 1104) (n := 8) (t2 := 1100) (m := 12) f3 g2_a (by decide)
  have q3_a := iv_nge f3 g2_a (by decide)
  have n3_a : a ≠ b2 := fun q => q3_a (by omega)
  have g3_b0 := iv_ggn (t := 1104) (n := 8) (t2 := 1100) (m := 12) f3 g2_b0 (by decide)
  have q3_b0 := iv_nge f3 g2_b0 (by decide)
  have n3_b0 : b0 ≠ b2 := fun q => q3_b0 (by omega)
  have g3_b1 := iv_ggn (t := 1104) (n := 8) (t2 := 1100) (m := 12) f3 (iv_ggs) (by decide)
  have q3_b1 := iv_nge f3 (iv_ggs) (by decide)
  have n3_b1 : b1 ≠ b2 := fun q => q3_b1 (by omega)
  refine And.intro (List.cons_ne_nil _ _) ⟨1004, 0, g3_a, rfl, by decide, ?_⟩
  refine ⟨by decide, by decide, by decide, by decide, 1100, rfl, fun b3 f4 => ?_⟩
  have g4_a := iv_gn (t := 1100) (n := 12) f4 g3_a (by decide)
  have n4_a := iv_ne f4 g3_a (by decide)
  have g4_b0 := iv_gn (t := 1100) (n := 12) f4 g3_b0 (by decide)
  have n4_b0 := iv_ne f4 g3_b0 (by decide)
  have g4_b1 := iv_gn (t := 1100) (n := 12) f4 g3_b1 (by decide)
  have n4_b1 := iv_ne f4 g3_b1 (by decide)
  have g4_b2 := iv_gn (t := 1100) (n := 12) f4 (iv_ggs) (by decide)
  have n4_b2 := iv_ne f4 (iv_ggs) (by decide)
  refine And.intro (List.cons_ne_nil _ _) ⟨1004, 0, g4_a, rfl, by decide, ?_⟩
  refine And.intro (List.cons_ne_nil _ _) ⟨1004, 0, g4_a, rfl, by decide, (fun q => by cases q), ?_⟩
  refine And.intro (List.cons_ne_nil _ _) ⟨1004, 0, g4_a, rfl, by decide, (fun q => by cases q), ?_⟩
  refine And.intro (List.cons_ne_nil _ _) ⟨1004, 0, g4_a, rfl, by decide, (fun q => by cases q), ?_⟩
  refine And.intro (List.cons_ne_nil _ _) ⟨1004, 0, g4_a, rfl, by decide, (fun q => by cases q), ?_⟩
  refine And.intro (List.cons_ne_nil _ _) ⟨1004, 0, g4_a, rfl, by decide, (fun q => by cases q), ?_⟩
  refine And.intro (List.cons_ne_nil _ _) ⟨1004, 0, g4_a, rfl, by decide, (fun q => by cases q), ?_⟩
  refine ⟨by decide, by decide, by decide, by decide, 1100, rfl, fun b10 f5 => ?_⟩
  have g5_a := iv_gn (t := 1100) (n := 8) f5 g4_a (by decide)
  have n5_a := iv_ne f5 g4_a (by decide)
  have g5_b0 := iv_gn (t := 1100) (n := 8) f5 g4_b0 (by decide)
  have n5_b0 := iv_ne f5 g4_b0 (by decide)
  have g5_b1 := iv_gn (t := 1100) (n := 8) f5 g4_b1 (by decide)
  have n5_b1 := iv_ne f5 g4_b1 (by decide)
  have g5_b2 := iv_gn (t := 1100) (n := 8) f5 g4_b2 (by decide)
  have n5_b2 := iv_ne f5 g4_b2 (by decide)
  have g5_b3 := iv_gn (t := 1100) (n := 8) f5 (iv_gs) (by decide)
  have n5_b3 := iv_ne f5 (iv_gs) (by decide)
  refine And.intro (List.cons_ne_nil _ _) ⟨1004, 0, g5_a, rfl, by decide, ?_⟩
  refine And.intro (List.cons_ne_nil _ _) ⟨1004, 0, g5_a, rfl, by decide, (fun q => by cases q), ?_⟩
  refine And.intro (List.cons_ne_nil _ _) ⟨1004, 0, g5_a, rfl, by decide, (fun _ => Or.inl rfl), ?_⟩
  refine And.intro (List.cons_ne_nil _ _) ⟨1004, 0, g5_a, rfl, by decide, (fun _ => Or.inl rfl), ?_⟩
  refine And.intro (List.cons_ne_nil _ _) ⟨1004, 0, g5_a, rfl, by decide, (fun _ => Or.inl rfl), ?_⟩
  refine And.intro rfl (h _ _ b0 b1 b2 b3 b10 ?_ g5_a ?_ ?_)
  · refine iv_ext.trans ?_ (iv_ext.p0 rfl)
    refine iv_ext.trans ?_ (iv_ext.p0 rfl)
    refine iv_ext.trans ?_ (iv_ext.p0 rfl)
    refine iv_ext.trans ?_ (iv_ext.p0 rfl)
    refine iv_ext.trans ?_ (iv_ext.p2 rfl)
    refine iv_ext.trans ?_ (iv_ext.g f5)
    refine iv_ext.trans ?_ (iv_ext.p0 rfl)
    refine iv_ext.trans ?_ (iv_ext.p0 rfl)
    refine iv_ext.trans ?_ (iv_ext.p0 rfl)
    refine iv_ext.trans ?_ (iv_ext.p0 rfl)
    refine iv_ext.trans ?_ (iv_ext.p0 rfl)
    refine iv_ext.trans ?_ (iv_ext.p0 rfl)
    refine iv_ext.trans ?_ (iv_ext.p2 rfl)
    refine iv_ext.trans ?_ (iv_ext.g f4)
    refine iv_ext.trans ?_ (iv_ext.p2 rfl)
    refine iv_ext.trans ?_ (iv_ext.gg f3)
    refine iv_ext.trans ?_ (iv_ext.p2 rfl)
    refine iv_ext.trans ?_ (iv_ext.gg f2)
    refine iv_ext.trans ?_ (iv_ext.p2 rfl)
    exact iv_ext.g f1
  · exact ⟨⟨by simp [mj_p0, mj_p1, mj_p2, mj_h1, mj_z, mj_zz, n1_a, n1_a.symm, q2_a, n2_a, n2_a.symm, q2_b0, n2_b0, n2_b0.symm, q3_a, n3_a, n3_a.symm, q3_b0, n3_b0, n3_b0.symm, q3_b1, n3_b1, n3_b1.symm, n4_a, n4_a.symm, n4_b0, n4_b0.symm, n4_b1, n4_b1.symm, n4_b2, n4_b2.symm, n5_a, n5_a.symm, n5_b0, n5_b0.symm, n5_b1, n5_b1.symm, n5_b2, n5_b2.symm, n5_b3, n5_b3.symm], g5_b0⟩, ⟨by simp [mj_p0, mj_p1, mj_p2, mj_h1, mj_z, mj_zz, n1_a, n1_a.symm, q2_a, n2_a, n2_a.symm, q2_b0, n2_b0, n2_b0.symm, q3_a, n3_a, n3_a.symm, q3_b0, n3_b0, n3_b0.symm, q3_b1, n3_b1, n3_b1.symm, n4_a, n4_a.symm, n4_b0, n4_b0.symm, n4_b1, n4_b1.symm, n4_b2, n4_b2.symm, n5_a, n5_a.symm, n5_b0, n5_b0.symm, n5_b1, n5_b1.symm, n5_b2, n5_b2.symm, n5_b3, n5_b3.symm], g5_b1, fun k hk => ⟨by simp [mj_p0, mj_p1, mj_p2, mj_h1, mj_z, mj_zz, n1_a, n1_a.symm, q2_a, n2_a, n2_a.symm, q2_b0, n2_b0, n2_b0.symm, q3_a, n3_a, n3_a.symm, q3_b0, n3_b0, n3_b0.symm, q3_b1, n3_b1, n3_b1.symm, n4_a, n4_a.symm, n4_b0, n4_b0.symm, n4_b1, n4_b1.symm, n4_b2, n4_b2.symm, n5_a, n5_a.symm, n5_b0, n5_b0.symm, n5_b1, n5_b1.symm, n5_b2, n5_b2.symm, n5_b3, n5_b3.symm, hk], iv_gn f5 (iv_gn f4 (iv_ggn f3 (iv_ggr hk) (by decide)) (by decide)) (by decide)⟩⟩, ⟨by simp [mj_p0, mj_p1, mj_p2, mj_h1, mj_z, mj_zz, n1_a, n1_a.symm, q2_a, n2_a, n2_a.symm, q2_b0, n2_b0, n2_b0.symm, q3_a, n3_a, n3_a.symm, q3_b0, n3_b0, n3_b0.symm, q3_b1, n3_b1, n3_b1.symm, n4_a, n4_a.symm, n4_b0, n4_b0.symm, n4_b1, n4_b1.symm, n4_b2, n4_b2.symm, n5_a, n5_a.symm, n5_b0, n5_b0.symm, n5_b1, n5_b1.symm, n5_b2, n5_b2.symm, n5_b3, n5_b3.symm], g5_b2, fun k hk => ⟨by simp [mj_p0, mj_p1, mj_p2, mj_h1, mj_z, mj_zz, n1_a, n1_a.symm, q2_a, n2_a, n2_a.symm, q2_b0, n2_b0, n2_b0.symm, q3_a, n3_a, n3_a.symm, q3_b0, n3_b0, n3_b0.symm, q3_b1, n3_b1, n3_b1.symm, n4_a, n4_a.symm, n4_b0, n4_b0.symm, n4_b1, n4_b1.symm, n4_b2, n4_b2.symm, n5_a, n5_a.symm, n5_b0, n5_b0.symm, n5_b1, n5_b1.symm, n5_b2, n5_b2.symm, n5_b3, n5_b3.symm, hk], iv_gn f5 (iv_gn f4 (iv_ggr hk) (by decide)) (by decide)⟩⟩, ⟨by simp [mj_p0, mj_p1, mj_p2, mj_h1, mj_z, mj_zz, n1_a, n1_a.symm, q2_a, n2_a, n2_a.symm, q2_b0, n2_b0, n2_b0.symm, q3_a, n3_a, n3_a.symm, q3_b0, n3_b0, n3_b0.symm, q3_b1, n3_b1, n3_b1.symm, n4_a, n4_a.symm, n4_b0, n4_b0.symm, n4_b1, n4_b1.symm, n4_b2, n4_b2.symm, n5_a, n5_a.symm, n5_b0, n5_b0.symm, n5_b1, n5_b1.symm, n5_b2, n5_b2.symm, n5_b3, n5_b3.symm], g5_b3⟩, ⟨by simp [mj_p0, mj_p1, mj_p2, mj_h1, mj_z, mj_zz, n1_a, n1_a.symm, q2_a, n2_a, n2_a.symm, q2_b0, n2_b0, n2_b0.symm, q3_a, n3_a, n3_a.symm, q3_b0, n3_b0, n3_b0.symm, q3_b1, n3_b1, n3_b1.symm, n4_a, n4_a.symm, n4_b0, n4_b0.symm, n4_b1, n4_b1.symm, n4_b2, n4_b2.symm, n5_a, n5_a.symm, n5_b0, n5_b0.symm, n5_b1, n5_b1.symm, n5_b2, n5_b2.symm, n5_b3, n5_b3.symm], (iv_gs)⟩⟩
  · refine ⟨?_, ?_, ?_, ?_, ?_, ?_, ?_, ?_, ?_, ?_⟩ <;> simp [mj_p0, mj_p1, mj_p2, mj_h1, mj_z, mj_zz, n1_a, n1_a.symm, q2_a, n2_a, n2_a.symm, q2_b0, n2_b0, n2_b0.symm, q3_a, n3_a, n3_a.symm, q3_b0, n3_b0, n3_b0.symm, q3_b1, n3_b1, n3_b1.symm, n4_a, n4_a.symm, n4_b0, n4_b0.symm, n4_b1, n4_b1.symm, n4_b2, n4_b2.symm, n5_a, n5_a.symm, n5_b0, n5_b0.symm, n5_b1, n5_b1.symm, n5_b2, n5_b2.symm, n5_b3, n5_b3.symm]
set_option maxRecDepth 100000 in
set_option maxHeartbeats 4000000 in
theorem r_cheap_init {d a : Nat} {G : mj_G} {M : mj_M} {Q : mj_P} (ha : G a = (1001, 0))
    (h : ∀ G' M' b0 b7 b8 b9 b10 b11 b12 b13 b14 b16 b17, iv_ext (fun x => x = a) G M G' M' → G' a = (1001, 0) → ((M'.2.2 a 0 = some b0 ∧ G' b0 = (2100, 12)) ∧ (M'.2.2 a 7 = some b7 ∧ G' b7 = (1100, 3)) ∧ (M'.2.2 a 8 = some b8 ∧ G' b8 = (1100, 3)) ∧ (M'.2.2 a 9 = some b9 ∧ G' b9 = (1104, 3) ∧ ∀ k, k < 3 → M'.2.2 b9 k = some (b9 + 1 + k) ∧ G' (b9 + 1 + k) = (1100, 12)) ∧ (M'.2.2 a 10 = some b10 ∧ G' b10 = (3104, 3) ∧ ∀ k, k < 3 → M'.2.2 b10 k = some (b10 + 1 + k) ∧ G' (b10 + 1 + k) = (1100, 13)) ∧ (M'.2.2 a 11 = some b11 ∧ G' b11 = (1100, 13)) ∧ (M'.2.2 a 12 = some b12 ∧ G' b12 = (4104, 3) ∧ ∀ k, k < 3 → M'.2.2 b12 k = some (b12 + 1 + k) ∧ G' (b12 + 1 + k) = (1100, 81)) ∧ (M'.2.2 a 13 = some b13 ∧ G' b13 = (1100, 81)) ∧ (M'.2.2 a 14 = some b14 ∧ G' b14 = (3100, 81)) ∧ (M'.2.2 a 16 = some b16 ∧ G' b16 = (4100, 12)) ∧ (M'.2.2 a 17 = some b17 ∧ G' b17 = (4100, 12))) → (M'.1 a 1 = 0 ∧ M'.1 a 2 = 0 ∧ M'.1 a 3 = (-1) ∧ M'.1 a 4 = (-1) ∧ M'.1 a 5 = 0 ∧ M'.1 a 6 = 0 ∧ M'.1 a 15 = 0 ∧ M'.1 a 18 = 0) → Q none G' M') : mj_R mj_tab (d + 1) n_X0_init [.inr (.inr (some a))] G M Q := by
  refine ⟨Nat.le_refl 1, mj_W.run (mj_R_mo _ _) 79 ?_⟩
  refine And.intro (by decide) ?_
  refine ⟨by decide, by decide, by decide, by decide, 2100, rfl, fun b0 f1 => ?_⟩
  have g1_a := iv_gn (t := 2100) (n := 12) f1 ha (by decide)
  have n1_a := iv_ne f1 ha (by decide)
  refine And.intro (List.cons_ne_nil _ _) ⟨1001, 0, g1_a, rfl, by decide, ?_⟩
  refine And.intro (List.cons_ne_nil _ _) ⟨1001, 0, g1_a, rfl, by decide, (fun _ => Or.inl rfl), ?_⟩
  refine And.intro (List.cons_ne_nil _ _) ⟨1001, 0, g1_a, rfl, by decide, (fun q => by cases q), ?_⟩
  refine And.intro (List.cons_ne_nil _ _) ⟨1001, 0, g1_a, rfl, by decide, (fun q => by cases q), ?_⟩
  refine And.intro (List.cons_ne_nil _ _) ⟨1001, 0, g1_a, rfl, by decide, (fun q => by cases q), ?_⟩
  refine And.intro (List.cons_ne_nil _ _) ⟨1001, 0, g1_a, rfl, by decide, (fun q => by cases q), ?_⟩
  refine And.intro (List.cons_ne_nil _ _) ⟨1001, 0, g1_a, rfl, by decide, (fun q => by cases q), ?_⟩
  refine ⟨by decide, by decide, by decide, by decide, 1100, rfl, fun b7 f2 => ?_⟩
  have g2_a := iv_gn (t := 1100) (n := 3) f2 g1_a (by decide)
  have n2_a := iv_ne f2 g1_a (by decide)
  have g2_b0 := iv_gn (t := 1100) (n := 3) f2 (iv_gs) (by decide)
  have n2_b0 := iv_ne f2 (iv_gs) (by decide)
  refine And.intro (List.cons_ne_nil _ _) ⟨1001, 0, g2_a, rfl, by decide, ?_⟩
  refine ⟨by decide, by decide, by decide, by decide, 1100, rfl, fun b8 f3 => ?_⟩
  have g3_a := iv_gn (t := 1100) (n := 3) f3 g2_a (by decide)
  have n3_a := iv_ne f3 g2_a (by decide)
  have g3_b0 := iv_gn (t := 1100) (n := 3) f3 g2_b0 (by decide)
  have n3_b0 := iv_ne f3 g2_b0 (by decide)
  have g3_b7 := iv_gn (t := 1100) (n := 3) f3 (iv_gs) (by decide)
  have n3_b7 := iv_ne f3 (iv_gs) (by decide)
  refine And.intro (List.cons_ne_nil _ _) ⟨1001, 0, g3_a, rfl, by decide, ?_⟩
  refine ⟨by decide, by decide, by decide, by decide, by decide, by decide, 1104, 1100, rfl, rfl, fun b9 f4 => ?_⟩
  have g4_a := iv_ggn (t := 1104) (n := 3) (t2 := 1100) (m := 12) f4 g3_a (by decide)
  have q4_a := iv_nge f4 g3_a (by decide)
  have n4_a : a ≠ b9 := fun q => q4_a (by omega)
  have g4_b0 := iv_ggn (t := 1104) (n := 3) (t2 := 1100) (m := 12) f4 g3_b0 (by decide)
  have q4_b0 := iv_nge f4 g3_b0 (by decide)
  have n4_b0 : b0 ≠ b9 := fun q => q4_b0 (by omega)
  have g4_b7 := iv_ggn (t := 1104) (n := 3) (t2 := 1100) (m := 12) f4 g3_b7 (by decide)
  have q4_b7 := iv_nge f4 g3_b7 (by decide)
  have n4_b7 : b7 ≠ b9 := fun q => q4_b7 (by omega)
  have g4_b8 := iv_ggn (t := 1104) (n := 3) (t2 := 1100) (m := 12) f4 (iv_gs) (by decide)
  have q4_b8 := iv_nge f4 (iv_gs) (by decide)
  have n4_b8 : b8 ≠ b9 := fun q => q4_b8 (by omega)
  refine And.intro (List.cons_ne_nil _ _) ⟨1001, 0, g4_a, rfl, by decide, ?_⟩
  refine ⟨by decide, by decide, by decide, by decide, by decide, by decide, 3104, 1100, rfl, rfl, fun b10 f5 => ?_⟩
  have g5_a := iv_ggn (t := 3104) (n := 3) (t2 := 1100) (m := 13) f5 g4_a (by decide)
  have q5_a := iv_nge f5 g4_a (by decide)
  have n5_a : a ≠ b10 := fun q => q5_a (by omega)
  have g5_b0 := iv_ggn (t := 3104) (n := 3) (t2 := 1100) (m := 13) f5 g4_b0 (by decide)
  have q5_b0 := iv_nge f5 g4_b0 (by decide)
  have n5_b0 : b0 ≠ b10 := fun q => q5_b0 (by omega)
  have g5_b7 := iv_ggn (t := 3104) (n := 3) (t2 := 1100) (m := 13) f5 g4_b7 (by decide)
  have q5_b7 := iv_nge f5 g4_b7 (by decide)
  have n5_b7 : b7 ≠ b10 := fun q => q5_b7 (by omega)
  have g5_b8 := iv_ggn (t := 3104) (n := 3) (t2 := 1100) (m := 13) f5 g4_b8 (by decide)
  have q5_b8 := iv_nge f5 g4_b8 (by decide)
  have n5_b8 : b8 ≠ b10 := fun q => q5_b8 (by omega)
  have g5_b9 := iv_ggn (t := 3104) (n := 3) (t2 := 1100) (m := 13) f5 (iv_ggs) (by decide)
  have q5_b9 := iv_nge f5 (iv_ggs) (by decide)
  have n5_b9 : b9 ≠ b10 := fun q => q5_b9 (by omega)
  refine And.intro (List.cons_ne_nil _ _) ⟨1001, 0, g5_a, rfl, by decide, ?_⟩
  refine ⟨by decide, by decide, by decide, by decide, 1100, rfl, fun b11 f6 => ?_⟩
  have g6_a := iv_gn (t := 1100) (n := 13) f6 g5_a (by decide)
  have n6_a := iv_ne f6 g5_a (by decide)
  have g6_b0 := iv_gn (t := 1100) (n := 13) f6 g5_b0 (by decide)
  have n6_b0 := iv_ne f6 g5_b0 (by decide)
  have g6_b7 := iv_gn (t := 1100) (n := 13) f6 g5_b7 (by decide)
  have n6_b7 := iv_ne f6 g5_b7 (by decide)
  have g6_b8 := iv_gn (t := 1100) (n := 13) f6 g5_b8 (by decide)
  have n6_b8 := iv_ne f6 g5_b8 (by decide)
  have g6_b9 := iv_gn (t := 1100) (n := 13) f6 g5_b9 (by decide)
  have n6_b9 := iv_ne f6 g5_b9 (by decide)
  have g6_b10 := iv_gn (t := 1100) (n := 13) f6 (iv_ggs) (by decide)
  have n6_b10 := iv_ne f6 (iv_ggs) (by decide)
  refine And.intro (List.cons_ne_nil _ _) ⟨1001, 0, g6_a, rfl, by decide, ?_⟩
  refine ⟨by decide, by decide, by decide, by decide, by decide, by decide, 4104, 1100, rfl, rfl, fun b12 f7 => ?_⟩
  have g7_a := iv_ggn (t := 4104) (n := 3) (t2 := 1100) (m := 81) f7 g6_a (by decide)
  have q7_a := iv_nge f7 g6_a (by decide)
  have n7_a : a ≠ b12 := fun q => q7_a (by omega)
  have g7_b0 := iv_ggn (t := 4104) (n := 3) (t2 := 1100) (m := 81) f7 g6_b0 (by decide)
  have q7_b0 := iv_nge f7 g6_b0 (by decide)
  have n7_b0 : b0 ≠ b12 := fun q => q7_b0 (by omega)
  have g7_b7 := iv_ggn (t := 4104) (n := 3) (t2 := 1100) (m := 81) f7 g6_b7 (by decide)
  have q7_b7 := iv_nge f7 g6_b7 (by decide)
  have n7_b7 : b7 ≠ b12 := fun q => q7_b7 (by omega)
  have g7_b8 := iv_ggn (t := 4104) (n := 3) (t2 := 1100) (m := 81) f7 g6_b8 (by decide)
  have q7_b8 := iv_nge f7 g6_b8 (by decide)
  have n7_b8 : b8 ≠ b12 := fun q => q7_b8 (by omega)
  have g7_b9 := iv_ggn (t := 4104) (n := 3) (t2 := 1100) (m := 81) f7 g6_b9 (by decide)
  have q7_b9 := iv_nge f7 g6_b9 (by decide)
  have n7_b9 : b9 ≠ b12 := fun q => q7_b9 (by omega)
  have g7_b10 := iv_ggn (t := 4104) (n := 3) (t2 := 1100) (m := 81) f7 g6_b10 (by decide)
  have q7_b10 := iv_nge f7 g6_b10 (by decide)
  have n7_b10 : b10 ≠ b12 := fun q => q7_b10 (by omega)
  have g7_b11 := iv_ggn (t := 4104) (n := 3) (t2 := 1100) (m := 81) f7 (iv_gs) (by decide)
  have q7_b11 := iv_nge f7 (iv_gs) (by decide)
  have n7_b11 : b11 ≠ b12 := fun q => q7_b11 (by omega)
  refine And.intro (List.cons_ne_nil _ _) ⟨1001, 0, g7_a, rfl, by decide, ?_⟩
  refine ⟨by decide, by decide, by decide, by decide, 1100, rfl, fun b13 f8 => ?_⟩
  have g8_a := iv_gn (t := 1100) (n := 81) f8 g7_a (by decide)
  have n8_a := iv_ne f8 g7_a (by decide)
  have g8_b0 := iv_gn (t := 1100) (n := 81) f8 g7_b0 (by decide)
  have n8_b0 := iv_ne f8 g7_b0 (by decide)
  have g8_b7 := iv_gn (t := 1100) (n := 81) f8 g7_b7 (by decide)
  have n8_b7 := iv_ne f8 g7_b7 (by decide)
  have g8_b8 := iv_gn (t := 1100) (n := 81) f8 g7_b8 (by decide)
  have n8_b8 := iv_ne f8 g7_b8 (by decide)
  have g8_b9 := iv_gn (t := 1100) (n := 81) f8 g7_b9 (by decide)
  have n8_b9 := iv_ne f8 g7_b9 (by decide)
  have g8_b10 := iv_gn (t := 1100) (n := 81) f8 g7_b10 (by decide)
  have n8_b10 := iv_ne f8 g7_b10 (by decide)
  have g8_b11 := iv_gn (t := 1100) (n := 81) f8 g7_b11 (by decide)
  have n8_b11 := iv_ne f8 g7_b11 (by decide)
  have g8_b12 := iv_gn (t := 1100) (n := 81) f8 (iv_ggs) (by decide)
  have n8_b12 := iv_ne f8 (iv_ggs) (by decide)
  refine And.intro (List.cons_ne_nil _ _) ⟨1001, 0, g8_a, rfl, by decide, ?_⟩
  refine ⟨by decide, by decide, by decide, by decide, 3100, rfl, fun b14 f9 => ?_⟩
  have g9_a := iv_gn (t := 3100) (n := 81) f9 g8_a (by decide)
  have n9_a := iv_ne f9 g8_a (by decide)
  have g9_b0 := iv_gn (t := 3100) (n := 81) f9 g8_b0 (by decide)
  have n9_b0 := iv_ne f9 g8_b0 (by decide)
  have g9_b7 := iv_gn (t := 3100) (n := 81) f9 g8_b7 (by decide)
  have n9_b7 := iv_ne f9 g8_b7 (by decide)
  have g9_b8 := iv_gn (t := 3100) (n := 81) f9 g8_b8 (by decide)
  have n9_b8 := iv_ne f9 g8_b8 (by decide)
  have g9_b9 := iv_gn (t := 3100) (n := 81) f9 g8_b9 (by decide)
  have n9_b9 := iv_ne f9 g8_b9 (by decide)
  have g9_b10 := iv_gn (t := 3100) (n := 81) f9 g8_b10 (by decide)
  have n9_b10 := iv_ne f9 g8_b10 (by decide)
  have g9_b11 := iv_gn (t := 3100) (n := 81) f9 g8_b11 (by decide)
  have n9_b11 := iv_ne f9 g8_b11 (by decide)
  have g9_b12 := iv_gn (t := 3100) (n := 81) f9 g8_b12 (by decide)
  have n9_b12 := iv_ne f9 g8_b12 (by decide)
  have g9_b13 := iv_gn (t := 3100) (n := 81) f9 (iv_gs) (by decide)
  have n9_b13 := iv_ne f9 (iv_gs) (by decide)
  refine And.intro (List.cons_ne_nil _ _) ⟨1001, 0, g9_a, rfl, by decide, ?_⟩
  refine And.intro (List.cons_ne_nil _ _) ⟨1001, 0, g9_a, rfl, by decide, (fun q => by cases q), ?_⟩
  refine ⟨by decide, by decide, by decide, by decide, 4100, rfl, fun b16 f10 => ?_⟩
  have g10_a := iv_gn (t := 4100) (n := 12) f10 g9_a (by decide)
  have n10_a := iv_ne f10 g9_a (by decide)
  have g10_b0 := iv_gn (t := 4100) (n := 12) f10 g9_b0 (by decide)
  have n10_b0 := iv_ne f10 g9_b0 (by decide)
  have g10_b7 := iv_gn (t := 4100) (n := 12) f10 g9_b7 (by decide)
  have n10_b7 := iv_ne f10 g9_b7 (by decide)
  have g10_b8 := iv_gn (t := 4100) (n := 12) f10 g9_b8 (by decide)
  have n10_b8 := iv_ne f10 g9_b8 (by decide)
  have g10_b9 := iv_gn (t := 4100) (n := 12) f10 g9_b9 (by decide)
  have n10_b9 := iv_ne f10 g9_b9 (by decide)
  have g10_b10 := iv_gn (t := 4100) (n := 12) f10 g9_b10 (by decide)
  have n10_b10 := iv_ne f10 g9_b10 (by decide)
  have g10_b11 := iv_gn (t := 4100) (n := 12) f10 g9_b11 (by decide)
  have n10_b11 := iv_ne f10 g9_b11 (by decide)
  have g10_b12 := iv_gn (t := 4100) (n := 12) f10 g9_b12 (by decide)
  have n10_b12 := iv_ne f10 g9_b12 (by decide)
  have g10_b13 := iv_gn (t := 4100) (n := 12) f10 g9_b13 (by decide)
  have n10_b13 := iv_ne f10 g9_b13 (by decide)
  have g10_b14 := iv_gn (t := 4100) (n := 12) f10 (iv_gs) (by decide)
  have n10_b14 := iv_ne f10 (iv_gs) (by decide)
  refine And.intro (List.cons_ne_nil _ _) ⟨1001, 0, g10_a, rfl, by decide, ?_⟩
  refine ⟨by decide, by decide, by decide, by decide, 4100, rfl, fun b17 f11 => ?_⟩
  have g11_a := iv_gn (t := 4100) (n := 12) f11 g10_a (by decide)
  have n11_a := iv_ne f11 g10_a (by decide)
  have g11_b0 := iv_gn (t := 4100) (n := 12) f11 g10_b0 (by decide)
  have n11_b0 := iv_ne f11 g10_b0 (by decide)
  have g11_b7 := iv_gn (t := 4100) (n := 12) f11 g10_b7 (by decide)
  have n11_b7 := iv_ne f11 g10_b7 (by decide)
  have g11_b8 := iv_gn (t := 4100) (n := 12) f11 g10_b8 (by decide)
  have n11_b8 := iv_ne f11 g10_b8 (by decide)
  have g11_b9 := iv_gn (t := 4100) (n := 12) f11 g10_b9 (by decide)
  have n11_b9 := iv_ne f11 g10_b9 (by decide)
  have g11_b10 := iv_gn (t := 4100) (n := 12) f11 g10_b10 (by decide)
  have n11_b10 := iv_ne f11 g10_b10 (by decide)
  have g11_b11 := iv_gn (t := 4100) (n := 12) f11 g10_b11 (by decide)
  have n11_b11 := iv_ne f11 g10_b11 (by decide)
  have g11_b12 := iv_gn (t := 4100) (n := 12) f11 g10_b12 (by decide)
  have n11_b12 := iv_ne f11 g10_b12 (by decide)
  have g11_b13 := iv_gn (t := 4100) (n := 12) f11 g10_b13 (by decide)
  have n11_b13 := iv_ne f11 g10_b13 (by decide)
  have g11_b14 := iv_gn (t := 4100) (n := 12) f11 g10_b14 (by decide)
  have n11_b14 := iv_ne f11 g10_b14 (by decide)
  have g11_b16 := iv_gn (t := 4100) (n := 12) f11 (iv_gs) (by decide)
  have n11_b16 := iv_ne f11 (iv_gs) (by decide)
  refine And.intro (List.cons_ne_nil _ _) ⟨1001, 0, g11_a, rfl, by decide, ?_⟩
  refine And.intro (List.cons_ne_nil _ _) ⟨1001, 0, g11_a, rfl, by decide, (fun q => by cases q), ?_⟩
  refine And.intro rfl (h _ _ b0 b7 b8 b9 b10 b11 b12 b13 b14 b16 b17 ?_ g11_a ?_ ?_)
  · refine iv_ext.trans ?_ (iv_ext.p0 rfl)
    refine iv_ext.trans ?_ (iv_ext.p2 rfl)
    refine iv_ext.trans ?_ (iv_ext.g f11)
    refine iv_ext.trans ?_ (iv_ext.p2 rfl)
    refine iv_ext.trans ?_ (iv_ext.g f10)
    refine iv_ext.trans ?_ (iv_ext.p0 rfl)
    refine iv_ext.trans ?_ (iv_ext.p2 rfl)
    refine iv_ext.trans ?_ (iv_ext.g f9)
    refine iv_ext.trans ?_ (iv_ext.p2 rfl)
    refine iv_ext.trans ?_ (iv_ext.g f8)
    refine iv_ext.trans ?_ (iv_ext.p2 rfl)
    refine iv_ext.trans ?_ (iv_ext.gg f7)
    refine iv_ext.trans ?_ (iv_ext.p2 rfl)
    refine iv_ext.trans ?_ (iv_ext.g f6)
    refine iv_ext.trans ?_ (iv_ext.p2 rfl)
    refine iv_ext.trans ?_ (iv_ext.gg f5)
    refine iv_ext.trans ?_ (iv_ext.p2 rfl)
    refine iv_ext.trans ?_ (iv_ext.gg f4)
    refine iv_ext.trans ?_ (iv_ext.p2 rfl)
    refine iv_ext.trans ?_ (iv_ext.g f3)
    refine iv_ext.trans ?_ (iv_ext.p2 rfl)
    refine iv_ext.trans ?_ (iv_ext.g f2)
    refine iv_ext.trans ?_ (iv_ext.p0 rfl)
    refine iv_ext.trans ?_ (iv_ext.p0 rfl)
    refine iv_ext.trans ?_ (iv_ext.p0 rfl)
    refine iv_ext.trans ?_ (iv_ext.p0 rfl)
    refine iv_ext.trans ?_ (iv_ext.p0 rfl)
    refine iv_ext.trans ?_ (iv_ext.p0 rfl)
    refine iv_ext.trans ?_ (iv_ext.p2 rfl)
    exact iv_ext.g f1
  · exact ⟨⟨by simp [mj_p0, mj_p1, mj_p2, mj_h1, mj_z, mj_zz, n1_a, n1_a.symm, n2_a, n2_a.symm, n2_b0, n2_b0.symm, n3_a, n3_a.symm, n3_b0, n3_b0.symm, n3_b7, n3_b7.symm, q4_a, n4_a, n4_a.symm, q4_b0, n4_b0, n4_b0.symm, q4_b7, n4_b7, n4_b7.symm, q4_b8, n4_b8, n4_b8.symm, q5_a, n5_a, n5_a.symm, q5_b0, n5_b0, n5_b0.symm, q5_b7, n5_b7, n5_b7.symm, q5_b8, n5_b8, n5_b8.symm, q5_b9, n5_b9, n5_b9.symm, n6_a, n6_a.symm, n6_b0, n6_b0.symm, n6_b7, n6_b7.symm, n6_b8, n6_b8.symm, n6_b9, n6_b9.symm, n6_b10, n6_b10.symm, q7_a, n7_a, n7_a.symm, q7_b0, n7_b0, n7_b0.symm, q7_b7, n7_b7, n7_b7.symm, q7_b8, n7_b8, n7_b8.symm, q7_b9, n7_b9, n7_b9.symm, q7_b10, n7_b10, n7_b10.symm, q7_b11, n7_b11, n7_b11.symm, n8_a, n8_a.symm, n8_b0, n8_b0.symm, n8_b7, n8_b7.symm, n8_b8, n8_b8.symm, n8_b9, n8_b9.symm, n8_b10, n8_b10.symm, n8_b11, n8_b11.symm, n8_b12, n8_b12.symm, n9_a, n9_a.symm, n9_b0, n9_b0.symm, n9_b7, n9_b7.symm, n9_b8, n9_b8.symm, n9_b9, n9_b9.symm, n9_b10, n9_b10.symm, n9_b11, n9_b11.symm, n9_b12, n9_b12.symm, n9_b13, n9_b13.symm, n10_a, n10_a.symm, n10_b0, n10_b0.symm, n10_b7, n10_b7.symm, n10_b8, n10_b8.symm, n10_b9, n10_b9.symm, n10_b10, n10_b10.symm, n10_b11, n10_b11.symm, n10_b12, n10_b12.symm, n10_b13, n10_b13.symm, n10_b14, n10_b14.symm, n11_a, n11_a.symm, n11_b0, n11_b0.symm, n11_b7, n11_b7.symm, n11_b8, n11_b8.symm, n11_b9, n11_b9.symm, n11_b10, n11_b10.symm, n11_b11, n11_b11.symm, n11_b12, n11_b12.symm, n11_b13, n11_b13.symm, n11_b14, n11_b14.symm, n11_b16, n11_b16.symm], g11_b0⟩, ⟨by simp [mj_p0, mj_p1, mj_p2, mj_h1, mj_z, mj_zz, n1_a, n1_a.symm, n2_a, n2_a.symm, n2_b0, n2_b0.symm, n3_a, n3_a.symm, n3_b0, n3_b0.symm, n3_b7, n3_b7.symm, q4_a, n4_a, n4_a.symm, q4_b0, n4_b0, n4_b0.symm, q4_b7, n4_b7, n4_b7.symm, q4_b8, n4_b8, n4_b8.symm, q5_a, n5_a, n5_a.symm, q5_b0, n5_b0, n5_b0.symm, q5_b7, n5_b7, n5_b7.symm, q5_b8, n5_b8, n5_b8.symm, q5_b9, n5_b9, n5_b9.symm, n6_a, n6_a.symm, n6_b0, n6_b0.symm, n6_b7, n6_b7.symm, n6_b8, n6_b8.symm, n6_b9, n6_b9.symm, n6_b10, n6_b10.symm, q7_a, n7_a, n7_a.symm, q7_b0, n7_b0, n7_b0.symm, q7_b7, n7_b7, n7_b7.symm, q7_b8, n7_b8, n7_b8.symm, q7_b9, n7_b9, n7_b9.symm, q7_b10, n7_b10, n7_b10.symm, q7_b11, n7_b11, n7_b11.symm, n8_a, n8_a.symm, n8_b0, n8_b0.symm, n8_b7, n8_b7.symm, n8_b8, n8_b8.symm, n8_b9, n8_b9.symm, n8_b10, n8_b10.symm, n8_b11, n8_b11.symm, n8_b12, n8_b12.symm, n9_a, n9_a.symm, n9_b0, n9_b0.symm, n9_b7, n9_b7.symm, n9_b8, n9_b8.symm, n9_b9, n9_b9.symm, n9_b10, n9_b10.symm, n9_b11, n9_b11.symm, n9_b12, n9_b12.symm, n9_b13, n9_b13.symm, n10_a, n10_a.symm, n10_b0, n10_b0.symm, n10_b7, n10_b7.symm, n10_b8, n10_b8.symm, n10_b9, n10_b9.symm, n10_b10, n10_b10.symm, n10_b11, n10_b11.symm, n10_b12, n10_b12.symm, n10_b13, n10_b13.symm, n10_b14, n10_b14.symm, n11_a, n11_a.symm, n11_b0, n11_b0.symm, n11_b7, n11_b7.symm, n11_b8, n11_b8.symm, n11_b9, n11_b9.symm, n11_b10, n11_b10.symm, n11_b11, n11_b11.symm, n11_b12, n11_b12.symm, n11_b13, n11_b13.symm, n11_b14, n11_b14.symm, n11_b16, n11_b16.symm], g11_b7⟩, ⟨by simp [mj_p0, mj_p1, mj_p2, mj_h1, mj_z, mj_zz, n1_a, n1_a.symm, n2_a, n2_a.symm, n2_b0, n2_b0.symm, n3_a, n3_a.symm, n3_b0, n3_b0.symm, n3_b7, n3_b7.symm, q4_a, n4_a, n4_a.symm, q4_b0, n4_b0, n4_b0.symm, q4_b7, n4_b7, n4_b7.symm, q4_b8, n4_b8, n4_b8.symm, q5_a, n5_a, n5_a.symm, q5_b0, n5_b0, n5_b0.symm, q5_b7, n5_b7, n5_b7.symm, q5_b8, n5_b8, n5_b8.symm, q5_b9, n5_b9, n5_b9.symm, n6_a, n6_a.symm, n6_b0, n6_b0.symm, n6_b7, n6_b7.symm, n6_b8, n6_b8.symm, n6_b9, n6_b9.symm, n6_b10, n6_b10.symm, q7_a, n7_a, n7_a.symm, q7_b0, n7_b0, n7_b0.symm, q7_b7, n7_b7, n7_b7.symm, q7_b8, n7_b8, n7_b8.symm, q7_b9, n7_b9, n7_b9.symm, q7_b10, n7_b10, n7_b10.symm, q7_b11, n7_b11, n7_b11.symm, n8_a, n8_a.symm, n8_b0, n8_b0.symm, n8_b7, n8_b7.symm, n8_b8, n8_b8.symm, n8_b9, n8_b9.symm, n8_b10, n8_b10.symm, n8_b11, n8_b11.symm, n8_b12, n8_b12.symm, n9_a, n9_a.symm, n9_b0, n9_b0.symm, n9_b7, n9_b7.symm, n9_b8, n9_b8.symm, n9_b9, n9_b9.symm, n9_b10, n9_b10.symm, n9_b11, n9_b11.symm, n9_b12, n9_b12.symm, n9_b13, n9_b13.symm, n10_a, n10_a.symm, n10_b0, n10_b0.symm, n10_b7, n10_b7.symm, n10_b8, n10_b8.symm, n10_b9, n10_b9.symm, n10_b10, n10_b10.symm, n10_b11, n10_b11.symm, n10_b12, n10_b12.symm, n10_b13, n10_b13.symm, n10_b14, n10_b14.symm, n11_a, n11_a.symm, n11_b0, n11_b0.symm, n11_b7, n11_b7.symm, n11_b8, n11_b8.symm, n11_b9, n11_b9.symm, n11_b10, n11_b10.symm, n11_b11, n11_b11.symm, n11_b12, n11_b12.symm, n11_b13, n11_b13.symm, n11_b14, n11_b14.symm, n11_b16, n11_b16.symm], g11_b8⟩, ⟨by simp [mj_p0, mj_p1, mj_p2, mj_h1, mj_z, mj_zz, n1_a, n1_a.symm, n2_a, n2_a.symm, n2_b0, n2_b0.symm, n3_a, n3_a.symm, n3_b0, n3_b0.symm, n3_b7, n3_b7.symm, q4_a, n4_a, n4_a.symm, q4_b0, n4_b0, n4_b0.symm, q4_b7, n4_b7, n4_b7.symm, q4_b8, n4_b8, n4_b8.symm, q5_a, n5_a, n5_a.symm, q5_b0, n5_b0, n5_b0.symm, q5_b7, n5_b7, n5_b7.symm, q5_b8, n5_b8, n5_b8.symm, q5_b9, n5_b9, n5_b9.symm, n6_a, n6_a.symm, n6_b0, n6_b0.symm, n6_b7, n6_b7.symm, n6_b8, n6_b8.symm, n6_b9, n6_b9.symm, n6_b10, n6_b10.symm, q7_a, n7_a, n7_a.symm, q7_b0, n7_b0, n7_b0.symm, q7_b7, n7_b7, n7_b7.symm, q7_b8, n7_b8, n7_b8.symm, q7_b9, n7_b9, n7_b9.symm, q7_b10, n7_b10, n7_b10.symm, q7_b11, n7_b11, n7_b11.symm, n8_a, n8_a.symm, n8_b0, n8_b0.symm, n8_b7, n8_b7.symm, n8_b8, n8_b8.symm, n8_b9, n8_b9.symm, n8_b10, n8_b10.symm, n8_b11, n8_b11.symm, n8_b12, n8_b12.symm, n9_a, n9_a.symm, n9_b0, n9_b0.symm, n9_b7, n9_b7.symm, n9_b8, n9_b8.symm, n9_b9, n9_b9.symm, n9_b10, n9_b10.symm, n9_b11, n9_b11.symm, n9_b12, n9_b12.symm, n9_b13, n9_b13.symm, n10_a, n10_a.symm, n10_b0, n10_b0.symm, n10_b7, n10_b7.symm, n10_b8, n10_b8.symm, n10_b9, n10_b9.symm, n10_b10, n10_b10.symm, n10_b11, n10_b11.symm, n10_b12, n10_b12.symm, n10_b13, n10_b13.symm, n10_b14, n10_b14.symm, n11_a, n11_a.symm, n11_b0, n11_b0.symm, n11_b7, n11_b7.symm, n11_b8, n11_b8.symm, n11_b9, n11_b9.symm, n11_b10, n11_b10.symm, n11_b11, n11_b11.symm, n11_b12, n11_b12.symm, n11_b13, n11_b13.symm, n11_b14, n11_b14.symm, n11_b16, n11_b16.symm], g11_b9, fun k hk => ⟨by simp [mj_p0, mj_p1, mj_p2, mj_h1, mj_z, mj_zz, n1_a, n1_a.symm, n2_a, n2_a.symm, n2_b0, n2_b0.symm, n3_a, n3_a.symm, n3_b0, n3_b0.symm, n3_b7, n3_b7.symm, q4_a, n4_a, n4_a.symm, q4_b0, n4_b0, n4_b0.symm, q4_b7, n4_b7, n4_b7.symm, q4_b8, n4_b8, n4_b8.symm, q5_a, n5_a, n5_a.symm, q5_b0, n5_b0, n5_b0.symm, q5_b7, n5_b7, n5_b7.symm, q5_b8, n5_b8, n5_b8.symm, q5_b9, n5_b9, n5_b9.symm, n6_a, n6_a.symm, n6_b0, n6_b0.symm, n6_b7, n6_b7.symm, n6_b8, n6_b8.symm, n6_b9, n6_b9.symm, n6_b10, n6_b10.symm, q7_a, n7_a, n7_a.symm, q7_b0, n7_b0, n7_b0.symm, q7_b7, n7_b7, n7_b7.symm, q7_b8, n7_b8, n7_b8.symm, q7_b9, n7_b9, n7_b9.symm, q7_b10, n7_b10, n7_b10.symm, q7_b11, n7_b11, n7_b11.symm, n8_a, n8_a.symm, n8_b0, n8_b0.symm, n8_b7, n8_b7.symm, n8_b8, n8_b8.symm, n8_b9, n8_b9.symm, n8_b10, n8_b10.symm, n8_b11, n8_b11.symm, n8_b12, n8_b12.symm, n9_a, n9_a.symm, n9_b0, n9_b0.symm, n9_b7, n9_b7.symm, n9_b8, n9_b8.symm, n9_b9, n9_b9.symm, n9_b10, n9_b10.symm, n9_b11, n9_b11.symm, n9_b12, n9_b12.symm, n9_b13, n9_b13.symm, n10_a, n10_a.symm, n10_b0, n10_b0.symm, n10_b7, n10_b7.symm, n10_b8, n10_b8.symm, n10_b9, n10_b9.symm, n10_b10, n10_b10.symm, n10_b11, n10_b11.symm, n10_b12, n10_b12.symm, n10_b13, n10_b13.symm, n10_b14, n10_b14.symm, n11_a, n11_a.symm, n11_b0, n11_b0.symm, n11_b7, n11_b7.symm, n11_b8, n11_b8.symm, n11_b9, n11_b9.symm, n11_b10, n11_b10.symm, n11_b11, n11_b11.symm, n11_b12, n11_b12.symm, n11_b13, n11_b13.symm, n11_b14, n11_b14.symm, n11_b16, n11_b16.symm, hk], iv_gn f11 (iv_gn f10 (iv_gn f9 (iv_gn f8 (iv_ggn f7 (iv_gn f6 (iv_ggn f5 (iv_ggr hk) (by decide)) (by decide)) (by decide)) (by decide)) (by decide)) (by decide)) (by decide)⟩⟩, ⟨by simp [mj_p0, mj_p1, mj_p2, mj_h1, mj_z, mj_zz, n1_a, n1_a.symm, n2_a, n2_a.symm, n2_b0, n2_b0.symm, n3_a, n3_a.symm, n3_b0, n3_b0.symm, n3_b7, n3_b7.symm, q4_a, n4_a, n4_a.symm, q4_b0, n4_b0, n4_b0.symm, q4_b7, n4_b7, n4_b7.symm, q4_b8, n4_b8, n4_b8.symm, q5_a, n5_a, n5_a.symm, q5_b0, n5_b0, n5_b0.symm, q5_b7, n5_b7, n5_b7.symm, q5_b8, n5_b8, n5_b8.symm, q5_b9, n5_b9, n5_b9.symm, n6_a, n6_a.symm, n6_b0, n6_b0.symm, n6_b7, n6_b7.symm, n6_b8, n6_b8.symm, n6_b9, n6_b9.symm, n6_b10, n6_b10.symm, q7_a, n7_a, n7_a.symm, q7_b0, n7_b0, n7_b0.symm, q7_b7, n7_b7, n7_b7.symm, q7_b8, n7_b8, n7_b8.symm, q7_b9, n7_b9, n7_b9.symm, q7_b10, n7_b10, n7_b10.symm, q7_b11, n7_b11, n7_b11.symm, n8_a, n8_a.symm, n8_b0, n8_b0.symm, n8_b7, n8_b7.symm, n8_b8, n8_b8.symm, n8_b9, n8_b9.symm, n8_b10, n8_b10.symm, n8_b11, n8_b11.symm, n8_b12, n8_b12.symm, n9_a, n9_a.symm, n9_b0, n9_b0.symm, n9_b7, n9_b7.symm, n9_b8, n9_b8.symm, n9_b9, n9_b9.symm, n9_b10, n9_b10.symm, n9_b11, n9_b11.symm, n9_b12, n9_b12.symm, n9_b13, n9_b13.symm, n10_a, n10_a.symm, n10_b0, n10_b0.symm, n10_b7, n10_b7.symm, n10_b8, n10_b8.symm, n10_b9, n10_b9.symm, n10_b10, n10_b10.symm, n10_b11, n10_b11.symm, n10_b12, n10_b12.symm, n10_b13, n10_b13.symm, n10_b14, n10_b14.symm, n11_a, n11_a.symm, n11_b0, n11_b0.symm, n11_b7, n11_b7.symm, n11_b8, n11_b8.symm, n11_b9, n11_b9.symm, n11_b10, n11_b10.symm, n11_b11, n11_b11.symm, n11_b12, n11_b12.symm, n11_b13, n11_b13.symm, n11_b14, n11_b14.symm, n11_b16, n11_b16.symm], g11_b10, fun k hk => ⟨by simp [mj_p0, mj_p1, mj_p2, mj_h1, mj_z, mj_zz, n1_a, n1_a.symm, n2_a, n2_a.symm, n2_b0, n2_b0.symm, n3_a, n3_a.symm, n3_b0, n3_b0.symm, n3_b7, n3_b7.symm, q4_a, n4_a, n4_a.symm, q4_b0, n4_b0, n4_b0.symm, q4_b7, n4_b7, n4_b7.symm, q4_b8, n4_b8, n4_b8.symm, q5_a, n5_a, n5_a.symm, q5_b0, n5_b0, n5_b0.symm, q5_b7, n5_b7, n5_b7.symm, q5_b8, n5_b8, n5_b8.symm, q5_b9, n5_b9, n5_b9.symm, n6_a, n6_a.symm, n6_b0, n6_b0.symm, n6_b7, n6_b7.symm, n6_b8, n6_b8.symm, n6_b9, n6_b9.symm, n6_b10, n6_b10.symm, q7_a, n7_a, n7_a.symm, q7_b0, n7_b0, n7_b0.symm, q7_b7, n7_b7, n7_b7.symm, q7_b8, n7_b8, n7_b8.symm, q7_b9, n7_b9, n7_b9.symm, q7_b10, n7_b10, n7_b10.symm, q7_b11, n7_b11, n7_b11.symm, n8_a, n8_a.symm, n8_b0, n8_b0.symm, n8_b7, n8_b7.symm, n8_b8, n8_b8.symm, n8_b9, n8_b9.symm, n8_b10, n8_b10.symm, n8_b11, n8_b11.symm, n8_b12, n8_b12.symm, n9_a, n9_a.symm, n9_b0, n9_b0.symm, n9_b7, n9_b7.symm, n9_b8, n9_b8.symm, n9_b9, n9_b9.symm, n9_b10, n9_b10.symm, n9_b11, n9_b11.symm, n9_b12, n9_b12.symm, n9_b13, n9_b13.symm, n10_a, n10_a.symm, n10_b0, n10_b0.symm, n10_b7, n10_b7.symm, n10_b8, n10_b8.symm, n10_b9, n10_b9.symm, n10_b10, n10_b10.symm, n10_b11, n10_b11.symm, n10_b12, n10_b12.symm, n10_b13, n10_b13.symm, n10_b14, n10_b14.symm, n11_a, n11_a.symm, n11_b0, n11_b0.symm, n11_b7, n11_b7.symm, n11_b8, n11_b8.symm, n11_b9, n11_b9.symm, n11_b10, n11_b10.symm, n11_b11, n11_b11.symm, n11_b12, n11_b12.symm, n11_b13, n11_b13.symm, n11_b14, n11_b14.symm, n11_b16, n11_b16.symm, hk], iv_gn f11 (iv_gn f10 (iv_gn f9 (iv_gn f8 (iv_ggn f7 (iv_gn f6 (iv_ggr hk) (by decide)) (by decide)) (by decide)) (by decide)) (by decide)) (by decide)⟩⟩, ⟨by simp [mj_p0, mj_p1, mj_p2, mj_h1, mj_z, mj_zz, n1_a, n1_a.symm, n2_a, n2_a.symm, n2_b0, n2_b0.symm, n3_a, n3_a.symm, n3_b0, n3_b0.symm, n3_b7, n3_b7.symm, q4_a, n4_a, n4_a.symm, q4_b0, n4_b0, n4_b0.symm, q4_b7, n4_b7, n4_b7.symm, q4_b8, n4_b8, n4_b8.symm, q5_a, n5_a, n5_a.symm, q5_b0, n5_b0, n5_b0.symm, q5_b7, n5_b7, n5_b7.symm, q5_b8, n5_b8, n5_b8.symm, q5_b9, n5_b9, n5_b9.symm, n6_a, n6_a.symm, n6_b0, n6_b0.symm, n6_b7, n6_b7.symm, n6_b8, n6_b8.symm, n6_b9, n6_b9.symm, n6_b10, n6_b10.symm, q7_a, n7_a, n7_a.symm, q7_b0, n7_b0, n7_b0.symm, q7_b7, n7_b7, n7_b7.symm, q7_b8, n7_b8, n7_b8.symm, q7_b9, n7_b9, n7_b9.symm, q7_b10, n7_b10, n7_b10.symm, q7_b11, n7_b11, n7_b11.symm, n8_a, n8_a.symm, n8_b0, n8_b0.symm, n8_b7, n8_b7.symm, n8_b8, n8_b8.symm, n8_b9, n8_b9.symm, n8_b10, n8_b10.symm, n8_b11, n8_b11.symm, n8_b12, n8_b12.symm, n9_a, n9_a.symm, n9_b0, n9_b0.symm, n9_b7, n9_b7.symm, n9_b8, n9_b8.symm, n9_b9, n9_b9.symm, n9_b10, n9_b10.symm, n9_b11, n9_b11.symm, n9_b12, n9_b12.symm, n9_b13, n9_b13.symm, n10_a, n10_a.symm, n10_b0, n10_b0.symm, n10_b7, n10_b7.symm, n10_b8, n10_b8.symm, n10_b9, n10_b9.symm, n10_b10, n10_b10.symm, n10_b11, n10_b11.symm, n10_b12, n10_b12.symm, n10_b13, n10_b13.symm, n10_b14, n10_b14.symm, n11_a, n11_a.symm, n11_b0, n11_b0.symm, n11_b7, n11_b7.symm, n11_b8, n11_b8.symm, n11_b9, n11_b9.symm, n11_b10, n11_b10.symm, n11_b11, n11_b11.symm, n11_b12, n11_b12.symm, n11_b13, n11_b13.symm, n11_b14, n11_b14.symm, n11_b16, n11_b16.symm], g11_b11⟩, ⟨by simp [mj_p0, mj_p1, mj_p2, mj_h1, mj_z, mj_zz, n1_a, n1_a.symm, n2_a, n2_a.symm, n2_b0, n2_b0.symm, n3_a, n3_a.symm, n3_b0, n3_b0.symm, n3_b7, n3_b7.symm, q4_a, n4_a, n4_a.symm, q4_b0, n4_b0, n4_b0.symm, q4_b7, n4_b7, n4_b7.symm, q4_b8, n4_b8, n4_b8.symm, q5_a, n5_a, n5_a.symm, q5_b0, n5_b0, n5_b0.symm, q5_b7, n5_b7, n5_b7.symm, q5_b8, n5_b8, n5_b8.symm, q5_b9, n5_b9, n5_b9.symm, n6_a, n6_a.symm, n6_b0, n6_b0.symm, n6_b7, n6_b7.symm, n6_b8, n6_b8.symm, n6_b9, n6_b9.symm, n6_b10, n6_b10.symm, q7_a, n7_a, n7_a.symm, q7_b0, n7_b0, n7_b0.symm, q7_b7, n7_b7, n7_b7.symm, q7_b8, n7_b8, n7_b8.symm, q7_b9, n7_b9, n7_b9.symm, q7_b10, n7_b10, n7_b10.symm, q7_b11, n7_b11, n7_b11.symm, n8_a, n8_a.symm, n8_b0, n8_b0.symm, n8_b7, n8_b7.symm, n8_b8, n8_b8.symm, n8_b9, n8_b9.symm, n8_b10, n8_b10.symm, n8_b11, n8_b11.symm, n8_b12, n8_b12.symm, n9_a, n9_a.symm, n9_b0, n9_b0.symm, n9_b7, n9_b7.symm, n9_b8, n9_b8.symm, n9_b9, n9_b9.symm, n9_b10, n9_b10.symm, n9_b11, n9_b11.symm, n9_b12, n9_b12.symm, n9_b13, n9_b13.symm, n10_a, n10_a.symm, n10_b0, n10_b0.symm, n10_b7, n10_b7.symm, n10_b8, n10_b8.symm, n10_b9, n10_b9.symm, n10_b10, n10_b10.symm, n10_b11, n10_b11.symm, n10_b12, n10_b12.symm, n10_b13, n10_b13.symm, n10_b14, n10_b14.symm, n11_a, n11_a.symm, n11_b0, n11_b0.symm, n11_b7, n11_b7.symm, n11_b8, n11_b8.symm, n11_b9, n11_b9.symm, n11_b10, n11_b10.symm, n11_b11, n11_b11.symm, n11_b12, n11_b12.symm, n11_b13, n11_b13.symm, n11_b14, n11_b14.symm, n11_b16, n11_b16.symm], g11_b12, fun k hk => ⟨by simp [mj_p0, mj_p1, mj_p2, mj_h1, mj_z, mj_zz, n1_a, n1_a.symm, n2_a, n2_a.symm, n2_b0, n2_b0.symm, n3_a, n3_a.symm, n3_b0, n3_b0.symm, n3_b7, n3_b7.symm, q4_a, n4_a, n4_a.symm, q4_b0, n4_b0, n4_b0.symm, q4_b7, n4_b7, n4_b7.symm, q4_b8, n4_b8, n4_b8.symm, q5_a, n5_a, n5_a.symm, q5_b0, n5_b0, n5_b0.symm, q5_b7, n5_b7, n5_b7.symm, q5_b8, n5_b8, n5_b8.symm, q5_b9, n5_b9, n5_b9.symm, n6_a, n6_a.symm, n6_b0, n6_b0.symm, n6_b7, n6_b7.symm, n6_b8, n6_b8.symm, n6_b9, n6_b9.symm, n6_b10, n6_b10.symm, q7_a, n7_a, n7_a.symm, q7_b0, n7_b0, n7_b0.symm, q7_b7, n7_b7, n7_b7.symm, q7_b8, n7_b8, n7_b8.symm, q7_b9, n7_b9, n7_b9.symm, q7_b10, n7_b10, n7_b10.symm, q7_b11, n7_b11, n7_b11.symm, n8_a, n8_a.symm, n8_b0, n8_b0.symm, n8_b7, n8_b7.symm, n8_b8, n8_b8.symm, n8_b9, n8_b9.symm, n8_b10, n8_b10.symm, n8_b11, n8_b11.symm, n8_b12, n8_b12.symm, n9_a, n9_a.symm, n9_b0, n9_b0.symm, n9_b7, n9_b7.symm, n9_b8, n9_b8.symm, n9_b9, n9_b9.symm, n9_b10, n9_b10.symm, n9_b11, n9_b11.symm, n9_b12, n9_b12.symm, n9_b13, n9_b13.symm, n10_a, n10_a.symm, n10_b0, n10_b0.symm, n10_b7, n10_b7.symm, n10_b8, n10_b8.symm, n10_b9, n10_b9.symm, n10_b10, n10_b10.symm, n10_b11, n10_b11.symm, n10_b12, n10_b12.symm, n10_b13, n10_b13.symm, n10_b14, n10_b14.symm, n11_a, n11_a.symm, n11_b0, n11_b0.symm, n11_b7, n11_b7.symm, n11_b8, n11_b8.symm, n11_b9, n11_b9.symm, n11_b10, n11_b10.symm, n11_b11, n11_b11.symm, n11_b12, n11_b12.symm, n11_b13, n11_b13.symm, n11_b14, n11_b14.symm, n11_b16, n11_b16.symm, hk], iv_gn f11 (iv_gn f10 (iv_gn f9 (iv_gn f8 (iv_ggr hk) (by decide)) (by decide)) (by decide)) (by decide)⟩⟩, ⟨by simp [mj_p0, mj_p1, mj_p2, mj_h1, mj_z, mj_zz, n1_a, n1_a.symm, n2_a, n2_a.symm, n2_b0, n2_b0.symm, n3_a, n3_a.symm, n3_b0, n3_b0.symm, n3_b7, n3_b7.symm, q4_a, n4_a, n4_a.symm, q4_b0, n4_b0, n4_b0.symm, q4_b7, n4_b7, n4_b7.symm, q4_b8, n4_b8, n4_b8.symm, q5_a, n5_a, n5_a.symm, q5_b0, n5_b0, n5_b0.symm, q5_b7, n5_b7, n5_b7.symm, q5_b8, n5_b8, n5_b8.symm, q5_b9, n5_b9, n5_b9.symm, n6_a, n6_a.symm, n6_b0, n6_b0.symm, n6_b7, n6_b7.symm, n6_b8, n6_b8.symm, n6_b9, n6_b9.symm, n6_b10, n6_b10.symm, q7_a, n7_a, n7_a.symm, q7_b0, n7_b0, n7_b0.symm, q7_b7, n7_b7, n7_b7.symm, q7_b8, n7_b8, n7_b8.symm, q7_b9, n7_b9, n7_b9.symm, q7_b10, n7_b10, n7_b10.symm, q7_b11, n7_b11, n7_b11.symm, n8_a, n8_a.symm, n8_b0, n8_b0.symm, n8_b7, n8_b7.symm, n8_b8, n8_b8.symm, n8_b9, n8_b9.symm, n8_b10, n8_b10.symm, n8_b11, n8_b11.symm, n8_b12, n8_b12.symm, n9_a, n9_a.symm, n9_b0, n9_b0.symm, n9_b7, n9_b7.symm, n9_b8, n9_b8.symm, n9_b9, n9_b9.symm, n9_b10, n9_b10.symm, n9_b11, n9_b11.symm, n9_b12, n9_b12.symm, n9_b13, n9_b13.symm, n10_a, n10_a.symm, n10_b0, n10_b0.symm, n10_b7, n10_b7.symm, n10_b8, n10_b8.symm, n10_b9, n10_b9.symm, n10_b10, n10_b10.symm, n10_b11, n10_b11.symm, n10_b12, n10_b12.symm, n10_b13, n10_b13.symm, n10_b14, n10_b14.symm, n11_a, n11_a.symm, n11_b0, n11_b0.symm, n11_b7, n11_b7.symm, n11_b8, n11_b8.symm, n11_b9, n11_b9.symm, n11_b10, n11_b10.symm, n11_b11, n11_b11.symm, n11_b12, n11_b12.symm, n11_b13, n11_b13.symm, n11_b14, n11_b14.symm, n11_b16, n11_b16.symm], g11_b13⟩, ⟨by simp [mj_p0, mj_p1, mj_p2, mj_h1, mj_z, mj_zz, n1_a, n1_a.symm, n2_a, n2_a.symm, n2_b0, n2_b0.symm, n3_a, n3_a.symm, n3_b0, n3_b0.symm, n3_b7, n3_b7.symm, q4_a, n4_a, n4_a.symm, q4_b0, n4_b0, n4_b0.symm, q4_b7, n4_b7, n4_b7.symm, q4_b8, n4_b8, n4_b8.symm, q5_a, n5_a, n5_a.symm, q5_b0, n5_b0, n5_b0.symm, q5_b7, n5_b7, n5_b7.symm, q5_b8, n5_b8, n5_b8.symm, q5_b9, n5_b9, n5_b9.symm, n6_a, n6_a.symm, n6_b0, n6_b0.symm, n6_b7, n6_b7.symm, n6_b8, n6_b8.symm, n6_b9, n6_b9.symm, n6_b10, n6_b10.symm, q7_a, n7_a, n7_a.symm, q7_b0, n7_b0, n7_b0.symm, q7_b7, n7_b7, n7_b7.symm, q7_b8, n7_b8, n7_b8.symm, q7_b9, n7_b9, n7_b9.symm, q7_b10, n7_b10, n7_b10.symm, q7_b11, n7_b11, n7_b11.symm, n8_a, n8_a.symm, n8_b0, n8_b0.symm, n8_b7, n8_b7.symm, n8_b8, n8_b8.symm, n8_b9, n8_b9.symm, n8_b10, n8_b10.symm, n8_b11, n8_b11.symm, n8_b12, n8_b12.symm, n9_a, n9_a.symm, n9_b0, n9_b0.symm, n9_b7, n9_b7.symm, n9_b8, n9_b8.symm, n9_b9, n9_b9.symm, n9_b10, n9_b10.symm, n9_b11, n9_b11.symm, n9_b12, n9_b12.symm, n9_b13, n9_b13.symm, n10_a, n10_a.symm, n10_b0, n10_b0.symm, n10_b7, n10_b7.symm, n10_b8, n10_b8.symm, n10_b9, n10_b9.symm, n10_b10, n10_b10.symm, n10_b11, n10_b11.symm, n10_b12, n10_b12.symm, n10_b13, n10_b13.symm, n10_b14, n10_b14.symm, n11_a, n11_a.symm, n11_b0, n11_b0.symm, n11_b7, n11_b7.symm, n11_b8, n11_b8.symm, n11_b9, n11_b9.symm, n11_b10, n11_b10.symm, n11_b11, n11_b11.symm, n11_b12, n11_b12.symm, n11_b13, n11_b13.symm, n11_b14, n11_b14.symm, n11_b16, n11_b16.symm], g11_b14⟩, ⟨by simp [mj_p0, mj_p1, mj_p2, mj_h1, mj_z, mj_zz, n1_a, n1_a.symm, n2_a, n2_a.symm, n2_b0, n2_b0.symm, n3_a, n3_a.symm, n3_b0, n3_b0.symm, n3_b7, n3_b7.symm, q4_a, n4_a, n4_a.symm, q4_b0, n4_b0, n4_b0.symm, q4_b7, n4_b7, n4_b7.symm, q4_b8, n4_b8, n4_b8.symm, q5_a, n5_a, n5_a.symm, q5_b0, n5_b0, n5_b0.symm, q5_b7, n5_b7, n5_b7.symm, q5_b8, n5_b8, n5_b8.symm, q5_b9, n5_b9, n5_b9.symm, n6_a, n6_a.symm, n6_b0, n6_b0.symm, n6_b7, n6_b7.symm, n6_b8, n6_b8.symm, n6_b9, n6_b9.symm, n6_b10, n6_b10.symm, q7_a, n7_a, n7_a.symm, q7_b0, n7_b0, n7_b0.symm, q7_b7, n7_b7, n7_b7.symm, q7_b8, n7_b8, n7_b8.symm, q7_b9, n7_b9, n7_b9.symm, q7_b10, n7_b10, n7_b10.symm, q7_b11, n7_b11, n7_b11.symm, n8_a, n8_a.symm, n8_b0, n8_b0.symm, n8_b7, n8_b7.symm, n8_b8, n8_b8.symm, n8_b9, n8_b9.symm, n8_b10, n8_b10.symm, n8_b11, n8_b11.symm, n8_b12, n8_b12.symm, n9_a, n9_a.symm, n9_b0, n9_b0.symm, n9_b7, n9_b7.symm, n9_b8, n9_b8.symm, n9_b9, n9_b9.symm, n9_b10, n9_b10.symm, n9_b11, n9_b11.symm, n9_b12, n9_b12.symm, n9_b13, n9_b13.symm, n10_a, n10_a.symm, n10_b0, n10_b0.symm, n10_b7, n10_b7.symm, n10_b8, n10_b8.symm, n10_b9, n10_b9.symm, n10_b10, n10_b10.symm, n10_b11, n10_b11.symm, n10_b12, n10_b12.symm, n10_b13, n10_b13.symm, n10_b14, n10_b14.symm, n11_a, n11_a.symm, n11_b0, n11_b0.symm, n11_b7, n11_b7.symm, n11_b8, n11_b8.symm, n11_b9, n11_b9.symm, n11_b10, n11_b10.symm, n11_b11, n11_b11.symm, n11_b12, n11_b12.symm, n11_b13, n11_b13.symm, n11_b14, n11_b14.symm, n11_b16, n11_b16.symm], g11_b16⟩, ⟨by simp [mj_p0, mj_p1, mj_p2, mj_h1, mj_z, mj_zz, n1_a, n1_a.symm, n2_a, n2_a.symm, n2_b0, n2_b0.symm, n3_a, n3_a.symm, n3_b0, n3_b0.symm, n3_b7, n3_b7.symm, q4_a, n4_a, n4_a.symm, q4_b0, n4_b0, n4_b0.symm, q4_b7, n4_b7, n4_b7.symm, q4_b8, n4_b8, n4_b8.symm, q5_a, n5_a, n5_a.symm, q5_b0, n5_b0, n5_b0.symm, q5_b7, n5_b7, n5_b7.symm, q5_b8, n5_b8, n5_b8.symm, q5_b9, n5_b9, n5_b9.symm, n6_a, n6_a.symm, n6_b0, n6_b0.symm, n6_b7, n6_b7.symm, n6_b8, n6_b8.symm, n6_b9, n6_b9.symm, n6_b10, n6_b10.symm, q7_a, n7_a, n7_a.symm, q7_b0, n7_b0, n7_b0.symm, q7_b7, n7_b7, n7_b7.symm, q7_b8, n7_b8, n7_b8.symm, q7_b9, n7_b9, n7_b9.symm, q7_b10, n7_b10, n7_b10.symm, q7_b11, n7_b11, n7_b11.symm, n8_a, n8_a.symm, n8_b0, n8_b0.symm, n8_b7, n8_b7.symm, n8_b8, n8_b8.symm, n8_b9, n8_b9.symm, n8_b10, n8_b10.symm, n8_b11, n8_b11.symm, n8_b12, n8_b12.symm, n9_a, n9_a.symm, n9_b0, n9_b0.symm, n9_b7, n9_b7.symm, n9_b8, n9_b8.symm, n9_b9, n9_b9.symm, n9_b10, n9_b10.symm, n9_b11, n9_b11.symm, n9_b12, n9_b12.symm, n9_b13, n9_b13.symm, n10_a, n10_a.symm, n10_b0, n10_b0.symm, n10_b7, n10_b7.symm, n10_b8, n10_b8.symm, n10_b9, n10_b9.symm, n10_b10, n10_b10.symm, n10_b11, n10_b11.symm, n10_b12, n10_b12.symm, n10_b13, n10_b13.symm, n10_b14, n10_b14.symm, n11_a, n11_a.symm, n11_b0, n11_b0.symm, n11_b7, n11_b7.symm, n11_b8, n11_b8.symm, n11_b9, n11_b9.symm, n11_b10, n11_b10.symm, n11_b11, n11_b11.symm, n11_b12, n11_b12.symm, n11_b13, n11_b13.symm, n11_b14, n11_b14.symm, n11_b16, n11_b16.symm], (iv_gs)⟩⟩
  · refine ⟨?_, ?_, ?_, ?_, ?_, ?_, ?_, ?_⟩ <;> simp [mj_p0, mj_p1, mj_p2, mj_h1, mj_z, mj_zz, n1_a, n1_a.symm, n2_a, n2_a.symm, n2_b0, n2_b0.symm, n3_a, n3_a.symm, n3_b0, n3_b0.symm, n3_b7, n3_b7.symm, q4_a, n4_a, n4_a.symm, q4_b0, n4_b0, n4_b0.symm, q4_b7, n4_b7, n4_b7.symm, q4_b8, n4_b8, n4_b8.symm, q5_a, n5_a, n5_a.symm, q5_b0, n5_b0, n5_b0.symm, q5_b7, n5_b7, n5_b7.symm, q5_b8, n5_b8, n5_b8.symm, q5_b9, n5_b9, n5_b9.symm, n6_a, n6_a.symm, n6_b0, n6_b0.symm, n6_b7, n6_b7.symm, n6_b8, n6_b8.symm, n6_b9, n6_b9.symm, n6_b10, n6_b10.symm, q7_a, n7_a, n7_a.symm, q7_b0, n7_b0, n7_b0.symm, q7_b7, n7_b7, n7_b7.symm, q7_b8, n7_b8, n7_b8.symm, q7_b9, n7_b9, n7_b9.symm, q7_b10, n7_b10, n7_b10.symm, q7_b11, n7_b11, n7_b11.symm, n8_a, n8_a.symm, n8_b0, n8_b0.symm, n8_b7, n8_b7.symm, n8_b8, n8_b8.symm, n8_b9, n8_b9.symm, n8_b10, n8_b10.symm, n8_b11, n8_b11.symm, n8_b12, n8_b12.symm, n9_a, n9_a.symm, n9_b0, n9_b0.symm, n9_b7, n9_b7.symm, n9_b8, n9_b8.symm, n9_b9, n9_b9.symm, n9_b10, n9_b10.symm, n9_b11, n9_b11.symm, n9_b12, n9_b12.symm, n9_b13, n9_b13.symm, n10_a, n10_a.symm, n10_b0, n10_b0.symm, n10_b7, n10_b7.symm, n10_b8, n10_b8.symm, n10_b9, n10_b9.symm, n10_b10, n10_b10.symm, n10_b11, n10_b11.symm, n10_b12, n10_b12.symm, n10_b13, n10_b13.symm, n10_b14, n10_b14.symm, n11_a, n11_a.symm, n11_b0, n11_b0.symm, n11_b7, n11_b7.symm, n11_b8, n11_b8.symm, n11_b9, n11_b9.symm, n11_b10, n11_b10.symm, n11_b11, n11_b11.symm, n11_b12, n11_b12.symm, n11_b13, n11_b13.symm, n11_b14, n11_b14.symm, n11_b16, n11_b16.symm]
