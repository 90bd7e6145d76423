/-! ===== the PLAINS at the loop's head ===== -/
/-- the PLAIN of cell P against numbers from o on (towns, move, fish, patience, what is told, WATER; no bids) -/
def rv_G4 (H : Nat → Int) (o : Nat) (w : Nat → Nat) (P : Nat) (M : mj_M) : Prop := H o = M.1 (w P) 4 ∧ H (o + 1) = M.1 (w P) 6 ∧ H (o + 2) = M.1 (w P) 7 ∧ H (o + 3) = M.1 (w P) 8 ∧ (∀ t v, t < 8 → v < 9 → H (o + (4 + 9 * t + v)) = M.1 (w (P + 3 + t)) v) ∧ (∀ v, v < 12 → H (o + (76 + v)) = M.1 (w (P + 20)) v)
theorem sz_ref3 {w : sx_w} {h : sx_H} {G : mj_G} {M : mj_M} {i k j : Nat} (hR : sx_RH w h G M) (hi : i < h.1) (h4 : k < 4096) (e : sx_g (sx_g h.2 i).2.2.2.2 k = some j) : M.2.2 (w.2.2.2 i) k = some (w.2.2.2 j) := by
  have r := ((hR.2.2.1 i hi).2.2 k h4).2.2
  rw [e] at r
  exact r.2
theorem sz_i3_s {w : sx_w} {h : sx_H} {G : mj_G} {M : mj_M} {i k : Nat} (hk : sz_i3 h i k = true) (hR : sx_RH w h G M) (hi : i < h.1) (h4 : k < 4096) (hb : k < sz_bd (G (w.2.2.2 i)).1 (G (w.2.2.2 i)).2) : (sz_M w h G M).1 (w.2.2.2 i) k = 3 := by
  unfold sz_i3 at hk
  rw [sx_cl_eq] at hk
  have c := ((hR.2.2.1 i hi).2.2 k h4).1
  have e : sx_g (sx_g h.2 i).2.2.1 k = .inl 3 := by
    cases e : sx_g (sx_g h.2 i).2.2.1 k with
    | inl z =>
      rw [e] at hk
      have hk : z = 3 := sx_eq_iff.mp hk
      rw [hk]
    | inr z => rw [e] at hk; cases hk
  rw [e] at c
  rw [sz_M_in hi hb]; exact (show (3 : Int) = _ from c).symm
theorem sz_lr_lt : ∀ e ∈ sz_lr, e.1 < 361 ∧ e.2.1 < 4096 := by decide +kernel
theorem sz_lt_lt : ∀ e ∈ sz_lt, e.1 < 361 := by decide +kernel
theorem sz_lz_lt : ∀ e ∈ sz_lz, e.1 < 361 ∧ e.2 < 4096 := by decide +kernel
theorem sz_head3 {w : sx_w} {h : sx_H} {G : mj_G} {M : mj_M} (hR : sx_RH w h G M) (k2 : sz_hk h = true) : lq_A (sz_G w h G) w.2.2.2 ∧ lq_B (sz_M w h G M) w.2.2.2 (w.2.2.2 26) ∧ lq_N (sz_M w h G M) w.2.2.2 30 75 ∧ rv_G4 ((sz_M w h G M).1 (w.2.2.2 338)) 0 w.2.2.2 30 (sz_M w h G M) := by
  have n1 := (sz_hk_s k2).1
  obtain ⟨ya, yb, yc, y3, y4⟩ := sz_hy_s k2
  have d1 := (sz_hx_s k2).1
  have tg : ∀ i t n, (i, t, n) ∈ sz_lt → sz_G w h G (w.2.2.2 i) = (t, n) := fun i t n he => sz_tg_s (yb (i, t, n) he) hR (by have := sz_lt_lt _ he; omega)
  have rq : ∀ i k j, (i, k, j) ∈ sz_lr → (sz_M w h G M).2.2 (w.2.2.2 i) k = some (w.2.2.2 j) := fun i k j he => sz_rq_s (ya (i, k, j) he) hR (by have := (sz_lr_lt _ he).1; omega) (sz_lr_lt _ he).2
  have zr : ∀ i k, (i, k) ∈ sz_lz → (sz_M w h G M).1 (w.2.2.2 i) k = 0 := fun i k he => sz_ik_s (yc (i, k) he) hR (by have := (sz_lz_lt _ he).1; omega) (sz_lz_lt _ he).2
  have rows : ∀ i, i < 361 → sz_G w h G (w.2.2.2 i) = (25104, 8) ∨ sz_G w h G (w.2.2.2 i) = (27104, 8) → ∀ t, t < 8 → (sz_M w h G M).2.2 (w.2.2.2 i) t = some (w.2.2.2 (i + 1 + t)) := by
    intro i hi hg t ht
    have hi2 : i < h.1 := by omega
    have e : (sx_g h.2 i).1 = 25104 ∨ (sx_g h.2 i).1 = 27104 := by
      rw [sz_G_in hi2, (hR.2.2.1 i hi2).1] at hg
      exact hg.imp (congrArg Prod.fst) (congrArg Prod.fst)
    show M.2.2 (w.2.2.2 i) t = some (w.2.2.2 (i + 1 + t))
    exact sz_ref3 hR hi2 (by omega) ((sz_d1_s (d1 i hi)).2.1 e t ht)
  have f8 : ∀ (P : Nat → Prop), (∀ t : Fin 8, P t.val) → ∀ t, t < 8 → P t := fun P hP t ht => hP ⟨t, ht⟩
  have hA : lq_A (sz_G w h G) w.2.2.2 := by
    refine ⟨fun i j hi hj e => hR.2.2.2 i j (by omega) (by omega) e, fun P hP => ?_, tg _ _ _ (by decide +kernel), tg _ _ _ (by decide +kernel), tg _ _ _ (by decide +kernel), tg _ _ _ (by decide +kernel), tg _ _ _ (by decide +kernel)⟩
    rcases lq_P4 hP with rfl | rfl | rfl | rfl
    all_goals
      refine ⟨tg _ _ _ (by decide +kernel), tg _ _ _ (by decide +kernel), tg _ _ _ (by decide +kernel), tg _ _ _ (by decide +kernel), tg _ _ _ (by decide +kernel), fun t ht => ?_, fun t ht => ?_⟩
      · exact tg _ _ _ (f8 (fun t => (_ + 3 + t, 26100, 9) ∈ sz_lt) (by decide +kernel) t ht)
      · exact tg _ _ _ (f8 (fun t => (_ + 12 + t, 28100, 12) ∈ sz_lt) (by decide +kernel) t ht)
  refine ⟨hA, ⟨fun P hP => ?_, rq _ _ _ (by decide +kernel), rq _ _ _ (by decide +kernel), rq _ _ _ (by decide +kernel), rq _ _ _ (by decide +kernel), rq _ _ _ (by decide +kernel), rq _ _ _ (by decide +kernel), rq _ _ _ (by decide +kernel)⟩, ⟨rq _ _ _ (by decide +kernel), rq _ _ _ (by decide +kernel), Or.inl ⟨rfl, rfl⟩⟩, ?_⟩
  · have h4 := lq_P4 hP
    obtain ⟨-, -, g3, g4, -⟩ := hA.2.1 P hP
    refine ⟨?_, ?_, ?_, ?_, fun t ht => rows _ (by omega) (Or.inl g3) t ht, fun t ht => rows _ (by omega) (Or.inr g4) t ht⟩
    all_goals
      rcases h4 with rfl | rfl | rfl | rfl <;> exact rq _ _ _ (by decide +kernel)
  · have b3 : (sz_M w h G M).1 (w.2.2.2 30) 8 = 3 := sz_i3_s y3 hR (by omega) (by decide) (by
      have g := tg 30 1004 0 (by decide +kernel)
      rw [sz_G_in (by omega)] at g
      rw [g]; decide)
    have s3 : (sz_M w h G M).1 (w.2.2.2 338) 3 = 3 := sz_i3_s y4 hR (by omega) (by decide) (by
      have g := sz_tg_s (sz_hk_s k2).2.2.1.2.2.2.1 hR (by omega)
      rw [sz_G_in (by omega)] at g
      rw [g]; decide)
    have zs : ∀ k, k < 88 → k ≠ 3 → (sz_M w h G M).1 (w.2.2.2 338) k = 0 := by
      intro k hk h3
      have key : ∀ k : Fin 88, k.val ≠ 3 → (338, k.val) ∈ sz_lz := by decide +kernel
      exact zr 338 k (key ⟨k, hk⟩ h3)
    have zt : ∀ t v, t < 8 → v < 9 → (sz_M w h G M).1 (w.2.2.2 (30 + 3 + t)) v = 0 := by
      intro t v ht hv
      have key : ∀ (t : Fin 8) (v : Fin 9), (30 + 3 + t.val, v.val) ∈ sz_lz := by decide +kernel
      exact zr _ _ (key ⟨t, ht⟩ ⟨v, hv⟩)
    have zw : ∀ v, v < 12 → (sz_M w h G M).1 (w.2.2.2 (30 + 20)) v = 0 := by
      intro v hv
      have key : ∀ v : Fin 12, (30 + 20, v.val) ∈ sz_lz := by decide +kernel
      exact zr _ _ (key ⟨v, hv⟩)
    refine ⟨?_, ?_, ?_, ?_, fun t v ht hv => ?_, fun v hv => ?_⟩
    · rw [zs 0 (by decide) (by decide), zr 30 4 (by decide +kernel)]
    · rw [zs 1 (by decide) (by decide), zr 30 6 (by decide +kernel)]
    · rw [zs 2 (by decide) (by decide), zr 30 7 (by decide +kernel)]
    · rw [s3, b3]
    · rw [zs _ (by omega) (by omega), zt t v ht hv]
    · rw [zs _ (by omega) (by omega), zw v hv]
