/-! ===== the whole invariant with CONTRACTS ===== -/
section ZX
variable {G : mj_G} {M M' : mj_M} {x m tp s kp bc bt kc kr : Nat} {w : Nat → Nat} {c c' : Int}
def lp_Z (G : mj_G) (M : mj_M) (x m tp s kp bc bt kc kr : Nat) (w : Nat → Nat) (c : Int) : Prop := lp_Y G M x m tp s kp bc bt kc kr w c ∧ lq_D G M s kp kc w
theorem lp_Z.le (h : lp_Z G M x m tp s kp bc bt kc kr w c) (hc : c ≤ c') : lp_Z G M x m tp s kp bc bt kc kr w c' := ⟨h.1.le hc, h.2⟩
theorem lp_Z.mv (h : lp_Z G M x m tp s kp bc bt kc kr w c) (e1 : M'.1 = M.1) (e2 : M'.2.2 = M.2.2) (e3 : ∀ y k, (G y).1 ≠ 90103 → M'.2.1 y k = M.2.1 y k) : lp_Z G M' x m tp s kp bc bt kc kr w c := ⟨h.1.mv e1 e2 e3, h.2.mv e1 e2⟩
theorem sz_headD {w : sx_w} {h : sx_H} {G : mj_G} {M : mj_M} (hR : sx_RH w h G M) (k2 : sz_hk h = true) (hA : lq_A (sz_G w h G) w.2.2.2) : lq_D (sz_G w h G) (sz_M w h G M) (w.2.2.2 338) (w.2.2.2 357) (w.2.2.2 120) w.2.2.2 := by
  have n1 := (sz_hk_s k2).1
  obtain ⟨ya, yb, -, -, -⟩ := sz_hy_s k2
  have tg : ∀ i t n, (i, t, n) ∈ sz_lt → sz_G w h G (w.2.2.2 i) = (t, n) := fun i t n he => sz_tg_s (yb (i, t, n) he) hR (by have := sz_lt_lt _ he; omega)
  have rq : ∀ i k j, (i, k, j) ∈ sz_lr → (sz_M w h G M).2.2 (w.2.2.2 i) k = some (w.2.2.2 j) := fun i k j he => sz_rq_s (ya (i, k, j) he) hR (by have := (sz_lr_lt _ he).1; omega) (sz_lr_lt _ he).2
  have c0 : (sz_M w h G M).1 (w.2.2.2 120) 0 = 0 := sz_q_s hR k2 (by decide +kernel)
  have c1 : (sz_M w h G M).1 (w.2.2.2 120) 1 = 0 := sz_q_s hR k2 (by decide +kernel)
  have s0 : ∀ j, j < 37 → (sz_M w h G M).1 (w.2.2.2 338) (184 + j) = 0 := fun j hj => sz_q_s hR k2 ((by decide +kernel : ∀ j, j < 37 → sz_q 338 (184 + j) = true) j hj)
  have z3 : ∀ j, j < 12 → (sz_M w h G M).1 (w.2.2.2 55) j = 0 := fun j hj => sz_q_s hR k2 ((by decide +kernel : ∀ j, j < 12 → sz_q 55 j = true) j hj)
  have d3 : (sz_M w h G M).1 (w.2.2.2 52) 3 = 0 := sz_q_s hR k2 (by decide +kernel)
  have f1 : ∀ j, j < 12 → (sz_M w h G M).1 (w.2.2.2 53) j = -1 := fun j hj => sz_iv_s ((sz_hz_s k2).2 (53, j, -1) ((by decide +kernel : ∀ j, j < 12 → (53, j, (-1 : Int)) ∈ sz_lv) j hj)) hR (by omega) (by omega) (by
    have g := tg 53 16100 12 (by decide +kernel)
    rw [sz_G_in (by omega)] at g
    rw [g]
    exact (by decide : ∀ j, j < 12 → j < sz_bd 16100 12) j hj)
  have f2 : ∀ j, j < 12 → (sz_M w h G M).1 (w.2.2.2 54) j = -1 := fun j hj => sz_iv_s ((sz_hz_s k2).2 (54, j, -1) ((by decide +kernel : ∀ j, j < 12 → (54, j, (-1 : Int)) ∈ sz_lv) j hj)) hR (by omega) (by omega) (by
    have g := tg 54 17100 12 (by decide +kernel)
    rw [sz_G_in (by omega)] at g
    rw [g]
    exact (by decide : ∀ j, j < 12 → j < sz_bd 17100 12) j hj)
  refine ⟨fun D hD => ?_, ⟨fun D hD => ?_, fun k hk => ?_⟩, ⟨52, 97, ⟨rq _ _ _ (by decide +kernel), rq _ _ _ (by decide +kernel), Or.inl ⟨rfl, rfl⟩⟩, fun j hj => ?_, ?_⟩, fun k hk h0 => ?_⟩
  · rcases lq_Dl4 hD with z | z | z | z <;> subst z <;> exact ⟨tg _ _ _ (by decide +kernel), tg _ _ _ (by decide +kernel), tg _ _ _ (by decide +kernel), tg _ _ _ (by decide +kernel)⟩
  · rcases lq_Dl4 hD with z | z | z | z <;> subst z <;> exact ⟨rq _ _ _ (by decide +kernel), rq _ _ _ (by decide +kernel), rq _ _ _ (by decide +kernel)⟩
  · rcases (by omega : k = 0 ∨ k = 1) with z | z <;> subst z
    · exact rq 246 1 269 (by decide +kernel)
    · exact rq 291 1 314 (by decide +kernel)
  · have a1 := s0 (3 * j) (by omega)
    have a2 := s0 (3 * j + 1) (by omega)
    have a3 := s0 (3 * j + 2) (by omega)
    rw [Nat.zero_add, Nat.zero_add, Nat.zero_add, a1, show 185 + 3 * j = 184 + (3 * j + 1) by omega, a2, show 186 + 3 * j = 184 + (3 * j + 2) by omega, a3]
    exact ⟨f1 j hj, f2 j hj, z3 j hj⟩
  · rw [Nat.zero_add]; exact d3.trans (s0 36 (by decide)).symm
  · exfalso
    rcases (by omega : k = 0 ∨ k = 1) with z | z <;> subst z
    · exact h0 c0
    · exact h0 c1
end ZX
