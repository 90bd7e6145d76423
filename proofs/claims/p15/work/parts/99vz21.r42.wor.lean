/-! ===== worth of the class, as the invariant sees it ===== -/
section WQ
variable {G : mj_G} {M M' : mj_M} {w : Nat → Nat} {x s kp kc p q R : Nat} {z1 : Int}
theorem lq_u.E6 (hA : lq_A G w) (hq : q ∈ lq_Ps) (hR : R ∈ lq_Ps) (hne : R ≠ q) (u : lq_u G w q M M') : lq_E6 w R M M' := by
  obtain ⟨g1, g2, g3, g4, g5, g6, g7⟩ := hA.2.1 R hR
  have h4 := lq_P4 hq
  have h5 := lq_P4 hR
  have key : ∀ v, R ≤ v → v < R + 22 → rv_no (G (w v)).1 → M'.1 (w v) = M.1 (w v) := by
    intro v h1 h2 hn
    refine u.2.1 _ hn (fun j hj e => ?_)
    have := hA.1 _ _ (by omega) (by omega) e
    omega
  have k0 : M'.1 (w R) = M.1 (w R) := key R (by omega) (by omega) (by rw [g1]; unfold rv_no; decide)
  refine ⟨⟨⟨by rw [k0], by rw [k0], by rw [k0], by rw [k0]⟩, fun t v ht hv => ?_, fun v hv => ?_⟩, by rw [k0], fun t v ht hv => ?_⟩
  · rw [key (R + 3 + t) (by omega) (by omega) (by rw [g6 t ht]; unfold rv_no; decide)]
  · rw [key (R + 20) (by omega) (by omega) (by rw [g5]; unfold rv_no; decide)]
  · rw [key (R + 12 + t) (by omega) (by omega) (by rw [g7 t ht]; unfold rv_no; decide)]
theorem lq_wor (hI : ab_Inv G M) (gx : G x = (1011, 0)) (hJ : lq_J G M x s kp kc w) : mj_R mj_tab 40 157 [.inr (.inr (some x)), .inl z1] G M (fun _ G' M' => G' = G ∧ (M'.1 s = M.1 s → M'.1 kp = M.1 kp → M'.1 kc = M.1 kc → lq_J G M' x s kp kc w) ∧ ∃ p q, lq_N M w p q ∧ lq_N M' w p q ∧ ∀ a k, (G a).1 % 1000 = 103 → a ≠ w (q + 1) → M'.2.1 a k = M.2.1 a k) := by
  obtain ⟨hA, hB, p, q, hN, h1, h2⟩ := hJ
  refine r_X11_worth4 hI gx hA hB hN (fun z M' u => ⟨rfl, fun es ek ec => ?_, p, q, hN, ⟨(u.1 _ _ (lq_no29 hA).1).trans hN.1, (u.1 _ _ (lq_no29 hA).2).trans hN.2.1, hN.2.2⟩, u.2.2⟩)
  have hq := hN.qin
  have nq : ∀ k, lq_ip k ≠ q := fun k => by
    rcases hN.2.2 with ⟨-, rfl⟩ | ⟨-, rfl⟩ <;> (unfold lq_ip; split <;> decide)
  refine ⟨hA, hB.no hA gx u.1, p, q, ⟨(u.1 _ _ (lq_no29 hA).1).trans hN.1, (u.1 _ _ (lq_no29 hA).2).trans hN.2.1, hN.2.2⟩, ?_, fun k hk h0 => ?_⟩
  · rw [es]; exact h1.cg (u.E6 hA hq.1 hN.pin.1 hq.2) (fun _ _ => rfl)
  · rw [ec] at h0; rw [ek]
    exact (h2 k hk h0).cg (u.E6 hA hq.1 (lq_ip_in k) (nq k)) (fun _ _ => rfl)
end WQ
