/-! ===== what a PLAIN's numbers are within ===== -/
/-- what a PLAIN's numbers are within -/
def rv_r4 (H : Nat → Int) (o : Nat) : Prop := (0 ≤ H o ∧ H o ≤ 8) ∧ (0 ≤ H (o + 1) ∧ H (o + 1) ≤ 99) ∧ (0 ≤ H (o + 2) ∧ H (o + 2) ≤ 999) ∧ (1 ≤ H (o + 3) ∧ H (o + 3) ≤ 12) ∧ (∀ t v, t < 8 → v < 9 → 0 ≤ H (o + (4 + 9 * t + v)) ∧ H (o + (4 + 9 * t + v)) ≤ 999 ∧ ((t : Int) < H o ∨ H (o + (4 + 9 * t + v)) = 0)) ∧ (∀ v, v < 12 → 0 ≤ H (o + (76 + v)) ∧ H (o + (76 + v)) ≤ 999)
theorem rv_r4.cg {H H' : Nat → Int} {o o' : Nat} (h : rv_r4 H o) (e : ∀ k, k < 88 → H' (o' + k) = H (o + k)) : rv_r4 H' o' := by
  obtain ⟨h1, h2, h3, h4, h5, h6⟩ := h
  have e0 : H' o' = H o := e 0 (by decide)
  refine ⟨by rw [e0]; exact h1, by rw [e 1 (by decide)]; exact h2, by rw [e 2 (by decide)]; exact h3, by rw [e 3 (by decide)]; exact h4, fun t v ht hv => ?_, fun v hv => ?_⟩
  · rw [e0, e _ (by omega)]; exact h5 t v ht hv
  · rw [e _ (by omega)]; exact h6 v hv
theorem rv_r4.of {H PL WA : Nat → Int} {TO BI : Nat → Nat → Int} (h : rv_H H PL WA TO BI) (r : rv_ps PL WA TO BI) : rv_r4 H 0 := by
  obtain ⟨q1, q2, q3, q4, q5, q6, -⟩ := h
  obtain ⟨a1, a2, a3, a4, a5, a6, a7, a8, a9⟩ := r
  refine ⟨by rw [q1]; exact a1, by rw [Nat.zero_add, q2]; exact a3, by rw [Nat.zero_add, q3]; exact a4, by rw [Nat.zero_add, q4]; exact a5, fun t v ht hv => ?_, fun v hv => ?_⟩
  · rw [Nat.zero_add, q5 t v ht hv, q1]; exact a6 t v ht hv
  · rw [Nat.zero_add, q6 v hv]; exact a7 v hv
