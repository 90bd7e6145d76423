/-! ===== rows of new int[n][m] in the heap typing ===== -/
theorem iv_nge {G : mj_G} {a x t' n' : Nat} (ha : ∀ x, a ≤ x → G x = (0, 0)) (hx : G x = (t', n')) (ht : t' ≠ 0) : ¬ a ≤ x := fun q => ht (by have := ha x q; rw [hx] at this; exact (Prod.mk.inj this).1)
theorem iv_ggn {G : mj_G} {a t n t2 m x t' n' : Nat} (ha : ∀ x, a ≤ x → G x = (0, 0)) (hx : G x = (t', n')) (ht : t' ≠ 0) : mj_gg G a t n t2 m x = (t', n') := by
  have h := iv_nge ha hx ht
  unfold mj_gg
  rw [if_neg (fun q => h (by omega)), if_neg (fun q => h (by omega))]
  exact hx
theorem iv_ggs {G : mj_G} {a t n t2 m : Nat} : mj_gg G a t n t2 m a = (t, n) := by simp [mj_gg]
theorem iv_ggr {G : mj_G} {a t n t2 m k : Nat} (hk : k < n) : mj_gg G a t n t2 m (a + 1 + k) = (t2, m) := by
  unfold mj_gg
  rw [if_neg (by omega), if_pos ⟨by omega, by omega⟩]
