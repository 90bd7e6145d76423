/-! ===== what is left to pay at least ===== -/
def cs_bk (b : Nat → Bool) (a : Nat) : Nat → Nat
  | 0 => 0
  | n + 1 => if b n = true then max (cs_bk b a n) (a - n) else cs_bk b a n
def cs_ah (b : Nat → Bool) (a : Nat) : Nat → Nat
  | 0 => 0
  | n + 1 => if b n = true then max (cs_ah b a n) (n - a) else cs_ah b a n
def cs_tp (H : Nat → Int) (b : Nat → Bool) (a : Nat) : Nat → Int
  | 0 => 0
  | n + 1 => cs_tp H b a n + (if b n = true ∧ n ≠ a then H (10 + 9 * n) else 0)
def cs_far (b : Nat → Bool) (a n : Nat) : Nat := cs_bk b a n + cs_ah b a n + min (cs_bk b a n) (cs_ah b a n)
def cs_LB (H : Nat → Int) (b : Nat → Bool) (a : Nat) : Int := cs_tp H b a (cs_t H) + H 1 * (cs_far b a (cs_t H) : Nat)
theorem cs_bk_eq {b b' : Nat → Bool} {a : Nat} : ∀ n, (∀ j, j < n → j ≠ a → b j = b' j) → cs_bk b a n = cs_bk b' a n
  | 0, _ => rfl
  | n + 1, h => by
    show (if b n = true then max (cs_bk b a n) (a - n) else cs_bk b a n) = (if b' n = true then max (cs_bk b' a n) (a - n) else cs_bk b' a n)
    rw [cs_bk_eq n (fun j hj => h j (by omega))]
    by_cases e : n = a
    · split <;> split <;> omega
    · rw [h n (by omega) e]
theorem cs_ah_eq {b b' : Nat → Bool} {a : Nat} : ∀ n, (∀ j, j < n → j ≠ a → b j = b' j) → cs_ah b a n = cs_ah b' a n
  | 0, _ => rfl
  | n + 1, h => by
    show (if b n = true then max (cs_ah b a n) (n - a) else cs_ah b a n) = (if b' n = true then max (cs_ah b' a n) (n - a) else cs_ah b' a n)
    rw [cs_ah_eq n (fun j hj => h j (by omega))]
    by_cases e : n = a
    · split <;> split <;> omega
    · rw [h n (by omega) e]
theorem cs_tp_eq {H : Nat → Int} {b b' : Nat → Bool} {a : Nat} : ∀ n, (∀ j, j < n → j ≠ a → b j = b' j) → cs_tp H b a n = cs_tp H b' a n
  | 0, _ => rfl
  | n + 1, h => by
    show cs_tp H b a n + _ = cs_tp H b' a n + _
    rw [cs_tp_eq n (fun j hj => h j (by omega))]
    by_cases e : n = a
    · rw [if_neg (fun q => q.2 e), if_neg (fun q => q.2 e)]
    · rw [h n (by omega) e]
theorem cs_far_tri (b : Nat → Bool) (a i : Nat) : ∀ n, n ≤ 3 → (cs_far b a n : Int) ≤ cs_d a i + (cs_far b i n : Nat)
  | 0, _ => by
    have := cs_d_0 a i
    show ((0 : Nat) : Int) ≤ cs_d a i + ((0 : Nat) : Int)
    omega
  | 1, _ => by
    unfold cs_far cs_bk cs_ah cs_bk cs_ah cs_d
    split <;> split <;> omega
  | 2, _ => by
    unfold cs_far cs_bk cs_ah cs_bk cs_ah cs_bk cs_ah cs_d
    cases b 0 <;> cases b 1 <;> simp only [if_true, if_false, Bool.false_eq_true] <;> split <;> omega
  | 3, _ => by
    unfold cs_far cs_bk cs_ah cs_bk cs_ah cs_bk cs_ah cs_bk cs_ah cs_d
    cases b 0 <;> cases b 1 <;> cases b 2 <;> simp only [if_true, if_false, Bool.false_eq_true] <;> split <;> omega
  | n + 4, h => absurd h (by omega)
section CL
variable {H : Nat → Int}
theorem cs_tp_0 (h : cs_ok H) (b : Nat → Bool) (a : Nat) : ∀ n, n ≤ cs_t H → 0 ≤ cs_tp H b a n
  | 0, _ => Int.le_refl _
  | n + 1, hn => by
    have h1 := cs_tp_0 h b a n (by omega)
    have h2 := h.2 n (by omega)
    show 0 ≤ cs_tp H b a n + _
    split <;> omega
theorem cs_tp_tri (h : cs_ok H) (b : Nat → Bool) (a i : Nat) : ∀ n, n ≤ cs_t H → cs_tp H b a n ≤ (if i < n ∧ a ≠ i then H (10 + 9 * i) else 0) + cs_tp H b i n
  | 0, _ => by
    show (0 : Int) ≤ (if i < 0 ∧ a ≠ i then H (10 + 9 * i) else 0) + 0
    rw [if_neg (by omega)]; omega
  | n + 1, hn => by
    have h1 := cs_tp_tri h b a i n (by omega)
    have h2 := h.2 n (by omega)
    show cs_tp H b a n + (if b n = true ∧ n ≠ a then H (10 + 9 * n) else 0) ≤ _ + (cs_tp H b i n + (if b n = true ∧ n ≠ i then H (10 + 9 * n) else 0))
    by_cases e : n = i
    · subst e
      rw [if_neg (show ¬ (n < n ∧ a ≠ n) by omega)] at h1
      rw [if_neg (show ¬ (b n = true ∧ n ≠ n) from fun q => q.2 rfl)]
      by_cases e2 : a = n
      · rw [if_neg (show ¬ (b n = true ∧ n ≠ a) from fun q => q.2 e2.symm), if_neg (show ¬ (n < n + 1 ∧ a ≠ n) from fun q => q.2 e2)]; omega
      · rw [if_pos (show n < n + 1 ∧ a ≠ n from ⟨by omega, e2⟩)]
        split <;> omega
    · have e3 : (i < n + 1 ∧ a ≠ i) ↔ (i < n ∧ a ≠ i) := ⟨fun q => ⟨by omega, q.2⟩, fun q => ⟨by omega, q.2⟩⟩
      have e5 : (if i < n + 1 ∧ a ≠ i then H (10 + 9 * i) else 0) = (if i < n ∧ a ≠ i then H (10 + 9 * i) else 0) := by
        by_cases q : i < n ∧ a ≠ i
        · rw [if_pos q, if_pos (e3.mpr q)]
        · rw [if_neg q, if_neg (fun z => q (e3.mp z))]
      rw [e5]
      by_cases e4 : b n = true
      · rw [if_pos (show b n = true ∧ n ≠ i from ⟨e4, e⟩)]
        split <;> omega
      · rw [if_neg (show ¬ (b n = true ∧ n ≠ a) from fun q => e4 q.1), if_neg (show ¬ (b n = true ∧ n ≠ i) from fun q => e4 q.1)]; omega
def cs_b (L : Nat → Int) : Nat → Bool := fun j => decide (0 < L j)
theorem cs_LB_le (h : cs_ok H) (ht : cs_t H ≤ 3) : ∀ (r m a : Nat) (L : Nat → Int) (c : Int), cs_le (cs_S H r m a L) c → cs_LB H (cs_b L) a ≤ c
  | 0, m, a, L, c, g => by
    obtain ⟨g, hc⟩ := cs_S0_le.mp g
    have e : ∀ j, j < cs_t H → j ≠ a → cs_b L j = (fun _ => false) j := fun j hj _ => decide_eq_false (by have := g j hj; omega)
    unfold cs_LB cs_far
    rw [cs_tp_eq _ e, cs_bk_eq _ e, cs_ah_eq _ e]
    have z1 : ∀ n, cs_tp H (fun _ => false) a n = 0 := by
      intro n
      induction n with
      | zero => rfl
      | succ n ih => show cs_tp H _ a n + _ = 0; rw [ih, if_neg (fun q => by cases q.1)]; rfl
    have z2 : ∀ n, cs_bk (fun _ => false) a n = 0 := by
      intro n
      induction n with
      | zero => rfl
      | succ n ih => exact ih
    have z3 : ∀ n, cs_ah (fun _ => false) a n = 0 := by
      intro n
      induction n with
      | zero => rfl
      | succ n ih => exact ih
    rw [z1, z2, z3]
    show (0 : Int) + H 1 * ((0 : Nat) : Int) ≤ c
    rw [show ((0 : Nat) : Int) = 0 from rfl, Int.mul_zero]; omega
  | r + 1, m, a, L, c, g => by
    obtain ⟨i, hi, g⟩ := cs_S1_le.mp g
    have h1 := cs_LB_le h ht r (m + 1) i _ _ g
    have e : ∀ j, j < cs_t H → j ≠ i → cs_b (cs_lk H L i m) j = cs_b L j := fun j _ hj => by
      unfold cs_b cs_lk
      rw [if_neg hj]
    unfold cs_LB cs_far at h1
    rw [cs_tp_eq _ e, cs_bk_eq _ e, cs_ah_eq _ e] at h1
    have h2 := cs_tp_tri h (cs_b L) a i (cs_t H) (Nat.le_refl _)
    have h3 := Int.mul_le_mul_of_nonneg_left (cs_far_tri (cs_b L) a i (cs_t H) ht) h.1
    rw [Int.mul_add] at h3
    unfold cs_cost at h1
    unfold cs_LB
    have h4 : cs_tp H (cs_b L) i (cs_t H) + H 1 * (cs_far (cs_b L) i (cs_t H) : Nat) ≤ c - (H 1 * cs_d a i + if i < cs_t H ∧ a ≠ i then H (10 + 9 * i) else 0) := h1
    omega
end CL
