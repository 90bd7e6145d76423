/-! ===== what all months bring at most, each to its best town ===== -/
def cs_sum (L : Nat → Int) : Nat → Int
  | 0 => 0
  | n + 1 => cs_sum L n + max 0 (L n)
def cs_most (H : Nat → Int) (m : Nat) : Nat → Int
  | 0 => 0
  | n + 1 => max (cs_most H m n) (cs_gain H n m)
def cs_bestof (H : Nat → Int) : Nat → Nat → Int
  | 0, _ => 0
  | r + 1, m => cs_bestof H r (m + 1) + cs_most H m (cs_t H)
section CB
variable {H : Nat → Int}
theorem cs_most_0 (m : Nat) : ∀ n, 0 ≤ cs_most H m n
  | 0 => Int.le_refl _
  | n + 1 => by
    have := cs_most_0 m n
    show 0 ≤ max (cs_most H m n) (cs_gain H n m)
    omega
theorem cs_most_le (m : Nat) : ∀ n k, k < n → cs_gain H k m ≤ cs_most H m n
  | 0, k, h => absurd h (Nat.not_lt_zero _)
  | n + 1, k, h => by
    show _ ≤ max (cs_most H m n) (cs_gain H n m)
    by_cases e : k = n
    · subst e; omega
    · have := cs_most_le m n k (by omega)
      omega
theorem cs_sum_lk (L : Nat → Int) (i m : Nat) : ∀ n, cs_sum L n ≤ cs_sum (cs_lk H L i m) n + (if i < n then cs_gain H i m else 0)
  | 0 => by
    rw [if_neg (by omega)]
    show (0 : Int) ≤ 0 + 0
    omega
  | n + 1 => by
    have h := cs_sum_lk L i m n
    have g := cs_gain_0 (H := H) i m
    show cs_sum L n + max 0 (L n) ≤ cs_sum (cs_lk H L i m) n + max 0 (cs_lk H L i m n) + _
    by_cases e : n = i
    · subst e
      have : cs_lk H L n m n = L n - cs_gain H n m := if_pos rfl
      rw [this]
      rw [if_neg (by omega)] at h
      rw [if_pos (by omega)]
      omega
    · have : cs_lk H L i m n = L n := if_neg e
      rw [this]
      by_cases e2 : i < n
      · rw [if_pos e2] at h
        rw [if_pos (by omega)]
        omega
      · rw [if_neg e2] at h
        rw [if_neg (by omega)]
        omega
theorem cs_sum_np {L : Nat → Int} : ∀ n, (∀ k, k < n → L k ≤ 0) → cs_sum L n = 0
  | 0, _ => rfl
  | n + 1, h => by
    have := h n (by omega)
    show cs_sum L n + max 0 (L n) = 0
    rw [cs_sum_np n (fun k hk => h k (by omega))]
    omega
theorem cs_can2 : ∀ (r m a : Nat) (L : Nat → Int) (c : Int), cs_le (cs_S H r m a L) c → cs_sum L (cs_t H) ≤ cs_bestof H r m
  | 0, m, a, L, c, g => by
    rw [cs_sum_np _ (cs_S0_le.mp g).1]
    exact Int.le_refl _
  | r + 1, m, a, L, c, g => by
    obtain ⟨i, hi, g⟩ := cs_S1_le.mp g
    have h := cs_can2 r (m + 1) i _ _ g
    have h2 := cs_sum_lk (H := H) L i m (cs_t H)
    have h3 := cs_most_0 (H := H) m (cs_t H)
    show _ ≤ cs_bestof H r (m + 1) + cs_most H m (cs_t H)
    by_cases e : i < cs_t H
    · rw [if_pos e] at h2
      have := cs_most_le (H := H) m (cs_t H) i e
      omega
    · rw [if_neg e] at h2
      omega
theorem cs_can2_n {r m a : Nat} {L : Nat → Int} (h : cs_bestof H r m < cs_sum L (cs_t H)) : cs_S H r m a L = none := by
  refine cs_none.mpr (fun c g => ?_)
  have := cs_can2 r m a L c g
  omega
/-- by towns alone, a node -/
noncomputable def cs_nodeT (H : Nat → Int) (b : cs_R) (k : Int) (P : Nat → Int) (r m a : Nat) (L : Nat → Int) (n : Nat) : cs_R :=
  cs_min b (cs_fold (fun i => cs_pre (k + cs_cost H a i) (fun j => if j = m then cs_code H i else P j) (m + 1) (cs_T H r (m + 1) i (cs_lk H L i m))) n)
theorem cs_nodeT_0 {b : cs_R} {k : Int} {P : Nat → Int} {r m a : Nat} {L : Nat → Int} : cs_nodeT H b k P r m a L 0 = b := cs_min_none b
theorem cs_nodeT_s {b : cs_R} {k : Int} {P : Nat → Int} {r m a : Nat} {L : Nat → Int} {n : Nat} : cs_nodeT H b k P r m a L (n + 1) = cs_min (cs_nodeT H b k P r m a L n) (cs_pre (k + cs_cost H a n) (fun j => if j = m then cs_code H n else P j) (m + 1) (cs_T H r (m + 1) n (cs_lk H L n m))) := by
  unfold cs_nodeT
  rw [cs_min_assoc]; rfl
theorem cs_nodeT_e {b : cs_R} {k : Int} {P : Nat → Int} {r m a : Nat} {L : Nat → Int} : cs_nodeT H b k P r m a L (cs_t H) = cs_min b (cs_pre k P m (cs_T H (r + 1) m a L)) := by
  unfold cs_nodeT
  congr 1
  show _ = cs_pre k P m (cs_fold _ _)
  rw [cs_pre_fold]
  congr 1
  funext i
  exact (cs_pre_add k (cs_cost H a i) (cs_code H i) P (fun j => if j = m then cs_code H i else P j) m _ (fun j hj => if_neg (by omega)) (if_pos rfl)).symm
end CB
