section
/-! ===== what is left to pay at least ===== -/
def cs_bk (b : Nat → Bool) (a : Nat) : Nat → Nat
  | 0 => 0
  | n + 1 => if b n = true then max (cs_bk b a n) (a - n) else cs_bk b a n
def cs_ah (b : Nat → Bool) (a : Nat) : Nat → Nat
  | 0 => 0
  | n + 1 => if b n = true then max (cs_ah b a n) (n - a) else cs_ah b a n
def cs_tp (H : Nat → Int) (b : Nat → Bool) (a : Nat) : Nat → Int
  | 0 => 0
  | n + 1 => cs_tp H b a n + (if b n = true ∧ n ≠ a then H (10 + 9 * n) else 0)
def cs_far (b : Nat → Bool) (a n : Nat) : Nat := cs_bk b a n + cs_ah b a n + min (cs_bk b a n) (cs_ah b a n)
def cs_LB (H : Nat → Int) (b : Nat → Bool) (a : Nat) : Int := cs_tp H b a (cs_t H) + H 1 * (cs_far b a (cs_t H) : Nat)
theorem cs_bk_eq {b b' : Nat → Bool} {a : Nat} : ∀ n, (∀ j, j < n → j ≠ a → b j = b' j) → cs_bk b a n = cs_bk b' a n
  | 0, _ => rfl
  | n + 1, h => by
    show (if b n = true then max (cs_bk b a n) (a - n) else cs_bk b a n) = (if b' n = true then max (cs_bk b' a n) (a - n) else cs_bk b' a n)
    rw [cs_bk_eq n (fun j hj => h j (by omega))]
    by_cases e : n = a
    · split <;> split <;> omega
    · rw [h n (by omega) e]
theorem cs_ah_eq {b b' : Nat → Bool} {a : Nat} : ∀ n, (∀ j, j < n → j ≠ a → b j = b' j) → cs_ah b a n = cs_ah b' a n
  | 0, _ => rfl
  | n + 1, h => by
    show (if b n = true then max (cs_ah b a n) (n - a) else cs_ah b a n) = (if b' n = true then max (cs_ah b' a n) (n - a) else cs_ah b' a n)
    rw [cs_ah_eq n (fun j hj => h j (by omega))]
    by_cases e : n = a
    · split <;> split <;> omega
    · rw [h n (by omega) e]
theorem cs_tp_eq {H : Nat → Int} {b b' : Nat → Bool} {a : Nat} : ∀ n, (∀ j, j < n → j ≠ a → b j = b' j) → cs_tp H b a n = cs_tp H b' a n
  | 0, _ => rfl
  | n + 1, h => by
    show cs_tp H b a n + _ = cs_tp H b' a n + _
    rw [cs_tp_eq n (fun j hj => h j (by omega))]
    by_cases e : n = a
    · rw [if_neg (fun q => q.2 e), if_neg (fun q => q.2 e)]
    · rw [h n (by omega) e]
theorem cs_far_tri (b : Nat → Bool) (a i : Nat) : ∀ n, n ≤ 3 → (cs_far b a n : Int) ≤ cs_d a i + (cs_far b i n : Nat)
  | 0, _ => by
    have := cs_d_0 a i
    show ((0 : Nat) : Int) ≤ cs_d a i + ((0 : Nat) : Int)
    omega
  | 1, _ => by
    unfold cs_far cs_bk cs_ah cs_bk cs_ah cs_d
    split <;> split <;> omega
  | 2, _ => by
    unfold cs_far cs_bk cs_ah cs_bk cs_ah cs_bk cs_ah cs_d
    cases b 0 <;> cases b 1 <;> simp only [if_true, if_false, Bool.false_eq_true] <;> split <;> omega
  | 3, _ => by
    unfold cs_far cs_bk cs_ah cs_bk cs_ah cs_bk cs_ah cs_bk cs_ah cs_d
    cases b 0 <;> cases b 1 <;> cases b 2 <;> simp only [if_true, if_false, Bool.false_eq_true] <;> split <;> omega
  | n + 4, h => absurd h (by omega)
section CL
variable {H : Nat → Int}
theorem cs_tp_0 (h : cs_ok H) (b : Nat → Bool) (a : Nat) : ∀ n, n ≤ cs_t H → 0 ≤ cs_tp H b a n
  | 0, _ => Int.le_refl _
  | n + 1, hn => by
    have h1 := cs_tp_0 h b a n (by omega)
    have h2 := h.2 n (by omega)
    show 0 ≤ cs_tp H b a n + _
    split <;> omega
theorem cs_tp_tri (h : cs_ok H) (b : Nat → Bool) (a i : Nat) : ∀ n, n ≤ cs_t H → cs_tp H b a n ≤ (if i < n ∧ a ≠ i then H (10 + 9 * i) else 0) + cs_tp H b i n
  | 0, _ => by
    show (0 : Int) ≤ (if i < 0 ∧ a ≠ i then H (10 + 9 * i) else 0) + 0
    rw [if_neg (by omega)]; omega
  | n + 1, hn => by
    have h1 := cs_tp_tri h b a i n (by omega)
    have h2 := h.2 n (by omega)
    show cs_tp H b a n + (if b n = true ∧ n ≠ a then H (10 + 9 * n) else 0) ≤ _ + (cs_tp H b i n + (if b n = true ∧ n ≠ i then H (10 + 9 * n) else 0))
    by_cases e : n = i
    · subst e
      rw [if_neg (show ¬ (n < n ∧ a ≠ n) by omega)] at h1
      rw [if_neg (show ¬ (b n = true ∧ n ≠ n) from fun q => q.2 rfl)]
      by_cases e2 : a = n
      · rw [if_neg (show ¬ (b n = true ∧ n ≠ a) from fun q => q.2 e2.symm), if_neg (show ¬ (n < n + 1 ∧ a ≠ n) from fun q => q.2 e2)]; omega
      · rw [if_pos (show n < n + 1 ∧ a ≠ n from ⟨by omega, e2⟩)]
        split <;> omega
    · have e3 : (i < n + 1 ∧ a ≠ i) ↔ (i < n ∧ a ≠ i) := ⟨fun q => ⟨by omega, q.2⟩, fun q => ⟨by omega, q.2⟩⟩
      have e5 : (if i < n + 1 ∧ a ≠ i then H (10 + 9 * i) else 0) = (if i < n ∧ a ≠ i then H (10 + 9 * i) else 0) := by
        by_cases q : i < n ∧ a ≠ i
        · rw [if_pos q, if_pos (e3.mpr q)]
        · rw [if_neg q, if_neg (fun z => q (e3.mp z))]
      rw [e5]
      by_cases e4 : b n = true
      · rw [if_pos (show b n = true ∧ n ≠ i from ⟨e4, e⟩)]
        split <;> omega
      · rw [if_neg (show ¬ (b n = true ∧ n ≠ a) from fun q => e4 q.1), if_neg (show ¬ (b n = true ∧ n ≠ i) from fun q => e4 q.1)]; omega
def cs_b (L : Nat → Int) : Nat → Bool := fun j => decide (0 < L j)
theorem cs_LB_le (h : cs_ok H) (ht : cs_t H ≤ 3) : ∀ (r m a : Nat) (L : Nat → Int) (c : Int), cs_le (cs_S H r m a L) c → cs_LB H (cs_b L) a ≤ c
  | 0, m, a, L, c, g => by
    obtain ⟨g, hc⟩ := cs_S0_le.mp g
    have e : ∀ j, j < cs_t H → j ≠ a → cs_b L j = (fun _ => false) j := fun j hj _ => decide_eq_false (by have := g j hj; omega)
    unfold cs_LB cs_far
    rw [cs_tp_eq _ e, cs_bk_eq _ e, cs_ah_eq _ e]
    have z1 : ∀ n, cs_tp H (fun _ => false) a n = 0 := by
      intro n
      induction n with
      | zero => rfl
      | succ n ih => show cs_tp H _ a n + _ = 0; rw [ih, if_neg (fun q => by cases q.1)]; rfl
    have z2 : ∀ n, cs_bk (fun _ => false) a n = 0 := by
      intro n
      induction n with
      | zero => rfl
      | succ n ih => exact ih
    have z3 : ∀ n, cs_ah (fun _ => false) a n = 0 := by
      intro n
      induction n with
      | zero => rfl
      | succ n ih => exact ih
    rw [z1, z2, z3]
    show (0 : Int) + H 1 * ((0 : Nat) : Int) ≤ c
    rw [show ((0 : Nat) : Int) = 0 from rfl, Int.mul_zero]; omega
  | r + 1, m, a, L, c, g => by
    obtain ⟨i, hi, g⟩ := cs_S1_le.mp g
    have h1 := cs_LB_le h ht r (m + 1) i _ _ g
    have e : ∀ j, j < cs_t H → j ≠ i → cs_b (cs_lk H L i m) j = cs_b L j := fun j _ hj => by
      unfold cs_b cs_lk
      rw [if_neg hj]
    unfold cs_LB cs_far at h1
    rw [cs_tp_eq _ e, cs_bk_eq _ e, cs_ah_eq _ e] at h1
    have h2 := cs_tp_tri h (cs_b L) a i (cs_t H) (Nat.le_refl _)
    have h3 := Int.mul_le_mul_of_nonneg_left (cs_far_tri (cs_b L) a i (cs_t H) ht) h.1
    rw [Int.mul_add] at h3
    unfold cs_cost at h1
    unfold cs_LB
    have h4 : cs_tp H (cs_b L) i (cs_t H) + H 1 * (cs_far (cs_b L) i (cs_t H) : Nat) ≤ c - (H 1 * cs_d a i + if i < cs_t H ∧ a ≠ i then H (10 + 9 * i) else 0) := h1
    omega
end CL
end
section
/-! ===== what all months bring at most, each to its best town ===== -/
def cs_sum (L : Nat → Int) : Nat → Int
  | 0 => 0
  | n + 1 => cs_sum L n + max 0 (L n)
def cs_most (H : Nat → Int) (m : Nat) : Nat → Int
  | 0 => 0
  | n + 1 => max (cs_most H m n) (cs_gain H n m)
def cs_bestof (H : Nat → Int) : Nat → Nat → Int
  | 0, _ => 0
  | r + 1, m => cs_bestof H r (m + 1) + cs_most H m (cs_t H)
section CB
variable {H : Nat → Int}
theorem cs_most_0 (m : Nat) : ∀ n, 0 ≤ cs_most H m n
  | 0 => Int.le_refl _
  | n + 1 => by
    have := cs_most_0 m n
    show 0 ≤ max (cs_most H m n) (cs_gain H n m)
    omega
theorem cs_most_le (m : Nat) : ∀ n k, k < n → cs_gain H k m ≤ cs_most H m n
  | 0, k, h => absurd h (Nat.not_lt_zero _)
  | n + 1, k, h => by
    show _ ≤ max (cs_most H m n) (cs_gain H n m)
    by_cases e : k = n
    · subst e; omega
    · have := cs_most_le m n k (by omega)
      omega
theorem cs_sum_lk (L : Nat → Int) (i m : Nat) : ∀ n, cs_sum L n ≤ cs_sum (cs_lk H L i m) n + (if i < n then cs_gain H i m else 0)
  | 0 => by
    rw [if_neg (by omega)]
    show (0 : Int) ≤ 0 + 0
    omega
  | n + 1 => by
    have h := cs_sum_lk L i m n
    have g := cs_gain_0 (H := H) i m
    show cs_sum L n + max 0 (L n) ≤ cs_sum (cs_lk H L i m) n + max 0 (cs_lk H L i m n) + _
    by_cases e : n = i
    · subst e
      have : cs_lk H L n m n = L n - cs_gain H n m := if_pos rfl
      rw [this]
      rw [if_neg (by omega)] at h
      rw [if_pos (by omega)]
      omega
    · have : cs_lk H L i m n = L n := if_neg e
      rw [this]
      by_cases e2 : i < n
      · rw [if_pos e2] at h
        rw [if_pos (by omega)]
        omega
      · rw [if_neg e2] at h
        rw [if_neg (by omega)]
        omega
theorem cs_sum_np {L : Nat → Int} : ∀ n, (∀ k, k < n → L k ≤ 0) → cs_sum L n = 0
  | 0, _ => rfl
  | n + 1, h => by
    have := h n (by omega)
    show cs_sum L n + max 0 (L n) = 0
    rw [cs_sum_np n (fun k hk => h k (by omega))]
    omega
theorem cs_can2 : ∀ (r m a : Nat) (L : Nat → Int) (c : Int), cs_le (cs_S H r m a L) c → cs_sum L (cs_t H) ≤ cs_bestof H r m
  | 0, m, a, L, c, g => by
    rw [cs_sum_np _ (cs_S0_le.mp g).1]
    exact Int.le_refl _
  | r + 1, m, a, L, c, g => by
    obtain ⟨i, hi, g⟩ := cs_S1_le.mp g
    have h := cs_can2 r (m + 1) i _ _ g
    have h2 := cs_sum_lk (H := H) L i m (cs_t H)
    have h3 := cs_most_0 (H := H) m (cs_t H)
    show _ ≤ cs_bestof H r (m + 1) + cs_most H m (cs_t H)
    by_cases e : i < cs_t H
    · rw [if_pos e] at h2
      have := cs_most_le (H := H) m (cs_t H) i e
      omega
    · rw [if_neg e] at h2
      omega
theorem cs_can2_n {r m a : Nat} {L : Nat → Int} (h : cs_bestof H r m < cs_sum L (cs_t H)) : cs_S H r m a L = none := by
  refine cs_none.mpr (fun c g => ?_)
  have := cs_can2 r m a L c g
  omega
/-- by towns alone, a node -/
noncomputable def cs_nodeT (H : Nat → Int) (b : cs_R) (k : Int) (P : Nat → Int) (r m a : Nat) (L : Nat → Int) (n : Nat) : cs_R :=
  cs_min b (cs_fold (fun i => cs_pre (k + cs_cost H a i) (fun j => if j = m then cs_code H i else P j) (m + 1) (cs_T H r (m + 1) i (cs_lk H L i m))) n)
theorem cs_nodeT_0 {b : cs_R} {k : Int} {P : Nat → Int} {r m a : Nat} {L : Nat → Int} : cs_nodeT H b k P r m a L 0 = b := cs_min_none b
theorem cs_nodeT_s {b : cs_R} {k : Int} {P : Nat → Int} {r m a : Nat} {L : Nat → Int} {n : Nat} : cs_nodeT H b k P r m a L (n + 1) = cs_min (cs_nodeT H b k P r m a L n) (cs_pre (k + cs_cost H a n) (fun j => if j = m then cs_code H n else P j) (m + 1) (cs_T H r (m + 1) n (cs_lk H L n m))) := by
  unfold cs_nodeT
  rw [cs_min_assoc]; rfl
theorem cs_nodeT_e {b : cs_R} {k : Int} {P : Nat → Int} {r m a : Nat} {L : Nat → Int} : cs_nodeT H b k P r m a L (cs_t H) = cs_min b (cs_pre k P m (cs_T H (r + 1) m a L)) := by
  unfold cs_nodeT
  congr 1
  show _ = cs_pre k P m (cs_fold _ _)
  rw [cs_pre_fold]
  congr 1
  funext i
  exact (cs_pre_add k (cs_cost H a i) (cs_code H i) P (fun j => if j = m then cs_code H i else P j) m _ (fun j hj => if_neg (by omega)) (if_pos rfl)).symm
end CB
end
section
/-! ===== the last months: all ways in their order ===== -/
theorem cs_fold_add {g : Nat → cs_R} {m : Nat} : ∀ n, cs_fold g (m + n) = cs_min (cs_fold g m) (cs_fold (fun i => g (m + i)) n)
  | 0 => (cs_min_none _).symm
  | n + 1 => by
    show cs_min (cs_fold g (m + n)) (g (m + n)) = cs_min (cs_fold g m) (cs_min (cs_fold (fun i => g (m + i)) n) (g (m + n)))
    rw [cs_fold_add n, cs_min_assoc]
theorem cs_fold_flat {g : Nat → cs_R} {n : Nat} : ∀ t, cs_fold (fun c => cs_fold (fun i => g (c * n + i)) n) t = cs_fold g (t * n)
  | 0 => by rw [Nat.zero_mul]; rfl
  | t + 1 => by
    show cs_min (cs_fold (fun c => cs_fold (fun i => g (c * n + i)) n) t) (cs_fold (fun i => g (t * n + i)) n) = _
    rw [cs_fold_flat t, Nat.succ_mul, cs_fold_add n]
theorem cs_fold_cg {f g : Nat → cs_R} : ∀ n, (∀ i, i < n → f i = g i) → cs_fold f n = cs_fold g n
  | 0, _ => rfl
  | n + 1, h => by
    show cs_min (cs_fold f n) (f n) = cs_min (cs_fold g n) (g n)
    rw [cs_fold_cg n (fun i hi => h i (by omega)), h n (by omega)]
theorem cs_add_min (k : Int) (m : Nat) (p : Int) (a b : cs_R) : cs_add k m p (cs_min a b) = cs_min (cs_add k m p a) (cs_add k m p b) := by
  cases a with
  | none => rfl
  | some x =>
    cases b with
    | none => rfl
    | some y =>
      show cs_add k m p (if y.1 < x.1 then some y else some x) = (if k + y.1 < k + x.1 then _ else _)
      by_cases c : y.1 < x.1
      · rw [if_pos c, if_pos (by omega)]; rfl
      · rw [if_neg c, if_neg (by omega)]; rfl
theorem cs_add_fold (k : Int) (m : Nat) (p : Int) (f : Nat → cs_R) : ∀ n, cs_add k m p (cs_fold f n) = cs_fold (fun i => cs_add k m p (f i)) n
  | 0 => rfl
  | n + 1 => by
    show cs_add k m p (cs_min _ _) = cs_min _ _
    rw [cs_add_min, cs_add_fold k m p f n]
section CT
variable (H : Nat → Int)
/-- of the i-th way of r months from m on: what it brings a town, what it costs behind its first place, its plan -/
def cw_g (k : Nat) : Nat → Nat → Nat → Int
  | 0, _, _ => 0
  | r + 1, m, i => cw_g k r (m + 1) (i % cs_t H ^ r) + (if k = i / cs_t H ^ r then cs_gain H k m else 0)
def cw_c : Nat → Nat → Int
  | 0, _ => 0
  | 1, _ => 0
  | r + 2, i => cw_c (r + 1) (i % cs_t H ^ (r + 1)) + cs_cost H (i / cs_t H ^ (r + 1)) (i % cs_t H ^ (r + 1) / cs_t H ^ r)
def cw_p : Nat → Nat → Nat → Nat → Int
  | 0, _, _, _ => 0
  | r + 1, m, i, j => if j = m then cs_code H (i / cs_t H ^ r) else cw_p r (m + 1) (i % cs_t H ^ r) j
def cw_m (L : Nat → Int) (r m i : Nat) : Prop := ∀ k, k < cs_t H → L k ≤ cw_g H k r m i
/-- its outcome from a place -/
noncomputable def cw_R (r m a : Nat) (L : Nat → Int) (i : Nat) : cs_R := @ite _ (cw_m H L (r + 1) m i) (Classical.propDecidable _) (some (cw_c H (r + 1) i + cs_cost H a (i / cs_t H ^ r), cw_p H (r + 1) m i)) none
end CT
section CV
variable {H : Nat → Int}
theorem cw_dv {t n i : Nat} (hi : i < n) : (t * n + i) / n = t ∧ (t * n + i) % n = i := by
  have hn : 0 < n := by omega
  constructor
  · rw [Nat.mul_comm, Nat.mul_add_div hn, Nat.div_eq_of_lt hi, Nat.add_zero]
  · rw [Nat.mul_comm, Nat.mul_add_mod, Nat.mod_eq_of_lt hi]
theorem cw_m_s {L : Nat → Int} {r m c i : Nat} (hi : i < cs_t H ^ r) : cw_m H L (r + 1) m (c * cs_t H ^ r + i) ↔ cw_m H (cs_lk H L c m) r (m + 1) i := by
  obtain ⟨e1, e2⟩ := cw_dv (t := c) hi
  unfold cw_m
  constructor
  · intro h k hk
    have h := h k hk
    have e : cw_g H k (r + 1) m (c * cs_t H ^ r + i) = cw_g H k r (m + 1) i + (if k = c then cs_gain H k m else 0) := by
      show cw_g H k r (m + 1) _ + (if k = _ / _ then _ else _) = _
      rw [e1, e2]
    rw [e] at h
    unfold cs_lk
    by_cases q : k = c
    · rw [if_pos q] at h ⊢; rw [← q]; omega
    · rw [if_neg q] at h ⊢; omega
  · intro h k hk
    have h := h k hk
    have e : cw_g H k (r + 1) m (c * cs_t H ^ r + i) = cw_g H k r (m + 1) i + (if k = c then cs_gain H k m else 0) := by
      show cw_g H k r (m + 1) _ + (if k = _ / _ then _ else _) = _
      rw [e1, e2]
    rw [e]
    unfold cs_lk at h
    by_cases q : k = c
    · rw [if_pos q] at h ⊢; rw [← q] at h; omega
    · rw [if_neg q] at h ⊢; omega
theorem cw_R_s {L : Nat → Int} {r m a c i : Nat} (hi : i < cs_t H ^ (r + 1)) : cs_add (cs_cost H a c) m (cs_code H c) (cw_R H r (m + 1) c (cs_lk H L c m) i) = cw_R H (r + 1) m a L (c * cs_t H ^ (r + 1) + i) := by
  obtain ⟨e1, e2⟩ := cw_dv (t := c) hi
  have hm := cw_m_s (H := H) (L := L) (m := m) (c := c) hi
  unfold cw_R
  by_cases q : cw_m H (cs_lk H L c m) (r + 1) (m + 1) i
  · rw [if_pos q, if_pos (hm.mpr q), e1]
    show some (cs_cost H a c + (cw_c H (r + 1) i + cs_cost H c (i / cs_t H ^ r)), _) = some (cw_c H (r + 1) ((c * cs_t H ^ (r + 1) + i) % cs_t H ^ (r + 1)) + cs_cost H ((c * cs_t H ^ (r + 1) + i) / cs_t H ^ (r + 1)) ((c * cs_t H ^ (r + 1) + i) % cs_t H ^ (r + 1) / cs_t H ^ r) + cs_cost H a c, _)
    rw [e1, e2]
    congr 1
    refine Prod.ext (by show cs_cost H a c + (cw_c H (r + 1) i + cs_cost H c (i / cs_t H ^ r)) = cw_c H (r + 1) i + cs_cost H c (i / cs_t H ^ r) + cs_cost H a c; omega) (funext fun j => ?_)
    show (if j = m then cs_code H c else cw_p H (r + 1) (m + 1) i j) = (if j = m then cs_code H ((c * cs_t H ^ (r + 1) + i) / cs_t H ^ (r + 1)) else cw_p H (r + 1) (m + 1) ((c * cs_t H ^ (r + 1) + i) % cs_t H ^ (r + 1)) j)
    rw [e1, e2]
  · rw [if_neg q, if_neg (fun z => q (hm.mp z))]; rfl
/-- the last months by their list -/
theorem cw_all : ∀ (r m a : Nat) (L : Nat → Int), cs_T H (r + 1) m a L = cs_fold (cw_R H r m a L) (cs_t H ^ (r + 1))
  | 0, m, a, L => by
    show cs_fold (fun c => cs_add (cs_cost H a c) m (cs_code H c) (cs_T H 0 (m + 1) c (cs_lk H L c m))) (cs_t H) = cs_fold _ (cs_t H ^ 1)
    rw [Nat.pow_one]
    refine cs_fold_cg _ (fun c hc => ?_)
    have hm : cw_m H L (0 + 1) m c ↔ cw_m H (cs_lk H L c m) 0 (m + 1) 0 := by
      have h1 := cw_m_s (H := H) (L := L) (r := 0) (m := m) (c := c) (i := 0) (by rw [Nat.pow_zero]; omega)
      rwa [Nat.pow_zero, Nat.mul_one, Nat.add_zero c] at h1
    have h0 : cw_m H (cs_lk H L c m) 0 (m + 1) 0 ↔ cs_met H (cs_lk H L c m) := Iff.rfl
    unfold cw_R cs_T
    by_cases q : cs_met H (cs_lk H L c m)
    · rw [if_pos q, if_pos (hm.mpr (h0.mpr q)), Nat.pow_zero, Nat.div_one]
      show some (cs_cost H a c + 0, _) = some (0 + cs_cost H a c, _)
      congr 1
      refine Prod.ext (by show cs_cost H a c + 0 = 0 + cs_cost H a c; omega) (funext fun j => ?_)
      show (if j = m then cs_code H c else 0) = (if j = m then cs_code H (c / cs_t H ^ 0) else 0)
      rw [Nat.pow_zero, Nat.div_one]
    · rw [if_neg q, if_neg (fun z => q (h0.mp (hm.mp z)))]; rfl
  | r + 1, m, a, L => by
    show cs_fold (fun c => cs_add (cs_cost H a c) m (cs_code H c) (cs_T H (r + 1) (m + 1) c (cs_lk H L c m))) (cs_t H) = _
    rw [show cs_t H ^ (r + 1 + 1) = cs_t H * cs_t H ^ (r + 1) by rw [Nat.pow_succ, Nat.mul_comm], ← cs_fold_flat]
    refine cs_fold_cg _ (fun c hc => ?_)
    show cs_add (cs_cost H a c) m (cs_code H c) (cs_T H (r + 1) (m + 1) c (cs_lk H L c m)) = _
    rw [cw_all r (m + 1) c, cs_add_fold]
    exact cs_fold_cg _ (fun i hi => cw_R_s hi)
/-- a search through the list, from a best so far -/
noncomputable def cw_run (b : cs_R) (k : Int) (P : Nat → Int) (r m a : Nat) (L : Nat → Int) (n : Nat) : cs_R := cs_min b (cs_fold (fun i => cs_pre k P m (cw_R H r m a L i)) n)
theorem cw_run_0 {b : cs_R} {k : Int} {P : Nat → Int} {r m a : Nat} {L : Nat → Int} : cw_run (H := H) b k P r m a L 0 = b := cs_min_none b
theorem cw_run_s {b : cs_R} {k : Int} {P : Nat → Int} {r m a : Nat} {L : Nat → Int} {n : Nat} : cw_run (H := H) b k P r m a L (n + 1) = cs_min (cw_run (H := H) b k P r m a L n) (cs_pre k P m (cw_R H r m a L n)) := by
  unfold cw_run
  rw [cs_min_assoc]; rfl
theorem cw_run_e {b : cs_R} {k : Int} {P : Nat → Int} {r m a : Nat} {L : Nat → Int} : cw_run (H := H) b k P r m a L (cs_t H ^ (r + 1)) = cs_min b (cs_pre k P m (cs_T H (r + 1) m a L)) := by
  unfold cw_run
  rw [cw_all, cs_pre_fold]
end CV
section CW
variable {H : Nat → Int}
/-- the number of a way tells its towns, the last month's first -/
theorem cw_p_d : ∀ (r m i q : Nat), q ≤ r → i < cs_t H ^ (r + 1) → cw_p H (r + 1) m i (m + q) = cs_code H (i / cs_t H ^ (r - q) % cs_t H)
  | r, m, i, 0, _, h => by
    rw [Nat.add_zero, Nat.sub_zero]
    show (if m = m then cs_code H (i / cs_t H ^ r) else _) = _
    rw [if_pos rfl, Nat.mod_eq_of_lt (Nat.div_lt_of_lt_mul (show i < cs_t H ^ r * cs_t H by rw [← Nat.pow_succ]; exact h))]
  | 0, m, i, q + 1, hq, _ => absurd hq (by omega)
  | r + 1, m, i, q + 1, hq, h => by
    have hp : 0 < cs_t H ^ (r + 1) := Nat.pos_of_ne_zero (fun z => by rw [Nat.pow_succ, z, Nat.zero_mul] at h; exact absurd h (Nat.not_lt_zero _))
    show (if m + (q + 1) = m then cs_code H (i / cs_t H ^ (r + 1)) else cw_p H (r + 1) (m + 1) (i % cs_t H ^ (r + 1)) (m + (q + 1))) = _
    rw [if_neg (by omega), show m + (q + 1) = m + 1 + q by omega, cw_p_d r (m + 1) (i % cs_t H ^ (r + 1)) q (by omega) (Nat.mod_lt _ hp), show r + 1 - (q + 1) = r - q by omega]
    have e : cs_t H ^ (r + 1) = cs_t H ^ (r - q) * cs_t H ^ (q + 1) := by rw [← Nat.pow_add, show r - q + (q + 1) = r + 1 by omega]
    rw [e, Nat.mod_mul_right_div_self, Nat.mod_mod_of_dvd _ ⟨cs_t H ^ q, by rw [Nat.pow_succ, Nat.mul_comm]⟩]
theorem cw_p_o : ∀ (r m i j : Nat), j < m → cw_p H r m i j = 0
  | 0, _, _, _, _ => rfl
  | r + 1, m, i, j, h => by
    show (if j = m then _ else cw_p H r (m + 1) (i % cs_t H ^ r) j) = 0
    rw [if_neg (by omega)]
    exact cw_p_o r (m + 1) _ j (by omega)
theorem cw_pow (h1 : 1 ≤ cs_t H) (h3 : cs_t H ≤ 3) : cs_t H ^ 1 ≤ 3 ∧ cs_t H ^ 2 ≤ 9 ∧ cs_t H ^ 3 ≤ 27 ∧ cs_t H ^ 4 ≤ 81 := ⟨Nat.pow_le_pow_left h3 1, Nat.pow_le_pow_left h3 2, Nat.pow_le_pow_left h3 3, Nat.pow_le_pow_left h3 4⟩
theorem cw_c_0 (h : cs_ok H) : ∀ (r i : Nat), 0 ≤ cw_c H r i
  | 0, _ => Int.le_refl _
  | 1, _ => Int.le_refl _
  | r + 2, i => by
    have h1 := cw_c_0 h (r + 1) (i % cs_t H ^ (r + 1))
    have h2 := cs_cost_0 h (i / cs_t H ^ (r + 1)) (i % cs_t H ^ (r + 1) / cs_t H ^ r)
    show 0 ≤ cw_c H (r + 1) (i % cs_t H ^ (r + 1)) + cs_cost H (i / cs_t H ^ (r + 1)) (i % cs_t H ^ (r + 1) / cs_t H ^ r)
    omega
end CW
end
section
/-! ===== rows that were wanting ===== -/
section WY
variable {d : Nat} {full : List mj_E} {Q : mj_P} {rest : List mj_E} {L : mj_L} {st : List mj_V} {G : mj_G} {M : mj_M} {cb sb pc : Nat} {aux : List Nat} {im : Int}
theorem w_ldc {k : Nat} (kk : wz d full Q rest L (.inl im :: st) G M cb sb) : wz d full Q ((.ldc k, pc, aux, im) :: rest) L st G M cb sb := wz_st kk
theorem w_ldcw {k : Nat} (kk : wz d full Q rest L (.inl im :: st) G M cb sb) : wz d full Q ((.ldc_w k, pc, aux, im) :: rest) L st G M cb sb := wz_st kk
theorem w_neg {x : Int} (hi : mj_in x) (hx : x ≠ -2147483648) (kk : wz d full Q rest L (.inl (-x) :: st) G M cb sb) : wz d full Q ((.ineg, pc, aux, im) :: rest) L (.inl x :: st) G M cb sb := wz_st (fun z hz e => by
  have e : z = (-(Int32.ofInt x)).toInt := e
  have h := hi
  have e2 : z = -x := by
    rw [e, Int32.toInt_neg, mj_ti hi]
    exact ab_bm1 (by have := h.2; omega) (by have := h.1; omega)
  rw [e2]; exact kk)
theorem w_abs {w k : Nat} {x : Int} (h8 : mj_cat st ≤ 8) (kk : ∀ z, (0 ≤ x → z = x) → (x < 0 → x ≠ -2147483648 → z = -x) → wz d full Q rest L (.inl z :: st) G M cb sb) : wz d full Q ((.invokestatic k, pc, [2, w], im) :: rest) L (.inl x :: st) G M cb sb := wz_st ⟨h8, fun z _ h1 h2 => kk z h1 h2⟩
theorem w_div {x y : Int} (hy : y ≠ 0) (kk : ∀ z, mj_in z → z = (Int32.ofInt x / Int32.ofInt y).toInt → wz d full Q rest L (.inl z :: st) G M cb sb) : wz d full Q ((.idiv, pc, aux, im) :: rest) L (.inl y :: .inl x :: st) G M cb sb := wz_st ⟨hy, kk⟩
end WY
/-! ===== the cheapest letting: numbers' facts ===== -/
theorem cp_up {M : mj_M} {a j n : Nat} {v : Int} {F : Nat → Int} (h : ∀ k, k < n → M.1 a k = F k) : ∀ k, k < n → (mj_p0 M a j v).1 a k = rv_up F j v k := fun k hk => by
  by_cases e : k = j
  · rw [e, rv_up_s]; exact hn_s
  · rw [rv_up_n e]; exact (hn_n (Or.inr e)).trans (h k hk)
section CX
variable {H : Nat → Int}
theorem cs_rt (h : rv_r4 H 0) {j : Nat} (h1 : 4 ≤ j) (h2 : j < 76) : 0 ≤ H j ∧ H j ≤ 999 := by
  have := h.2.2.2.2.1 ((j - 4) / 9) ((j - 4) % 9) (by omega) (by omega)
  rw [show 0 + (4 + 9 * ((j - 4) / 9) + (j - 4) % 9) = j by omega] at this; exact ⟨this.1, this.2.1⟩
theorem cs_rw (h : rv_r4 H 0) {j : Nat} (h1 : 76 ≤ j) (h2 : j < 88) : 0 ≤ H j ∧ H j ≤ 999 := by
  have := h.2.2.2.2.2 (j - 76) (by omega)
  rw [show 0 + (76 + (j - 76)) = j by omega] at this; exact this
theorem cs_r1 (h : rv_r4 H 0) : 0 ≤ H 1 ∧ H 1 ≤ 99 := h.2.1
theorem cs_te (h : rv_r4 H 0) : ((cs_t H : Nat) : Int) = H 0 := by
  have := h.1
  unfold cs_t; omega
theorem cs_oke (h : rv_r4 H 0) : cs_ok H := ⟨(cs_r1 h).1, fun k hk => by
  have e := cs_te h
  have := h.1
  exact (cs_rt h (by omega) (by omega)).1⟩
theorem cs_gain_i {k m : Int} (k0 : 0 ≤ k) (m0 : 0 ≤ m) : cs_gain H k.toNat m.toNat = if H (9 * k + 4).toNat < H (m + 76).toNat then H (m + 76).toNat - H (9 * k + 4).toNat else 0 := by
  unfold cs_gain
  rw [show 4 + 9 * k.toNat = (9 * k + 4).toNat by omega, show 76 + m.toNat = (m + 76).toNat by omega]
theorem cs_gain_9 (h : rv_r4 H 0) {k m : Nat} (hk : k < 8) (hm : m < 12) : 0 ≤ cs_gain H k m ∧ cs_gain H k m ≤ 999 := by
  have a := cs_rt h (j := 4 + 9 * k) (by omega) (by omega)
  have b := cs_rw h (j := 76 + m) (by omega) (by omega)
  unfold cs_gain; split <;> omega
theorem cs_all_9 (h : rv_r4 H 0) {k : Nat} (hk : k < 8) : ∀ (r m : Nat), m + r ≤ 12 → 0 ≤ cs_all H k r m ∧ cs_all H k r m ≤ 999 * r
  | 0, _, _ => ⟨Int.le_refl _, Int.le_refl _⟩
  | r + 1, m, e => by
    have h1 := cs_all_9 h hk r (m + 1) (by omega)
    have h2 := cs_gain_9 h hk (show m < 12 by omega)
    show 0 ≤ cs_gain H k m + cs_all H k r (m + 1) ∧ cs_gain H k m + cs_all H k r (m + 1) ≤ _
    omega
theorem cs_mul_b {u z : Int} (u0 : 0 ≤ u) (u9 : u ≤ 99) {n : Int} (z0 : 0 ≤ z) (zn : z ≤ n) : 0 ≤ u * z ∧ u * z ≤ 99 * n := ⟨Int.mul_nonneg u0 z0, Int.mul_le_mul u9 zn z0 (by decide)⟩
theorem cs_d_3 {a b n : Nat} (ha : a ≤ n) (hb : b ≤ n) : cs_d a b ≤ n := by
  unfold cs_d; split <;> omega
theorem cs_cost_9 (h : rv_r4 H 0) (h3 : H 0 ≤ 3) {a b : Nat} (ha : a ≤ cs_t H) (hb : b ≤ cs_t H) : 0 ≤ cs_cost H a b ∧ cs_cost H a b ≤ 1296 := by
  have e := cs_te h
  have h1 := cs_r1 h
  have d3 := cs_d_3 ha hb
  have m1 := cs_mul_b h1.1 h1.2 (cs_d_0 a b) (n := 3) (by omega)
  unfold cs_cost
  by_cases c : b < cs_t H ∧ a ≠ b
  · have := cs_rt h (j := 10 + 9 * b) (by omega) (by omega)
    rw [if_pos c]; omega
  · rw [if_neg c]; omega
theorem cs_cost_i {a b : Nat} {z v : Int} (hz : z = cs_d a b) (hv : v = if b < cs_t H ∧ a ≠ b then H (10 + 9 * b) else 0) : H 1 * z + v = cs_cost H a b := by
  subst hz; subst hv; rfl
/-- a place as a plan tells it -/
def cs_pc (H : Nat → Int) (z : Int) : Int := if z = H 0 then 8 else z
theorem cs_pc_i (h : rv_r4 H 0) {z : Int} (hz : 0 ≤ z) : cs_pc H z = cs_code H z.toNat := by
  have e := cs_te h
  unfold cs_pc cs_code
  by_cases c : z = H 0
  · rw [if_pos c, if_pos (by omega)]
  · rw [if_neg c, if_neg (by omega)]; omega
theorem cs_pc_n (h : rv_r4 H 0) (n : Nat) : cs_pc H (n : Int) = cs_code H n := cs_pc_i h (Int.natCast_nonneg n)
theorem cs_S_cg : ∀ (r m a : Nat) (L L' : Nat → Int), (∀ k, k < cs_t H → L k = L' k) → cs_S H r m a L = cs_S H r m a L'
  | 0, m, a, L, L', h => by
    have e : cs_met H L ↔ cs_met H L' := ⟨fun q k hk => by rw [← h k hk]; exact q k hk, fun q k hk => by rw [h k hk]; exact q k hk⟩
    unfold cs_S
    by_cases c : cs_met H L
    · rw [if_pos c, if_pos (e.mp c)]
    · rw [if_neg c, if_neg (fun z => c (e.mpr z))]
  | r + 1, m, a, L, L', h => by
    show cs_fold _ _ = cs_fold _ _
    refine cs_fold_cg _ (fun c hc => ?_)
    show cs_add _ _ _ (cs_S H r (m + 1) c (cs_lk H L c m)) = cs_add _ _ _ (cs_S H r (m + 1) c (cs_lk H L' c m))
    rw [cs_S_cg r (m + 1) c (cs_lk H L c m) (cs_lk H L' c m) (fun k hk => by unfold cs_lk; rw [h k hk])]
theorem cs_pre_cg {k : Int} {P P' : Nat → Int} {m : Nat} {a : cs_R} (h : ∀ j, j < m → P j = P' j) : cs_pre k P m a = cs_pre k P' m a := by
  cases a with
  | none => rfl
  | some x =>
    show some (k + x.1, _) = some (k + x.1, _)
    congr 1
    refine Prod.ext rfl (funext fun j => ?_)
    show (if j < m then P j else x.2 j) = (if j < m then P' j else x.2 j)
    by_cases e : j < m
    · rw [if_pos e, if_pos e, h j e]
    · rw [if_neg e, if_neg e]
/-- a best so far in numbers (far: none; then the plan is as it was) -/
def cs_N (far : Int) (P0 : Nat → Int) (b : cs_R) (best : Int) (PL : Nat → Int) : Prop := match b with
  | none => best = far ∧ ∀ j, j < 12 → PL j = P0 j
  | some x => x.1 = best ∧ 0 ≤ best ∧ best < far ∧ ∀ j, j < 12 → PL j = x.2 j
theorem cs_N.b {far : Int} {P0 : Nat → Int} {b : cs_R} {best : Int} {PL : Nat → Int} (h : cs_N far P0 b best PL) (h0 : 0 ≤ far) : 0 ≤ best ∧ best ≤ far := by
  cases b with
  | none => have h : best = far := h.1; omega
  | some x => obtain ⟨-, h1, h2, -⟩ := h; omega
theorem cs_N.le {far : Int} {P0 : Nat → Int} {b : cs_R} {best k : Int} {PL : Nat → Int} (h : cs_N far P0 b best PL) (hk : best ≤ k) (hf : k < far) : cs_le b k := by
  cases b with
  | none => have h : best = far := h.1; omega
  | some x => exact ⟨x, rfl, by rw [h.1]; exact hk⟩
theorem cs_N.cg {far : Int} {P0 : Nat → Int} {b : cs_R} {best : Int} {PL PL' : Nat → Int} (h : cs_N far P0 b best PL) (e : ∀ j, j < 12 → PL' j = PL j) : cs_N far P0 b best PL' := by
  cases b with
  | none => exact ⟨h.1, fun j hj => (e j hj).trans (h.2 j hj)⟩
  | some x => exact ⟨h.1, h.2.1, h.2.2.1, fun j hj => (e j hj).trans (h.2.2.2 j hj)⟩
/-- a better one is taken -/
theorem cs_N.tk {far : Int} {P0 : Nat → Int} {b : cs_R} {best k : Int} {PL : Nat → Int} (h : cs_N far P0 b best PL) (x : Int × (Nat → Int)) (e : x.1 = k) (hk : k < best) : cs_min b (some x) = some x := by
  cases b with
  | none => rfl
  | some y =>
    have := h.1
    exact if_pos (by omega)
end CX
end
