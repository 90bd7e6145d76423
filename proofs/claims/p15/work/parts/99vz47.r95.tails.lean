/-! ===== the last months: all ways in their order ===== -/
theorem cs_fold_add {g : Nat → cs_R} {m : Nat} : ∀ n, cs_fold g (m + n) = cs_min (cs_fold g m) (cs_fold (fun i => g (m + i)) n)
  | 0 => (cs_min_none _).symm
  | n + 1 => by
    show cs_min (cs_fold g (m + n)) (g (m + n)) = cs_min (cs_fold g m) (cs_min (cs_fold (fun i => g (m + i)) n) (g (m + n)))
    rw [cs_fold_add n, cs_min_assoc]
theorem cs_fold_flat {g : Nat → cs_R} {n : Nat} : ∀ t, cs_fold (fun c => cs_fold (fun i => g (c * n + i)) n) t = cs_fold g (t * n)
  | 0 => by rw [Nat.zero_mul]; rfl
  | t + 1 => by
    show cs_min (cs_fold (fun c => cs_fold (fun i => g (c * n + i)) n) t) (cs_fold (fun i => g (t * n + i)) n) = _
    rw [cs_fold_flat t, Nat.succ_mul, cs_fold_add n]
theorem cs_fold_cg {f g : Nat → cs_R} : ∀ n, (∀ i, i < n → f i = g i) → cs_fold f n = cs_fold g n
  | 0, _ => rfl
  | n + 1, h => by
    show cs_min (cs_fold f n) (f n) = cs_min (cs_fold g n) (g n)
    rw [cs_fold_cg n (fun i hi => h i (by omega)), h n (by omega)]
theorem cs_add_min (k : Int) (m : Nat) (p : Int) (a b : cs_R) : cs_add k m p (cs_min a b) = cs_min (cs_add k m p a) (cs_add k m p b) := by
  cases a with
  | none => rfl
  | some x =>
    cases b with
    | none => rfl
    | some y =>
      show cs_add k m p (if y.1 < x.1 then some y else some x) = (if k + y.1 < k + x.1 then _ else _)
      by_cases c : y.1 < x.1
      · rw [if_pos c, if_pos (by omega)]; rfl
      · rw [if_neg c, if_neg (by omega)]; rfl
theorem cs_add_fold (k : Int) (m : Nat) (p : Int) (f : Nat → cs_R) : ∀ n, cs_add k m p (cs_fold f n) = cs_fold (fun i => cs_add k m p (f i)) n
  | 0 => rfl
  | n + 1 => by
    show cs_add k m p (cs_min _ _) = cs_min _ _
    rw [cs_add_min, cs_add_fold k m p f n]
section CT
variable (H : Nat → Int)
/-- of the i-th way of r months from m on: what it brings a town, what it costs behind its first place, its plan -/
def cw_g (k : Nat) : Nat → Nat → Nat → Int
  | 0, _, _ => 0
  | r + 1, m, i => cw_g k r (m + 1) (i % cs_t H ^ r) + (if k = i / cs_t H ^ r then cs_gain H k m else 0)
def cw_c : Nat → Nat → Int
  | 0, _ => 0
  | 1, _ => 0
  | r + 2, i => cw_c (r + 1) (i % cs_t H ^ (r + 1)) + cs_cost H (i / cs_t H ^ (r + 1)) (i % cs_t H ^ (r + 1) / cs_t H ^ r)
def cw_p : Nat → Nat → Nat → Nat → Int
  | 0, _, _, _ => 0
  | r + 1, m, i, j => if j = m then cs_code H (i / cs_t H ^ r) else cw_p r (m + 1) (i % cs_t H ^ r) j
def cw_m (L : Nat → Int) (r m i : Nat) : Prop := ∀ k, k < cs_t H → L k ≤ cw_g H k r m i
/-- its outcome from a place -/
noncomputable def cw_R (r m a : Nat) (L : Nat → Int) (i : Nat) : cs_R := @ite _ (cw_m H L (r + 1) m i) (Classical.propDecidable _) (some (cw_c H (r + 1) i + cs_cost H a (i / cs_t H ^ r), cw_p H (r + 1) m i)) none
end CT
section CV
variable {H : Nat → Int}
theorem cw_dv {t n i : Nat} (hi : i < n) : (t * n + i) / n = t ∧ (t * n + i) % n = i := by
  have hn : 0 < n := by omega
  constructor
  · rw [Nat.mul_comm, Nat.mul_add_div hn, Nat.div_eq_of_lt hi, Nat.add_zero]
  · rw [Nat.mul_comm, Nat.mul_add_mod, Nat.mod_eq_of_lt hi]
theorem cw_m_s {L : Nat → Int} {r m c i : Nat} (hi : i < cs_t H ^ r) : cw_m H L (r + 1) m (c * cs_t H ^ r + i) ↔ cw_m H (cs_lk H L c m) r (m + 1) i := by
  obtain ⟨e1, e2⟩ := cw_dv (t := c) hi
  unfold cw_m
  constructor
  · intro h k hk
    have h := h k hk
    have e : cw_g H k (r + 1) m (c * cs_t H ^ r + i) = cw_g H k r (m + 1) i + (if k = c then cs_gain H k m else 0) := by
      show cw_g H k r (m + 1) _ + (if k = _ / _ then _ else _) = _
      rw [e1, e2]
    rw [e] at h
    unfold cs_lk
    by_cases q : k = c
    · rw [if_pos q] at h ⊢; rw [← q]; omega
    · rw [if_neg q] at h ⊢; omega
  · intro h k hk
    have h := h k hk
    have e : cw_g H k (r + 1) m (c * cs_t H ^ r + i) = cw_g H k r (m + 1) i + (if k = c then cs_gain H k m else 0) := by
      show cw_g H k r (m + 1) _ + (if k = _ / _ then _ else _) = _
      rw [e1, e2]
    rw [e]
    unfold cs_lk at h
    by_cases q : k = c
    · rw [if_pos q] at h ⊢; rw [← q] at h; omega
    · rw [if_neg q] at h ⊢; omega
theorem cw_R_s {L : Nat → Int} {r m a c i : Nat} (hi : i < cs_t H ^ (r + 1)) : cs_add (cs_cost H a c) m (cs_code H c) (cw_R H r (m + 1) c (cs_lk H L c m) i) = cw_R H (r + 1) m a L (c * cs_t H ^ (r + 1) + i) := by
  obtain ⟨e1, e2⟩ := cw_dv (t := c) hi
  have hm := cw_m_s (H := H) (L := L) (m := m) (c := c) hi
  unfold cw_R
  by_cases q : cw_m H (cs_lk H L c m) (r + 1) (m + 1) i
  · rw [if_pos q, if_pos (hm.mpr q), e1]
    show some (cs_cost H a c + (cw_c H (r + 1) i + cs_cost H c (i / cs_t H ^ r)), _) = some (cw_c H (r + 1) ((c * cs_t H ^ (r + 1) + i) % cs_t H ^ (r + 1)) + cs_cost H ((c * cs_t H ^ (r + 1) + i) / cs_t H ^ (r + 1)) ((c * cs_t H ^ (r + 1) + i) % cs_t H ^ (r + 1) / cs_t H ^ r) + cs_cost H a c, _)
    rw [e1, e2]
    congr 1
    refine Prod.ext (by show cs_cost H a c + (cw_c H (r + 1) i + cs_cost H c (i / cs_t H ^ r)) = cw_c H (r + 1) i + cs_cost H c (i / cs_t H ^ r) + cs_cost H a c; omega) (funext fun j => ?_)
    show (if j = m then cs_code H c else cw_p H (r + 1) (m + 1) i j) = (if j = m then cs_code H ((c * cs_t H ^ (r + 1) + i) / cs_t H ^ (r + 1)) else cw_p H (r + 1) (m + 1) ((c * cs_t H ^ (r + 1) + i) % cs_t H ^ (r + 1)) j)
    rw [e1, e2]
  · rw [if_neg q, if_neg (fun z => q (hm.mp z))]; rfl
/-- the last months by their list -/
theorem cw_all : ∀ (r m a : Nat) (L : Nat → Int), cs_T H (r + 1) m a L = cs_fold (cw_R H r m a L) (cs_t H ^ (r + 1))
  | 0, m, a, L => by
    show cs_fold (fun c => cs_add (cs_cost H a c) m (cs_code H c) (cs_T H 0 (m + 1) c (cs_lk H L c m))) (cs_t H) = cs_fold _ (cs_t H ^ 1)
    rw [Nat.pow_one]
    refine cs_fold_cg _ (fun c hc => ?_)
    have hm : cw_m H L (0 + 1) m c ↔ cw_m H (cs_lk H L c m) 0 (m + 1) 0 := by
      have h1 := cw_m_s (H := H) (L := L) (r := 0) (m := m) (c := c) (i := 0) (by rw [Nat.pow_zero]; omega)
      rwa [Nat.pow_zero, Nat.mul_one, Nat.add_zero c] at h1
    have h0 : cw_m H (cs_lk H L c m) 0 (m + 1) 0 ↔ cs_met H (cs_lk H L c m) := Iff.rfl
    unfold cw_R cs_T
    by_cases q : cs_met H (cs_lk H L c m)
    · rw [if_pos q, if_pos (hm.mpr (h0.mpr q)), Nat.pow_zero, Nat.div_one]
      show some (cs_cost H a c + 0, _) = some (0 + cs_cost H a c, _)
      congr 1
      refine Prod.ext (by show cs_cost H a c + 0 = 0 + cs_cost H a c; omega) (funext fun j => ?_)
      show (if j = m then cs_code H c else 0) = (if j = m then cs_code H (c / cs_t H ^ 0) else 0)
      rw [Nat.pow_zero, Nat.div_one]
    · rw [if_neg q, if_neg (fun z => q (h0.mp (hm.mp z)))]; rfl
  | r + 1, m, a, L => by
    show cs_fold (fun c => cs_add (cs_cost H a c) m (cs_code H c) (cs_T H (r + 1) (m + 1) c (cs_lk H L c m))) (cs_t H) = _
    rw [show cs_t H ^ (r + 1 + 1) = cs_t H * cs_t H ^ (r + 1) by rw [Nat.pow_succ, Nat.mul_comm], ← cs_fold_flat]
    refine cs_fold_cg _ (fun c hc => ?_)
    show cs_add (cs_cost H a c) m (cs_code H c) (cs_T H (r + 1) (m + 1) c (cs_lk H L c m)) = _
    rw [cw_all r (m + 1) c, cs_add_fold]
    exact cs_fold_cg _ (fun i hi => cw_R_s hi)
/-- a search through the list, from a best so far -/
noncomputable def cw_run (b : cs_R) (k : Int) (P : Nat → Int) (r m a : Nat) (L : Nat → Int) (n : Nat) : cs_R := cs_min b (cs_fold (fun i => cs_pre k P m (cw_R H r m a L i)) n)
theorem cw_run_0 {b : cs_R} {k : Int} {P : Nat → Int} {r m a : Nat} {L : Nat → Int} : cw_run (H := H) b k P r m a L 0 = b := cs_min_none b
theorem cw_run_s {b : cs_R} {k : Int} {P : Nat → Int} {r m a : Nat} {L : Nat → Int} {n : Nat} : cw_run (H := H) b k P r m a L (n + 1) = cs_min (cw_run (H := H) b k P r m a L n) (cs_pre k P m (cw_R H r m a L n)) := by
  unfold cw_run
  rw [cs_min_assoc]; rfl
theorem cw_run_e {b : cs_R} {k : Int} {P : Nat → Int} {r m a : Nat} {L : Nat → Int} : cw_run (H := H) b k P r m a L (cs_t H ^ (r + 1)) = cs_min b (cs_pre k P m (cs_T H (r + 1) m a L)) := by
  unfold cw_run
  rw [cw_all, cs_pre_fold]
end CV
section CW
variable {H : Nat → Int}
/-- the number of a way tells its towns, the last month's first -/
theorem cw_p_d : ∀ (r m i q : Nat), q ≤ r → i < cs_t H ^ (r + 1) → cw_p H (r + 1) m i (m + q) = cs_code H (i / cs_t H ^ (r - q) % cs_t H)
  | r, m, i, 0, _, h => by
    rw [Nat.add_zero, Nat.sub_zero]
    show (if m = m then cs_code H (i / cs_t H ^ r) else _) = _
    rw [if_pos rfl, Nat.mod_eq_of_lt (Nat.div_lt_of_lt_mul (show i < cs_t H ^ r * cs_t H by rw [← Nat.pow_succ]; exact h))]
  | 0, m, i, q + 1, hq, _ => absurd hq (by omega)
  | r + 1, m, i, q + 1, hq, h => by
    have hp : 0 < cs_t H ^ (r + 1) := Nat.pos_of_ne_zero (fun z => by rw [Nat.pow_succ, z, Nat.zero_mul] at h; exact absurd h (Nat.not_lt_zero _))
    show (if m + (q + 1) = m then cs_code H (i / cs_t H ^ (r + 1)) else cw_p H (r + 1) (m + 1) (i % cs_t H ^ (r + 1)) (m + (q + 1))) = _
    rw [if_neg (by omega), show m + (q + 1) = m + 1 + q by omega, cw_p_d r (m + 1) (i % cs_t H ^ (r + 1)) q (by omega) (Nat.mod_lt _ hp), show r + 1 - (q + 1) = r - q by omega]
    have e : cs_t H ^ (r + 1) = cs_t H ^ (r - q) * cs_t H ^ (q + 1) := by rw [← Nat.pow_add, show r - q + (q + 1) = r + 1 by omega]
    rw [e, Nat.mod_mul_right_div_self, Nat.mod_mod_of_dvd _ ⟨cs_t H ^ q, by rw [Nat.pow_succ, Nat.mul_comm]⟩]
theorem cw_p_o : ∀ (r m i j : Nat), j < m → cw_p H r m i j = 0
  | 0, _, _, _, _ => rfl
  | r + 1, m, i, j, h => by
    show (if j = m then _ else cw_p H r (m + 1) (i % cs_t H ^ r) j) = 0
    rw [if_neg (by omega)]
    exact cw_p_o r (m + 1) _ j (by omega)
theorem cw_pow (h1 : 1 ≤ cs_t H) (h3 : cs_t H ≤ 3) : cs_t H ^ 1 ≤ 3 ∧ cs_t H ^ 2 ≤ 9 ∧ cs_t H ^ 3 ≤ 27 ∧ cs_t H ^ 4 ≤ 81 := ⟨Nat.pow_le_pow_left h3 1, Nat.pow_le_pow_left h3 2, Nat.pow_le_pow_left h3 3, Nat.pow_le_pow_left h3 4⟩
theorem cw_c_0 (h : cs_ok H) : ∀ (r i : Nat), 0 ≤ cw_c H r i
  | 0, _ => Int.le_refl _
  | 1, _ => Int.le_refl _
  | r + 2, i => by
    have h1 := cw_c_0 h (r + 1) (i % cs_t H ^ (r + 1))
    have h2 := cs_cost_0 h (i / cs_t H ^ (r + 1)) (i % cs_t H ^ (r + 1) / cs_t H ^ r)
    show 0 ≤ cw_c H (r + 1) (i % cs_t H ^ (r + 1)) + cs_cost H (i / cs_t H ^ (r + 1)) (i % cs_t H ^ (r + 1) / cs_t H ^ r)
    omega
end CW
