/-! ===== all needs are met: the first way that costs nothing ===== -/
theorem cs_fold_first {f : Nat → cs_R} {i : Nat} {x : Int × (Nat → Int)} (e : f i = some x) (hb : ∀ j, j < i → ∀ c, cs_le (f j) c → x.1 < c) : ∀ n, i < n → (∀ j, i < j → j < n → ∀ c, cs_le (f j) c → x.1 ≤ c) → cs_fold f n = some x
  | 0, h, _ => absurd h (Nat.not_lt_zero _)
  | n + 1, h, ha => by
    show cs_min (cs_fold f n) (f n) = _
    by_cases p : i = n
    · subst p
      rw [e]
      cases q : cs_fold f i with
      | none => rfl
      | some y =>
        obtain ⟨j, hj, hl⟩ := (cs_fold_le (f := f) (c := y.1) i).mp ⟨y, q, Int.le_refl _⟩
        have := hb j hj _ hl
        exact if_pos this
    · rw [cs_fold_first e hb n (by omega) (fun j h1 h2 => ha j h1 (by omega))]
      cases q : f n with
      | none => rfl
      | some y =>
        have := ha n (by omega) (by omega) y.1 ⟨y, q, Int.le_refl _⟩
        exact if_neg (by omega)
section CM
variable {H : Nat → Int}
theorem cs_met_S (h : cs_ok H) : ∀ (r m a : Nat) (L : Nat → Int), a < cs_t H + 1 → cs_met H L → ∃ P, cs_S H r m a L = some (0, P)
  | 0, m, a, L, ha, g => ⟨fun _ => 0, by unfold cs_S; exact if_pos g⟩
  | r + 1, m, a, L, ha, g => by
    have g2 : cs_met H (cs_lk H L a m) := fun k hk => Int.le_trans (cs_lk_le L a m k) (g k hk)
    obtain ⟨P, e⟩ := cs_met_S h r (m + 1) a _ ha g2
    have l : cs_le (cs_S H (r + 1) m a L) 0 := cs_S1_le.mpr ⟨a, ha, by rw [cs_cost_s]; exact ⟨_, e, Int.le_refl _⟩⟩
    obtain ⟨x, e1, hx⟩ := l
    have := cs_S_0 h (r + 1) m a L x.1 ⟨x, e1, Int.le_refl _⟩
    obtain ⟨x1, x2⟩ := x
    have hx' : x1 ≤ 0 := hx
    have this' : 0 ≤ x1 := this
    have : x1 = 0 := by omega
    subst this
    exact ⟨x2, e1⟩
/-- one month of it: the first place that is come to for nothing -/
theorem cs_met_step (h : cs_ok H) {r m a p : Nat} {L : Nat → Int} (g : cs_met H L) (hp : p < cs_t H + 1) (h0 : cs_cost H a p = 0) (hf : ∀ j, j < p → cs_cost H a j ≠ 0) : cs_S H (r + 1) m a L = cs_add 0 m (cs_code H p) (cs_S H r (m + 1) p (cs_lk H L p m)) := by
  have g2 : cs_met H (cs_lk H L p m) := fun k hk => Int.le_trans (cs_lk_le L p m k) (g k hk)
  obtain ⟨P, e⟩ := cs_met_S h r (m + 1) p _ hp g2
  rw [e]
  show cs_fold (fun c => cs_add (cs_cost H a c) m (cs_code H c) (cs_S H r (m + 1) c (cs_lk H L c m))) (cs_t H + 1) = some (0 + 0, _)
  refine cs_fold_first (i := p) ?_ (fun j hj c q => ?_) _ hp (fun j hj hn c q => ?_)
  · show cs_add (cs_cost H a p) m (cs_code H p) (cs_S H r (m + 1) p (cs_lk H L p m)) = _
    rw [e, h0]; rfl
  · have q := cs_S_0 h _ _ _ _ _ (cs_add_le.mp q)
    have := cs_cost_0 h a j
    have := hf j hj
    show (0 : Int) + 0 < c
    omega
  · have q := cs_S_0 h _ _ _ _ _ (cs_add_le.mp q)
    have := cs_cost_0 h a j
    show (0 : Int) + 0 ≤ c
    omega
end CM
