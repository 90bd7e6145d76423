/-! ===== the cheapest letting as a pure thing: the first of the cheapest ways ===== -/
abbrev cs_R : Type := Option (Int × (Nat → Int))
def cs_add (k : Int) (m : Nat) (c : Int) (a : cs_R) : cs_R := a.map (fun x => (k + x.1, fun j => if j = m then c else x.2 j))
/-- of two, the second only if it is less -/
def cs_min (a b : cs_R) : cs_R := match a, b with
  | none, b => b
  | some x, none => some x
  | some x, some y => if y.1 < x.1 then some y else some x
def cs_fold (f : Nat → cs_R) : Nat → cs_R
  | 0 => none
  | n + 1 => cs_min (cs_fold f n) (f n)
/-- the least of all is c at most -/
def cs_le (a : cs_R) (c : Int) : Prop := ∃ x, a = some x ∧ x.1 ≤ c
theorem cs_min_le {a b : cs_R} {c : Int} : cs_le (cs_min a b) c ↔ cs_le a c ∨ cs_le b c := by
  unfold cs_le cs_min
  cases a with
  | none => simp
  | some x =>
    cases b with
    | none => simp
    | some y =>
      show (∃ z, (if y.1 < x.1 then some y else some x) = some z ∧ z.1 ≤ c) ↔ _
      split
      · rename_i h
        constructor
        · rintro ⟨z, e, hz⟩; cases e; exact Or.inr ⟨y, rfl, hz⟩
        · rintro (⟨z, e, hz⟩ | ⟨z, e, hz⟩)
          · cases e; exact ⟨y, rfl, by omega⟩
          · cases e; exact ⟨y, rfl, hz⟩
      · rename_i h
        constructor
        · rintro ⟨z, e, hz⟩; cases e; exact Or.inl ⟨x, rfl, hz⟩
        · rintro (⟨z, e, hz⟩ | ⟨z, e, hz⟩)
          · cases e; exact ⟨x, rfl, hz⟩
          · cases e; exact ⟨x, rfl, by omega⟩
theorem cs_fold_le {f : Nat → cs_R} {c : Int} : ∀ n, cs_le (cs_fold f n) c ↔ ∃ i, i < n ∧ cs_le (f i) c
  | 0 => by
    constructor
    · rintro ⟨x, e, -⟩; cases e
    · rintro ⟨i, h, -⟩; omega
  | n + 1 => by
    show cs_le (cs_min (cs_fold f n) (f n)) c ↔ _
    rw [cs_min_le, cs_fold_le n]
    constructor
    · rintro (⟨i, h, g⟩ | g)
      · exact ⟨i, by omega, g⟩
      · exact ⟨n, by omega, g⟩
    · rintro ⟨i, h, g⟩
      by_cases e : i = n
      · rw [e] at g; exact Or.inr g
      · exact Or.inl ⟨i, by omega, g⟩
theorem cs_add_le {k c : Int} {m : Nat} {p : Int} {a : cs_R} : cs_le (cs_add k m p a) c ↔ cs_le a (c - k) := by
  unfold cs_le cs_add
  cases a with
  | none => simp
  | some x =>
    constructor
    · rintro ⟨y, e, h⟩; cases e; exact ⟨x, rfl, by show x.1 ≤ c - k; have : k + x.1 ≤ c := h; omega⟩
    · rintro ⟨y, e, h⟩; cases e; exact ⟨_, rfl, by show k + x.1 ≤ c; omega⟩
theorem cs_le.mono {a : cs_R} {c d : Int} (h : cs_le a c) (e : c ≤ d) : cs_le a d := by
  obtain ⟨x, h1, h2⟩ := h
  exact ⟨x, h1, by omega⟩
theorem cs_none {a : cs_R} : a = none ↔ ∀ c, ¬ cs_le a c := by
  cases a with
  | none => exact ⟨fun _ c ⟨x, e, _⟩ => (by cases e), fun _ => rfl⟩
  | some x => exact ⟨fun h => (by cases h), fun h => absurd ⟨x, rfl, Int.le_refl _⟩ (h x.1)⟩
/-- the last of a fold isn't taken, if another is as little -/
theorem cs_fold_last {f : Nat → cs_R} {n : Nat} (h : ∀ c, cs_le (f n) c → ∃ i, i < n ∧ cs_le (f i) c) : cs_fold f (n + 1) = cs_fold f n := by
  show cs_min (cs_fold f n) (f n) = _
  cases e : f n with
  | none =>
    cases e2 : cs_fold f n with
    | none => rfl
    | some x => rfl
  | some y =>
    obtain ⟨i, hi, hl⟩ := h y.1 ⟨y, e, Int.le_refl _⟩
    obtain ⟨x, e2, hx⟩ := (cs_fold_le (f := f) (c := y.1) n).mpr ⟨i, hi, hl⟩
    rw [e2]
    exact if_neg (by omega)
def cs_d (a b : Nat) : Int := if a ≤ b then (b : Int) - a else (a : Int) - b
theorem cs_d_0 (a b : Nat) : 0 ≤ cs_d a b := by
  unfold cs_d
  split <;> omega
theorem cs_d_s (a : Nat) : cs_d a a = 0 := by
  unfold cs_d
  split <;> omega
section CP
variable (H : Nat → Int)
/-- towns; what a way costs between places (the SEA's is behind the last town), what a month brings -/
def cs_t : Nat := (H 0).toNat
def cs_cost (a b : Nat) : Int := H 1 * cs_d a b + (if b < cs_t H ∧ a ≠ b then H (10 + 9 * b) else 0)
def cs_gain (k m : Nat) : Int := if H (4 + 9 * k) < H (76 + m) then H (76 + m) - H (4 + 9 * k) else 0
def cs_lk (L : Nat → Int) (k m : Nat) : Nat → Int := fun j => if j = k then L j - cs_gain H k m else L j
def cs_code (c : Nat) : Int := if c = cs_t H then 8 else (c : Int)
def cs_met (L : Nat → Int) : Prop := ∀ k, k < cs_t H → L k ≤ 0
/-- the least of the months m, m + 1 .. (r of them), from a place, with what is lacking; and its first way -/
noncomputable def cs_S : Nat → Nat → Nat → (Nat → Int) → cs_R
  | 0, _, _, L => @ite _ (cs_met H L) (Classical.propDecidable _) (some (0, fun _ => 0)) none
  | r + 1, m, a, L => cs_fold (fun c => cs_add (cs_cost H a c) m (cs_code H c) (cs_S r (m + 1) c (cs_lk H L c m))) (cs_t H + 1)
/-- by towns alone -/
noncomputable def cs_T : Nat → Nat → Nat → (Nat → Int) → cs_R
  | 0, _, _, L => @ite _ (cs_met H L) (Classical.propDecidable _) (some (0, fun _ => 0)) none
  | r + 1, m, a, L => cs_fold (fun c => cs_add (cs_cost H a c) m (cs_code H c) (cs_T r (m + 1) c (cs_lk H L c m))) (cs_t H)
end CP
section CQ
variable {H : Nat → Int}
theorem cs_gain_0 (k m : Nat) : 0 ≤ cs_gain H k m := by
  unfold cs_gain
  split <;> omega
theorem cs_S0_le {m a : Nat} {L : Nat → Int} {c : Int} : cs_le (cs_S H 0 m a L) c ↔ cs_met H L ∧ 0 ≤ c := by
  unfold cs_S cs_le
  split
  · rename_i h
    exact ⟨fun ⟨x, e, hx⟩ => ⟨h, by cases e; exact hx⟩, fun q => ⟨_, rfl, q.2⟩⟩
  · rename_i h
    exact ⟨fun ⟨x, e, hx⟩ => (by cases e), fun q => absurd q.1 h⟩
theorem cs_S1_le {r m a : Nat} {L : Nat → Int} {c : Int} : cs_le (cs_S H (r + 1) m a L) c ↔ ∃ i, i < cs_t H + 1 ∧ cs_le (cs_S H r (m + 1) i (cs_lk H L i m)) (c - cs_cost H a i) := by
  show cs_le (cs_fold _ _) c ↔ _
  rw [cs_fold_le]
  exact ⟨fun ⟨i, h, g⟩ => ⟨i, h, cs_add_le.mp g⟩, fun ⟨i, h, g⟩ => ⟨i, h, cs_add_le.mpr g⟩⟩
/-- lacking less is no worse -/
theorem cs_S_mono : ∀ (r m a : Nat) (L L' : Nat → Int) (c : Int), (∀ k, k < cs_t H → L' k ≤ L k) → cs_le (cs_S H r m a L) c → cs_le (cs_S H r m a L') c
  | 0, m, a, L, L', c, h, g => by
    rw [cs_S0_le] at g ⊢
    exact ⟨fun k hk => Int.le_trans (h k hk) (g.1 k hk), g.2⟩
  | r + 1, m, a, L, L', c, h, g => by
    rw [cs_S1_le] at g ⊢
    obtain ⟨i, hi, g⟩ := g
    refine ⟨i, hi, cs_S_mono r _ _ _ _ _ (fun k hk => ?_) g⟩
    unfold cs_lk
    have := h k hk
    split <;> omega
/-- what the PLAIN gives: no number is less than nothing -/
def cs_ok (H : Nat → Int) : Prop := 0 ≤ H 1 ∧ ∀ k, k < cs_t H → 0 ≤ H (10 + 9 * k)
theorem cs_cost_0 (h : cs_ok H) (a b : Nat) : 0 ≤ cs_cost H a b := by
  have h1 : 0 ≤ H 1 * cs_d a b := Int.mul_nonneg h.1 (cs_d_0 a b)
  unfold cs_cost
  by_cases c : b < cs_t H ∧ a ≠ b
  · rw [if_pos c]; have := h.2 b c.1; omega
  · rw [if_neg c]; omega
theorem cs_cost_s (a : Nat) : cs_cost H a a = 0 := by
  unfold cs_cost
  rw [if_neg (fun h => h.2 rfl), cs_d_s, Int.mul_zero]; rfl
theorem cs_cost_sea (a : Nat) : cs_cost H a (cs_t H) = H 1 * cs_d a (cs_t H) := by
  unfold cs_cost
  rw [if_neg (fun h => absurd h.1 (Nat.lt_irrefl _)), Int.add_zero]
/-- over the SEA it isn't nearer -/
theorem cs_cost_tri (h : cs_ok H) {a b : Nat} (ha : a < cs_t H) (hb : b < cs_t H) : cs_cost H a b ≤ cs_cost H a (cs_t H) + cs_cost H (cs_t H) b := by
  rw [cs_cost_sea a]
  unfold cs_cost
  have h1 := h.2 b hb
  have h2 : H 1 * cs_d a b ≤ H 1 * cs_d a (cs_t H) + H 1 * cs_d (cs_t H) b := by
    rw [← Int.mul_add]
    refine Int.mul_le_mul_of_nonneg_left ?_ h.1
    unfold cs_d
    rw [if_pos (show a ≤ cs_t H by omega), if_neg (show ¬ cs_t H ≤ b by omega)]
    by_cases c : a ≤ b
    · rw [if_pos c]; omega
    · rw [if_neg c]; omega
  rw [if_pos (show b < cs_t H ∧ cs_t H ≠ b from ⟨hb, by omega⟩)]
  by_cases c : b < cs_t H ∧ a ≠ b
  · rw [if_pos c]; omega
  · rw [if_neg c]; omega
theorem cs_S_0 (h : cs_ok H) : ∀ (r m a : Nat) (L : Nat → Int) (c : Int), cs_le (cs_S H r m a L) c → 0 ≤ c
  | 0, m, a, L, c, g => (cs_S0_le.mp g).2
  | r + 1, m, a, L, c, g => by
    obtain ⟨i, hi, g⟩ := cs_S1_le.mp g
    have := cs_S_0 h r _ _ _ _ g
    have := cs_cost_0 h a i
    omega
/-- to stay is one way -/
theorem cs_S_stay {r m a : Nat} {L L' : Nat → Int} {c : Int} (ha : a < cs_t H + 1) (hl : ∀ k, k < cs_t H → cs_lk H L' a m k ≤ L k) (g : cs_le (cs_S H r (m + 1) a L) c) : cs_le (cs_S H (r + 1) m a L') c := by
  rw [cs_S1_le]
  refine ⟨a, ha, ?_⟩
  rw [cs_cost_s, Int.sub_zero]
  exact cs_S_mono _ _ _ _ _ _ hl g
theorem cs_lk_le (L : Nat → Int) (a m k : Nat) : cs_lk H L a m k ≤ L k := by
  unfold cs_lk
  have := cs_gain_0 (H := H) a m
  split <;> omega
/-- from a town it is no dearer than over the SEA -/
theorem cs_S_sea (h : cs_ok H) : ∀ (r m a : Nat) (L : Nat → Int) (c : Int), a < cs_t H → cs_le (cs_S H r m (cs_t H) L) c → cs_le (cs_S H r m a L) (cs_cost H a (cs_t H) + c)
  | 0, m, a, L, c, ha, g => by
    rw [cs_S0_le] at g ⊢
    have := cs_cost_0 h a (cs_t H)
    exact ⟨g.1, by omega⟩
  | r + 1, m, a, L, c, ha, g => by
    obtain ⟨i, hi, g⟩ := cs_S1_le.mp g
    by_cases e : i = cs_t H
    · subst e
      rw [cs_cost_s, Int.sub_zero] at g
      have g2 := cs_S_sea h r (m + 1) a _ c ha g
      refine cs_S_stay (by omega) (fun k hk => ?_) g2
      have : cs_lk H L (cs_t H) m k = L k := if_neg (by omega)
      rw [this]; exact cs_lk_le L a m k
    · refine cs_S1_le.mpr ⟨i, hi, g.mono ?_⟩
      have := cs_cost_tri h ha (show i < cs_t H by omega)
      omega
/-- from a town the SEA is never taken -/
theorem cs_S_T (h : cs_ok H) : ∀ (r m a : Nat) (L : Nat → Int), a < cs_t H → cs_S H r m a L = cs_T H r m a L
  | 0, m, a, L, ha => rfl
  | r + 1, m, a, L, ha => by
    have e : cs_S H (r + 1) m a L = cs_fold (fun c => cs_add (cs_cost H a c) m (cs_code H c) (cs_S H r (m + 1) c (cs_lk H L c m))) (cs_t H) := by
      refine cs_fold_last (fun c g => ⟨a, ha, ?_⟩)
      have g := cs_add_le.mp g
      refine cs_add_le.mpr ?_
      rw [cs_cost_s, Int.sub_zero]
      have g2 := cs_S_sea h r (m + 1) a _ _ ha g
      rw [show cs_cost H a (cs_t H) + (c - cs_cost H a (cs_t H)) = c by omega] at g2
      refine cs_S_mono _ _ _ _ _ _ (fun k hk => ?_) g2
      have : cs_lk H L (cs_t H) m k = L k := if_neg (by omega)
      rw [this]; exact cs_lk_le L a m k
    rw [e]
    have key : ∀ n, n ≤ cs_t H → cs_fold (fun c => cs_add (cs_cost H a c) m (cs_code H c) (cs_S H r (m + 1) c (cs_lk H L c m))) n = cs_fold (fun c => cs_add (cs_cost H a c) m (cs_code H c) (cs_T H r (m + 1) c (cs_lk H L c m))) n := by
      intro n
      induction n with
      | zero => intro _; rfl
      | succ n ih =>
        intro hn
        show cs_min _ _ = cs_min _ _
        rw [ih (by omega)]
        show cs_min _ (cs_add _ _ _ (cs_S H r (m + 1) n _)) = cs_min _ (cs_add _ _ _ (cs_T H r (m + 1) n _))
        rw [cs_S_T h r (m + 1) n _ (by omega)]
    exact key _ (Nat.le_refl _)
/-- from the SEA, when a town lacks: to wait is no better than to go at once -/
theorem cs_S_go (h : cs_ok H) : ∀ (r m : Nat) (L L' : Nat → Int) (c : Int), ¬ cs_met H L → (∀ k, k < cs_t H → L' k ≤ L k) → cs_le (cs_S H r m (cs_t H) L) c → ∃ i, i < cs_t H ∧ cs_le (cs_S H r m i L') (c - cs_cost H (cs_t H) i)
  | 0, m, L, L', c, hn, hl, g => absurd (cs_S0_le.mp g).1 hn
  | r + 1, m, L, L', c, hn, hl, g => by
    obtain ⟨i, hi, g⟩ := cs_S1_le.mp g
    by_cases e : i = cs_t H
    · subst e
      rw [cs_cost_s, Int.sub_zero] at g
      have hL : ∀ k, k < cs_t H → cs_lk H L (cs_t H) m k = L k := fun k hk => if_neg (by omega)
      obtain ⟨j, hj, g2⟩ := cs_S_go h r (m + 1) _ L' c (fun q => hn (fun k hk => by rw [← hL k hk]; exact q k hk)) (fun k hk => by rw [hL k hk]; exact hl k hk) g
      exact ⟨j, hj, cs_S_stay (by omega) (fun k hk => cs_lk_le L' j m k) g2⟩
    · refine ⟨i, by omega, ?_⟩
      refine cs_S_stay (by omega) (fun k hk => ?_) g
      unfold cs_lk
      have := hl k hk
      split <;> omega
theorem cs_S_start (h : cs_ok H) {r m : Nat} {L : Nat → Int} (hn : ¬ cs_met H L) : cs_S H (r + 1) m (cs_t H) L = cs_T H (r + 1) m (cs_t H) L := by
  have e : cs_S H (r + 1) m (cs_t H) L = cs_fold (fun c => cs_add (cs_cost H (cs_t H) c) m (cs_code H c) (cs_S H r (m + 1) c (cs_lk H L c m))) (cs_t H) := by
    refine cs_fold_last (fun c g => ?_)
    have g := cs_add_le.mp g
    rw [cs_cost_s, Int.sub_zero] at g
    have hL : ∀ k, k < cs_t H → cs_lk H L (cs_t H) m k = L k := fun k hk => if_neg (by omega)
    obtain ⟨j, hj, g2⟩ := cs_S_go h r (m + 1) _ L c (fun q => hn (fun k hk => by rw [← hL k hk]; exact q k hk)) (fun k hk => by rw [hL k hk]; exact Int.le_refl _) g
    exact ⟨j, hj, cs_add_le.mpr (cs_S_mono _ _ _ _ _ _ (fun k hk => cs_lk_le L j m k) g2)⟩
  rw [e]
  have key : ∀ n, n ≤ cs_t H → cs_fold (fun c => cs_add (cs_cost H (cs_t H) c) m (cs_code H c) (cs_S H r (m + 1) c (cs_lk H L c m))) n = cs_fold (fun c => cs_add (cs_cost H (cs_t H) c) m (cs_code H c) (cs_T H r (m + 1) c (cs_lk H L c m))) n := by
    intro n
    induction n with
    | zero => intro _; rfl
    | succ n ih =>
      intro hn
      show cs_min _ _ = cs_min _ _
      rw [ih (by omega)]
      show cs_min _ (cs_add _ _ _ (cs_S H r (m + 1) n _)) = cs_min _ (cs_add _ _ _ (cs_T H r (m + 1) n _))
      rw [cs_S_T h r (m + 1) n _ (by omega)]
  exact key _ (Nat.le_refl _)
end CQ
