/-! ===== ln_ and an_ over closed sets of methods (laid by a program) ===== -/
def st_in (S : Nat) (y : Nat) : Bool := Nat.beq ((S >>> y) % 2) 1
def ln_St : Nat := 59285549385721213011264284676490819771650603643434741139068224334238290959400951
def an_St : Nat := 59285549689505892056767910696682021928652519235669645881542396562223317323874295
theorem ln_Sk : ∀ y, st_in ln_St y = true → (mj_tab y).2.2.2.2.1.all (ln_nz (st_in ln_St)) = true := by
  have h : ((List.range 300).all fun y => cond (st_in ln_St y) ((mj_tab y).2.2.2.2.1.all (ln_nz (st_in ln_St))) true) = true := by decide +kernel
  intro y hy
  have hl : y < 300 := by
    refine Decidable.byContradiction (fun n => ?_)
    have : ln_St >>> y = 0 := by
      rw [Nat.shiftRight_eq_div_pow]
      refine Nat.div_eq_of_lt (Nat.lt_of_lt_of_le (?_ : ln_St < 2 ^ 300) (Nat.pow_le_pow_right (by decide) (by omega)))
      decide +kernel
    unfold st_in at hy
    rw [this] at hy
    cases hy
  have := List.all_eq_true.mp h y (List.mem_range.mpr hl)
  rw [hy] at this
  exact this
theorem an_Sk : ∀ y, st_in an_St y = true → (mj_tab y).2.2.2.2.1.all (an_nz (st_in an_St)) = true := by
  have h : ((List.range 300).all fun y => cond (st_in an_St y) ((mj_tab y).2.2.2.2.1.all (an_nz (st_in an_St))) true) = true := by decide +kernel
  intro y hy
  have hl : y < 300 := by
    refine Decidable.byContradiction (fun n => ?_)
    have : an_St >>> y = 0 := by
      rw [Nat.shiftRight_eq_div_pow]
      refine Nat.div_eq_of_lt (Nat.lt_of_lt_of_le (?_ : an_St < 2 ^ 300) (Nat.pow_le_pow_right (by decide) (by omega)))
      decide +kernel
    unfold st_in at hy
    rw [this] at hy
    cases hy
  have := List.all_eq_true.mp h y (List.mem_range.mpr hl)
  rw [hy] at this
  exact this
theorem ln_S : ∀ d, ln_C (fun y => st_in ln_St y) (mj_R mj_tab d)
  | 0 => fun _ _ _ _ _ _ h1 => h1.elim
  | d + 1 => fun y av G M R h h1 => ⟨h1.1, ln_W (ok := fun y => st_in ln_St y) (mj_R_mo mj_tab d) (ln_S d) (fun x hx => List.all_eq_true.mp (ln_Sk y h) x hx) (fun x hx => List.all_eq_true.mp (ln_Sk y h) x hx) h1.2⟩
theorem an_S : ∀ d, an_C (fun y => st_in an_St y) (mj_R mj_tab d)
  | 0 => fun _ _ _ _ _ _ _ h1 _ => h1.elim
  | d + 1 => fun y av G M R R' h h1 h2 => ⟨h1.1, an_W (ok := fun y => st_in an_St y) (mj_R_mo mj_tab d) (an_S d) (fun x hx => List.all_eq_true.mp (an_Sk y h) x hx) (fun x hx => List.all_eq_true.mp (an_Sk y h) x hx) h1.2 h2.2⟩
/-- two proofs of one call; longs of arrays as they were -/
theorem sn_and {dd y : Nat} {av : List mj_V} {G : mj_G} {M : mj_M} {R R' Q : mj_P} (hk : st_in an_St y = true) (h1 : mj_R mj_tab dd y av G M R) (h2 : mj_R mj_tab dd y av G M R') (h : ∀ r G M, R r G M → R' r G M → Q r G M) : mj_R mj_tab dd y av G M Q := mj_R_mo mj_tab dd _ _ _ _ _ _ (fun r G M q => h r G M q.1 q.2) (an_S dd y av G M R R' hk h1 h2)
theorem sn_ln {dd y : Nat} {av : List mj_V} {G : mj_G} {M : mj_M} {R Q : mj_P} (hk : st_in ln_St y = true) (h1 : mj_R mj_tab dd y av G M R) (h : ∀ r M', R r G M' → ln G M M' → Q r G M') : mj_R mj_tab dd y av G M Q := mj_R_mo mj_tab dd _ _ _ _ _ _ (fun r G' M' q => by
  obtain ⟨q1, rfl, q3⟩ := q
  exact h r M' q1 q3) (ln_S dd y av G M R hk h1)
