/-! ===== what the abstract run says, the small machine does: worlds, values, numbers ===== -/
abbrev ab_wd : Type := Nat × (Nat → Int) × Nat × (Nat → Option Nat)
def ab_up (w w' : ab_wd) : Prop := w.1 ≤ w'.1 ∧ (∀ i, i < w.1 → w'.2.1 i = w.2.1 i) ∧ w.2.2.1 ≤ w'.2.2.1 ∧ ∀ i, i < w.2.2.1 → w'.2.2.2 i = w.2.2.2 i
theorem ab_up.rf {w : ab_wd} : ab_up w w := ⟨Nat.le_refl _, fun _ _ => rfl, Nat.le_refl _, fun _ _ => rfl⟩
theorem ab_up.tr {w w' w'' : ab_wd} (h : ab_up w w') (h' : ab_up w' w'') : ab_up w w'' :=
  ⟨Nat.le_trans h.1 h'.1, fun i hi => (h'.2.1 i (Nat.lt_of_lt_of_le hi h.1)).trans (h.2.1 i hi), Nat.le_trans h.2.2.1 h'.2.2.1, fun i hi => (h'.2.2.2 i (Nat.lt_of_lt_of_le hi h.2.2.1)).trans (h.2.2.2 i hi)⟩
def ab_RI (w : ab_wd) (x : ab_I) (z : Int) : Prop := match x with
  | .inl y => y = z
  | .inr (i, a, b) => i < w.1 ∧ Int.ofNat a * w.2.1 i + b = z
def ab_RV (w : ab_wd) (x : ab_V) (v : mj_V) : Prop := match x with
  | .inl x => ∃ z, v = .inl z ∧ ab_RI w x z
  | .inr (.inl _) => ∃ z, v = .inr (.inl z)
  | .inr (.inr j) => j < w.2.2.1 ∧ v = .inr (.inr (w.2.2.2 j))
def ab_RS (w : ab_wd) : List ab_V → List mj_V → Prop
  | [], t => t = []
  | x :: s, t => ∃ v t', t = v :: t' ∧ ab_RV w x v ∧ ab_RS w s t'
def ab_RL (w : ab_wd) : ab_L → mj_L → Prop
  | [], L => L = []
  | none :: s, L => ∃ v L', L = v :: L' ∧ ab_RL w s L'
  | some x :: s, L => ∃ v L', L = some v :: L' ∧ ab_RV w x v ∧ ab_RL w s L'
def ab_q1 (w : ab_wd) (i : Nat) (q : ab_S) : Prop := q.1 ≤ w.2.1 i ∧ w.2.1 i ≤ q.2.1 ∧ ∀ r ∈ q.2.2, r.1 < w.1 ∧ w.2.1 r.1 + r.2 ≤ w.2.1 i
def ab_RY (w : ab_wd) (Y : ab_Y) : Prop := w.1 = Y.length ∧ ∀ i q, ab_ny Y i = some q → ab_q1 w i q
def ab_rt (G : mj_G) (q : Nat × Nat) (o : Option Nat) : Prop := (q.1 = 0 ∧ (o = none ∨ ∃ a, o = some a ∧ (G a).1 % 1000 = 50)) ∨ (q.1 = 1 ∧ o = none) ∨ (q.1 = 50 ∧ ∃ a, o = some a ∧ (G a).1 % 1000 = 50) ∨ (q.1 ≠ 0 ∧ q.1 ≠ 1 ∧ q.1 ≠ 50 ∧ ∃ a, o = some a ∧ G a = q)
def ab_RR (w : ab_wd) (G : mj_G) (R : ab_R) : Prop := w.2.2.1 = R.length ∧ ∀ i q, ab_nR R i = some q → ab_rt G q (w.2.2.2 i)
def ab_hv (w : ab_wd) (M : mj_M) (a k : Nat) (v : ab_V) : Prop := match v with
  | .inl x => ab_RI w x (M.1 a k)
  | .inr (.inl _) => True
  | .inr (.inr j) => j < w.2.2.1 ∧ M.2.2 a k = w.2.2.2 j
def ab_e1 (w : ab_wd) (M : mj_M) (e : Nat × ab_I × ab_V) : Prop := e.1 < w.2.2.1 ∧ ∃ a z, w.2.2.2 e.1 = some a ∧ ab_RI w e.2.1 z ∧ 0 ≤ z ∧ ab_hv w M a z.toNat e.2.2
def ab_RM (w : ab_wd) (M : mj_M) (m : ab_m) : Prop := ∀ e ∈ m, ab_e1 w M e
def ab_RE (w : ab_wd) (E : ab_E) : Prop := ∀ e ∈ E, ∃ z, ab_RI w e.1 z ∧ ab_RI w e.2.2 (Int32.ofInt z &&& Int32.ofInt e.2.1).toInt
theorem ab_RI.up {w w' : ab_wd} {x : ab_I} {z : Int} (u : ab_up w w') (h : ab_RI w x z) : ab_RI w' x z := by
  rcases x with y | ⟨i, a, b⟩
  · exact h
  · exact ⟨Nat.lt_of_lt_of_le h.1 u.1, by rw [u.2.1 i h.1]; exact h.2⟩
theorem ab_RI.fn {w : ab_wd} {x : ab_I} {z z' : Int} (h : ab_RI w x z) (h' : ab_RI w x z') : z = z' := by
  rcases x with y | ⟨i, a, b⟩
  · exact (show y = z from h).symm.trans h'
  · exact h.2.symm.trans h'.2
theorem ab_RV.up {w w' : ab_wd} {x : ab_V} {v : mj_V} (u : ab_up w w') (h : ab_RV w x v) : ab_RV w' x v := by
  rcases x with x | x | j
  · obtain ⟨z, h1, h2⟩ := h; exact ⟨z, h1, h2.up u⟩
  · exact h
  · exact ⟨Nat.lt_of_lt_of_le h.1 u.2.2.1, by rw [u.2.2.2 j h.1]; exact h.2⟩
theorem ab_RS.up {w w' : ab_wd} (u : ab_up w w') : ∀ {s : List ab_V} {t : List mj_V}, ab_RS w s t → ab_RS w' s t
  | [], _, h => h
  | _ :: _, _, h => by
    obtain ⟨v, t', h1, h2, h3⟩ := h
    exact ⟨v, t', h1, h2.up u, h3.up u⟩
theorem ab_RL.up {w w' : ab_wd} (u : ab_up w w') : ∀ {s : ab_L} {t : mj_L}, ab_RL w s t → ab_RL w' s t
  | [], _, h => h
  | none :: _, _, h => by
    obtain ⟨v, t', h1, h3⟩ := h
    exact ⟨v, t', h1, h3.up u⟩
  | some _ :: _, _, h => by
    obtain ⟨v, t', h1, h2, h3⟩ := h
    exact ⟨v, t', h1, h2.up u, h3.up u⟩
theorem ab_hv.up {w w' : ab_wd} {M : mj_M} {a k : Nat} {v : ab_V} (u : ab_up w w') (h : ab_hv w M a k v) : ab_hv w' M a k v := by
  rcases v with x | x | j
  · exact ab_RI.up (x := x) u h
  · trivial
  · exact ⟨Nat.lt_of_lt_of_le h.1 u.2.2.1, by rw [u.2.2.2 j h.1]; exact h.2⟩
theorem ab_e1.up {w w' : ab_wd} {M : mj_M} {e : Nat × ab_I × ab_V} (u : ab_up w w') (h : ab_e1 w M e) : ab_e1 w' M e := by
  obtain ⟨h0, a, z, h1, h2, h4, h3⟩ := h
  exact ⟨Nat.lt_of_lt_of_le h0 u.2.2.1, a, z, by rw [u.2.2.2 _ h0]; exact h1, h2.up u, h4, h3.up u⟩
theorem ab_RM.up {w w' : ab_wd} {M : mj_M} {m : ab_m} (u : ab_up w w') (h : ab_RM w M m) : ab_RM w' M m := fun e he => (h e he).up u
theorem ab_RE.up {w w' : ab_wd} {E : ab_E} (u : ab_up w w') (h : ab_RE w E) : ab_RE w' E := fun e he => by
  obtain ⟨z, h1, h2⟩ := h e he
  exact ⟨z, h1.up u, h2.up u⟩
/-- the signs grow, the references stay -/
def ab_ey (w w' : ab_wd) : Prop := ab_up w w' ∧ w'.2.2 = w.2.2
theorem ab_ey.rf {w : ab_wd} : ab_ey w w := ⟨ab_up.rf, rfl⟩
theorem ab_ey.tr {w w' w'' : ab_wd} (h : ab_ey w w') (h' : ab_ey w' w'') : ab_ey w w'' := ⟨h.1.tr h'.1, h'.2.trans h.2⟩
theorem ab_RR.ey {w w' : ab_wd} {G : mj_G} {R : ab_R} (u : ab_ey w w') (h : ab_RR w G R) : ab_RR w' G R := by
  unfold ab_RR
  rw [u.2]
  exact h
/-- the references grow, the signs stay -/
def ab_er (w w' : ab_wd) : Prop := ab_up w w' ∧ w'.1 = w.1 ∧ w'.2.1 = w.2.1
theorem ab_er.rf {w : ab_wd} : ab_er w w := ⟨ab_up.rf, rfl, rfl⟩
theorem ab_RY.er {w w' : ab_wd} {Y : ab_Y} (u : ab_er w w') (h : ab_RY w Y) : ab_RY w' Y := by
  unfold ab_RY ab_q1
  rw [u.2.1, u.2.2]
  exact h
theorem ab_nR_lt : ∀ {R : ab_R} {i : Nat} {q : Nat × Nat}, ab_nR R i = some q → i < R.length
  | [], _, _, h => by cases h
  | _ :: _, 0, _, _ => Nat.succ_pos _
  | _ :: _, _ + 1, _, h => Nat.succ_lt_succ (ab_nR_lt (R := _) h)
theorem ab_ny_lt : ∀ {Y : ab_Y} {i : Nat} {q : ab_S}, ab_ny Y i = some q → i < Y.length
  | [], _, _, h => by cases h
  | _ :: _, 0, _, _ => Nat.succ_pos _
  | _ :: _, _ + 1, _, h => Nat.succ_lt_succ (ab_ny_lt (Y := _) h)
theorem ab_ny_app : ∀ (Y : ab_Y) (q : ab_S) (i : Nat) (r : ab_S), ab_ny (Y ++ [q]) i = some r → (i = Y.length ∧ r = q) ∨ ab_ny Y i = some r
  | [], q, 0, r, h => Or.inl ⟨rfl, (Option.some.inj h).symm⟩
  | [], q, i + 1, r, h => by cases h
  | x :: t, q, 0, r, h => Or.inr h
  | x :: t, q, i + 1, r, h => by
    rcases ab_ny_app t q i r h with ⟨h1, h2⟩ | h1
    · exact Or.inl ⟨by rw [h1]; rfl, h2⟩
    · exact Or.inr h1
theorem ab_ny_set : ∀ (Y : ab_Y) (j : Nat) (q : ab_S) (i : Nat) (r : ab_S), ab_ny (Y.set j q) i = some r → (i = j ∧ r = q) ∨ ab_ny Y i = some r
  | [], _, _, _, _, h => by cases h
  | x :: t, 0, q, 0, r, h => Or.inl ⟨rfl, (Option.some.inj h).symm⟩
  | x :: t, 0, q, i + 1, r, h => Or.inr h
  | x :: t, j + 1, q, 0, r, h => Or.inr h
  | x :: t, j + 1, q, i + 1, r, h => by
    rcases ab_ny_set t j q i r h with ⟨h1, h2⟩ | h1
    · exact Or.inl ⟨by rw [h1], h2⟩
    · exact Or.inr h1
theorem ab_nR_app : ∀ (Y : ab_R) (q : Nat × Nat) (i : Nat) (r : Nat × Nat), ab_nR (Y ++ [q]) i = some r → (i = Y.length ∧ r = q) ∨ ab_nR Y i = some r
  | [], q, 0, r, h => Or.inl ⟨rfl, (Option.some.inj h).symm⟩
  | [], q, i + 1, r, h => by cases h
  | x :: t, q, 0, r, h => Or.inr h
  | x :: t, q, i + 1, r, h => by
    rcases ab_nR_app t q i r h with ⟨h1, h2⟩ | h1
    · exact Or.inl ⟨by rw [h1]; rfl, h2⟩
    · exact Or.inr h1
theorem ab_nR_set : ∀ (Y : ab_R) (j : Nat) (q : Nat × Nat) (i : Nat) (r : Nat × Nat), ab_nR (Y.set j q) i = some r → (i = j ∧ r = q) ∨ ab_nR Y i = some r
  | [], _, _, _, _, h => by cases h
  | x :: t, 0, q, 0, r, h => Or.inl ⟨rfl, (Option.some.inj h).symm⟩
  | x :: t, 0, q, i + 1, r, h => Or.inr h
  | x :: t, j + 1, q, 0, r, h => Or.inr h
  | x :: t, j + 1, q, i + 1, r, h => by
    rcases ab_nR_set t j q i r h with ⟨h1, h2⟩ | h1
    · exact Or.inl ⟨by rw [h1], h2⟩
    · exact Or.inr h1
theorem ab_RY.set {w : ab_wd} {Y : ab_Y} (hY : ab_RY w Y) {i : Nat} {q : ab_S} (h : ab_q1 w i q) : ab_RY w (Y.set i q) := by
  refine ⟨by rw [List.length_set]; exact hY.1, fun j r hr => ?_⟩
  rcases ab_ny_set Y i q j r hr with ⟨h1, h2⟩ | h1
  · rw [h1, h2]; exact h
  · exact hY.2 j r h1
theorem ab_RR.set {w : ab_wd} {G : mj_G} {R : ab_R} (hR : ab_RR w G R) {i : Nat} {q : Nat × Nat} (h : ab_rt G q (w.2.2.2 i)) : ab_RR w G (R.set i q) := by
  refine ⟨by rw [List.length_set]; exact hR.1, fun j r hr => ?_⟩
  rcases ab_nR_set R i q j r hr with ⟨h1, h2⟩ | h1
  · rw [h1, h2]; exact h
  · exact hR.2 j r h1
/-! numbers -/
theorem ab_mn_s (x y : Int) : ab_mn x y ≤ x ∧ ab_mn x y ≤ y := by
  unfold ab_mn
  cases e : sx_le x y with
  | true => have := sx_le_iff.mp e; simp only [cond_true]; omega
  | false => have := sx_le_no (x := x) (y := y) (by rw [e]; exact Bool.false_ne_true); simp only [cond_false]; omega
theorem ab_mx_s (x y : Int) : x ≤ ab_mx x y ∧ y ≤ ab_mx x y := by
  unfold ab_mx
  cases e : sx_le x y with
  | true => have := sx_le_iff.mp e; simp only [cond_true]; omega
  | false => have := sx_le_no (x := x) (y := y) (by rw [e]; exact Bool.false_ne_true); simp only [cond_false]; omega
theorem ab_mn_or (x y : Int) : ab_mn x y = x ∨ ab_mn x y = y := by
  unfold ab_mn
  cases sx_le x y <;> simp
theorem ab_mx_or (x y : Int) : ab_mx x y = x ∨ ab_mx x y = y := by
  unfold ab_mx
  cases sx_le x y <;> simp
theorem ab_ml {a : Nat} {x y : Int} (h : x ≤ y) : Int.ofNat a * x ≤ Int.ofNat a * y := Int.mul_le_mul_of_nonneg_left h (Int.natCast_nonneg a)
theorem ab_iv_s {Y : ab_Y} {x : ab_I} {k : Int → Int → Bool} {w : ab_wd} {z : Int} (h : ab_iv Y x k = true) (hY : ab_RY w Y) (hx : ab_RI w x z) : ∃ lo hi, k lo hi = true ∧ lo ≤ z ∧ z ≤ hi := by
  rcases x with y | ⟨i, a, b⟩
  · have e : y = z := hx
    exact ⟨y, y, h, by omega, by omega⟩
  · unfold ab_iv at h
    dsimp only at h
    cases hq : ab_ny Y i with
    | none => rw [hq] at h; cases h
    | some q =>
      rw [hq] at h
      dsimp only at h
      rw [sx_fi_eq, sx_fi_eq] at h
      obtain ⟨b1, b2, -⟩ := hY.2 i q hq
      have m1 := ab_ml (a := a) b1
      have m2 := ab_ml (a := a) b2
      have e := hx.2
      exact ⟨_, _, h, by omega, by omega⟩
theorem ab_nr_s {Y : ab_Y} {x : ab_I} {w : ab_wd} {z : Int} (hY : ab_RY w Y) (hx : ab_RI w x z) : ab_RI w (ab_nr Y x) z := by
  rcases x with y | ⟨i, a, b⟩
  · exact hx
  · unfold ab_nr
    dsimp only
    cases hq : ab_ny Y i with
    | none => exact hx
    | some q =>
      dsimp only
      cases e : sx_eq q.1 q.2.1 with
      | false => exact hx
      | true =>
        have e := sx_eq_iff.mp e
        obtain ⟨b1, b2, -⟩ := hY.2 i q hq
        have e2 : q.1 = w.2.1 i := by omega
        show Int.ofNat a * q.1 + b = z
        rw [e2]; exact hx.2
theorem ab_nr_i {Y : ab_Y} {x : ab_I} {w : ab_wd} {z : Int} (hY : ab_RY w Y) {z' : Int} (hx : ab_RI w x z') (h : ab_RI w (ab_nr Y x) z) : ab_RI w x z := by
  rw [ab_RI.fn h (ab_nr_s hY hx)]; exact hx
theorem ab_ie_s {x y : ab_I} {w : ab_wd} {z : Int} (h : ab_ie x y = true) (hx : ab_RI w x z) : ab_RI w y z := by
  rcases x with p | ⟨i, a, b⟩ <;> rcases y with q | ⟨j, c, d⟩
  · have := sx_eq_iff.mp h
    show q = z
    rw [← this]; exact hx
  · cases h
  · cases h
  · obtain ⟨h1, h⟩ := sx_nd h
    obtain ⟨h2, h3⟩ := sx_nd h
    rw [← sx_beq h1, ← sx_beq h2, ← sx_eq_iff.mp h3]
    exact hx
theorem ab_ie_i {x y : ab_I} {w : ab_wd} {z : Int} (h : ab_ie x y = true) (hx : ab_RI w y z) : ab_RI w x z := by
  rcases x with p | ⟨i, a, b⟩ <;> rcases y with q | ⟨j, c, d⟩
  · have := sx_eq_iff.mp h
    show p = z
    rw [this]; exact hx
  · cases h
  · cases h
  · obtain ⟨h1, h⟩ := sx_nd h
    obtain ⟨h2, h3⟩ := sx_nd h
    rw [sx_beq h1, sx_beq h2, sx_eq_iff.mp h3]
    exact hx
theorem ab_sm_s {Y : ab_Y} {x y : ab_I} {w : ab_wd} {z z' : Int} (hY : ab_RY w Y) (h : ab_sm Y x y = true) (hx : ab_RI w x z) (hy : ab_RI w y z') : z = z' :=
  ab_RI.fn (ab_ie_s h (ab_nr_s hY hx)) (ab_nr_s hY hy)
theorem ab_lb_s {Y : ab_Y} {w : ab_wd} (hY : ab_RY w Y) : ∀ (n i j : Nat) (d : Int), ab_lb Y n i j = some d → w.2.1 j + d ≤ w.2.1 i
  | 0, _, _, _, h => by cases h
  | n + 1, i, j, d, h => by
    unfold ab_lb at h
    cases e : Nat.beq i j with
    | true =>
      rw [e] at h
      have h : some (Int.ofNat 0) = some d := h
      cases h
      rw [sx_beq e]; show w.2.1 j + 0 ≤ _; omega
    | false =>
      rw [e] at h
      dsimp only [cond_false] at h
      cases hq : ab_ny Y i with
      | none => rw [hq] at h; cases h
      | some q =>
        rw [hq] at h
        dsimp only at h
        have hr := (hY.2 i q hq).2.2
        have key : ∀ (l : List (Nat × Int)) (acc : Option Int), (∀ r ∈ l, r.1 < w.1 ∧ w.2.1 r.1 + r.2 ≤ w.2.1 i) → (∀ d, acc = some d → w.2.1 j + d ≤ w.2.1 i) → ∀ d, l.foldl (fun acc r => match ab_lb Y n r.1 j with
            | none => acc
            | some z => ab_mo acc (z + r.2)) acc = some d → w.2.1 j + d ≤ w.2.1 i := by
          intro l
          induction l with
          | nil => intro acc _ ha d hd; exact ha d hd
          | cons r t ih =>
            intro acc hl ha d hd
            refine ih _ (fun r hr => hl r (List.mem_cons_of_mem _ hr)) (fun d hd => ?_) d hd
            have hr1 := hl r List.mem_cons_self
            dsimp only at hd
            cases hz : ab_lb Y n r.1 j with
            | none => rw [hz] at hd; exact ha d hd
            | some z =>
              rw [hz] at hd
              have i1 := ab_lb_s hY n r.1 j z hz
              cases acc with
              | none =>
                have hd : some (z + r.2) = some d := hd
                cases hd; omega
              | some x =>
                have hd : some (ab_mx x (z + r.2)) = some d := hd
                cases hd
                have i2 := ha x rfl
                rcases ab_mx_or x (z + r.2) with q | q <;> rw [q] <;> omega
        exact key q.2.2 none hr (fun d hd => by cases hd) d h
theorem ab_df_s {Y : ab_Y} {x y : ab_I} {w : ab_wd} {zx zy d : Int} (hY : ab_RY w Y) (h : ab_df Y x y = some d) (hx : ab_RI w x zx) (hy : ab_RI w y zy) : zy + d ≤ zx := by
  rcases x with p | ⟨i, a, b⟩ <;> rcases y with r | ⟨j, c, e⟩
  · have h : some (p - r) = some d := h
    cases h
    have e1 : p = zx := hx
    have e2 : r = zy := hy
    omega
  · unfold ab_df at h
    dsimp only at h
    cases hq : ab_ny Y j with
    | none => rw [hq] at h; cases h
    | some q =>
      rw [hq] at h
      have h : some (p - (Int.ofNat c * q.2.1 + e)) = some d := h
      cases h
      have e1 : p = zx := hx
      have e2 := hy.2
      have m := ab_ml (a := c) (hY.2 j q hq).2.1
      omega
  · unfold ab_df at h
    dsimp only at h
    cases hq : ab_ny Y i with
    | none => rw [hq] at h; cases h
    | some q =>
      rw [hq] at h
      have h : some (Int.ofNat a * q.1 + b - r) = some d := h
      cases h
      have e1 : r = zy := hy
      have e2 := hx.2
      have m := ab_ml (a := a) (hY.2 i q hq).1
      omega
  · unfold ab_df at h
    dsimp only at h
    have ex := hx.2
    have ey := hy.2
    cases hc : (Nat.beq i j && Nat.beq a c) with
    | true =>
      rw [hc] at h
      have h : some (b - e) = some d := h
      cases h
      obtain ⟨h1, h2⟩ := sx_nd hc
      rw [← sx_beq h1, ← sx_beq h2] at ey
      omega
    | false =>
      rw [hc] at h
      dsimp only [cond_false] at h
      cases hp : ab_ny Y i with
      | none => rw [hp] at h; cases h
      | some p =>
        rw [hp] at h
        dsimp only at h
        cases hq : ab_ny Y j with
        | none => rw [hq] at h; cases h
        | some q =>
          rw [hq] at h
          dsimp only at h
          have m1 := ab_ml (a := a) (hY.2 i p hp).1
          have m2 := ab_ml (a := c) (hY.2 j q hq).2.1
          cases h1 : (Nat.beq a 1 && Nat.beq c 1) with
          | false =>
            rw [h1] at h
            have h : some (Int.ofNat a * p.1 + b - (Int.ofNat c * q.2.1 + e)) = some d := h
            cases h; omega
          | true =>
            rw [h1] at h
            dsimp only [cond_true] at h
            cases hl : ab_lb Y 12 i j with
            | none =>
              rw [hl] at h
              have h : some (Int.ofNat a * p.1 + b - (Int.ofNat c * q.2.1 + e)) = some d := h
              cases h; omega
            | some z =>
              rw [hl] at h
              have h : some (ab_mx (z + b - e) (Int.ofNat a * p.1 + b - (Int.ofNat c * q.2.1 + e))) = some d := h
              cases h
              obtain ⟨h2, h3⟩ := sx_nd h1
              have i1 := ab_lb_s hY 12 i j z hl
              have ea : Int.ofNat a * w.2.1 i = w.2.1 i := by rw [sx_beq h2]; exact Int.one_mul _
              have ec : Int.ofNat c * w.2.1 j = w.2.1 j := by rw [sx_beq h3]; exact Int.one_mul _
              rcases ab_mx_or (z + b - e) (Int.ofNat a * p.1 + b - (Int.ofNat c * q.2.1 + e)) with g | g <;> rw [g] <;> omega
theorem ab_ge_s {Y : ab_Y} {x y : ab_I} {w : ab_wd} {zx zy d : Int} (hY : ab_RY w Y) (h : ab_ge Y x y d = true) (hx : ab_RI w x zx) (hy : ab_RI w y zy) : zy + d ≤ zx := by
  unfold ab_ge at h
  cases hd : ab_df Y x y with
  | none => rw [hd] at h; cases h
  | some z =>
    rw [hd] at h
    have h1 := ab_df_s hY hd hx hy
    have h2 := sx_le_iff.mp h
    omega
theorem ab_hb_s {Y0 : ab_Y} {w : ab_wd} {j : Nat} : ∀ (Y : ab_Y) (acc : Int), (∀ i q, ab_ny Y i = some q → ∃ v, v ≤ q.2.1 ∧ ∀ r ∈ q.2.2, w.2.1 r.1 + r.2 ≤ v) → w.2.1 j ≤ acc → w.2.1 j ≤ ab_hb Y0 j Y acc
  | [], _, _, h => h
  | q :: t, acc, hY, h => by
    unfold ab_hb
    refine ab_hb_s t _ (fun i q hq => hY (i + 1) q hq) ?_
    obtain ⟨v, hv, hr⟩ := hY 0 q rfl
    have key : ∀ (l : List (Nat × Int)) (acc : Int), (∀ r ∈ l, w.2.1 r.1 + r.2 ≤ v) → w.2.1 j ≤ acc → w.2.1 j ≤ l.foldl (fun acc r => cond (Nat.beq r.1 j) (ab_mn acc (q.2.1 - r.2)) acc) acc := by
      intro l
      induction l with
      | nil => intro acc _ ha; exact ha
      | cons r t ih =>
        intro acc hl ha
        refine ih _ (fun r hr => hl r (List.mem_cons_of_mem _ hr)) ?_
        have hr1 := hl r List.mem_cons_self
        show w.2.1 j ≤ cond (Nat.beq r.1 j) (ab_mn acc (q.2.1 - r.2)) acc
        cases e : Nat.beq r.1 j with
        | false => exact ha
        | true =>
          rw [sx_beq e] at hr1
          show w.2.1 j ≤ ab_mn acc (q.2.1 - r.2)
          rcases ab_mn_or acc (q.2.1 - r.2) with g | g <;> rw [g] <;> omega
    exact key q.2.2 acc hr h
theorem ab_le_s {Y : ab_Y} {x : ab_I} {w : ab_wd} {z hi : Int} (hY : ab_RY w Y) (h : ab_le Y x hi = true) (hx : ab_RI w x z) : z ≤ hi := by
  rcases x with p | ⟨i, a, b⟩
  · have := sx_le_iff.mp h
    have e : p = z := hx
    omega
  · unfold ab_le at h
    dsimp only at h
    cases hq : ab_ny Y i with
    | none => rw [hq] at h; cases h
    | some q =>
      rw [hq] at h
      dsimp only at h
      have ex := hx.2
      rw [Bool.or_eq_true] at h
      rcases h with h | h
      · have := sx_le_iff.mp h
        have m := ab_ml (a := a) (hY.2 i q hq).2.1
        omega
      · obtain ⟨h1, h2⟩ := sx_nd h
        have h2 := sx_le_iff.mp h2
        have ea : Int.ofNat a * w.2.1 i = w.2.1 i := by rw [sx_beq h1]; exact Int.one_mul _
        have := ab_hb_s (Y0 := Y) (w := w) (j := i) Y q.2.1 (fun i q hq => ⟨w.2.1 i, (hY.2 i q hq).2.1, fun r hr => ((hY.2 i q hq).2.2 r hr).2⟩) (hY.2 i q hq).2.1
        omega
