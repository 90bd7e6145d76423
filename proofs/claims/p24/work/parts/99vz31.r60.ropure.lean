/-! ===== ROUNDS of prices, as pure steps ===== -/
/-- who has a month: the first of n from k on -/
def ro_h (HM : Nat → Int) (v : Int) : Nat → Int → Int
  | 0, _ => -1
  | n + 1, k => if HM k.toNat = v then k else ro_h HM v n (k + 1)
def ro_HO (HM : Nat → Int) (T : Nat) (m : Int) : Int := ro_h HM m T 0
def ro_v (H PR : Nat → Int) (HO : Int → Int) (st k m : Int) : Int := H (12 * k + m + 88).toNat - PR m.toNat - (if HO m < 0 then 0 else st)
def ro_b (H PR : Nat → Int) (HO : Int → Int) (st k : Int) : Nat → Int → Int → Int → Int
  | 0, _, b, _ => b
  | n + 1, m, b, mo => if mo < ro_v H PR HO st k m then ro_b H PR HO st k n (m + 1) m (ro_v H PR HO st k m) else ro_b H PR HO st k n (m + 1) b mo
theorem ro_b_cg {H PR : Nat → Int} {HO HO' : Int → Int} {st k : Int} (h : ∀ m, 0 ≤ m → m < 12 → HO m = HO' m) : ∀ (n : Nat) (m b mo : Int), m + n = 12 → 0 ≤ m → ro_b H PR HO st k n m b mo = ro_b H PR HO' st k n m b mo
  | 0, _, _, _, _, _ => rfl
  | n + 1, m, b, mo, e, h0 => by
    have ev : ro_v H PR HO st k m = ro_v H PR HO' st k m := by unfold ro_v; rw [h m h0 (by omega)]
    show (if _ then _ else _) = (if _ then _ else _)
    rw [ev, ro_b_cg h n (m + 1) m _ (by omega) (by omega), ro_b_cg h n (m + 1) b mo (by omega) (by omega)]
theorem ro_b_s {H PR : Nat → Int} {HO : Int → Int} {st k : Int} : ∀ (n : Nat) (m b mo : Int), m + n = 12 → 0 ≤ m → 0 ≤ mo → (b = -1 ∨ (0 ≤ b ∧ b < 12 ∧ 0 < ro_v H PR HO st k b)) → ro_b H PR HO st k n m b mo = -1 ∨ (0 ≤ ro_b H PR HO st k n m b mo ∧ ro_b H PR HO st k n m b mo < 12 ∧ 0 < ro_v H PR HO st k (ro_b H PR HO st k n m b mo))
  | 0, _, _, _, _, _, _, h => h
  | n + 1, m, b, mo, e, h0, hm, h => by
    by_cases c : mo < ro_v H PR HO st k m
    · have e9 : ro_b H PR HO st k (n + 1) m b mo = ro_b H PR HO st k n (m + 1) m (ro_v H PR HO st k m) := if_pos c
      rw [e9]
      exact ro_b_s n (m + 1) m _ (by omega) (by omega) (by omega) (Or.inr ⟨h0, by omega, by omega⟩)
    · have e9 : ro_b H PR HO st k (n + 1) m b mo = ro_b H PR HO st k n (m + 1) b mo := if_neg c
      rw [e9]
      exact ro_b_s n (m + 1) b mo (by omega) (by omega) hm h
theorem ro_h_s {HM : Nat → Int} {v : Int} : ∀ (n k : Nat), (ro_h HM v n (k : Int) = -1 ∧ ∀ j, k ≤ j → j < k + n → HM j ≠ v) ∨ (∃ j, k ≤ j ∧ j < k + n ∧ ro_h HM v n (k : Int) = (j : Int) ∧ HM j = v)
  | 0, k => Or.inl ⟨rfl, fun j h1 h2 => by omega⟩
  | n + 1, k => by
    have tk : ((k : Int)).toNat = k := by omega
    by_cases c : HM k = v
    · refine Or.inr ⟨k, Nat.le_refl _, by omega, ?_, c⟩
      show (if HM ((k : Int)).toNat = v then (k : Int) else _) = _
      rw [tk, if_pos c]
    · have e : ro_h HM v (n + 1) (k : Int) = ro_h HM v n ((k + 1 : Nat) : Int) := by
        show (if HM ((k : Int)).toNat = v then (k : Int) else ro_h HM v n ((k : Int) + 1)) = _
        rw [tk, if_neg c]; rfl
      rw [e]
      rcases ro_h_s (HM := HM) (v := v) n (k + 1) with ⟨a, b⟩ | ⟨j, a1, a2, a3, a4⟩
      · refine Or.inl ⟨a, fun j h1 h2 => ?_⟩
        rcases Nat.lt_or_ge k j with q | q
        · exact b j q (by omega)
        · have : j = k := by omega
          subst this; exact c
      · exact Or.inr ⟨j, by omega, by omega, a3, a4⟩
theorem ro_HO_s (HM : Nat → Int) (T : Nat) (v : Int) : (ro_HO HM T v = -1 ∧ ∀ j, j < T → HM j ≠ v) ∨ (∃ j, j < T ∧ ro_HO HM T v = (j : Int) ∧ HM j = v) := by
  rcases ro_h_s (HM := HM) (v := v) T 0 with ⟨a, b⟩ | ⟨j, a1, a2, a3, a4⟩
  · exact Or.inl ⟨a, fun j hj => b j (Nat.zero_le _) (by omega)⟩
  · exact Or.inr ⟨j, by omega, a3, a4⟩
theorem ro_HO_j {HM : Nat → Int} {T j : Nat} {v : Int} (hj : j < T) (e : HM j = v) (inj : ∀ i, i < T → HM i = v → i = j) : ro_HO HM T v = (j : Int) := by
  rcases ro_HO_s HM T v with ⟨a, b⟩ | ⟨i, i1, i2, i3⟩
  · exact absurd e (b j hj)
  · rw [i2, inj i i1 i3]
theorem ro_HO_n {HM : Nat → Int} {T : Nat} {v : Int} (h : ∀ i, i < T → HM i ≠ v) : ro_HO HM T v = -1 := by
  rcases ro_HO_s HM T v with ⟨a, b⟩ | ⟨i, i1, i2, i3⟩
  · exact a
  · exact absurd i3 (h i i1)
/-! a TOWN's turn -/
def ro_bb (H : Nat → Int) (T : Nat) (st k : Int) (HM PR : Nat → Int) : Int := ro_b H PR (ro_HO HM T) st k 12 0 (-1) 0
def ro_HM (H : Nat → Int) (T : Nat) (st k : Int) (HM PR : Nat → Int) : Nat → Int := if HM k.toNat < 0 ∧ 0 ≤ ro_bb H T st k HM PR then rv_up (if ro_HO HM T (ro_bb H T st k HM PR) < 0 then HM else rv_up HM (ro_HO HM T (ro_bb H T st k HM PR)).toNat (-1)) k.toNat (ro_bb H T st k HM PR) else HM
def ro_PR (H : Nat → Int) (T : Nat) (st k : Int) (HM PR : Nat → Int) : Nat → Int := if HM k.toNat < 0 ∧ 0 ≤ ro_bb H T st k HM PR then rv_up PR (ro_bb H T st k HM PR).toNat (if ro_HO HM T (ro_bb H T st k HM PR) < 0 then PR (ro_bb H T st k HM PR).toNat else PR (ro_bb H T st k HM PR).toNat + st) else PR
def ro_tk (H : Nat → Int) (T : Nat) (st k : Int) (HM PR : Nat → Int) (tk : Int) : Int := if HM k.toNat < 0 ∧ 0 ≤ ro_bb H T st k HM PR then 1 else tk
def ro_ks (H : Nat → Int) (T : Nat) (st : Int) : Nat → Int → (Nat → Int) → (Nat → Int) → Int → (Nat → Int) × (Nat → Int) × Int
  | 0, _, HM, PR, tk => (HM, PR, tk)
  | n + 1, k, HM, PR, tk => ro_ks H T st n (k + 1) (ro_HM H T st k HM PR) (ro_PR H T st k HM PR) (ro_tk H T st k HM PR tk)
def ro_rs (H : Nat → Int) (T : Nat) (st : Int) : Nat → Int → (Nat → Int) → (Nat → Int) → Int × (Nat → Int) × (Nat → Int)
  | 0, n, HM, PR => (n, HM, PR)
  | f + 1, n, HM, PR => if (ro_ks H T st T 0 HM PR 0).2.2 = 0 then (n + 1, (ro_ks H T st T 0 HM PR 0).1, (ro_ks H T st T 0 HM PR 0).2.1) else ro_rs H T st f (n + 1) (ro_ks H T st T 0 HM PR 0).1 (ro_ks H T st T 0 HM PR 0).2.1
/-- what holds of them -/
def ro_I (T : Nat) (HM PR : Nat → Int) : Prop := (∀ k, k < 8 → -1 ≤ HM k ∧ HM k ≤ 11 ∧ (k < T ∨ HM k = -1)) ∧ (∀ j k, j < T → k < T → 0 ≤ HM j → HM j = HM k → j = k) ∧ (∀ m, m < 12 → 0 ≤ PR m ∧ PR m ≤ 999)
theorem ro_I0 (T : Nat) : ro_I T (fun _ => -1) (fun _ => 0) := ⟨fun _ _ => ⟨show (-1 : Int) ≤ -1 by decide, show (-1 : Int) ≤ 11 by decide, Or.inr rfl⟩, fun _ _ _ _ h _ => absurd (show (0 : Int) ≤ -1 from h) (by decide), fun _ _ => ⟨show (0 : Int) ≤ 0 by decide, show (0 : Int) ≤ 999 by decide⟩⟩
section RO
variable {H HM PR : Nat → Int} {T : Nat} {st k tk : Int}
theorem ro_no (h : ¬ (HM k.toNat < 0 ∧ 0 ≤ ro_bb H T st k HM PR)) : ro_HM H T st k HM PR = HM ∧ ro_PR H T st k HM PR = PR ∧ ro_tk H T st k HM PR tk = tk := ⟨if_neg h, if_neg h, if_neg h⟩
theorem ro_yes (h : HM k.toNat < 0 ∧ 0 ≤ ro_bb H T st k HM PR) : ro_HM H T st k HM PR = rv_up (if ro_HO HM T (ro_bb H T st k HM PR) < 0 then HM else rv_up HM (ro_HO HM T (ro_bb H T st k HM PR)).toNat (-1)) k.toNat (ro_bb H T st k HM PR) ∧ ro_PR H T st k HM PR = rv_up PR (ro_bb H T st k HM PR).toNat (if ro_HO HM T (ro_bb H T st k HM PR) < 0 then PR (ro_bb H T st k HM PR).toNat else PR (ro_bb H T st k HM PR).toNat + st) ∧ ro_tk H T st k HM PR tk = 1 := ⟨if_pos h, if_pos h, if_pos h⟩
theorem ro_bb_s : ro_bb H T st k HM PR = -1 ∨ (0 ≤ ro_bb H T st k HM PR ∧ ro_bb H T st k HM PR < 12 ∧ 0 < ro_v H PR (ro_HO HM T) st k (ro_bb H T st k HM PR)) := ro_b_s 12 0 (-1) 0 rfl (by decide) (by decide) (Or.inl rfl)
/-- values behind a turn that takes -/
theorem ro_HM_v (h : HM k.toNat < 0 ∧ 0 ≤ ro_bb H T st k HM PR) (j : Nat) : ro_HM H T st k HM PR j = if j = k.toNat then ro_bb H T st k HM PR else if (j : Int) = ro_HO HM T (ro_bb H T st k HM PR) then -1 else HM j := by
  rw [(ro_yes (tk := 0) h).1]
  by_cases e : j = k.toNat
  · rw [if_pos e, e, rv_up_s]
  · rw [if_neg e, rv_up_n e]
    by_cases c : ro_HO HM T (ro_bb H T st k HM PR) < 0
    · rw [if_pos c, if_neg (by omega)]
    · rw [if_neg c]
      by_cases e2 : (j : Int) = ro_HO HM T (ro_bb H T st k HM PR)
      · rw [if_pos e2, show j = (ro_HO HM T (ro_bb H T st k HM PR)).toNat by omega, rv_up_s]
      · rw [if_neg e2, rv_up_n (by omega)]
theorem ro_I.go (h : ro_I T HM PR) (hT : T ≤ 8) (k0 : 0 ≤ k) (k1 : k < T) (s1 : 0 ≤ st) (hH : ∀ m : Int, 0 ≤ m → m < 12 → H (12 * k + m + 88).toNat ≤ 999) : ro_I T (ro_HM H T st k HM PR) (ro_PR H T st k HM PR) := by
  by_cases g : HM k.toNat < 0 ∧ 0 ≤ ro_bb H T st k HM PR
  · obtain ⟨h1, h2, h3⟩ := h
    obtain ⟨b1, b2, b3⟩ : 0 ≤ ro_bb H T st k HM PR ∧ ro_bb H T st k HM PR < 12 ∧ 0 < ro_v H PR (ro_HO HM T) st k (ro_bb H T st k HM PR) := by
      rcases ro_bb_s (H := H) (T := T) (st := st) (k := k) (HM := HM) (PR := PR) with q | q
      · exact absurd g.2 (by omega)
      · exact q
    have hv := ro_HM_v (H := H) (PR := PR) (T := T) (st := st) g
    have hho := ro_HO_s HM T (ro_bb H T st k HM PR)
    refine ⟨fun j hj => ?_, fun i j hi hj e0 e => ?_, fun m hm => ?_⟩
    · rw [hv]
      have := h1 j hj
      split
      · exact ⟨by omega, by omega, Or.inl (by omega)⟩
      · split
        · exact ⟨by decide, by decide, Or.inr rfl⟩
        · exact this
    · rw [hv] at e0
      rw [hv, hv] at e
      have nk : ∀ j, j < T → j ≠ k.toNat → (j : Int) ≠ ro_HO HM T (ro_bb H T st k HM PR) → HM j ≠ ro_bb H T st k HM PR := by
        intro j hj n1 n2 q
        rcases hho with ⟨a, b⟩ | ⟨f, f1, f2, f3⟩
        · exact b j hj q
        · have := h2 j f hj f1 (by omega) (q.trans f3.symm)
          omega
      by_cases c1 : i = k.toNat
      · rw [if_pos c1] at e
        by_cases c2 : j = k.toNat
        · rw [c1, c2]
        · rw [if_neg c2] at e
          by_cases c3 : (j : Int) = ro_HO HM T (ro_bb H T st k HM PR)
          · rw [if_pos c3] at e; omega
          · rw [if_neg c3] at e
            exact absurd e.symm (nk j hj c2 c3)
      · rw [if_neg c1] at e0 e
        by_cases c4 : (i : Int) = ro_HO HM T (ro_bb H T st k HM PR)
        · rw [if_pos c4] at e0; omega
        · rw [if_neg c4] at e0 e
          by_cases c2 : j = k.toNat
          · rw [if_pos c2] at e
            exact absurd e (nk i hi c1 c4)
          · rw [if_neg c2] at e
            by_cases c3 : (j : Int) = ro_HO HM T (ro_bb H T st k HM PR)
            · rw [if_pos c3] at e; omega
            · rw [if_neg c3] at e
              exact h2 i j hi hj e0 e
    · rw [(ro_yes (tk := 0) g).2.1]
      by_cases e : m = (ro_bb H T st k HM PR).toNat
      · subst e
        rw [rv_up_s]
        have p := h3 _ hm
        have q := hH _ b1 b2
        unfold ro_v at b3
        split
        · exact p
        · rw [if_neg (by assumption)] at b3
          exact ⟨by omega, by omega⟩
      · rw [rv_up_n e]; exact h3 m hm
  · rw [(ro_no (tk := 0) g).1, (ro_no (tk := 0) g).2.1]; exact h
/-- who owns a month, as a row keeps it -/
def ro_O (T : Nat) (HM OW : Nat → Int) : Prop := ∀ m, m < 12 → OW m = ro_HO HM T (m : Int)
theorem ro_O0 (T : Nat) : ro_O T (fun _ => -1) (fun _ => -1) := fun m hm => (ro_HO_n (fun i _ => by show (-1 : Int) ≠ (m : Int); omega)).symm
theorem ro_O.go {OW : Nat → Int} (ho : ro_O T HM OW) (h : ro_I T HM PR) (hT : T ≤ 8) (k0 : 0 ≤ k) (k1 : k < T) (g : HM k.toNat < 0 ∧ 0 ≤ ro_bb H T st k HM PR) : ro_O T (ro_HM H T st k HM PR) (rv_up OW (ro_bb H T st k HM PR).toNat k) := by
  obtain ⟨h1, h2, h3⟩ := h
  have hv := ro_HM_v (H := H) (PR := PR) (T := T) (st := st) g
  have hho := ro_HO_s HM T (ro_bb H T st k HM PR)
  intro m hm
  by_cases e : m = (ro_bb H T st k HM PR).toNat
  · have em : (m : Int) = ro_bb H T st k HM PR := by omega
    have : ro_HO (ro_HM H T st k HM PR) T (m : Int) = ((k.toNat : Nat) : Int) := by
      refine ro_HO_j (by omega) ?_ (fun i hi q => ?_)
      · rw [hv, if_pos rfl, em]
      · rw [hv] at q
        by_cases c1 : i = k.toNat
        · exact c1
        · rw [if_neg c1] at q
          by_cases c2 : (i : Int) = ro_HO HM T (ro_bb H T st k HM PR)
          · rw [if_pos c2] at q; omega
          · rw [if_neg c2] at q
            rcases hho with ⟨a, b⟩ | ⟨f, f1, f2, f3⟩
            · exact absurd (q.trans em) (b i hi)
            · have := h2 i f hi f1 (by omega) ((q.trans em).trans f3.symm)
              omega
    rw [this, e, rv_up_s]; omega
  · rw [rv_up_n e, ho m hm]
    have hk8 := h1 k.toNat (by omega)
    rcases ro_HO_s HM T (m : Int) with ⟨a, b⟩ | ⟨j, j1, j2, j3⟩
    · rw [a]
      refine (ro_HO_n (fun i hi => ?_)).symm
      rw [hv]
      split
      · omega
      · split
        · omega
        · exact b i hi
    · rw [j2]
      have jf : (j : Int) ≠ ro_HO HM T (ro_bb H T st k HM PR) := fun q => by
        rcases hho with ⟨a, b⟩ | ⟨f, f1, f2, f3⟩
        · omega
        · have : j = f := by omega
          subst this; omega
      have jk : j ≠ k.toNat := fun q => by subst q; omega
      refine (ro_HO_j j1 (by rw [hv, if_neg jk, if_neg jf]; exact j3) (fun i hi q => ?_)).symm
      rw [hv] at q
      by_cases c1 : i = k.toNat
      · rw [if_pos c1] at q; omega
      · rw [if_neg c1] at q
        by_cases c2 : (i : Int) = ro_HO HM T (ro_bb H T st k HM PR)
        · rw [if_pos c2] at q; omega
        · rw [if_neg c2] at q
          exact h2 i j hi j1 (by omega) (q.trans j3.symm)
theorem ro_O.bb {OW : Nat → Int} (ho : ro_O T HM OW) : ro_bb H T st k HM PR = ro_b H PR (fun m => OW m.toNat) st k 12 0 (-1) 0 :=
  ro_b_cg (fun m h0 h1 => by
    have := ho m.toNat (by omega)
    rw [show ((m.toNat : Nat) : Int) = m by omega] at this
    exact this.symm) 12 0 (-1) 0 rfl (by decide)
theorem ro_O.at {OW : Nat → Int} (ho : ro_O T HM OW) {m : Int} (h0 : 0 ≤ m) (h1 : m < 12) : OW m.toNat = ro_HO HM T m := by
  have := ho m.toNat (by omega)
  rw [show ((m.toNat : Nat) : Int) = m by omega] at this
  exact this
theorem ro_O.rg {OW : Nat → Int} (ho : ro_O T HM OW) (hT : T ≤ 8) : ∀ m, m < 12 → -1 ≤ OW m ∧ OW m ≤ 7 := fun m hm => by
  rw [ho m hm]
  rcases ro_HO_s HM T (m : Int) with ⟨a, b⟩ | ⟨j, j1, j2, j3⟩
  · rw [a]; decide
  · rw [j2]; omega
end RO
