/-! ===== every text has one answer (laid by a program) ===== -/
abbrev rv_Om : Type := (Int × Nat) ⊕ ((Nat → Int) × (Nat → Int) × (Nat → Int) × (Nat → Nat → Int) × (Nat → Nat → Int) × (Nat → List Int) × Nat)
def rv_Dt (S : (rv_Om → Prop) → Prop) : Prop := ∃ y, ∀ P : rv_Om → Prop, P y → S P
theorem dt_f (f : Int) (a : Nat) : rv_Dt (fun P => P (.inl (f, a))) := ⟨_, fun _ h => h⟩
theorem dt_if {c : Prop} {A B : (rv_Om → Prop) → Prop} (hA : rv_Dt A) (hB : rv_Dt B) : rv_Dt (fun P => (c → A P) ∧ (¬ c → B P)) := by
  by_cases h : c
  · obtain ⟨y, hy⟩ := hA
    exact ⟨y, fun P p => ⟨fun _ => hy P p, fun n => absurd h n⟩⟩
  · obtain ⟨y, hy⟩ := hB
    exact ⟨y, fun P p => ⟨fun n => absurd n h, fun _ => hy P p⟩⟩
section DT
variable {T : Nat → Nat × Nat × Int × List Int × Nat} {p : Nat} {A : (rv_Om → Prop) → Prop}
theorem dt_num {lo hi : Int} (hA : rv_Dt A) : rv_Dt (fun P => sp_num T lo hi p (fun f a => P (.inl (f, a))) (A P)) := by
  obtain ⟨y, hy⟩ := hA
  by_cases c1 : (T p).1 = 2
  · by_cases c2 : lo ≤ (T p).2.2.1
    · by_cases c3 : (T p).2.2.1 ≤ hi
      · exact ⟨y, fun P k => ⟨fun _ => ⟨fun _ => ⟨fun _ => hy P k, fun n => absurd c3 n⟩, fun n => absurd c2 n⟩, fun n => absurd c1 n⟩⟩
      · exact ⟨.inl (2, (T p).2.1), fun P k => ⟨fun _ => ⟨fun _ => ⟨fun n => absurd n c3, fun _ => k⟩, fun n => absurd c2 n⟩, fun n => absurd c1 n⟩⟩
    · exact ⟨.inl (2, (T p).2.1), fun P k => ⟨fun _ => ⟨fun n => absurd n c2, fun _ => k⟩, fun n => absurd c1 n⟩⟩
  · exact ⟨.inl (1, (T p).2.1), fun P k => ⟨fun n => absurd n c1, fun _ => k⟩⟩
theorem dt_sgn {c : Int} (hA : rv_Dt A) : rv_Dt (fun P => sp_sgn T c p (fun f a => P (.inl (f, a))) (A P)) := by
  obtain ⟨y, hy⟩ := hA
  by_cases c1 : (T p).1 = 3
  · by_cases c2 : (T p).2.2.1 = c
    · exact ⟨y, fun P k => ⟨fun _ => ⟨fun _ => hy P k, fun n => absurd c2 n⟩, fun n => absurd c1 n⟩⟩
    · exact ⟨.inl (1, (T p).2.1), fun P k => ⟨fun _ => ⟨fun n => absurd n c2, fun _ => k⟩, fun n => absurd c1 n⟩⟩
  · exact ⟨.inl (1, (T p).2.1), fun P k => ⟨fun n => absurd n c1, fun _ => k⟩⟩
theorem dt_nam (hA : rv_Dt A) : rv_Dt (fun P => sp_nam T p (fun f a => P (.inl (f, a))) (A P)) := by
  obtain ⟨y, hy⟩ := hA
  by_cases c1 : (T p).1 = 1
  · by_cases c2 : rv_nam (T p).2.2.2.1
    · exact ⟨y, fun P k => ⟨fun _ => ⟨fun _ => hy P k, fun n => absurd c2 n⟩, fun n => absurd c1 n⟩⟩
    · exact ⟨.inl (1, (T p).2.1), fun P k => ⟨fun _ => ⟨fun n => absurd n c2, fun _ => k⟩, fun n => absurd c1 n⟩⟩
  · exact ⟨.inl (1, (T p).2.1), fun P k => ⟨fun n => absurd n c1, fun _ => k⟩⟩
theorem dt_find {nm : Nat → List Int} {k : Int} {w : List Int} {K : Int → (rv_Om → Prop) → Prop} (hK : ∀ r, rv_Dt (K r)) : rv_Dt (fun P => sp_find nm k w (fun r => K r P)) := by
  by_cases h : ∃ r : Nat, (r : Int) < k ∧ nm r = w ∧ ∀ j, j < r → nm j ≠ w
  · obtain ⟨r, h1, h2, h3⟩ := h
    obtain ⟨y, hy⟩ := hK (r : Int)
    refine ⟨y, fun P p => ⟨fun r' g1 g2 g3 => ?_, fun g => absurd h2 (g r h1)⟩⟩
    have e : r' = r := by
      rcases Nat.lt_trichotomy r' r with q | q | q
      · exact absurd g2 (h3 r' q)
      · exact q
      · exact absurd h2 (g3 r q)
    rw [e]; exact hy P p
  · obtain ⟨y, hy⟩ := hK (-1)
    exact ⟨y, fun P p => ⟨fun r' g1 g2 g3 => absurd ⟨r', g1, g2, g3⟩ h, fun _ => hy P p⟩⟩
theorem dt_town {PL WA OA : Nat → Int} {TO BI : Nat → Nat → Int} {nm : Nat → List Int} {q : Nat} {K : (Nat → Int) → (Nat → Int) → (Nat → Int) → (Nat → Nat → Int) → (Nat → Nat → Int) → (Nat → List Int) → Nat → (rv_Om → Prop) → Prop} (hK : ∀ PL WA OA TO BI nm q', rv_Dt (K PL WA OA TO BI nm q')) : rv_Dt (fun P => sp_town T PL WA OA TO BI nm q (fun f a => P (.inl (f, a))) (fun PL WA OA TO BI nm q' => K PL WA OA TO BI nm q' P)) := by
  unfold sp_town
  exact (dt_if (dt_f _ _) (dt_nam (dt_find (fun r => (dt_if (dt_num (dt_num (dt_num (dt_num (hK _ _ _ _ _ _ _))))) (dt_f _ _))))))
theorem dt_water {PL WA OA : Nat → Int} {TO BI : Nat → Nat → Int} {nm : Nat → List Int} {q : Nat} {K : (Nat → Int) → (Nat → Int) → (Nat → Int) → (Nat → Nat → Int) → (Nat → Nat → Int) → (Nat → List Int) → Nat → (rv_Om → Prop) → Prop} (hK : ∀ PL WA OA TO BI nm q', rv_Dt (K PL WA OA TO BI nm q')) : rv_Dt (fun P => sp_water T PL WA OA TO BI nm q (fun f a => P (.inl (f, a))) (fun PL WA OA TO BI nm q' => K PL WA OA TO BI nm q' P)) := by
  unfold sp_water
  exact (dt_num (dt_if (dt_num (hK _ _ _ _ _ _ _)) (dt_f _ _)))
theorem dt_bid {PL WA OA : Nat → Int} {TO BI : Nat → Nat → Int} {nm : Nat → List Int} {q : Nat} {K : (Nat → Int) → (Nat → Int) → (Nat → Int) → (Nat → Nat → Int) → (Nat → Nat → Int) → (Nat → List Int) → Nat → (rv_Om → Prop) → Prop} (hK : ∀ PL WA OA TO BI nm q', rv_Dt (K PL WA OA TO BI nm q')) : rv_Dt (fun P => sp_bid T PL WA OA TO BI nm q (fun f a => P (.inl (f, a))) (fun PL WA OA TO BI nm q' => K PL WA OA TO BI nm q' P)) := by
  unfold sp_bid
  exact (dt_if (dt_f _ _) (dt_nam (dt_find (fun r => (dt_if (dt_f _ _) (dt_num (dt_if (dt_num (hK _ _ _ _ _ _ _)) (dt_f _ _))))))))
theorem dt_need {PL WA OA : Nat → Int} {TO BI : Nat → Nat → Int} {nm : Nat → List Int} {q : Nat} {K : (Nat → Int) → (Nat → Int) → (Nat → Int) → (Nat → Nat → Int) → (Nat → Nat → Int) → (Nat → List Int) → Nat → (rv_Om → Prop) → Prop} (hK : ∀ PL WA OA TO BI nm q', rv_Dt (K PL WA OA TO BI nm q')) : rv_Dt (fun P => sp_need T PL WA OA TO BI nm q (fun f a => P (.inl (f, a))) (fun PL WA OA TO BI nm q' => K PL WA OA TO BI nm q' P)) := by
  unfold sp_need
  exact (dt_nam (dt_find (fun r => (dt_if (dt_f _ _) (dt_if (dt_num (hK _ _ _ _ _ _ _)) (dt_f _ _))))))
theorem dt_mill {PL WA OA : Nat → Int} {TO BI : Nat → Nat → Int} {nm : Nat → List Int} {q : Nat} {K : (Nat → Int) → (Nat → Int) → (Nat → Int) → (Nat → Nat → Int) → (Nat → Nat → Int) → (Nat → List Int) → Nat → (rv_Om → Prop) → Prop} (hK : ∀ PL WA OA TO BI nm q', rv_Dt (K PL WA OA TO BI nm q')) : rv_Dt (fun P => sp_mill T PL WA OA TO BI nm q (fun f a => P (.inl (f, a))) (fun PL WA OA TO BI nm q' => K PL WA OA TO BI nm q' P)) := by
  unfold sp_mill
  exact (dt_nam (dt_find (fun r => (dt_if (dt_f _ _) (dt_if (dt_num (hK _ _ _ _ _ _ _)) (dt_f _ _))))))
theorem dt_bridge {PL WA OA : Nat → Int} {TO BI : Nat → Nat → Int} {nm : Nat → List Int} {q : Nat} {K : (Nat → Int) → (Nat → Int) → (Nat → Int) → (Nat → Nat → Int) → (Nat → Nat → Int) → (Nat → List Int) → Nat → (rv_Om → Prop) → Prop} (hK : ∀ PL WA OA TO BI nm q', rv_Dt (K PL WA OA TO BI nm q')) : rv_Dt (fun P => sp_bridge T PL WA OA TO BI nm q (fun f a => P (.inl (f, a))) (fun PL WA OA TO BI nm q' => K PL WA OA TO BI nm q' P)) := by
  unfold sp_bridge
  exact (dt_nam (dt_find (fun r => (dt_if (dt_f _ _) (dt_if (dt_num (hK _ _ _ _ _ _ _)) (dt_f _ _))))))
theorem dt_field {PL WA OA : Nat → Int} {TO BI : Nat → Nat → Int} {nm : Nat → List Int} {q : Nat} {K : (Nat → Int) → (Nat → Int) → (Nat → Int) → (Nat → Nat → Int) → (Nat → Nat → Int) → (Nat → List Int) → Nat → (rv_Om → Prop) → Prop} (hK : ∀ PL WA OA TO BI nm q', rv_Dt (K PL WA OA TO BI nm q')) : rv_Dt (fun P => sp_field T PL WA OA TO BI nm q (fun f a => P (.inl (f, a))) (fun PL WA OA TO BI nm q' => K PL WA OA TO BI nm q' P)) := by
  unfold sp_field
  exact (dt_nam (dt_find (fun r => (dt_if (dt_f _ _) (dt_if (dt_num (dt_num (hK _ _ _ _ _ _ _))) (dt_f _ _))))))
theorem dt_move {PL WA OA : Nat → Int} {TO BI : Nat → Nat → Int} {nm : Nat → List Int} {q : Nat} {K : (Nat → Int) → (Nat → Int) → (Nat → Int) → (Nat → Nat → Int) → (Nat → Nat → Int) → (Nat → List Int) → Nat → (rv_Om → Prop) → Prop} (hK : ∀ PL WA OA TO BI nm q', rv_Dt (K PL WA OA TO BI nm q')) : rv_Dt (fun P => sp_move T PL WA OA TO BI nm q (fun f a => P (.inl (f, a))) (fun PL WA OA TO BI nm q' => K PL WA OA TO BI nm q' P)) := by
  unfold sp_move
  exact (dt_if (dt_num (hK _ _ _ _ _ _ _)) (dt_f _ _))
theorem dt_fish {PL WA OA : Nat → Int} {TO BI : Nat → Nat → Int} {nm : Nat → List Int} {q : Nat} {K : (Nat → Int) → (Nat → Int) → (Nat → Int) → (Nat → Nat → Int) → (Nat → Nat → Int) → (Nat → List Int) → Nat → (rv_Om → Prop) → Prop} (hK : ∀ PL WA OA TO BI nm q', rv_Dt (K PL WA OA TO BI nm q')) : rv_Dt (fun P => sp_fish T PL WA OA TO BI nm q (fun f a => P (.inl (f, a))) (fun PL WA OA TO BI nm q' => K PL WA OA TO BI nm q' P)) := by
  unfold sp_fish
  exact (dt_if (dt_num (hK _ _ _ _ _ _ _)) (dt_f _ _))
theorem dt_patience {PL WA OA : Nat → Int} {TO BI : Nat → Nat → Int} {nm : Nat → List Int} {q : Nat} {K : (Nat → Int) → (Nat → Int) → (Nat → Int) → (Nat → Nat → Int) → (Nat → Nat → Int) → (Nat → List Int) → Nat → (rv_Om → Prop) → Prop} (hK : ∀ PL WA OA TO BI nm q', rv_Dt (K PL WA OA TO BI nm q')) : rv_Dt (fun P => sp_patience T PL WA OA TO BI nm q (fun f a => P (.inl (f, a))) (fun PL WA OA TO BI nm q' => K PL WA OA TO BI nm q' P)) := by
  unfold sp_patience
  exact (dt_if (dt_num (hK _ _ _ _ _ _ _)) (dt_f _ _))
theorem dt_row {PL WA OA : Nat → Int} {TO BI : Nat → Nat → Int} {nm : Nat → List Int} {q : Nat} {K : (Nat → Int) → (Nat → Int) → (Nat → Int) → (Nat → Nat → Int) → (Nat → Nat → Int) → (Nat → List Int) → Nat → (rv_Om → Prop) → Prop} (hK : ∀ PL WA OA TO BI nm q', rv_Dt (K PL WA OA TO BI nm q')) : rv_Dt (fun P => sp_row T PL WA OA TO BI nm q (fun f a => P (.inl (f, a))) (fun PL WA OA TO BI nm q' => K PL WA OA TO BI nm q' P)) := by
  by_cases c : (T q).1 = 1 ∧ ¬ rv_nam (T q).2.2.2.1
  · have : ∃ j, j < 24 ∧ rv_rs.getD j [] = (T q).2.2.2.1 := Classical.byContradiction (fun g => c.2 (fun j hj e => g ⟨j, hj, e⟩))
    obtain ⟨j, j1, hj⟩ := this
    have key : rv_Dt (fun P => (j = 0 → sp_town T PL WA OA TO BI nm q (fun f a => P (.inl (f, a))) (fun PL WA OA TO BI nm q' => K PL WA OA TO BI nm q' P)) ∧ (j = 1 → sp_water T PL WA OA TO BI nm q (fun f a => P (.inl (f, a))) (fun PL WA OA TO BI nm q' => K PL WA OA TO BI nm q' P)) ∧ (j = 2 → sp_bid T PL WA OA TO BI nm q (fun f a => P (.inl (f, a))) (fun PL WA OA TO BI nm q' => K PL WA OA TO BI nm q' P)) ∧ (j = 3 → sp_need T PL WA OA TO BI nm q (fun f a => P (.inl (f, a))) (fun PL WA OA TO BI nm q' => K PL WA OA TO BI nm q' P)) ∧ (j = 4 → sp_mill T PL WA OA TO BI nm q (fun f a => P (.inl (f, a))) (fun PL WA OA TO BI nm q' => K PL WA OA TO BI nm q' P)) ∧ (j = 5 → sp_bridge T PL WA OA TO BI nm q (fun f a => P (.inl (f, a))) (fun PL WA OA TO BI nm q' => K PL WA OA TO BI nm q' P)) ∧ (j = 6 → sp_field T PL WA OA TO BI nm q (fun f a => P (.inl (f, a))) (fun PL WA OA TO BI nm q' => K PL WA OA TO BI nm q' P)) ∧ (j = 7 → sp_move T PL WA OA TO BI nm q (fun f a => P (.inl (f, a))) (fun PL WA OA TO BI nm q' => K PL WA OA TO BI nm q' P)) ∧ (j = 8 → sp_fish T PL WA OA TO BI nm q (fun f a => P (.inl (f, a))) (fun PL WA OA TO BI nm q' => K PL WA OA TO BI nm q' P)) ∧ (j = 9 → sp_patience T PL WA OA TO BI nm q (fun f a => P (.inl (f, a))) (fun PL WA OA TO BI nm q' => K PL WA OA TO BI nm q' P)) ∧ (10 ≤ j → P (.inl (1, (T q).2.1)))) := by
      rcases Nat.lt_or_ge j 10 with q1 | q1
      · have hjj : j = 0 ∨ j = 1 ∨ j = 2 ∨ j = 3 ∨ j = 4 ∨ j = 5 ∨ j = 6 ∨ j = 7 ∨ j = 8 ∨ j = 9 := by omega
        rcases hjj with rfl | rfl | rfl | rfl | rfl | rfl | rfl | rfl | rfl | rfl
        · obtain ⟨y, hy⟩ := dt_town (T := T) (PL := PL) (WA := WA) (OA := OA) (TO := TO) (BI := BI) (nm := nm) (q := q) hK
          exact ⟨y, fun P p => ⟨fun _ => hy P p, fun e => absurd e (by decide), fun e => absurd e (by decide), fun e => absurd e (by decide), fun e => absurd e (by decide), fun e => absurd e (by decide), fun e => absurd e (by decide), fun e => absurd e (by decide), fun e => absurd e (by decide), fun e => absurd e (by decide), fun e => absurd e (by decide)⟩⟩
        · obtain ⟨y, hy⟩ := dt_water (T := T) (PL := PL) (WA := WA) (OA := OA) (TO := TO) (BI := BI) (nm := nm) (q := q) hK
          exact ⟨y, fun P p => ⟨fun e => absurd e (by decide), fun _ => hy P p, fun e => absurd e (by decide), fun e => absurd e (by decide), fun e => absurd e (by decide), fun e => absurd e (by decide), fun e => absurd e (by decide), fun e => absurd e (by decide), fun e => absurd e (by decide), fun e => absurd e (by decide), fun e => absurd e (by decide)⟩⟩
        · obtain ⟨y, hy⟩ := dt_bid (T := T) (PL := PL) (WA := WA) (OA := OA) (TO := TO) (BI := BI) (nm := nm) (q := q) hK
          exact ⟨y, fun P p => ⟨fun e => absurd e (by decide), fun e => absurd e (by decide), fun _ => hy P p, fun e => absurd e (by decide), fun e => absurd e (by decide), fun e => absurd e (by decide), fun e => absurd e (by decide), fun e => absurd e (by decide), fun e => absurd e (by decide), fun e => absurd e (by decide), fun e => absurd e (by decide)⟩⟩
        · obtain ⟨y, hy⟩ := dt_need (T := T) (PL := PL) (WA := WA) (OA := OA) (TO := TO) (BI := BI) (nm := nm) (q := q) hK
          exact ⟨y, fun P p => ⟨fun e => absurd e (by decide), fun e => absurd e (by decide), fun e => absurd e (by decide), fun _ => hy P p, fun e => absurd e (by decide), fun e => absurd e (by decide), fun e => absurd e (by decide), fun e => absurd e (by decide), fun e => absurd e (by decide), fun e => absurd e (by decide), fun e => absurd e (by decide)⟩⟩
        · obtain ⟨y, hy⟩ := dt_mill (T := T) (PL := PL) (WA := WA) (OA := OA) (TO := TO) (BI := BI) (nm := nm) (q := q) hK
          exact ⟨y, fun P p => ⟨fun e => absurd e (by decide), fun e => absurd e (by decide), fun e => absurd e (by decide), fun e => absurd e (by decide), fun _ => hy P p, fun e => absurd e (by decide), fun e => absurd e (by decide), fun e => absurd e (by decide), fun e => absurd e (by decide), fun e => absurd e (by decide), fun e => absurd e (by decide)⟩⟩
        · obtain ⟨y, hy⟩ := dt_bridge (T := T) (PL := PL) (WA := WA) (OA := OA) (TO := TO) (BI := BI) (nm := nm) (q := q) hK
          exact ⟨y, fun P p => ⟨fun e => absurd e (by decide), fun e => absurd e (by decide), fun e => absurd e (by decide), fun e => absurd e (by decide), fun e => absurd e (by decide), fun _ => hy P p, fun e => absurd e (by decide), fun e => absurd e (by decide), fun e => absurd e (by decide), fun e => absurd e (by decide), fun e => absurd e (by decide)⟩⟩
        · obtain ⟨y, hy⟩ := dt_field (T := T) (PL := PL) (WA := WA) (OA := OA) (TO := TO) (BI := BI) (nm := nm) (q := q) hK
          exact ⟨y, fun P p => ⟨fun e => absurd e (by decide), fun e => absurd e (by decide), fun e => absurd e (by decide), fun e => absurd e (by decide), fun e => absurd e (by decide), fun e => absurd e (by decide), fun _ => hy P p, fun e => absurd e (by decide), fun e => absurd e (by decide), fun e => absurd e (by decide), fun e => absurd e (by decide)⟩⟩
        · obtain ⟨y, hy⟩ := dt_move (T := T) (PL := PL) (WA := WA) (OA := OA) (TO := TO) (BI := BI) (nm := nm) (q := q) hK
          exact ⟨y, fun P p => ⟨fun e => absurd e (by decide), fun e => absurd e (by decide), fun e => absurd e (by decide), fun e => absurd e (by decide), fun e => absurd e (by decide), fun e => absurd e (by decide), fun e => absurd e (by decide), fun _ => hy P p, fun e => absurd e (by decide), fun e => absurd e (by decide), fun e => absurd e (by decide)⟩⟩
        · obtain ⟨y, hy⟩ := dt_fish (T := T) (PL := PL) (WA := WA) (OA := OA) (TO := TO) (BI := BI) (nm := nm) (q := q) hK
          exact ⟨y, fun P p => ⟨fun e => absurd e (by decide), fun e => absurd e (by decide), fun e => absurd e (by decide), fun e => absurd e (by decide), fun e => absurd e (by decide), fun e => absurd e (by decide), fun e => absurd e (by decide), fun e => absurd e (by decide), fun _ => hy P p, fun e => absurd e (by decide), fun e => absurd e (by decide)⟩⟩
        · obtain ⟨y, hy⟩ := dt_patience (T := T) (PL := PL) (WA := WA) (OA := OA) (TO := TO) (BI := BI) (nm := nm) (q := q) hK
          exact ⟨y, fun P p => ⟨fun e => absurd e (by decide), fun e => absurd e (by decide), fun e => absurd e (by decide), fun e => absurd e (by decide), fun e => absurd e (by decide), fun e => absurd e (by decide), fun e => absurd e (by decide), fun e => absurd e (by decide), fun e => absurd e (by decide), fun _ => hy P p, fun e => absurd e (by decide)⟩⟩
      · exact ⟨.inl (1, (T q).2.1), fun P p => ⟨fun e => absurd e (by omega), fun e => absurd e (by omega), fun e => absurd e (by omega), fun e => absurd e (by omega), fun e => absurd e (by omega), fun e => absurd e (by omega), fun e => absurd e (by omega), fun e => absurd e (by omega), fun e => absurd e (by omega), fun e => absurd e (by omega), fun _ => p⟩⟩
    obtain ⟨y, hy⟩ := key
    refine ⟨y, fun P p => ⟨fun i i1 _ hi => ?_, fun n => absurd c n⟩⟩
    have e : i = j := rv_rs_i i i1 j j1 (hi.trans hj.symm)
    rw [e]; exact hy P p
  · exact ⟨.inl (1, (T q).2.1), fun P p => ⟨fun i i1 a b => absurd ⟨a, fun n => n i i1 b⟩ c, fun _ => p⟩⟩
theorem dt_rows : ∀ (f : Nat) (PL WA OA : Nat → Int) (TO BI : Nat → Nat → Int) (nm : Nat → List Int) (r q : Nat), rv_Dt (fun P => sp_rows T (fun f a => P (.inl (f, a))) (fun PL WA OA TO BI nm r => P (.inr (PL, WA, OA, TO, BI, nm, r))) f PL WA OA TO BI nm r q)
  | 0, _, _, _, _, _, _, _, _ => ⟨.inl (0, 0), fun _ _ => trivial⟩
  | f + 1, PL, WA, OA, TO, BI, nm, r, q => by
    by_cases c0 : (T q).1 = 0
    · exact ⟨.inr (PL, WA, OA, TO, BI, nm, r), fun P p => ⟨fun _ => p, fun e => absurd (c0.symm.trans e) (by decide), fun n => absurd c0 n⟩⟩
    · by_cases c5 : (T q).1 = 5
      · exact ⟨.inl (1, (T q).2.1), fun P p => ⟨fun e => absurd e c0, fun _ => p, fun _ n => absurd c5 n⟩⟩
      · obtain ⟨y, hy⟩ := dt_row (T := T) (PL := PL) (WA := WA) (OA := OA) (TO := TO) (BI := BI) (nm := nm) (q := q) (K := fun PL' WA' OA' TO' BI' nm' q' P => sp_sgn T 59 (rv_x T q') (fun f a => P (.inl (f, a))) (sp_rows T (fun f a => P (.inl (f, a))) (fun PL WA OA TO BI nm r => P (.inr (PL, WA, OA, TO, BI, nm, r))) f PL' WA' OA' TO' BI' nm' (r + 1) (rv_x T (rv_x T q')))) (fun PL' WA' OA' TO' BI' nm' q' => dt_sgn (dt_rows f PL' WA' OA' TO' BI' nm' (r + 1) (rv_x T (rv_x T q'))))
        exact ⟨y, fun P p => ⟨fun e => absurd e c0, fun e => absurd e c5, fun _ _ => hy P p⟩⟩
end DT
