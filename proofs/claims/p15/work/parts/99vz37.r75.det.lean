/-! ===== every text of CONTRACTS has one answer ===== -/
def rv_Dg {β : Type} (S : (((Int × Nat) ⊕ β) → Prop) → Prop) : Prop := ∃ y, ∀ P : ((Int × Nat) ⊕ β) → Prop, P y → S P
section DG
variable {β : Type} {T : Nat → Nat × Nat × Int × List Int × Nat} {p : Nat} {A B : (((Int × Nat) ⊕ β) → Prop) → Prop}
theorem dg_f (f : Int) (a : Nat) : rv_Dg (β := β) (fun P => P (.inl (f, a))) := ⟨_, fun _ h => h⟩
theorem dg_if {c : Prop} (hA : rv_Dg A) (hB : rv_Dg B) : rv_Dg (fun P => (c → A P) ∧ (¬ c → B P)) := by
  by_cases h : c
  · obtain ⟨y, hy⟩ := hA
    exact ⟨y, fun P p => ⟨fun _ => hy P p, fun n => absurd h n⟩⟩
  · obtain ⟨y, hy⟩ := hB
    exact ⟨y, fun P p => ⟨fun n => absurd n h, fun _ => hy P p⟩⟩
theorem dg_num {lo hi : Int} (hA : rv_Dg A) : rv_Dg (fun P => sp_num T lo hi p (fun f a => P (.inl (f, a))) (A P)) := by
  obtain ⟨y, hy⟩ := hA
  by_cases c1 : (T p).1 = 2
  · by_cases c2 : lo ≤ (T p).2.2.1
    · by_cases c3 : (T p).2.2.1 ≤ hi
      · exact ⟨y, fun P k => ⟨fun _ => ⟨fun _ => ⟨fun _ => hy P k, fun n => absurd c3 n⟩, fun n => absurd c2 n⟩, fun n => absurd c1 n⟩⟩
      · exact ⟨.inl (2, (T p).2.1), fun P k => ⟨fun _ => ⟨fun _ => ⟨fun n => absurd n c3, fun _ => k⟩, fun n => absurd c2 n⟩, fun n => absurd c1 n⟩⟩
    · exact ⟨.inl (2, (T p).2.1), fun P k => ⟨fun _ => ⟨fun n => absurd n c2, fun _ => k⟩, fun n => absurd c1 n⟩⟩
  · exact ⟨.inl (1, (T p).2.1), fun P k => ⟨fun n => absurd n c1, fun _ => k⟩⟩
theorem dg_sgn {c : Int} (hA : rv_Dg A) : rv_Dg (fun P => sp_sgn T c p (fun f a => P (.inl (f, a))) (A P)) := by
  obtain ⟨y, hy⟩ := hA
  by_cases c1 : (T p).1 = 3
  · by_cases c2 : (T p).2.2.1 = c
    · exact ⟨y, fun P k => ⟨fun _ => ⟨fun _ => hy P k, fun n => absurd c2 n⟩, fun n => absurd c1 n⟩⟩
    · exact ⟨.inl (1, (T p).2.1), fun P k => ⟨fun _ => ⟨fun n => absurd n c2, fun _ => k⟩, fun n => absurd c1 n⟩⟩
  · exact ⟨.inl (1, (T p).2.1), fun P k => ⟨fun n => absurd n c1, fun _ => k⟩⟩
theorem dg_nam (hA : rv_Dg A) : rv_Dg (fun P => sp_nam T p (fun f a => P (.inl (f, a))) (A P)) := by
  obtain ⟨y, hy⟩ := hA
  by_cases c1 : (T p).1 = 1
  · by_cases c2 : rv_nam (T p).2.2.2.1
    · exact ⟨y, fun P k => ⟨fun _ => ⟨fun _ => hy P k, fun n => absurd c2 n⟩, fun n => absurd c1 n⟩⟩
    · exact ⟨.inl (1, (T p).2.1), fun P k => ⟨fun _ => ⟨fun n => absurd n c2, fun _ => k⟩, fun n => absurd c1 n⟩⟩
  · exact ⟨.inl (1, (T p).2.1), fun P k => ⟨fun n => absurd n c1, fun _ => k⟩⟩
theorem dg_find {nm : Nat → List Int} {k : Int} {w : List Int} {K : Int → (((Int × Nat) ⊕ β) → Prop) → Prop} (hK : ∀ r, rv_Dg (K r)) : rv_Dg (fun P => sp_find nm k w (fun r => K r P)) := by
  by_cases h : ∃ r : Nat, (r : Int) < k ∧ nm r = w ∧ ∀ j, j < r → nm j ≠ w
  · obtain ⟨r, h1, h2, h3⟩ := h
    obtain ⟨y, hy⟩ := hK (r : Int)
    refine ⟨y, fun P p => ⟨fun r' g1 g2 g3 => ?_, fun g => absurd h2 (g r h1)⟩⟩
    have e : r' = r := by
      rcases Nat.lt_trichotomy r' r with q | q | q
      · exact absurd g2 (h3 r' q)
      · exact q
      · exact absurd h2 (g3 r q)
    rw [e]; exact hy P p
  · obtain ⟨y, hy⟩ := hK (-1)
    exact ⟨y, fun P p => ⟨fun r' g1 g2 g3 => absurd ⟨r', g1, g2, g3⟩ h, fun _ => hy P p⟩⟩
end DG
theorem dg_dlet {β : Type} {T : Nat → Nat × Nat × Int × List Int × Nat} {nm : Nat → List Int} {c0 : Int} {R : Nat → Int} {q : Nat} {K : (Nat → Int) → Nat → (((Int × Nat) ⊕ β) → Prop) → Prop} (hK : ∀ R q, rv_Dg (K R q)) : rv_Dg (fun P => sp_dlet T nm c0 R q (fun f a => P (.inl (f, a))) (fun R' q' => K R' q' P)) := by
  unfold sp_dlet
  exact (dg_num (dg_if (dg_nam (dg_find (fun r => (dg_if (dg_f _ _) (dg_if (dg_nam (dg_find (fun r => (dg_if (dg_f _ _) (dg_if (dg_f _ _) (dg_num (hK _ _))))))) (dg_num (hK _ _))))))) (dg_f _ _)))
theorem dg_dsea {β : Type} {T : Nat → Nat × Nat × Int × List Int × Nat} {nm : Nat → List Int} {c0 : Int} {R : Nat → Int} {q : Nat} {K : (Nat → Int) → Nat → (((Int × Nat) ⊕ β) → Prop) → Prop} (hK : ∀ R q, rv_Dg (K R q)) : rv_Dg (fun P => sp_dsea T nm c0 R q (fun f a => P (.inl (f, a))) (fun R' q' => K R' q' P)) := by
  unfold sp_dsea
  exact (dg_num (dg_if (hK _ _) (dg_f _ _)))
theorem dg_deal {β : Type} {T : Nat → Nat × Nat × Int × List Int × Nat} {nm : Nat → List Int} {c0 : Int} {R : Nat → Int} {q : Nat} {K : (Nat → Int) → Nat → (((Int × Nat) ⊕ β) → Prop) → Prop} (hK : ∀ R q, rv_Dg (K R q)) : rv_Dg (fun P => sp_deal T nm c0 R q (fun f a => P (.inl (f, a))) (fun R' q' => K R' q' P)) := by
  by_cases c : (T q).1 = 1 ∧ ¬ rv_nam (T q).2.2.2.1
  · have : ∃ j, j < 24 ∧ rv_rs.getD j [] = (T q).2.2.2.1 := by
      refine Classical.byContradiction (fun g => c.2 (fun j hj e => g ⟨j, hj, e⟩))
    obtain ⟨j, j1, hj⟩ := this
    have key : rv_Dg (fun P => (j = 10 → sp_dlet T nm c0 R q (fun f a => P (.inl (f, a))) (fun R' q' => K R' q' P)) ∧ (j = 11 → sp_dsea T nm c0 R q (fun f a => P (.inl (f, a))) (fun R' q' => K R' q' P)) ∧ (j ≠ 10 → j ≠ 11 → P (.inl (1, (T q).2.1)))) := by
      by_cases e10 : j = 10
      · obtain ⟨y, hy⟩ := dg_dlet (T := T) (nm := nm) (c0 := c0) (R := R) (q := q) hK
        exact ⟨y, fun P p => ⟨fun _ => hy P p, fun e => absurd (e10.symm.trans e) (by decide), fun n => absurd e10 n⟩⟩
      · by_cases e11 : j = 11
        · obtain ⟨y, hy⟩ := dg_dsea (T := T) (nm := nm) (c0 := c0) (R := R) (q := q) hK
          exact ⟨y, fun P p => ⟨fun e => absurd e e10, fun _ => hy P p, fun _ n => absurd e11 n⟩⟩
        · exact ⟨.inl (1, (T q).2.1), fun P p => ⟨fun e => absurd e e10, fun e => absurd e e11, fun _ _ => p⟩⟩
    obtain ⟨y, hy⟩ := key
    refine ⟨y, fun P p => ⟨fun i i1 _ hi => ?_, fun n => absurd c n⟩⟩
    have e : i = j := rv_rs_i i i1 j j1 (hi.trans hj.symm)
    rw [e]; exact hy P p
  · exact ⟨.inl (1, (T q).2.1), fun P p => ⟨fun i i1 a b => absurd ⟨a, fun n => n i i1 b⟩ c, fun _ => p⟩⟩
theorem dg_deals {T : Nat → Nat × Nat × Int × List Int × Nat} {nm : Nat → List Int} {c0 : Int} : ∀ (f : Nat) (R : Nat → Int) (r q : Nat), rv_Dg (β := (Nat → Int) × Nat) (fun P => sp_deals T nm c0 (fun f a => P (.inl (f, a))) (fun R r => P (.inr (R, r))) f R r q)
  | 0, _, _, _ => ⟨.inl (0, 0), fun _ _ => trivial⟩
  | f + 1, R, r, q => by
    by_cases c0' : (T q).1 = 0
    · exact ⟨.inr (R, r), fun P p => ⟨fun _ => p, fun e => absurd (c0'.symm.trans e) (by decide), fun n => absurd c0' n⟩⟩
    · by_cases c5 : (T q).1 = 5
      · exact ⟨.inl (1, (T q).2.1), fun P p => ⟨fun e => absurd e c0', fun _ => p, fun _ n => absurd c5 n⟩⟩
      · obtain ⟨y, hy⟩ := dg_deal (T := T) (nm := nm) (c0 := c0) (R := R) (q := q) (K := fun R' q' P => sp_sgn T 59 (rv_x T q') (fun f a => P (.inl (f, a))) (sp_deals T nm c0 (fun f a => P (.inl (f, a))) (fun R r => P (.inr (R, r))) f R' (r + 1) (rv_x T (rv_x T q')))) (fun R' q' => dg_sgn (dg_deals f R' (r + 1) (rv_x T (rv_x T q'))))
        exact ⟨y, fun P p => ⟨fun e => absurd e c0', fun e => absurd e c5, fun _ _ => hy P p⟩⟩
