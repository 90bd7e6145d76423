/-! ===== a SENTENCE as told ===== -/
/-- which word a token is; 24: none that texts know -/
def se_j (t : (Nat × Nat × Int × List Int × Nat)) : Nat := if t.1 = 1 then rv_rs.findIdx (fun w => decide (w = t.2.2.2.1)) else 24
theorem se_j_le (t : (Nat × Nat × Int × List Int × Nat)) : se_j t ≤ 24 := by
  unfold se_j
  split
  · exact List.findIdx_le_length
  · exact Nat.le_refl 24
theorem se_j_lt {t : (Nat × Nat × Int × List Int × Nat)} (h : se_j t < 24) : t.1 = 1 ∧ rv_rs.getD (se_j t) [] = t.2.2.2.1 := by
  unfold se_j at h ⊢
  by_cases c : t.1 = 1
  · rw [if_pos c] at h ⊢
    have hl : rv_rs.findIdx (fun w => decide (w = t.2.2.2.1)) < rv_rs.length := h
    have e := List.findIdx_getElem (w := hl)
    refine ⟨c, ?_⟩
    rw [List.getD_eq_getElem?_getD, List.getElem?_eq_getElem hl]
    exact of_decide_eq_true e
  · rw [if_neg c] at h; exact absurd h (Nat.lt_irrefl 24)
theorem se_j_of {t : (Nat × Nat × Int × List Int × Nat)} {j : Nat} (h1 : t.1 = 1) (hj : j < 24) (e : rv_rs.getD j [] = t.2.2.2.1) : se_j t = j := by
  have hl : j < rv_rs.length := hj
  have e2 : rv_rs[j] = t.2.2.2.1 := by
    rw [List.getD_eq_getElem?_getD, List.getElem?_eq_getElem hl] at e
    exact e
  have h : se_j t < 24 := by
    unfold se_j
    rw [if_pos h1]
    exact List.findIdx_lt_length.mpr ⟨rv_rs[j], List.getElem_mem hl, decide_eq_true e2⟩
  exact rv_rs_i _ h _ hj ((se_j_lt h).2.trans e.symm)
theorem se_j_no {t : (Nat × Nat × Int × List Int × Nat)} (h : se_j t = 24) (h1 : t.1 = 1) : rv_nam t.2.2.2.1 := fun j hj e => by
  have := se_j_of h1 hj e
  omega
def se_s (t : (Nat × Nat × Int × List Int × Nat)) (c : Int) : Prop := t.1 = 3 ∧ t.2.2.1 = c
def se_z (t : (Nat × Nat × Int × List Int × Nat)) : Prop := t.1 = 3 ∧ 60 ≤ t.2.2.1 ∧ t.2.2.1 ≤ 62
/-- whether a token begins a ONE -/
def se_b (t : (Nat × Nat × Int × List Int × Nat)) : Prop := se_s t 40 ∨ (14 ≤ se_j t ∧ se_j t < 24)
/-- a sign and a number of a measure, the sign being at q -/
def se_M (T : Nat → (Nat × Nat × Int × List Int × Nat)) (Kf : Int → Nat → Prop) (q : Nat) (K : Int → Int → Nat → Prop) : Prop := (se_z (T q) → sp_num T 0 999 (rv_x T q) Kf (K (T q).2.2.1 (T (rv_x T q)).2.2.1 (rv_x T (rv_x T q)))) ∧ (¬ se_z (T q) → Kf 1 (T q).2.1)
/-- 0 a ONE, 1 what is joined to it by and, 2 an ALL, 3 a COND, 4 what is joined by or: at depth d, from the token at q on, o ONES and the codes cs being told -/
def se_P (T : Nat → (Nat × Nat × Int × List Int × Nat)) (Kf : Int → Nat → Prop) : Nat → Nat → Nat → (Nat → Nat → (List (Nat × Int × Int)) → Prop) → Nat → Nat → (List (Nat × Int × Int)) → Prop
  | 0, _, _, _, _, _, _ => False
  | N + 1, 0, d, Ko, q, o, cs => (se_b (T q) → ((20 ≤ o ∨ 8 < d) → Kf 4 (T q).2.1) ∧ (¬ (20 ≤ o ∨ 8 < d) → (se_s (T q) 40 → se_P T Kf N 3 (d + 1) (fun q o cs => (se_s (T q) 41 → Ko (rv_x T q) o cs) ∧ (¬ se_s (T q) 41 → Kf 1 (T q).2.1)) (rv_x T q) (o + 1) cs) ∧ (se_j (T q) = 14 → se_P T Kf N 0 (d + 1) (fun q o cs => Ko q o (cs ++ [(14, 0, 0)])) (rv_x T q) (o + 1) cs) ∧ (se_j (T q) = 15 ∨ se_j (T q) = 16 → Ko (rv_x T q) (o + 1) (cs ++ [(se_j (T q), 0, 0)])) ∧ (17 ≤ se_j (T q) → se_j (T q) < 24 → se_M T Kf (rv_x T q) (fun z v q' => Ko q' (o + 1) (cs ++ [(se_j (T q), z, v)]))))) ∧ (¬ se_b (T q) → Kf 1 (T q).2.1)
  | N + 1, 1, d, Ko, q, o, cs => (se_j (T q) = 13 → se_P T Kf N 0 d (fun q o cs => se_P T Kf N 1 d Ko q o (cs ++ [(13, 0, 0)])) (rv_x T q) o cs) ∧ (¬ se_j (T q) = 13 → Ko q o cs)
  | N + 1, 2, d, Ko, q, o, cs => se_P T Kf N 0 d (fun q o cs => se_P T Kf N 1 d Ko q o cs) q o cs
  | N + 1, 3, d, Ko, q, o, cs => se_P T Kf N 2 d (fun q o cs => se_P T Kf N 4 d Ko q o cs) q o cs
  | N + 1, _ + 4, d, Ko, q, o, cs => (se_j (T q) = 12 → se_P T Kf N 2 d (fun q o cs => se_P T Kf N 4 d Ko q o (cs ++ [(12, 0, 0)])) (rv_x T q) o cs) ∧ (¬ se_j (T q) = 12 → Ko q o cs)
/-- the whole text -/
def se_A (T : Nat → (Nat × Nat × Int × List Int × Nat)) (Kf : Int → Nat → Prop) (K : Nat → (List (Nat × Int × Int)) → Prop) (N : Nat) : Prop := se_P T Kf N 3 1 (fun q o cs => ((T q).1 = 0 → K o cs) ∧ (¬ (T q).1 = 0 → Kf 1 (T q).2.1)) 0 0 []
/-- how much is left behind the token at q -/
def se_mu (T : Nat → (Nat × Nat × Int × List Int × Nat)) (n q : Nat) : Nat := if (T q).1 = 0 ∨ (T q).1 = 5 then 0 else 1 + n - rv_x T q
def se_ne : Nat → Nat
  | 2 => 2
  | 3 => 3
  | _ => 1
theorem se_mu_lt {T : Nat → (Nat × Nat × Int × List Int × Nat)} {n q : Nat} (hw : ∀ q, q ≤ n → rv_tw n q (T q)) (hq : q ≤ n) (h0 : (T q).1 ≠ 0) (h5 : (T q).1 ≠ 5) : se_mu T n (rv_x T q) < se_mu T n q ∧ rv_x T q ≤ n := by
  have w := hw q hq
  have l : rv_x T q ≤ n := w.2.2.2.2.2
  refine ⟨?_, l⟩
  have e : se_mu T n q = 1 + n - rv_x T q := if_neg (by omega)
  rw [e]
  have w2 := hw (rv_x T q) l
  by_cases c : (T (rv_x T q)).1 = 0 ∨ (T (rv_x T q)).1 = 5
  · rw [show se_mu T n (rv_x T q) = 0 from if_pos c]; omega
  · rw [show se_mu T n (rv_x T q) = 1 + n - rv_x T (rv_x T q) from if_neg c]
    have b := w2.2.2.2.1 (by omega) (by omega)
    have b2 := w2.2.2.2.2.2
    unfold rv_x at *
    omega
theorem se_mu_le {T : Nat → (Nat × Nat × Int × List Int × Nat)} {n q : Nat} (hw : ∀ q, q ≤ n → rv_tw n q (T q)) (hq : q ≤ n) : rv_x T q ≤ n := (hw q hq).2.2.2.2.2
section DS
variable {β : Type} {T : Nat → (Nat × Nat × Int × List Int × Nat)} {n : Nat} {K : Nat → Nat → (List (Nat × Int × Int)) → (((Int × Nat) ⊕ β) → Prop) → Prop}
theorem dg_M {q : Nat} {K : Int → Int → Nat → (((Int × Nat) ⊕ β) → Prop) → Prop} (hK : (T q).1 = 3 → (T (rv_x T q)).1 = 2 → ∀ z v, rv_Dg (K z v (rv_x T (rv_x T q)))) : rv_Dg (fun P => se_M T (fun f a => P (.inl (f, a))) q (fun z v q' => K z v q' P)) := by
  unfold se_M
  by_cases c : se_z (T q)
  · by_cases c2 : (T (rv_x T q)).1 = 2
    · obtain ⟨y, hy⟩ := dg_num (T := T) (p := rv_x T q) (lo := 0) (hi := 999) (A := fun P => K (T q).2.2.1 (T (rv_x T q)).2.2.1 (rv_x T (rv_x T q)) P) (hK c.1 c2 _ _)
      exact ⟨y, fun P p => ⟨fun _ => hy P p, fun h => absurd c h⟩⟩
    · exact ⟨.inl (1, (T (rv_x T q)).2.1), fun P p => ⟨fun _ => ⟨fun h => absurd h c2, fun _ => p⟩, fun h => absurd c h⟩⟩
  · exact ⟨.inl (1, (T q).2.1), fun P p => ⟨fun h => absurd h c, fun _ => p⟩⟩
theorem dg_P (hw : ∀ q, q ≤ n → rv_tw n q (T q)) : ∀ (N mo d : Nat) (K : Nat → Nat → (List (Nat × Int × Int)) → (((Int × Nat) ⊕ β) → Prop) → Prop) (q o : Nat) (cs : (List (Nat × Int × Int))), q ≤ n → 4 * se_mu T n q + se_ne mo ≤ N → (∀ q' o' cs', q' ≤ n → se_mu T n q' ≤ se_mu T n q → rv_Dg (K q' o' cs')) → rv_Dg (fun P => se_P T (fun f a => P (.inl (f, a))) N mo d (fun q o cs => K q o cs P) q o cs)
  | 0, mo, d, K, q, o, cs, hq, hN, hK => by
    exfalso
    have : 1 ≤ se_ne mo := by
      unfold se_ne
      split <;> decide
    omega
  | N + 1, 0, d, K, q, o, cs, hq, hN, hK => by
    have hN : 4 * se_mu T n q + 1 ≤ N + 1 := hN
    by_cases cb : se_b (T q)
    · by_cases co : 20 ≤ o ∨ 8 < d
      · exact ⟨.inl (4, (T q).2.1), fun P p => ⟨fun _ => ⟨fun _ => p, fun h => absurd co h⟩, fun h => absurd cb h⟩⟩
      · have hk : (T q).1 ≠ 0 ∧ (T q).1 ≠ 5 := by
          rcases cb with e | e
          · exact ⟨by rw [e.1]; decide, by rw [e.1]; decide⟩
          · have := (se_j_lt e.2).1; omega
        obtain ⟨m1, m2⟩ := se_mu_lt hw hq hk.1 hk.2
        by_cases c40 : se_s (T q) 40
        · have nj : ¬ se_j (T q) < 24 := fun h => by have := (se_j_lt h).1; have := c40.1; omega
          obtain ⟨y, hy⟩ := dg_P hw N 3 (d + 1) (fun q o cs P => (se_s (T q) 41 → K (rv_x T q) o cs P) ∧ (¬ se_s (T q) 41 → P (.inl (1, (T q).2.1)))) (rv_x T q) (o + 1) cs m2 (by show 4 * _ + 3 ≤ N; omega) (fun q' o' cs' l1 l2 => by
            by_cases c41 : se_s (T q') 41
            · have l3 := se_mu_lt hw l1 (by rw [c41.1]; decide) (by rw [c41.1]; decide)
              obtain ⟨y, hy⟩ := hK (rv_x T q') o' cs' l3.2 (by omega)
              exact ⟨y, fun P p => ⟨fun _ => hy P p, fun h => absurd c41 h⟩⟩
            · exact ⟨.inl (1, (T q').2.1), fun P p => ⟨fun h => absurd h c41, fun _ => p⟩⟩)
          exact ⟨y, fun P p => ⟨fun _ => ⟨fun h => absurd h co, fun _ => ⟨fun _ => hy P p, fun h => absurd (by omega) nj, fun h => absurd (by omega) nj, fun _ h => absurd h nj⟩⟩, fun h => absurd cb h⟩⟩
        · have hj : 14 ≤ se_j (T q) ∧ se_j (T q) < 24 := cb.resolve_left c40
          by_cases c14 : se_j (T q) = 14
          · obtain ⟨y, hy⟩ := dg_P hw N 0 (d + 1) (fun q o cs P => K q o (cs ++ [(14, 0, 0)]) P) (rv_x T q) (o + 1) cs m2 (by show 4 * _ + 1 ≤ N; omega) (fun q' o' cs' l1 l2 => hK q' o' _ l1 (by omega))
            exact ⟨y, fun P p => ⟨fun _ => ⟨fun h => absurd h co, fun _ => ⟨fun h => absurd h c40, fun _ => hy P p, fun h => by exfalso; omega, fun h _ => by exfalso; omega⟩⟩, fun h => absurd cb h⟩⟩
          · by_cases c15 : se_j (T q) = 15 ∨ se_j (T q) = 16
            · obtain ⟨y, hy⟩ := hK (rv_x T q) (o + 1) (cs ++ [(se_j (T q), 0, 0)]) m2 (by omega)
              exact ⟨y, fun P p => ⟨fun _ => ⟨fun h => absurd h co, fun _ => ⟨fun h => absurd h c40, fun h => absurd h c14, fun _ => hy P p, fun h _ => by exfalso; omega⟩⟩, fun h => absurd cb h⟩⟩
            · obtain ⟨y, hy⟩ := dg_M (T := T) (q := rv_x T q) (K := fun z v q' P => K q' (o + 1) (cs ++ [(se_j (T q), z, v)]) P) (fun k3 k2 z v => by
                have l1 := se_mu_lt hw m2 (by rw [k3]; decide) (by rw [k3]; decide)
                have l2 := se_mu_lt hw l1.2 (by rw [k2]; decide) (by rw [k2]; decide)
                exact hK _ _ _ l2.2 (by omega))
              exact ⟨y, fun P p => ⟨fun _ => ⟨fun h => absurd h co, fun _ => ⟨fun h => absurd h c40, fun h => absurd h c14, fun h => absurd h c15, fun _ _ => hy P p⟩⟩, fun h => absurd cb h⟩⟩
    · exact ⟨.inl (1, (T q).2.1), fun P p => ⟨fun h => absurd h cb, fun _ => p⟩⟩
  | N + 1, 1, d, K, q, o, cs, hq, hN, hK => by
    have hN : 4 * se_mu T n q + 1 ≤ N + 1 := hN
    by_cases c : se_j (T q) = 13
    · have k1 := (se_j_lt (t := T q) (by omega)).1
      obtain ⟨m1, m2⟩ := se_mu_lt hw hq (by omega) (by omega)
      obtain ⟨y, hy⟩ := dg_P hw N 0 d (fun q o cs P => se_P T (fun f a => P (.inl (f, a))) N 1 d (fun q o cs => K q o cs P) q o (cs ++ [(13, 0, 0)])) (rv_x T q) o cs m2 (by show 4 * _ + 1 ≤ N; omega) (fun q' o' cs' l1 l2 => dg_P hw N 1 d K q' o' _ l1 (by show 4 * _ + 1 ≤ N; omega) (fun q'' o'' cs'' g1 g2 => hK q'' o'' cs'' g1 (by omega)))
      exact ⟨y, fun P p => ⟨fun _ => hy P p, fun h => absurd c h⟩⟩
    · obtain ⟨y, hy⟩ := hK q o cs hq (Nat.le_refl _)
      exact ⟨y, fun P p => ⟨fun h => absurd h c, fun _ => hy P p⟩⟩
  | N + 1, 2, d, K, q, o, cs, hq, hN, hK => by
    have hN : 4 * se_mu T n q + 2 ≤ N + 1 := hN
    exact dg_P hw N 0 d (fun q o cs P => se_P T (fun f a => P (.inl (f, a))) N 1 d (fun q o cs => K q o cs P) q o cs) q o cs hq (by show 4 * _ + 1 ≤ N; omega) (fun q' o' cs' l1 l2 => dg_P hw N 1 d K q' o' _ l1 (by show 4 * _ + 1 ≤ N; omega) (fun q'' o'' cs'' g1 g2 => hK q'' o'' cs'' g1 (by omega)))
  | N + 1, 3, d, K, q, o, cs, hq, hN, hK => by
    have hN : 4 * se_mu T n q + 3 ≤ N + 1 := hN
    exact dg_P hw N 2 d (fun q o cs P => se_P T (fun f a => P (.inl (f, a))) N 4 d (fun q o cs => K q o cs P) q o cs) q o cs hq (by show 4 * _ + 2 ≤ N; omega) (fun q' o' cs' l1 l2 => dg_P hw N 4 d K q' o' _ l1 (by show 4 * _ + 1 ≤ N; omega) (fun q'' o'' cs'' g1 g2 => hK q'' o'' cs'' g1 (by omega)))
  | N + 1, _ + 4, d, K, q, o, cs, hq, hN, hK => by
    have hN : 4 * se_mu T n q + 1 ≤ N + 1 := hN
    by_cases c : se_j (T q) = 12
    · have k1 := (se_j_lt (t := T q) (by omega)).1
      obtain ⟨m1, m2⟩ := se_mu_lt hw hq (by omega) (by omega)
      obtain ⟨y, hy⟩ := dg_P hw N 2 d (fun q o cs P => se_P T (fun f a => P (.inl (f, a))) N 4 d (fun q o cs => K q o cs P) q o (cs ++ [(12, 0, 0)])) (rv_x T q) o cs m2 (by show 4 * _ + 2 ≤ N; omega) (fun q' o' cs' l1 l2 => dg_P hw N 4 d K q' o' _ l1 (by show 4 * _ + 1 ≤ N; omega) (fun q'' o'' cs'' g1 g2 => hK q'' o'' cs'' g1 (by omega)))
      exact ⟨y, fun P p => ⟨fun _ => hy P p, fun h => absurd c h⟩⟩
    · obtain ⟨y, hy⟩ := hK q o cs hq (Nat.le_refl _)
      exact ⟨y, fun P p => ⟨fun h => absurd h c, fun _ => hy P p⟩⟩
theorem dg_A (hw : ∀ q, q ≤ n → rv_tw n q (T q)) : rv_Dg (β := Nat × (List (Nat × Int × Int))) (fun P => se_A T (fun f a => P (.inl (f, a))) (fun o cs => P (.inr (o, cs))) (4 * n + 7)) := by
  refine dg_P hw (4 * n + 7) 3 1 (fun q o cs P => ((T q).1 = 0 → P (.inr (o, cs))) ∧ (¬ (T q).1 = 0 → P (.inl (1, (T q).2.1)))) 0 0 [] (Nat.zero_le n) ?_ (fun q' o' cs' _ _ => ?_)
  · have : se_mu T n 0 ≤ 1 + n := by
      unfold se_mu
      split <;> omega
    show 4 * se_mu T n 0 + 3 ≤ 4 * n + 7
    omega
  · by_cases c : (T q').1 = 0
    · exact ⟨.inr (o', cs'), fun P p => ⟨fun _ => p, fun h => absurd c h⟩⟩
    · exact ⟨.inl (1, (T q').2.1), fun P p => ⟨fun h => absurd h c, fun _ => p⟩⟩
end DS
/-- the spec asks for less where the outcomes do -/
theorem se_M.mono {T : Nat → (Nat × Nat × Int × List Int × Nat)} {Kf Kf' : Int → Nat → Prop} {q : Nat} {K K' : Int → Int → Nat → Prop} (h : se_M T Kf q K) (hf : ∀ f a, Kf f a → Kf' f a) (ho : ∀ z v q, K z v q → K' z v q) : se_M T Kf' q K' := ⟨fun c => (h.1 c).mono hf (fun _ _ _ k => ho _ _ _ k), fun c => hf _ _ (h.2 c)⟩
theorem se_P.mono {T : Nat → (Nat × Nat × Int × List Int × Nat)} {Kf Kf' : Int → Nat → Prop} (hf : ∀ f a, Kf f a → Kf' f a) : ∀ (N mo d : Nat) (Ko Ko' : Nat → Nat → (List (Nat × Int × Int)) → Prop) (q o : Nat) (cs : (List (Nat × Int × Int))), (∀ q o cs, Ko q o cs → Ko' q o cs) → se_P T Kf N mo d Ko q o cs → se_P T Kf' N mo d Ko' q o cs
  | 0, _, _, _, _, _, _, _, _, h => False.elim h
  | N + 1, 0, d, Ko, Ko', q, o, cs, ho, h => ⟨fun cb => ⟨fun c => hf _ _ ((h.1 cb).1 c), fun c => ⟨fun e => se_P.mono hf N 3 (d + 1) _ _ _ _ _ (fun q o cs k => ⟨fun g => ho _ _ _ (k.1 g), fun g => hf _ _ (k.2 g)⟩) (((h.1 cb).2 c).1 e), fun e => se_P.mono hf N 0 (d + 1) _ _ _ _ _ (fun q o cs k => ho _ _ _ k) (((h.1 cb).2 c).2.1 e), fun e => ho _ _ _ (((h.1 cb).2 c).2.2.1 e), fun e1 e2 => (((h.1 cb).2 c).2.2.2 e1 e2).mono hf (fun _ _ _ k => ho _ _ _ k)⟩⟩, fun cb => hf _ _ (h.2 cb)⟩
  | N + 1, 1, d, Ko, Ko', q, o, cs, ho, h => ⟨fun c => se_P.mono hf N 0 d _ _ _ _ _ (fun q o cs k => se_P.mono hf N 1 d _ _ _ _ _ ho k) (h.1 c), fun c => ho _ _ _ (h.2 c)⟩
  | N + 1, 2, d, Ko, Ko', q, o, cs, ho, h => se_P.mono hf N 0 d _ _ _ _ _ (fun q o cs k => se_P.mono hf N 1 d _ _ _ _ _ ho k) h
  | N + 1, 3, d, Ko, Ko', q, o, cs, ho, h => se_P.mono hf N 2 d _ _ _ _ _ (fun q o cs k => se_P.mono hf N 4 d _ _ _ _ _ ho k) h
  | N + 1, _ + 4, d, Ko, Ko', q, o, cs, ho, h => ⟨fun c => se_P.mono hf N 2 d _ _ _ _ _ (fun q o cs k => se_P.mono hf N 4 d _ _ _ _ _ ho k) (h.1 c), fun c => ho _ _ _ (h.2 c)⟩
