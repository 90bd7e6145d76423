/-! ===== by hand: code, nots, joins of the reference ===== -/
/-- the reference, its codes and its stack -/
def hn_R (G : mj_G) (M : mj_M) (m rd sk : Nat) : Prop := G m = (1012, 0) ∧ M.2.2 m 8 = some rd ∧ G rd = (53100, 135) ∧ M.2.2 m 52 = some sk ∧ G sk = (68100, 45)
abbrev hn_W : List (Nat × Nat × Nat) := [(1012, 53, 56), (53100, 0, 134)]
theorem hn_R.fr {W : List (Nat × Nat × Nat)} {G : mj_G} {M M' : mj_M} {m rd sk : Nat} (h : hn_R G M m rd sk) (hf : ab_frm W G M M') (h1 : ¬ ab_cov W 1012 8) (h2 : ¬ ab_cov W 1012 52) : hn_R G M' m rd sk := by
  obtain ⟨a, b, c, d, e⟩ := h
  refine ⟨a, ?_, c, ?_, e⟩
  · rw [(hf m 8 (by rw [a]; exact h1)).2]; exact b
  · rw [(hf m 52 (by rw [a]; exact h2)).2]; exact d
set_option maxRecDepth 100000 in
theorem r_code {d m rd sk c : Nat} {x y z : Int} {G : mj_G} {M : mj_M} {Q : mj_P} (hr : hn_R G M m rd sk) (hI : ab_Inv G M) (hc : M.1 m 53 = (c : Int)) (hc1 : c ≤ 44) (hx : mj_in x) (hy : mj_in y) (hz : mj_in z)
    (hQ : ∀ M', ab_Inv G M' → ab_frm hn_W G M M' → M'.1 m 53 = ((c + 1 : Nat) : Int) → M'.1 m 55 = M.1 m 55 → M'.1 m 54 = M.1 m 54 → M'.1 rd (3 * c) = x → (∀ j, j < 3 * c → M'.1 rd j = M.1 rd j) → Q none G M') : mj_R mj_tab (d + 1) 174 [.inr (.inr (some m)), .inl x, .inl y, .inl z] G M Q := by
  obtain ⟨hm, h8, hrd, -, -⟩ := hr
  have nr : m ≠ rd := hn_ne hm hrd (by decide)
  refine ⟨Nat.le_of_ble_eq_true rfl, mj_W.run (mj_R_mo _ _) 40 ?_⟩
  have any : ∀ k (v : Int), mj_in v → (ab_rg (G rd).1 k).1 ≤ v ∧ v ≤ (ab_rg (G rd).1 k).2 := fun k v hv => by
    rw [hrd]
    exact ⟨hv.1, by have := hv.2; show v ≤ 2147483647; omega⟩
  have cv : ∀ k, k ≤ 134 → ab_cov hn_W (G rd).1 k := fun k hk => ⟨(53100, 0, 134), by decide, by rw [hrd], Nat.zero_le _, hk⟩
  have e1 : ∀ j1, (mj_p0 M rd j1 x).1 m 53 = (c : Int) := fun _ => (hn_n (Or.inl nr)).trans hc
  have e2 : ∀ j1 j2, (mj_p0 (mj_p0 M rd j1 x) rd j2 y).1 m 53 = (c : Int) := fun _ _ => (hn_n (Or.inl nr)).trans (e1 _)
  have e3 : ∀ j1 j2 j3, (mj_p0 (mj_p0 (mj_p0 M rd j1 x) rd j2 y) rd j3 z).1 m 53 = (c : Int) := fun _ _ _ => (hn_n (Or.inl nr)).trans (e2 _ _)
  have fin : ∀ (j1 j2 j3 : Nat) (v : Int), j1 = 3 * c → j2 = 3 * c + 1 → j3 = 3 * c + 2 → v = ((c + 1 : Nat) : Int) → Q none G (mj_p0 (mj_p0 (mj_p0 (mj_p0 M rd j1 x) rd j2 y) rd j3 z) m 53 v) := by
    intro j1 j2 j3 v g1 g2 g3 g4
    subst g1 g2 g3 g4
    refine hQ _ ((((hI.p0 (any _ _ hx)).p0 (any _ _ hy)).p0 (any _ _ hz)).p0 ?_) (hn_f0 (hn_f0 (hn_f0 (hn_f0 ab_frm.rf (cv _ (by omega))) (cv _ (by omega))) (cv _ (by omega))) ⟨(1012, 53, 56), by decide, by rw [hm], by decide, by decide⟩) hn_s ?_ ?_ ?_ (fun j hj => ?_)
    · rw [hm]
      exact ⟨by show (-2147483648 : Int) ≤ _; omega, by show _ ≤ (2147483647 : Int); omega⟩
    · exact (hn_n (Or.inr (by decide))).trans ((hn_n (Or.inl nr)).trans ((hn_n (Or.inl nr)).trans (hn_n (Or.inl nr))))
    · exact (hn_n (Or.inr (by decide))).trans ((hn_n (Or.inl nr)).trans ((hn_n (Or.inl nr)).trans (hn_n (Or.inl nr))))
    · exact (hn_n (Or.inl nr.symm)).trans ((hn_n (Or.inr (by omega))).trans ((hn_n (Or.inr (by omega))).trans hn_s))
    · exact (hn_n (Or.inl nr.symm)).trans ((hn_n (Or.inr (by omega))).trans ((hn_n (Or.inr (by omega))).trans (hn_n (Or.inr (by omega)))))
  refine hn_gr (fk := 8) (List.cons_ne_nil _ _) rfl rfl rfl hm h8 ?_
  refine hn_gi (fk := 53) (v := (c : Int)) (List.cons_ne_nil _ _) rfl rfl rfl hm hc ?_
  refine Or.inl ⟨⟨by show (-2147483648 : Int) ≤ (3 : Int) * (c : Int); omega, by show (3 : Int) * (c : Int) < (2147483648 : Int); omega⟩, ?_⟩
  refine ⟨53100, 135, hrd, rfl, by decide, by show (0 : Int) ≤ (3 : Int) * (c : Int); omega, by show (3 : Int) * (c : Int) < ((135 : Nat) : Int); omega, ?_⟩
  refine hn_gr (fk := 8) (List.cons_ne_nil _ _) rfl rfl rfl hm h8 ?_
  refine hn_gi (fk := 53) (v := (c : Int)) (List.cons_ne_nil _ _) rfl rfl rfl hm (e1 _) ?_
  refine Or.inl ⟨⟨by show (-2147483648 : Int) ≤ (3 : Int) * (c : Int); omega, by show (3 : Int) * (c : Int) < (2147483648 : Int); omega⟩, ?_⟩
  refine Or.inl ⟨⟨by show (-2147483648 : Int) ≤ (3 : Int) * (c : Int) + 1; omega, by show (3 : Int) * (c : Int) + 1 < (2147483648 : Int); omega⟩, ?_⟩
  refine ⟨53100, 135, hrd, rfl, by decide, by show (0 : Int) ≤ (3 : Int) * (c : Int) + 1; omega, by show (3 : Int) * (c : Int) + 1 < ((135 : Nat) : Int); omega, ?_⟩
  refine hn_gr (fk := 8) (List.cons_ne_nil _ _) rfl rfl rfl hm h8 ?_
  refine hn_gi (fk := 53) (v := (c : Int)) (List.cons_ne_nil _ _) rfl rfl rfl hm (e2 _ _) ?_
  refine Or.inl ⟨⟨by show (-2147483648 : Int) ≤ (3 : Int) * (c : Int); omega, by show (3 : Int) * (c : Int) < (2147483648 : Int); omega⟩, ?_⟩
  refine Or.inl ⟨⟨by show (-2147483648 : Int) ≤ (3 : Int) * (c : Int) + 2; omega, by show (3 : Int) * (c : Int) + 2 < (2147483648 : Int); omega⟩, ?_⟩
  refine ⟨53100, 135, hrd, rfl, by decide, by show (0 : Int) ≤ (3 : Int) * (c : Int) + 2; omega, by show (3 : Int) * (c : Int) + 2 < ((135 : Nat) : Int); omega, ?_⟩
  refine hn_gi (fk := 53) (v := (c : Int)) (List.cons_ne_nil _ _) rfl rfl rfl hm (e3 _ _ _) ?_
  refine Or.inl ⟨⟨by show (-2147483648 : Int) ≤ (c : Int) + 1; omega, by show (c : Int) + 1 < (2147483648 : Int); omega⟩, ?_⟩
  refine hn_pi (fk := 53) (List.cons_ne_nil _ _) rfl rfl rfl hm (fun q => by cases q) ?_
  exact And.intro rfl (fin _ _ _ _ (by show ((3 : Int) * (c : Int)).toNat = _; omega) (by show ((3 : Int) * (c : Int) + 1).toNat = _; omega) (by show ((3 : Int) * (c : Int) + 2).toNat = _; omega) (by show (c : Int) + 1 = _; omega))
