/-! ===== by hand: code, nots, joins of the reference ===== -/
/-- the reference, its codes and its stack -/
def hn_R (G : mj_G) (M : mj_M) (m rd sk : Nat) : Prop := G m = (1012, 0) ∧ M.2.2 m 8 = some rd ∧ G rd = (53100, 135) ∧ M.2.2 m 52 = some sk ∧ G sk = (68100, 45)
abbrev hn_W : List (Nat × Nat × Nat) := [(1012, 53, 56), (53100, 0, 134)]
theorem hn_R.fr {W : List (Nat × Nat × Nat)} {G : mj_G} {M M' : mj_M} {m rd sk : Nat} (h : hn_R G M m rd sk) (hf : ab_frm W G M M') (h1 : ¬ ab_cov W 1012 8) (h2 : ¬ ab_cov W 1012 52) : hn_R G M' m rd sk := by
  obtain ⟨a, b, c, d, e⟩ := h
  refine ⟨a, ?_, c, ?_, e⟩
  · rw [(hf m 8 (by rw [a]; exact h1)).2]; exact b
  · rw [(hf m 52 (by rw [a]; exact h2)).2]; exact d
set_option maxRecDepth 100000 in
theorem r_code {d m rd sk c : Nat} {x y z : Int} {G : mj_G} {M : mj_M} {Q : mj_P} (hr : hn_R G M m rd sk) (hI : ab_Inv G M) (hc : M.1 m 53 = (c : Int)) (hc1 : c ≤ 44) (hx : mj_in x) (hy : mj_in y) (hz : mj_in z)
    (hQ : ∀ M', ab_Inv G M' → ab_frm hn_W G M M' → M'.1 m 53 = ((c + 1 : Nat) : Int) → M'.1 m 55 = M.1 m 55 → M'.1 m 54 = M.1 m 54 → M'.1 rd (3 * c) = x → (∀ j, j < 3 * c → M'.1 rd j = M.1 rd j) → Q none G M') : mj_R mj_tab (d + 1) 174 [.inr (.inr (some m)), .inl x, .inl y, .inl z] G M Q := by
  obtain ⟨hm, h8, hrd, -, -⟩ := hr
  have nr : m ≠ rd := hn_ne hm hrd (by decide)
  refine ⟨Nat.le_of_ble_eq_true rfl, mj_W.run (mj_R_mo _ _) 40 ?_⟩
  refine hn_gr (fk := 8) (List.cons_ne_nil _ _) rfl rfl rfl hm h8 ?_
  refine hn_gi (fk := 53) (v := (c : Int)) (List.cons_ne_nil _ _) rfl rfl rfl hm hc ?_
  refine hn_bn (z := ((3 * c : Nat) : Int)) (by show (3 : Int) * (c : Int) = _; omega) (by omega) (by omega) ?_
  refine hn_as hrd rfl (by decide) (j := 3 * c) (rfl) (by omega) ?_
  have e1 : (mj_p0 M rd (3 * c) x).1 m 53 = (c : Int) := (hn_n (Or.inl nr)).trans hc
  refine hn_gr (fk := 8) (List.cons_ne_nil _ _) rfl rfl rfl hm h8 ?_
  refine hn_gi (fk := 53) (v := (c : Int)) (List.cons_ne_nil _ _) rfl rfl rfl hm e1 ?_
  refine hn_bn (z := ((3 * c : Nat) : Int)) (by show (3 : Int) * (c : Int) = _; omega) (by omega) (by omega) ?_
  refine hn_bn (z := ((3 * c + 1 : Nat) : Int)) (by show ((3 * c : Nat) : Int) + 1 = _; omega) (by omega) (by omega) ?_
  refine hn_as hrd rfl (by decide) (j := 3 * c + 1) (rfl) (by omega) ?_
  have e2 : (mj_p0 (mj_p0 M rd (3 * c) x) rd (3 * c + 1) y).1 m 53 = (c : Int) := (hn_n (Or.inl nr)).trans e1
  refine hn_gr (fk := 8) (List.cons_ne_nil _ _) rfl rfl rfl hm h8 ?_
  refine hn_gi (fk := 53) (v := (c : Int)) (List.cons_ne_nil _ _) rfl rfl rfl hm e2 ?_
  refine hn_bn (z := ((3 * c : Nat) : Int)) (by show (3 : Int) * (c : Int) = _; omega) (by omega) (by omega) ?_
  refine hn_bn (z := ((3 * c + 2 : Nat) : Int)) (by show ((3 * c : Nat) : Int) + 2 = _; omega) (by omega) (by omega) ?_
  refine hn_as hrd rfl (by decide) (j := 3 * c + 2) (rfl) (by omega) ?_
  have e3 : (mj_p0 (mj_p0 (mj_p0 M rd (3 * c) x) rd (3 * c + 1) y) rd (3 * c + 2) z).1 m 53 = (c : Int) := (hn_n (Or.inl nr)).trans e2
  refine hn_gi (fk := 53) (v := (c : Int)) (List.cons_ne_nil _ _) rfl rfl rfl hm e3 ?_
  refine hn_bn (z := ((c + 1 : Nat) : Int)) (by show (c : Int) + 1 = _; omega) (by omega) (by omega) ?_
  refine hn_pi (fk := 53) (List.cons_ne_nil _ _) rfl rfl rfl hm (fun q => by cases q) ?_
  have any : ∀ k (v : Int), mj_in v → (ab_rg (G rd).1 k).1 ≤ v ∧ v ≤ (ab_rg (G rd).1 k).2 := fun k v hv => by
    rw [hrd]
    exact ⟨hv.1, by have := hv.2; show v ≤ 2147483647; omega⟩
  have cv : ∀ k, k ≤ 134 → ab_cov hn_W (G rd).1 k := fun k hk => ⟨(53100, 0, 134), by decide, by rw [hrd], Nat.zero_le _, hk⟩
  refine And.intro rfl (hQ _ ((((hI.p0 (any _ _ hx)).p0 (any _ _ hy)).p0 (any _ _ hz)).p0 ?_) (hn_f0 (hn_f0 (hn_f0 (hn_f0 ab_frm.rf (cv _ (by omega))) (cv _ (by omega))) (cv _ (by omega))) ⟨(1012, 53, 56), by decide, by rw [hm], by decide, by decide⟩) hn_s ?_ ?_ ?_ (fun j hj => ?_))
  · rw [hm]
    exact ⟨by show (-2147483648 : Int) ≤ _; omega, by show _ ≤ (2147483647 : Int); omega⟩
  · exact (hn_n (Or.inr (by decide))).trans ((hn_n (Or.inl nr)).trans ((hn_n (Or.inl nr)).trans (hn_n (Or.inl nr))))
  · exact (hn_n (Or.inr (by decide))).trans ((hn_n (Or.inl nr)).trans ((hn_n (Or.inl nr)).trans (hn_n (Or.inl nr))))
  · exact (hn_n (Or.inl nr.symm)).trans ((hn_n (Or.inr (by omega))).trans ((hn_n (Or.inr (by omega))).trans hn_s))
  · exact (hn_n (Or.inl nr.symm)).trans ((hn_n (Or.inr (by omega))).trans ((hn_n (Or.inr (by omega))).trans (hn_n (Or.inr (by omega)))))
