/-! ===== by hand: code, nots, joins of the reference ===== -/
/-- the reference, its codes and its stack -/
def hn_R (G : mj_G) (M : mj_M) (m rd sk : Nat) : Prop := G m = (1012, 0) ∧ M.2.2 m 8 = some rd ∧ G rd = (53100, 135) ∧ M.2.2 m 52 = some sk ∧ G sk = (68100, 45)
abbrev hn_W : List (Nat × Nat × Nat) := [(1012, 53, 53), (1012, 55, 56), (53100, 0, 134)]
theorem hn_R.fr {W : List (Nat × Nat × Nat)} {G : mj_G} {M M' : mj_M} {m rd sk : Nat} (h : hn_R G M m rd sk) (hf : ab_frm W G M M') (h1 : ¬ ab_cov W 1012 8) (h2 : ¬ ab_cov W 1012 52) : hn_R G M' m rd sk := by
  obtain ⟨a, b, c, d, e⟩ := h
  refine ⟨a, ?_, c, ?_, e⟩
  · rw [(hf m 8 (by rw [a]; exact h1)).2]; exact b
  · rw [(hf m 52 (by rw [a]; exact h2)).2]; exact d
set_option maxRecDepth 100000 in
theorem r_code {d m rd sk c : Nat} {x y z : Int} {G : mj_G} {M : mj_M} {Q : mj_P} (hr : hn_R G M m rd sk) (hI : ab_Inv G M) (hc : M.1 m 53 = (c : Int)) (hc1 : c ≤ 44) (hx : mj_in x) (hy : mj_in y) (hz : mj_in z)
    (hQ : ∀ M', ab_Inv G M' → ab_frm hn_W G M M' → M'.1 m 53 = ((c + 1 : Nat) : Int) → M'.1 m 55 = M.1 m 55 → M'.1 m 54 = M.1 m 54 → M'.1 rd (3 * c) = x → (∀ j, j < 3 * c → M'.1 rd j = M.1 rd j) → Q none G M') : mj_R mj_tab (d + 1) 174 [.inr (.inr (some m)), .inl x, .inl y, .inl z] G M Q := by
  obtain ⟨hm, h8, hrd, -, -⟩ := hr
  have nr : m ≠ rd := hn_ne hm hrd (by decide)
  refine ⟨Nat.le_of_ble_eq_true rfl, mj_W.run (mj_R_mo _ _) 40 ?_⟩
  have any : ∀ k (v : Int), mj_in v → (ab_rg (G rd).1 k).1 ≤ v ∧ v ≤ (ab_rg (G rd).1 k).2 := fun k v hv => by
    rw [hrd]
    exact ⟨hv.1, by have := hv.2; show v ≤ 2147483647; omega⟩
  have cv : ∀ k, k ≤ 134 → ab_cov hn_W (G rd).1 k := fun k hk => ⟨(53100, 0, 134), by decide, by rw [hrd], Nat.zero_le _, hk⟩
  have e1 : ∀ j1, (mj_p0 M rd j1 x).1 m 53 = (c : Int) := fun _ => (hn_n (Or.inl nr)).trans hc
  have e2 : ∀ j1 j2, (mj_p0 (mj_p0 M rd j1 x) rd j2 y).1 m 53 = (c : Int) := fun _ _ => (hn_n (Or.inl nr)).trans (e1 _)
  have e3 : ∀ j1 j2 j3, (mj_p0 (mj_p0 (mj_p0 M rd j1 x) rd j2 y) rd j3 z).1 m 53 = (c : Int) := fun _ _ _ => (hn_n (Or.inl nr)).trans (e2 _ _)
  have fin : ∀ (j1 j2 j3 : Nat) (v : Int), j1 = 3 * c → j2 = 3 * c + 1 → j3 = 3 * c + 2 → v = ((c + 1 : Nat) : Int) → Q none G (mj_p0 (mj_p0 (mj_p0 (mj_p0 M rd j1 x) rd j2 y) rd j3 z) m 53 v) := by
    intro j1 j2 j3 v g1 g2 g3 g4
    subst g1 g2 g3 g4
    refine hQ _ ((((hI.p0 (any _ _ hx)).p0 (any _ _ hy)).p0 (any _ _ hz)).p0 ?_) (hn_f0 (hn_f0 (hn_f0 (hn_f0 ab_frm.rf (cv _ (by omega))) (cv _ (by omega))) (cv _ (by omega))) ⟨(1012, 53, 53), by decide, by rw [hm], by decide, by decide⟩) hn_s ?_ ?_ ?_ (fun j hj => ?_)
    · rw [hm]
      exact ⟨by show (-2147483648 : Int) ≤ _; omega, by show _ ≤ (2147483647 : Int); omega⟩
    · exact (hn_n (Or.inr (by decide))).trans ((hn_n (Or.inl nr)).trans ((hn_n (Or.inl nr)).trans (hn_n (Or.inl nr))))
    · exact (hn_n (Or.inr (by decide))).trans ((hn_n (Or.inl nr)).trans ((hn_n (Or.inl nr)).trans (hn_n (Or.inl nr))))
    · exact (hn_n (Or.inl nr.symm)).trans ((hn_n (Or.inr (by omega))).trans ((hn_n (Or.inr (by omega))).trans hn_s))
    · exact (hn_n (Or.inl nr.symm)).trans ((hn_n (Or.inr (by omega))).trans ((hn_n (Or.inr (by omega))).trans (hn_n (Or.inr (by omega)))))
  refine hn_gr (fk := 8) (List.cons_ne_nil _ _) rfl rfl rfl hm h8 ?_
  refine hn_gi (fk := 53) (v := (c : Int)) (List.cons_ne_nil _ _) rfl rfl rfl hm hc ?_
  refine Or.inl ⟨⟨by show (-2147483648 : Int) ≤ (3 : Int) * (c : Int); omega, by show (3 : Int) * (c : Int) < (2147483648 : Int); omega⟩, ?_⟩
  refine ⟨53100, 135, hrd, rfl, by decide, by show (0 : Int) ≤ (3 : Int) * (c : Int); omega, by show (3 : Int) * (c : Int) < ((135 : Nat) : Int); omega, ?_⟩
  refine hn_gr (fk := 8) (List.cons_ne_nil _ _) rfl rfl rfl hm h8 ?_
  refine hn_gi (fk := 53) (v := (c : Int)) (List.cons_ne_nil _ _) rfl rfl rfl hm (e1 _) ?_
  refine Or.inl ⟨⟨by show (-2147483648 : Int) ≤ (3 : Int) * (c : Int); omega, by show (3 : Int) * (c : Int) < (2147483648 : Int); omega⟩, ?_⟩
  refine Or.inl ⟨⟨by show (-2147483648 : Int) ≤ (3 : Int) * (c : Int) + 1; omega, by show (3 : Int) * (c : Int) + 1 < (2147483648 : Int); omega⟩, ?_⟩
  refine ⟨53100, 135, hrd, rfl, by decide, by show (0 : Int) ≤ (3 : Int) * (c : Int) + 1; omega, by show (3 : Int) * (c : Int) + 1 < ((135 : Nat) : Int); omega, ?_⟩
  refine hn_gr (fk := 8) (List.cons_ne_nil _ _) rfl rfl rfl hm h8 ?_
  refine hn_gi (fk := 53) (v := (c : Int)) (List.cons_ne_nil _ _) rfl rfl rfl hm (e2 _ _) ?_
  refine Or.inl ⟨⟨by show (-2147483648 : Int) ≤ (3 : Int) * (c : Int); omega, by show (3 : Int) * (c : Int) < (2147483648 : Int); omega⟩, ?_⟩
  refine Or.inl ⟨⟨by show (-2147483648 : Int) ≤ (3 : Int) * (c : Int) + 2; omega, by show (3 : Int) * (c : Int) + 2 < (2147483648 : Int); omega⟩, ?_⟩
  refine ⟨53100, 135, hrd, rfl, by decide, by show (0 : Int) ≤ (3 : Int) * (c : Int) + 2; omega, by show (3 : Int) * (c : Int) + 2 < ((135 : Nat) : Int); omega, ?_⟩
  refine hn_gi (fk := 53) (v := (c : Int)) (List.cons_ne_nil _ _) rfl rfl rfl hm (e3 _ _ _) ?_
  refine Or.inl ⟨⟨by show (-2147483648 : Int) ≤ (c : Int) + 1; omega, by show (c : Int) + 1 < (2147483648 : Int); omega⟩, ?_⟩
  refine hn_pi (fk := 53) (List.cons_ne_nil _ _) rfl rfl rfl hm (fun q => by cases q) ?_
  exact And.intro rfl (fin _ _ _ _ (by show ((3 : Int) * (c : Int)).toNat = _; omega) (by show ((3 : Int) * (c : Int) + 1).toNat = _; omega) (by show ((3 : Int) * (c : Int) + 2).toNat = _; omega) (by show (c : Int) + 1 = _; omega))
def hn_J (G : mj_G) (M : mj_M) (m rd sk t c h : Nat) : Prop := hn_R G M m rd sk ∧ ab_Inv G M ∧ M.1 m 55 = (t : Int) ∧ M.1 m 53 = (c : Int) ∧ hn_k (fun i => M.1 rd (3 * i)) c h
theorem hn_ci {v : Int} (h1 : -2147483648 ≤ v) (h2 : v < 2147483648) {k : Nat} (h : 53 ≤ k ∧ k ≤ 56) : (ab_rg 1012 k).1 ≤ v ∧ v ≤ (ab_rg 1012 k).2 := by
  have : k = 53 ∨ k = 54 ∨ k = 55 ∨ k = 56 := by omega
  rcases this with rfl | rfl | rfl | rfl <;> exact ⟨h1, by show v ≤ 2147483647; omega⟩
set_option maxRecDepth 100000 in
theorem r_nots_w {d m rd sk h : Nat} {G : mj_G} {Q : mj_P} (h1 : 1 ≤ h) : ∀ (t : Nat) (M : mj_M) (c cb sb : Nat), hn_J G M m rd sk t c h → c + t ≤ 45 →
    (∀ M' t' c', hn_J G M' m rd sk t' c' h → t' ≤ t → c' + t' = c + t → ab_frm hn_W G M M' → hn_b (fun i => M.1 sk i) t' = hn_b (fun i => M.1 sk i) t → Q none G M') →
    mj_W sx_ms (mj_R mj_tab (d + 1)) mt_X12_nots.2.2.2.2.1 Q mt_X12_nots.2.2.2.2.1 [some (.inr (.inr (some m)))] [] G M cb sb := by
  intro t
  induction t with
  | zero =>
    intro M c cb sb hJ hb hQ
    have hJ0 := hJ
    obtain ⟨⟨hm, h8, hrd, h52, hsk⟩, hI, h55, h53, hk⟩ := hJ
    refine mj_W.run (mj_R_mo _ _) 30 ?_
    refine hn_gi (fk := 55) (v := ((0 : Nat) : Int)) (List.cons_ne_nil _ _) rfl rfl rfl hm h55 ?_
    refine ⟨fun c1 => And.intro rfl (hQ M 0 c hJ0 (Nat.le_refl 0) rfl ab_frm.rf rfl), fun c1 => absurd (show ((0 : Nat) : Int) ≤ 0 from Int.le_refl 0) c1⟩
  | succ t ih =>
    intro M c cb sb hJ hb hQ
    have hJ0 := hJ
    obtain ⟨⟨hm, h8, hrd, h52, hsk⟩, hI, h55, h53, hk⟩ := hJ
    have nr : m ≠ rd := hn_ne hm hrd (by decide)
    have nk : sk ≠ m := hn_ne hsk hm (by decide)
    have nkr : sk ≠ rd := hn_ne hsk hrd (by decide)
    refine mj_W.run (mj_R_mo _ _) 30 ?_
    refine hn_gi (fk := 55) (v := ((t + 1 : Nat) : Int)) (List.cons_ne_nil _ _) rfl rfl rfl hm h55 ?_
    refine ⟨fun c1 => absurd (show ((t + 1 : Nat) : Int) ≤ 0 from c1) (by omega), fun _ => ?_⟩
    refine hn_gr (fk := 52) (List.cons_ne_nil _ _) rfl rfl rfl hm h52 ?_
    refine hn_gi (fk := 55) (v := ((t + 1 : Nat) : Int)) (List.cons_ne_nil _ _) rfl rfl rfl hm h55 ?_
    refine Or.inl ⟨⟨by show (-2147483648 : Int) ≤ ((t + 1 : Nat) : Int) - 1; omega, by show ((t + 1 : Nat) : Int) - 1 < (2147483648 : Int); omega⟩, ?_⟩
    refine ⟨68100, 45, hsk, rfl, by show (0 : Int) ≤ ((t + 1 : Nat) : Int) - 1; omega, by show ((t + 1 : Nat) : Int) - 1 < ((45 : Nat) : Int); omega, ?_⟩
    have ti : (((t + 1 : Nat) : Int) - 1).toNat = t := by omega
    refine ⟨fun c1 => And.intro rfl (hQ M (t + 1) c hJ0 (Nat.le_refl _) rfl ab_frm.rf rfl), fun c1 => ?_⟩
    have c1 : M.1 sk t = 10 := by
      have c1 : ¬ M.1 sk (((t + 1 : Nat) : Int) - 1).toNat ≠ 10 := c1
      rw [ti] at c1
      omega
    refine hn_gi (fk := 55) (v := ((t + 1 : Nat) : Int)) (List.cons_ne_nil _ _) rfl rfl rfl hm h55 ?_
    refine Or.inl ⟨⟨by show (-2147483648 : Int) ≤ ((t + 1 : Nat) : Int) - 1; omega, by show ((t + 1 : Nat) : Int) - 1 < (2147483648 : Int); omega⟩, ?_⟩
    refine hn_pi (fk := 55) (List.cons_ne_nil _ _) rfl rfl rfl hm (fun q => by cases q) ?_
    refine hn_gi (fk := 56) (v := M.1 m 56) (List.cons_ne_nil _ _) rfl rfl rfl hm (hn_n (Or.inr (by decide))) ?_
    refine Or.inr (fun z hz _ => ?_)
    refine hn_pi (fk := 56) (List.cons_ne_nil _ _) rfl rfl rfl hm (fun q => by cases q) ?_
    have ii : ∀ v : Int, mj_in v → ∀ k, 53 ≤ k ∧ k ≤ 56 → (ab_rg (G m).1 k).1 ≤ v ∧ v ≤ (ab_rg (G m).1 k).2 := fun v hv k hk => by rw [hm]; exact hn_ci hv.1 hv.2 hk
    have cv : ∀ k, 55 ≤ k ∧ k ≤ 56 → ab_cov hn_W (G m).1 k := fun k hk => ⟨(1012, 55, 56), by decide, by rw [hm], hk.1, hk.2⟩
    have i2 : ab_Inv G (mj_p0 (mj_p0 M m 55 (((t + 1 : Nat) : Int) - 1)) m 56 z) := (hI.p0 (ii _ ⟨by omega, by omega⟩ _ (by decide))).p0 (ii _ hz _ (by decide))
    have f2 : ab_frm hn_W G M (mj_p0 (mj_p0 M m 55 (((t + 1 : Nat) : Int) - 1)) m 56 z) := hn_f0 (hn_f0 ab_frm.rf (cv _ (by decide))) (cv _ (by decide))
    refine ⟨List.cons_ne_nil _ _, 1012, 0, hm, rfl, by decide, Nat.zero_le _, Nat.zero_le _, ?_⟩
    refine r_code (rd := rd) (sk := sk) (c := c) ⟨hm, h8, hrd, h52, hsk⟩ i2 ((hn_n (Or.inr (by decide))).trans ((hn_n (Or.inr (by decide))).trans h53)) (by omega) ⟨by decide, by decide⟩ ⟨by decide, by decide⟩ ⟨by decide, by decide⟩ (fun M3 i3 f3 k53 k55 _ kx kb => ?_)
    have q55 : M3.1 m 55 = (t : Int) := k55.trans ((hn_n (Or.inr (by decide))).trans (hn_s.trans (by show ((t + 1 : Nat) : Int) - 1 = _; omega)))
    have qr : ∀ k, (mj_p0 (mj_p0 M m 55 (((t + 1 : Nat) : Int) - 1)) m 56 z).1 rd k = M.1 rd k := fun k => (hn_n (Or.inl nr.symm)).trans (hn_n (Or.inl nr.symm))
    have fk := f2.tr f3
    have qk : ∀ k, M3.1 sk k = M.1 sk k := fun k => (fk sk k (by rw [hsk]; exact hn_nt (by decide))).1
    have J3 : hn_J G M3 m rd sk t (c + 1) h := ⟨hn_R.fr hJ0.1 fk (hn_nc (by decide)) (hn_nc (by decide)), i3, q55, k53, h, hk.cg (fun j hj => by
      show M.1 rd (3 * j) = M3.1 rd (3 * j)
      rw [kb _ (by omega), qr]), Or.inl ⟨kx, h1, rfl⟩⟩
    refine (show mj_W sx_ms (mj_R mj_tab (d + 1)) mt_X12_nots.2.2.2.2.1 Q mt_X12_nots.2.2.2.2.1 [some (.inr (.inr (some m)))] [] G M3 _ _ from ih M3 (c + 1) _ _ J3 (by omega) (fun M' t' c' g1 g2 g3 g4 g5 => hQ M' t' c' g1 (by omega) (by omega) (fk.tr g4) ?_))
    have b1 : ∀ u, hn_b (fun i => M3.1 sk i) u = hn_b (fun i => M.1 sk i) u := fun u => hn_b.cg (fun j _ => qk j)
    rw [b1, b1] at g5
    rw [g5]
    show _ = hn_b (fun i => M.1 sk i) t + (if M.1 sk t = 11 ∨ M.1 sk t = 12 then 1 else 0)
    rw [c1]
    rfl
set_option maxRecDepth 100000 in
theorem r_nots {d m rd sk h t c : Nat} {G : mj_G} {M : mj_M} {Q : mj_P} (h1 : 1 ≤ h) (hJ : hn_J G M m rd sk t c h) (hb : c + t ≤ 45)
    (hQ : ∀ M' t' c', hn_J G M' m rd sk t' c' h → t' ≤ t → c' + t' = c + t → ab_frm hn_W G M M' → hn_b (fun i => M.1 sk i) t' = hn_b (fun i => M.1 sk i) t → Q none G M') : mj_R mj_tab (d + 2) 217 [.inr (.inr (some m))] G M Q :=
  ⟨Nat.le_of_ble_eq_true rfl, r_nots_w h1 t M c _ _ hJ hb hQ⟩
abbrev hn_f (M : mj_M) (a : Nat) : Nat → Int := fun i => M.1 a i
set_option maxRecDepth 100000 in
theorem r_joins_w {d m rd sk : Nat} {G : mj_G} {Q : mj_P} {till : Int} : ∀ (t : Nat) (M : mj_M) (c cb sb : Nat), hn_J G M m rd sk t c (hn_b (hn_f M sk) t + 1) → c + t ≤ 45 →
    (∀ M' t' c', hn_J G M' m rd sk t' c' (hn_b (hn_f M sk) t' + 1) → t' ≤ t → c' + t' = c + t → ab_frm hn_W G M M' → (till = 12 → ∀ u, t' = u + 1 → M.1 sk u ≠ 11 ∧ M.1 sk u ≠ 12) → Q none G M') →
    mj_W sx_ms (mj_R mj_tab (d + 1)) mt_X12_joins.2.2.2.2.1 Q mt_X12_joins.2.2.2.2.1 [some (.inr (.inr (some m))), some (.inl till)] [] G M cb sb := by
  intro t
  induction t with
  | zero =>
    intro M c cb sb hJ hb hQ
    have hJ0 := hJ
    obtain ⟨⟨hm, h8, hrd, h52, hsk⟩, hI, h55, h53, hk⟩ := hJ
    refine mj_W.run (mj_R_mo _ _) 30 ?_
    refine hn_gi (fk := 55) (v := ((0 : Nat) : Int)) (List.cons_ne_nil _ _) rfl rfl rfl hm h55 ?_
    refine ⟨fun c1 => And.intro rfl (hQ M 0 c hJ0 (Nat.le_refl 0) rfl ab_frm.rf (fun _ u hu => by omega)), fun c1 => absurd (show ((0 : Nat) : Int) ≤ 0 from Int.le_refl 0) c1⟩
  | succ t ih =>
    intro M c cb sb hJ hb hQ
    have hJ0 := hJ
    obtain ⟨⟨hm, h8, hrd, h52, hsk⟩, hI, h55, h53, hk⟩ := hJ
    have nr : m ≠ rd := hn_ne hm hrd (by decide)
    have nk : sk ≠ m := hn_ne hsk hm (by decide)
    have ti : (((t + 1 : Nat) : Int) - 1).toNat = t := by omega
    have pop : (M.1 sk t = 11 ∨ M.1 sk t = 12) → mj_W sx_ms (mj_R mj_tab (d + 1)) mt_X12_joins.2.2.2.2.1 Q (mt_X12_joins.2.2.2.2.1.drop 24) [some (.inr (.inr (some m))), some (.inl till)] [] G M cb sb := by
      intro hv
      refine mj_W.run (mj_R_mo _ _) 16 ?_
      refine hn_gi (fk := 55) (v := ((t + 1 : Nat) : Int)) (List.cons_ne_nil _ _) rfl rfl rfl hm h55 ?_
      refine Or.inl ⟨⟨by show (-2147483648 : Int) ≤ ((t + 1 : Nat) : Int) - 1; omega, by show ((t + 1 : Nat) : Int) - 1 < (2147483648 : Int); omega⟩, ?_⟩
      refine hn_pi (fk := 55) (List.cons_ne_nil _ _) rfl rfl rfl hm (fun q => by cases q) ?_
      refine hn_gr (fk := 52) (List.cons_ne_nil _ _) rfl rfl rfl hm h52 ?_
      refine hn_gi (fk := 55) (v := ((t + 1 : Nat) : Int) - 1) (List.cons_ne_nil _ _) rfl rfl rfl hm hn_s ?_
      refine ⟨68100, 45, hsk, rfl, by show (0 : Int) ≤ ((t + 1 : Nat) : Int) - 1; omega, by show ((t + 1 : Nat) : Int) - 1 < ((45 : Nat) : Int); omega, ?_⟩
      have i2 : ab_Inv G (mj_p0 M m 55 (((t + 1 : Nat) : Int) - 1)) := hI.p0 (by rw [hm]; exact hn_ci (by omega) (by omega) (by decide))
      have f2 : ab_frm hn_W G M (mj_p0 M m 55 (((t + 1 : Nat) : Int) - 1)) := hn_f0 ab_frm.rf ⟨(1012, 55, 56), by decide, by rw [hm], by decide, by decide⟩
      refine ⟨List.cons_ne_nil _ _, 1012, 0, hm, rfl, by decide, Nat.zero_le _, Nat.zero_le _, ?_⟩
      refine r_code (rd := rd) (sk := sk) (c := c) ⟨hm, h8, hrd, h52, hsk⟩ i2 ((hn_n (Or.inr (by decide))).trans h53) (by omega) (i2.mj _ _) ⟨by decide, by decide⟩ ⟨by decide, by decide⟩ (fun M3 i3 f3 k53 k55 _ kx kb => ?_)
      have q55 : M3.1 m 55 = (t : Int) := k55.trans (hn_s.trans (by show ((t + 1 : Nat) : Int) - 1 = _; omega))
      have kx : M3.1 rd (3 * c) = M.1 sk t := kx.trans ((hn_n (Or.inl nk)).trans (by show M.1 sk (((t + 1 : Nat) : Int) - 1).toNat = _; rw [ti]))
      have fk := f2.tr f3
      have qk : ∀ k, M3.1 sk k = M.1 sk k := fun k => (fk sk k (by rw [hsk]; exact hn_nt (by decide))).1
      have bt : hn_b (hn_f M sk) (t + 1) = hn_b (hn_f M sk) t + 1 := by
        show hn_b (hn_f M sk) t + (if M.1 sk t = 11 ∨ M.1 sk t = 12 then 1 else 0) = _
        rw [if_pos hv]
      have b1 : ∀ u, hn_b (hn_f M3 sk) u = hn_b (hn_f M sk) u := fun u => hn_b.cg (fun j _ => qk j)
      have J3 : hn_J G M3 m rd sk t (c + 1) (hn_b (hn_f M3 sk) t + 1) := ⟨hn_R.fr hJ0.1 fk (hn_nc (by decide)) (hn_nc (by decide)), i3, q55, k53, hn_b (hn_f M sk) (t + 1) + 1, hk.cg (fun j hj => by
        show M.1 rd (3 * j) = M3.1 rd (3 * j)
        rw [kb _ (by omega)]
        exact (hn_n (Or.inl nr.symm)).symm), Or.inr (Or.inl ⟨by show M3.1 rd (3 * c) = 11 ∨ M3.1 rd (3 * c) = 12; rw [kx]; exact hv, by omega, by rw [b1, bt]⟩)⟩
      refine (show mj_W sx_ms (mj_R mj_tab (d + 1)) mt_X12_joins.2.2.2.2.1 Q mt_X12_joins.2.2.2.2.1 [some (.inr (.inr (some m))), some (.inl till)] [] G M3 _ _ from ih M3 (c + 1) _ _ J3 (by omega) (fun M' t' c' g1 g2 g3 g4 g5 => hQ M' t' c' (by rw [b1] at g1; exact g1) (by omega) (by omega) (fk.tr g4) (fun e u hu => ?_)))
      rw [← qk u]
      exact g5 e u hu
    refine mj_W.run (mj_R_mo _ _) 30 ?_
    refine hn_gi (fk := 55) (v := ((t + 1 : Nat) : Int)) (List.cons_ne_nil _ _) rfl rfl rfl hm h55 ?_
    refine ⟨fun c1 => absurd (show ((t + 1 : Nat) : Int) ≤ 0 from c1) (by omega), fun _ => ?_⟩
    refine hn_gr (fk := 52) (List.cons_ne_nil _ _) rfl rfl rfl hm h52 ?_
    refine hn_gi (fk := 55) (v := ((t + 1 : Nat) : Int)) (List.cons_ne_nil _ _) rfl rfl rfl hm h55 ?_
    refine Or.inl ⟨⟨by show (-2147483648 : Int) ≤ ((t + 1 : Nat) : Int) - 1; omega, by show ((t + 1 : Nat) : Int) - 1 < (2147483648 : Int); omega⟩, ?_⟩
    refine ⟨68100, 45, hsk, rfl, by show (0 : Int) ≤ ((t + 1 : Nat) : Int) - 1; omega, by show ((t + 1 : Nat) : Int) - 1 < ((45 : Nat) : Int); omega, ?_⟩
    refine ⟨fun c1 => mj_W.stay (mj_R_mo _ _) _ (pop (Or.inl (by
      have c1 : M.1 sk (((t + 1 : Nat) : Int) - 1).toNat = 11 := c1
      rw [ti] at c1
      exact c1))), fun c1 => ?_⟩
    have c1 : M.1 sk t ≠ 11 := by
      have c1 : ¬ M.1 sk (((t + 1 : Nat) : Int) - 1).toNat = 11 := c1
      rw [ti] at c1
      exact c1
    refine hn_gr (fk := 52) (List.cons_ne_nil _ _) rfl rfl rfl hm h52 ?_
    refine hn_gi (fk := 55) (v := ((t + 1 : Nat) : Int)) (List.cons_ne_nil _ _) rfl rfl rfl hm h55 ?_
    refine Or.inl ⟨⟨by show (-2147483648 : Int) ≤ ((t + 1 : Nat) : Int) - 1; omega, by show ((t + 1 : Nat) : Int) - 1 < (2147483648 : Int); omega⟩, ?_⟩
    refine ⟨68100, 45, hsk, rfl, by show (0 : Int) ≤ ((t + 1 : Nat) : Int) - 1; omega, by show ((t + 1 : Nat) : Int) - 1 < ((45 : Nat) : Int); omega, ?_⟩
    refine ⟨fun c2 => And.intro rfl (hQ M (t + 1) c hJ0 (Nat.le_refl _) rfl ab_frm.rf (fun _ u hu => ?_)), fun c2 => ?_⟩
    · have c2 : M.1 sk (((t + 1 : Nat) : Int) - 1).toNat ≠ 12 := c2
      rw [ti] at c2
      have : u = t := by omega
      subst this
      exact ⟨c1, c2⟩
    have c2 : M.1 sk t = 12 := by
      have c2 : ¬ M.1 sk (((t + 1 : Nat) : Int) - 1).toNat ≠ 12 := c2
      rw [ti] at c2
      omega
    refine ⟨fun c3 => And.intro rfl (hQ M (t + 1) c hJ0 (Nat.le_refl _) rfl ab_frm.rf (fun e => absurd e c3)), fun c3 => ?_⟩
    exact mj_W.stay (mj_R_mo _ _) _ (pop (Or.inr c2))
set_option maxRecDepth 100000 in
theorem r_joins {d m rd sk t c : Nat} {till : Int} {G : mj_G} {M : mj_M} {Q : mj_P} (hJ : hn_J G M m rd sk t c (hn_b (hn_f M sk) t + 1)) (hb : c + t ≤ 45)
    (hQ : ∀ M' t' c', hn_J G M' m rd sk t' c' (hn_b (hn_f M sk) t' + 1) → t' ≤ t → c' + t' = c + t → ab_frm hn_W G M M' → (till = 12 → ∀ u, t' = u + 1 → M.1 sk u ≠ 11 ∧ M.1 sk u ≠ 12) → Q none G M') : mj_R mj_tab (d + 2) 207 [.inr (.inr (some m)), .inl till] G M Q :=
  ⟨Nat.le_of_ble_eq_true rfl, r_joins_w t M c _ _ hJ hb hQ⟩
