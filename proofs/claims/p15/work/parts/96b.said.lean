/-! ===== by hand: said of the reference ===== -/
abbrev hn_WD : List (Nat × Nat × Nat) := [(1012, 0, 0), (69102, 0, 44)]
set_option maxRecDepth 100000 in
theorem r_said_w {d m s : Nat} {k : Int} {G : mj_G} {M : mj_M} {Q : mj_P} (hm : G m = (1012, 0)) (hs : G s = (51100, 537)) (h6 : M.2.2 m 6 = some s) (hF : hn_F M s 356)
    (hQ : ∀ z M', ab_Inv G M' → ab_frm hn_WD G M M' → Q (some (.inl z)) G M') : ∀ (j i : Nat) (n : Int) (M1 : mj_M) (cb sb : Nat), i + j = 8 → ab_Inv G M1 → ab_frm hn_WD G M M1 → mj_W sx_ms (mj_R mj_tab (d + 3)) mt_X12_said.2.2.2.2.1 Q (mt_X12_said.2.2.2.2.1.drop 22) [some (.inr (.inr (some m))), some (.inl k), some (.inl n), some (.inl (i : Int))] [] G M1 cb sb := by
  have ks : ∀ {M1 : mj_M}, ab_frm hn_WD G M M1 → ∀ p, M1.1 s p = M.1 s p := fun f p => (f s p (by rw [hs]; exact hn_nt (by decide))).1
  have k6 : ∀ {M1 : mj_M}, ab_frm hn_WD G M M1 → M1.2.2 m 6 = some s := fun f => (f m 6 (by rw [hm]; exact hn_nc (by decide))).2.trans h6
  have P41 : ∀ (i n : Int) (M1 : mj_M) (cb sb : Nat), ab_Inv G M1 → ab_frm hn_WD G M M1 → mj_W sx_ms (mj_R mj_tab (d + 3)) mt_X12_said.2.2.2.2.1 Q (mt_X12_said.2.2.2.2.1.drop 41) [some (.inr (.inr (some m))), some (.inl k), some (.inl n), some (.inl i)] [] G M1 cb sb := by
    intro i n M1 cb sb I1 F1
    refine mj_W.run (mj_R_mo _ _) 10 ?_
    exact ⟨fun _ => ⟨rfl, (fun e => by cases e), hQ _ M1 I1 F1⟩, fun _ => ⟨rfl, (fun e => by cases e), hQ _ M1 I1 F1⟩⟩
  intro j
  induction j with
  | zero =>
    intro i n M1 cb sb hi I1 F1
    refine mj_W.run (mj_R_mo _ _) 10 ?_
    refine hn_gr (fk := 6) (List.cons_ne_nil _ _) rfl rfl rfl hm (k6 F1) ?_
    refine ⟨51100, 537, hs, rfl, by show (0 : Int) ≤ (0 : Int); omega, by show (0 : Int) < ((537 : Nat) : Int); omega, ?_⟩
    have r := (I1.1 s 0).2
    rw [hs] at r
    have r : M1.1 s 0 ≤ 8 := r
    refine ⟨fun c1 => mj_W.stay (mj_R_mo _ _) _ (P41 _ _ _ _ _ I1 F1), fun c1 => absurd (show M1.1 s 0 ≤ (i : Int) by omega) c1⟩
  | succ j ih =>
    intro i n M1 cb sb hi I1 F1
    have P39 : ∀ (n : Int) (M2 : mj_M) (cb sb : Nat), ab_Inv G M2 → ab_frm hn_WD G M M2 → mj_W sx_ms (mj_R mj_tab (d + 3)) mt_X12_said.2.2.2.2.1 Q (mt_X12_said.2.2.2.2.1.drop 39) [some (.inr (.inr (some m))), some (.inl k), some (.inl n), some (.inl (i : Int))] [] G M2 cb sb := by
      intro n M2 cb sb I2 F2
      refine mj_W.run (mj_R_mo _ _) 2 ?_
      refine Or.inl ⟨⟨by show (-2147483648 : Int) ≤ (i : Int) + 1; omega, by show (i : Int) + 1 < (2147483648 : Int); omega⟩, ?_⟩
      exact ih (i + 1) n M2 cb sb (by omega) I2 F2
    refine mj_W.run (mj_R_mo _ _) 30 ?_
    refine hn_gr (fk := 6) (List.cons_ne_nil _ _) rfl rfl rfl hm (k6 F1) ?_
    refine ⟨51100, 537, hs, rfl, by show (0 : Int) ≤ (0 : Int); omega, by show (0 : Int) < ((537 : Nat) : Int); omega, ?_⟩
    refine ⟨fun c1 => mj_W.stay (mj_R_mo _ _) _ (P41 _ _ _ _ _ I1 F1), fun c1 => ?_⟩
    refine ⟨List.cons_ne_nil _ _, 1012, 0, hm, rfl, Nat.le_of_ble_eq_true rfl, Nat.zero_le _, Nat.zero_le _, ?_⟩
    refine r_isSaid hm hs (k6 F1) I1 (hF.cg (fun p _ => ks F1 p)) ⟨by omega, by omega⟩ (fun z M2 I2 f2 hz => ?_)
    have F2 : ab_frm hn_WD G M M2 := F1.tr (hn_up f2 (by decide))
    refine ⟨fun _ => ⟨fun _ => ?_, fun _ => ⟨rfl, (fun e => by cases e), hQ _ M2 I2 F2⟩⟩, fun _ => mj_W.stay (mj_R_mo _ _) 19 (P39 _ M2 _ _ I2 F2)⟩
    exact Or.inr (fun q _ _ => mj_W.stay (mj_R_mo _ _) _ (P39 q M2 _ _ I2 F2))
set_option maxRecDepth 100000 in
theorem r_said {d m s : Nat} {k : Int} {G : mj_G} {M : mj_M} {Q : mj_P} (hm : G m = (1012, 0)) (hs : G s = (51100, 537)) (h6 : M.2.2 m 6 = some s) (hI : ab_Inv G M) (hF : hn_F M s 356)
    (hQ : ∀ z M', ab_Inv G M' → ab_frm hn_WD G M M' → Q (some (.inl z)) G M') : mj_R mj_tab (d + 4) 238 [.inr (.inr (some m)), .inl k] G M Q := by
  have n1 : m ≠ s := hn_ne hm hs (by decide)
  have i1 : ab_Inv G (mj_p0 M m 0 0) := hI.p0 (by rw [hm]; exact ⟨by decide, by decide⟩)
  have F1 : ab_frm hn_WD G M (mj_p0 M m 0 0) := hn_f0 ab_frm.rf ⟨(1012, 0, 0), by decide, by rw [hm], by decide, by decide⟩
  have P16 : ∀ cb sb : Nat, mj_W sx_ms (mj_R mj_tab (d + 3)) mt_X12_said.2.2.2.2.1 Q (mt_X12_said.2.2.2.2.1.drop 16) [some (.inr (.inr (some m))), some (.inl k), none, none] [] G (mj_p0 M m 0 0) cb sb := by
    intro cb sb
    refine mj_W.run (mj_R_mo _ _) 3 ?_
    exact ⟨rfl, (fun e => by cases e), hQ _ _ i1 F1⟩
  have P18 : ∀ cb sb : Nat, mj_W sx_ms (mj_R mj_tab (d + 3)) mt_X12_said.2.2.2.2.1 Q (mt_X12_said.2.2.2.2.1.drop 18) [some (.inr (.inr (some m))), some (.inl k), none, none] [] G (mj_p0 M m 0 0) cb sb := by
    intro cb sb
    refine mj_W.run (mj_R_mo _ _) 4 ?_
    exact r_said_w (d := d) hm hs h6 hF hQ 8 0 0 _ cb sb rfl i1 F1
  refine ⟨Nat.le_of_ble_eq_true rfl, mj_W.run (mj_R_mo _ _) 20 ?_⟩
  refine hn_pi (fk := 0) (List.cons_ne_nil _ _) rfl rfl rfl hm (fun q => by cases q) ?_
  refine hn_gr (fk := 6) (List.cons_ne_nil _ _) rfl rfl rfl hm h6 ?_
  refine ⟨51100, 537, hs, rfl, by show (0 : Int) ≤ (356 : Int); omega, by show (356 : Int) < ((537 : Nat) : Int); omega, ?_⟩
  refine ⟨fun _ => mj_W.stay (mj_R_mo _ _) _ (P16 _ _), fun _ => ?_⟩
  refine hn_gr (fk := 6) (List.cons_ne_nil _ _) rfl rfl rfl hm h6 ?_
  refine ⟨51100, 537, hs, rfl, by show (0 : Int) ≤ (221 : Int); omega, by show (221 : Int) < ((537 : Nat) : Int); omega, ?_⟩
  exact ⟨fun _ => mj_W.stay (mj_R_mo _ _) _ (P16 _ _), fun _ => ⟨fun _ => mj_W.stay (mj_R_mo _ _) _ (P18 _ _), fun _ => mj_W.stay (mj_R_mo _ _) _ (P16 _ _)⟩⟩
