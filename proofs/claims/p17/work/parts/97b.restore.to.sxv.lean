section
/-! ===== by hand: restore of the reference ===== -/
theorem hn_rs0 (p : Nat) : ab_rg 51100 p = ab_s p := by
  show ab_s p = ab_s p
  rfl
set_option maxRecDepth 100000 in
theorem r_restore_1 {d m s kp k : Nat} {G : mj_G} {M0 : mj_M} {Q : mj_P} (hm : G m = (1012, 0)) (hs : G s = (51100, 537)) (hkp : G kp = (70100, 1076)) (h6 : M0.2.2 m 6 = some s) (h59 : M0.2.2 m 59 = some kp) (hk : k ≤ 1) (hI : ab_Inv G M0)
    (hK : ∀ M2 cb sb, hn_C G M0 M2 s kp 0 (538 * k) 537 → mj_W sx_ms (mj_R mj_tab (d + 1)) mt_X12_restore.2.2.2.2.1 Q (mt_X12_restore.2.2.2.2.1.drop 34) [some (.inr (.inr (some m))), some (.inl (k : Int)), some (.inl ((537 : Nat) : Int))] [] G M2 cb sb) : ∀ (j i : Nat) (M1 : mj_M) (cb sb : Nat), i + j = 537 → hn_C G M0 M1 s kp 0 (538 * k) i → mj_W sx_ms (mj_R mj_tab (d + 1)) mt_X12_restore.2.2.2.2.1 Q (mt_X12_restore.2.2.2.2.1.drop 17) [some (.inr (.inr (some m))), some (.inl (k : Int)), some (.inl (i : Int))] [] G M1 cb sb := by
  have n1 : kp ≠ s := hn_ne hkp hs (by decide)
  intro j
  induction j with
  | zero =>
    intro i M1 cb sb hi C1
    have hi : i = 537 := by omega
    subst hi
    refine mj_W.run (mj_R_mo _ _) 10 ?_
    exact ⟨fun _ => mj_W.stay (mj_R_mo _ _) _ (hK M1 _ _ C1), fun c1 => absurd (show (537 : Int) ≤ ((537 : Nat) : Int) by decide) c1⟩
  | succ j ih =>
    intro i M1 cb sb hi C1
    have r6 : M1.2.2 m 6 = some s := by rw [C1.2.1]; exact h6
    have r59 : M1.2.2 m 59 = some kp := by rw [C1.2.1]; exact h59
    have fin : ∀ (p : Nat) (v z : Int), p = 0 + i → v = M0.1 kp (538 * k + i) → z = ((i + 1 : Nat) : Int) → ∀ cb sb : Nat, mj_W sx_ms (mj_R mj_tab (d + 1)) mt_X12_restore.2.2.2.2.1 Q (mt_X12_restore.2.2.2.2.1.drop 17) [some (.inr (.inr (some m))), some (.inl (k : Int)), some (.inl z)] [] G (mj_p0 M1 s p v) cb sb := by
      intro p v z e1 e2 e3 cb sb
      subst e1 e2 e3
      refine ih (i + 1) _ cb sb (by omega) (C1.st ?_)
      have r := hI.1 kp (538 * k + i)
      rw [hkp] at r
      have r : (ab_rg 70100 (538 * k + i)).1 ≤ _ ∧ _ ≤ (ab_rg 70100 (538 * k + i)).2 := r
      rw [hn_rk hk (by omega)] at r
      rw [hs]
      show (ab_rg 51100 (0 + i)).1 ≤ _ ∧ _ ≤ (ab_rg 51100 (0 + i)).2
      rw [hn_rs0, Nat.zero_add]
      exact r
    refine mj_W.run (mj_R_mo _ _) 17 ?_
    refine ⟨fun c1 => absurd (show (537 : Int) ≤ (i : Int) from c1) (by omega), fun c1 => ?_⟩
    refine hn_gr (fk := 6) (List.cons_ne_nil _ _) rfl rfl rfl hm r6 ?_
    refine hn_gr (fk := 59) (List.cons_ne_nil _ _) rfl rfl rfl hm r59 ?_
    refine Or.inl ⟨⟨by show (-2147483648 : Int) ≤ (538 : Int) * (k : Int); omega, by show (538 : Int) * (k : Int) < (2147483648 : Int); omega⟩, ?_⟩
    refine Or.inl ⟨⟨by show (-2147483648 : Int) ≤ (538 : Int) * (k : Int) + (i : Int); omega, by show (538 : Int) * (k : Int) + (i : Int) < (2147483648 : Int); omega⟩, ?_⟩
    refine ⟨70100, 1076, hkp, rfl, by show (0 : Int) ≤ (538 : Int) * (k : Int) + (i : Int); omega, by show (538 : Int) * (k : Int) + (i : Int) < ((1076 : Nat) : Int); omega, ?_⟩
    refine ⟨51100, 537, hs, rfl, by decide, by show (0 : Int) ≤ (i : Int); omega, by show (i : Int) < ((537 : Nat) : Int); omega, ?_⟩
    refine Or.inl ⟨⟨by show (-2147483648 : Int) ≤ (i : Int) + 1; omega, by show (i : Int) + 1 < (2147483648 : Int); omega⟩, ?_⟩
    exact fin _ _ _ (show ((i : Int)).toNat = _ by omega) (show M1.1 kp ((538 : Int) * (k : Int) + (i : Int)).toNat = _ by rw [C1.2.2.1 _ _ n1, show ((538 : Int) * (k : Int) + (i : Int)).toNat = 538 * k + i by omega]) (show (i : Int) + 1 = _ by omega) _ _
set_option maxRecDepth 100000 in
theorem r_restore_2 {d m nm nk k : Nat} {G : mj_G} {M0 : mj_M} {Q : mj_P} (hm : G m = (1012, 0)) (hnm : G nm = (54103, 16)) (hnk : G nk = (71103, 16)) (h9 : M0.2.2 m 9 = some nm) (h60 : M0.2.2 m 60 = some nk) (hk : k ≤ 1)
    (hK : ∀ M2 cb sb, M2.1 = M0.1 → M2.2.2 = M0.2.2 → (∀ a k, (G a).1 = 55103 → M2.2.1 a k = M0.2.1 a k) → mj_W sx_ms (mj_R mj_tab (d + 1)) mt_X12_restore.2.2.2.2.1 Q (mt_X12_restore.2.2.2.2.1.drop 63) [some (.inr (.inr (some m))), some (.inl (k : Int)), some (.inl ((8 : Nat) : Int))] [] G M2 cb sb) : ∀ (j i : Nat) (M1 : mj_M) (cb sb : Nat), i + j = 8 → M1.1 = M0.1 → M1.2.2 = M0.2.2 → (∀ a k, (G a).1 = 55103 → M1.2.1 a k = M0.2.1 a k) → mj_W sx_ms (mj_R mj_tab (d + 1)) mt_X12_restore.2.2.2.2.1 Q (mt_X12_restore.2.2.2.2.1.drop 46) [some (.inr (.inr (some m))), some (.inl (k : Int)), some (.inl (i : Int))] [] G M1 cb sb := by
  intro j
  induction j with
  | zero =>
    intro i M1 cb sb hi e1 e2 e5
    have hi : i = 8 := by omega
    subst hi
    refine mj_W.run (mj_R_mo _ _) 10 ?_
    exact ⟨fun _ => mj_W.stay (mj_R_mo _ _) _ (hK M1 _ _ e1 e2 e5), fun c1 => absurd (show (8 : Int) ≤ ((8 : Nat) : Int) by decide) c1⟩
  | succ j ih =>
    intro i M1 cb sb hi e1 e2 e5
    have r9 : M1.2.2 m 9 = some nm := by rw [e2]; exact h9
    have r60 : M1.2.2 m 60 = some nk := by rw [e2]; exact h60
    have fin : ∀ (p : Nat) (v : Int64) (z : Int), z = ((i + 1 : Nat) : Int) → ∀ cb sb : Nat, mj_W sx_ms (mj_R mj_tab (d + 1)) mt_X12_restore.2.2.2.2.1 Q (mt_X12_restore.2.2.2.2.1.drop 46) [some (.inr (.inr (some m))), some (.inl (k : Int)), some (.inl z)] [] G (mj_p1 M1 nm p v) cb sb := by
      intro p v z e3 cb sb
      subst e3
      exact ih (i + 1) _ cb sb (by omega) e1 e2 (fun a k h => (if_neg (fun e => by rw [e.1, hnm] at h; exact absurd h (by decide))).trans (e5 a k h))
    refine mj_W.run (mj_R_mo _ _) 17 ?_
    refine ⟨fun c1 => absurd (show (8 : Int) ≤ (i : Int) from c1) (by omega), fun c1 => ?_⟩
    refine hn_gr (fk := 9) (List.cons_ne_nil _ _) rfl rfl rfl hm r9 ?_
    refine hn_gr (fk := 60) (List.cons_ne_nil _ _) rfl rfl rfl hm r60 ?_
    refine Or.inl ⟨⟨by show (-2147483648 : Int) ≤ (8 : Int) * (k : Int); omega, by show (8 : Int) * (k : Int) < (2147483648 : Int); omega⟩, ?_⟩
    refine Or.inl ⟨⟨by show (-2147483648 : Int) ≤ (8 : Int) * (k : Int) + (i : Int); omega, by show (8 : Int) * (k : Int) + (i : Int) < (2147483648 : Int); omega⟩, ?_⟩
    refine ⟨71103, 16, hnk, rfl, by show (0 : Int) ≤ (8 : Int) * (k : Int) + (i : Int); omega, by show (8 : Int) * (k : Int) + (i : Int) < ((16 : Nat) : Int); omega, ?_⟩
    refine ⟨54103, 16, hnm, rfl, by decide, by show (0 : Int) ≤ (i : Int); omega, by show (i : Int) < ((16 : Nat) : Int); omega, ?_⟩
    refine Or.inl ⟨⟨by show (-2147483648 : Int) ≤ (i : Int) + 1; omega, by show (i : Int) + 1 < (2147483648 : Int); omega⟩, ?_⟩
    exact fin _ _ _ (show (i : Int) + 1 = _ by omega) _ _
set_option maxRecDepth 100000 in
theorem r_restore {d m s kp ik : Nat} {kz : Int} {G : mj_G} {M : mj_M} {Q : mj_P} (hm : G m = (1012, 0)) (hs : G s = (51100, 537)) (hkp : G kp = (70100, 1076)) (hik : G ik = (72102, 2)) (h6 : M.2.2 m 6 = some s) (h59 : M.2.2 m 59 = some kp) (h61 : M.2.2 m 61 = some ik) (hI : ab_Inv G M)
    (hQ0 : (¬ (0 ≤ kz ∧ kz ≤ 1) ∨ ∃ k : Nat, kz = (k : Int) ∧ k ≤ 1 ∧ M.1 ik k = 0) → Q (some (.inl 0)) G (mj_p0 M m 0 0))
    (hQ1 : ∀ (k : Nat) M', kz = (k : Int) → k ≤ 1 → M.1 ik k ≠ 0 → ab_Inv G M' → M'.2.2 = M.2.2 → ab_frm hn_WR G M M' → (∀ p, p < 537 → M'.1 s p = M.1 kp (538 * k + p)) → Q (some (.inl 1)) G M') : mj_R mj_tab (d + 2) 235 [.inr (.inr (some m)), .inl kz] G M Q := by
  have i0 : ab_Inv G (mj_p0 M m 0 0) := hI.p0 (by rw [hm]; exact ⟨by decide, by decide⟩)
  have a1 : m ≠ s := hn_ne hm hs (by decide)
  have a2 : m ≠ kp := hn_ne hm hkp (by decide)
  have a3 : m ≠ ik := hn_ne hm hik (by decide)
  obtain ⟨nm, h9, hnm⟩ := hn_rf (k := 9) (q := (54103, 16)) hI hm rfl (by decide) (by decide) (by decide) (fun e => absurd e (by decide))
  obtain ⟨nk, h60, hnk⟩ := hn_rf (k := 60) (q := (71103, 16)) hI hm rfl (by decide) (by decide) (by decide) (fun e => absurd e (by decide))
  have P15 : ∀ (k : Nat) (cb sb : Nat), kz = (k : Int) → k ≤ 1 → M.1 ik k ≠ 0 → mj_W sx_ms (mj_R mj_tab (d + 1)) mt_X12_restore.2.2.2.2.1 Q (mt_X12_restore.2.2.2.2.1.drop 15) [some (.inr (.inr (some m))), some (.inl (k : Int)), none] [] G (mj_p0 M m 0 0) cb sb := by
    intro k cb sb ek hk hik0
    refine mj_W.run (mj_R_mo _ _) 2 ?_
    refine r_restore_1 (d := d) (M0 := mj_p0 M m 0 0) hm hs hkp h6 h59 hk i0 (fun M2 cb sb C2 => ?_) 537 0 _ cb sb rfl ⟨i0, rfl, fun _ _ _ => rfl, fun _ _ => rfl, fun p hp => absurd hp (by omega)⟩
    obtain ⟨c1, c2, c3, c4, c5⟩ := C2
    have r59 : M2.2.2 m 59 = some kp := by rw [c2]; exact h59
    have r9 : M2.2.2 m 9 = some nm := by rw [c2]; exact h9
    have r60 : M2.2.2 m 60 = some nk := by rw [c2]; exact h60
    have fin : ∀ (v : Int), mj_in v → ∀ cb sb : Nat, mj_W sx_ms (mj_R mj_tab (d + 1)) mt_X12_restore.2.2.2.2.1 Q (mt_X12_restore.2.2.2.2.1.drop 46) [some (.inr (.inr (some m))), some (.inl (k : Int)), some (.inl 0)] [] G (mj_p0 M2 m 25 v) cb sb := by
      intro v hv cb sb
      have i3 : ab_Inv G (mj_p0 M2 m 25 v) := c1.p0 (by
        rw [hm]
        exact hn_ii hv)
      refine r_restore_2 (d := d) (M0 := mj_p0 M2 m 25 v) hm hnm hnk r9 r60 hk (fun M4 cb sb e1 e2 e5 => ?_) 8 0 _ cb sb rfl rfl rfl (fun _ _ _ => rfl)
      have i4 : ab_Inv G M4 := hn_L i3 e1 e2 e5
      have end1 : Q (some (.inl 1)) G (mj_p0 M4 m 28 0) := by
        have o1 : ∀ x q, x ≠ s → ¬ (x = m ∧ q = 25) → M4.1 x q = (mj_p0 M m 0 0).1 x q := fun x q hx h25 => by rw [e1]; exact (show (mj_p0 M2 m 25 v).1 x q = M2.1 x q from if_neg h25).trans (c3 x q hx)
        refine hQ1 k _ ek hk hik0 (i4.p0 (by rw [hm]; exact ⟨by decide, by decide⟩)) (by show M4.2.2 = M.2.2; rw [e2]; show M2.2.2 = M.2.2; rw [c2]; rfl) ?_ (fun q hq => ?_)
        · intro x q hn
          have x1 : ¬ (x = m ∧ q = 0) := fun e => hn ⟨(1012, 0, 0), by decide, by rw [e.1, hm], by rw [e.2]; decide, by rw [e.2]; decide⟩
          have x2 : ¬ (x = m ∧ q = 25) := fun e => hn ⟨(1012, 25, 25), by decide, by rw [e.1, hm], by rw [e.2]; decide, by rw [e.2]; decide⟩
          have x3 : ¬ (x = m ∧ q = 28) := fun e => hn ⟨(1012, 28, 28), by decide, by rw [e.1, hm], by rw [e.2]; decide, by rw [e.2]; decide⟩
          have x4 : ¬ (x = s ∧ q ≤ 536) := fun e => hn ⟨(51100, 0, 536), by decide, by rw [e.1, hs], Nat.zero_le _, e.2⟩
          refine ⟨?_, by show M4.2.2 x q = _; rw [e2]; show M2.2.2 x q = _; rw [c2]; rfl⟩
          have z1 : (mj_p0 M4 m 28 0).1 x q = M4.1 x q := if_neg x3
          have z0 : (mj_p0 M m 0 0).1 x q = M.1 x q := if_neg x1
          rw [z1]
          by_cases ex : x = s
          · subst ex
            rw [e1]
            have hq : 537 ≤ q := by
              by_cases g : q ≤ 536
              · exact absurd ⟨rfl, g⟩ x4
              · omega
            exact (hn_n (Or.inl a1.symm)).trans ((c4 q (by omega)).trans z0)
          · exact (o1 x q ex x2).trans z0
        · refine (hn_n (Or.inl a1.symm)).trans ?_
          rw [e1]
          have c5 := c5 q hq
          rw [Nat.zero_add] at c5
          exact (hn_n (Or.inl a1.symm)).trans (c5.trans (hn_n (Or.inl a2.symm)))
      refine mj_W.run (mj_R_mo _ _) 10 ?_
      refine hn_pi (fk := 28) (List.cons_ne_nil _ _) rfl rfl rfl hm (fun q => by cases q) ?_
      exact ⟨rfl, fun _ => Or.inr rfl, end1⟩
    refine mj_W.run (mj_R_mo _ _) 12 ?_
    refine hn_gr (fk := 59) (List.cons_ne_nil _ _) rfl rfl rfl hm r59 ?_
    refine Or.inl ⟨⟨by show (-2147483648 : Int) ≤ (538 : Int) * (k : Int); omega, by show (538 : Int) * (k : Int) < (2147483648 : Int); omega⟩, ?_⟩
    refine Or.inl ⟨⟨by show (-2147483648 : Int) ≤ (538 : Int) * (k : Int) + 537; omega, by show (538 : Int) * (k : Int) + 537 < (2147483648 : Int); omega⟩, ?_⟩
    refine ⟨70100, 1076, hkp, rfl, by show (0 : Int) ≤ (538 : Int) * (k : Int) + 537; omega, by show (538 : Int) * (k : Int) + 537 < ((1076 : Nat) : Int); omega, ?_⟩
    refine hn_pi (fk := 25) (List.cons_ne_nil _ _) rfl rfl rfl hm (fun q => by cases q) ?_
    exact fin _ (c1.mj kp _) _ _
  refine ⟨Nat.le_of_ble_eq_true rfl, mj_W.run (mj_R_mo _ _) 20 ?_⟩
  refine hn_pi (fk := 0) (List.cons_ne_nil _ _) rfl rfl rfl hm (fun q => by cases q) ?_
  refine ⟨List.cons_ne_nil _ _, Nat.le_of_ble_eq_true rfl, Nat.zero_le _, Nat.zero_le _, ?_⟩
  refine r_isIn (fun g1 g2 => ?_) (fun g => ?_)
  · refine ⟨fun c1 => absurd (show (1 : Int) = 0 from c1) (by decide), fun _ => ?_⟩
    obtain ⟨k, rfl⟩ : ∃ k : Nat, kz = (k : Int) := ⟨kz.toNat, by omega⟩
    refine hn_gr (fk := 61) (List.cons_ne_nil _ _) rfl rfl rfl hm h61 ?_
    refine Or.inr ⟨72102, 2, hik, rfl, by show (0 : Int) ≤ (k : Int); omega, by show (k : Int) < ((2 : Nat) : Int); omega, ?_⟩
    have e : (mj_p0 M m 0 0).1 ik ((k : Int)).toNat = M.1 ik k := hn_n (Or.inl a3.symm)
    refine ⟨fun c2 => mj_W.stay (mj_R_mo _ _) _ (P15 k _ _ rfl (by omega) (by
      have c2 : (mj_p0 M m 0 0).1 ik ((k : Int)).toNat ≠ 0 := c2
      rw [e] at c2
      exact c2)), fun c2 => ⟨rfl, fun _ => Or.inl rfl, hQ0 (Or.inr ⟨k, rfl, by omega, ?_⟩)⟩⟩
    have c2 : ¬ (mj_p0 M m 0 0).1 ik ((k : Int)).toNat ≠ 0 := c2
    rw [e] at c2
    omega
  · exact ⟨fun _ => ⟨rfl, fun _ => Or.inl rfl, hQ0 (Or.inl g)⟩, fun c1 => absurd (show (0 : Int) = 0 from rfl) c1⟩
end
section
/-! ===== by hand: plain of the reference ===== -/
def hn_z0 (q : Int × Int) : Prop := q.1 ≤ 0 ∧ 0 ≤ q.2
theorem hn_z0c {b : Bool} {x y : Int × Int} (h1 : hn_z0 x) (h2 : hn_z0 y) : hn_z0 (cond b x y) := by cases b <;> assumption
theorem hn_s0 (k : Nat) : hn_z0 (ab_s k) := by
  unfold ab_s
  repeat' first | exact ⟨by decide, by decide⟩ | apply hn_z0c
theorem hn_rh0 (p : Nat) : ab_rg 52100 p = ab_s p := by
  show ab_s p = ab_s p
  rfl
abbrev hn_WP : List (Nat × Nat × Nat) := [(1012, 0, 0), (1012, 2, 5), (1012, 11, 22), (1012, 24, 26), (1012, 28, 28), (51100, 0, 536), (52100, 0, 220), (54103, 0, 15), (56100, 0, 3)]
set_option maxRecDepth 100000 in
theorem r_plain_1 {d m s h : Nat} {G : mj_G} {M : mj_M} {Q : mj_P} (hm : G m = (1012, 0)) (hs : G s = (51100, 537)) (hh : G h = (52100, 221)) (h6 : M.2.2 m 6 = some s) (h7 : M.2.2 m 7 = some h)
    (hK : ∀ M2 cb sb, ab_Inv G M2 → ab_frm hn_WP G M M2 → M2.1 m 2 = 0 → M2.1 s 356 = 0 → mj_W sx_ms (mj_R mj_tab d) mt_X12_plain.2.2.2.2.1 Q (mt_X12_plain.2.2.2.2.1.drop 94) [some (.inr (.inr (some m))), some (.inl ((537 : Nat) : Int))] [] G M2 cb sb) : ∀ (j i : Nat) (M1 : mj_M) (cb sb : Nat), i + j = 537 → ab_Inv G M1 → ab_frm hn_WP G M M1 → M1.1 m 2 = 0 → (356 < i → M1.1 s 356 = 0) → mj_W sx_ms (mj_R mj_tab d) mt_X12_plain.2.2.2.2.1 Q (mt_X12_plain.2.2.2.2.1.drop 76) [some (.inr (.inr (some m))), some (.inl (i : Int))] [] G M1 cb sb := by
  have n1 : m ≠ s := hn_ne hm hs (by decide)
  intro j
  induction j with
  | zero =>
    intro i M1 cb sb hi I1 F1 L1 Z1
    have hi : i = 537 := by omega
    subst hi
    refine mj_W.run (mj_R_mo _ _) 10 ?_
    exact ⟨fun _ => mj_W.stay (mj_R_mo _ _) _ (hK M1 _ _ I1 F1 L1 (Z1 (by decide))), fun c1 => absurd (show (537 : Int) ≤ ((537 : Nat) : Int) by decide) c1⟩
  | succ j ih =>
    intro i M1 cb sb hi I1 F1 L1 Z1
    have r6 : M1.2.2 m 6 = some s := (F1 m 6 (by rw [hm]; exact hn_nc (by decide))).2.trans h6
    have r7 : M1.2.2 m 7 = some h := (F1 m 7 (by rw [hm]; exact hn_nc (by decide))).2.trans h7
    have fin : ∀ (p : Nat) (v z : Int), p = i → z = ((i + 1 : Nat) : Int) → (i = 356 → v = 0) → ((ab_s i).1 ≤ v ∧ v ≤ (ab_s i).2) → ∀ cb sb : Nat, mj_W sx_ms (mj_R mj_tab d) mt_X12_plain.2.2.2.2.1 Q (mt_X12_plain.2.2.2.2.1.drop 76) [some (.inr (.inr (some m))), some (.inl z)] [] G (mj_p0 M1 s p v) cb sb := by
      intro p v z e1 e3 hv hr cb sb
      subst e1 e3
      refine ih (p + 1) _ cb sb (by omega) (I1.p0 (by rw [hs]; show (ab_rg 51100 p).1 ≤ _ ∧ _ ≤ (ab_rg 51100 p).2; rw [hn_rs0]; exact hr)) (hn_f0 F1 ⟨(51100, 0, 536), by decide, by rw [hs], Nat.zero_le _, by show p ≤ 536; omega⟩) ((hn_n (Or.inl n1)).trans L1) (fun hp => ?_)
      by_cases e : p = 356
      · have := hv e
        subst e this
        exact hn_s
      · exact (hn_n (Or.inr (fun q => e q.symm))).trans (Z1 (by omega))
    have P91 : ∀ (v : Int) (cb sb : Nat), (i = 356 → v = 0) → ((ab_s i).1 ≤ v ∧ v ≤ (ab_s i).2) → mj_W sx_ms (mj_R mj_tab d) mt_X12_plain.2.2.2.2.1 Q (mt_X12_plain.2.2.2.2.1.drop 91) [some (.inr (.inr (some m))), some (.inl (i : Int))] [.inl v, .inl (i : Int), .inr (.inr (some s))] G M1 cb sb := by
      intro v cb sb hv hr
      refine mj_W.run (mj_R_mo _ _) 3 ?_
      refine ⟨51100, 537, hs, rfl, by decide, by show (0 : Int) ≤ (i : Int); omega, by show (i : Int) < ((537 : Nat) : Int); omega, ?_⟩
      refine Or.inl ⟨⟨by show (-2147483648 : Int) ≤ (i : Int) + 1; omega, by show (i : Int) + 1 < (2147483648 : Int); omega⟩, ?_⟩
      exact fin _ _ _ (show ((i : Int)).toNat = i by omega) (show (i : Int) + 1 = _ by omega) hv hr _ _
    have P89 : ∀ (v : Int) (cb sb : Nat), (i = 356 → v = 0) → ((ab_s i).1 ≤ v ∧ v ≤ (ab_s i).2) → mj_W sx_ms (mj_R mj_tab d) mt_X12_plain.2.2.2.2.1 Q (mt_X12_plain.2.2.2.2.1.drop 89) [some (.inr (.inr (some m))), some (.inl (i : Int))] [.inl v, .inl (i : Int), .inr (.inr (some s))] G M1 cb sb := fun v cb sb hv hr => mj_W.run (mj_R_mo _ _) 1 (P91 v cb sb hv hr)
    have P90 : ∀ (cb sb : Nat), mj_W sx_ms (mj_R mj_tab d) mt_X12_plain.2.2.2.2.1 Q (mt_X12_plain.2.2.2.2.1.drop 90) [some (.inr (.inr (some m))), some (.inl (i : Int))] [.inl (i : Int), .inr (.inr (some s))] G M1 cb sb := fun cb sb => mj_W.run (mj_R_mo _ _) 1 (P91 0 cb sb (fun _ => rfl) (hn_s0 i))
    refine mj_W.run (mj_R_mo _ _) 30 ?_
    refine ⟨fun c1 => absurd (show (537 : Int) ≤ (i : Int) from c1) (by omega), fun c1 => ?_⟩
    refine hn_gr (fk := 6) (List.cons_ne_nil _ _) rfl rfl rfl hm r6 ?_
    refine ⟨fun c2 => mj_W.stay (mj_R_mo _ _) _ (P90 _ _), fun c2 => ?_⟩
    have c2 : ¬ (221 : Int) ≤ (i : Int) := c2
    refine hn_gr (fk := 7) (List.cons_ne_nil _ _) rfl rfl rfl hm r7 ?_
    refine ⟨52100, 221, hh, rfl, by show (0 : Int) ≤ (i : Int); omega, by show (i : Int) < ((221 : Nat) : Int); omega, ?_⟩
    refine mj_W.stay (mj_R_mo _ _) _ (P89 _ _ _ (fun e => absurd e (by omega)) ?_)
    have r := I1.1 h i
    rw [hh] at r
    have r : (ab_rg 52100 i).1 ≤ _ ∧ _ ≤ (ab_rg 52100 i).2 := r
    rw [hn_rh0] at r
    exact r
set_option maxRecDepth 100000 in
theorem r_plain_2 {d m nm : Nat} {G : mj_G} {M0 : mj_M} {Q : mj_P} (hm : G m = (1012, 0)) (hnm : G nm = (54103, 16)) (h9 : M0.2.2 m 9 = some nm)
    (hK : ∀ M2 cb sb, M2.1 = M0.1 → M2.2.2 = M0.2.2 → (∀ a k, (G a).1 = 55103 → M2.2.1 a k = M0.2.1 a k) → mj_W sx_ms (mj_R mj_tab d) mt_X12_plain.2.2.2.2.1 Q (mt_X12_plain.2.2.2.2.1.drop 111) [some (.inr (.inr (some m))), some (.inl ((8 : Nat) : Int))] [] G M2 cb sb) : ∀ (j i : Nat) (M1 : mj_M) (cb sb : Nat), i + j = 8 → M1.1 = M0.1 → M1.2.2 = M0.2.2 → (∀ a k, (G a).1 = 55103 → M1.2.1 a k = M0.2.1 a k) → mj_W sx_ms (mj_R mj_tab d) mt_X12_plain.2.2.2.2.1 Q (mt_X12_plain.2.2.2.2.1.drop 96) [some (.inr (.inr (some m))), some (.inl (i : Int))] [] G M1 cb sb := by
  intro j
  induction j with
  | zero =>
    intro i M1 cb sb hi e1 e2 e5
    have hi : i = 8 := by omega
    subst hi
    refine mj_W.run (mj_R_mo _ _) 10 ?_
    exact ⟨fun _ => mj_W.stay (mj_R_mo _ _) _ (hK M1 _ _ e1 e2 e5), fun c1 => absurd (show (8 : Int) ≤ ((8 : Nat) : Int) by decide) c1⟩
  | succ j ih =>
    intro i M1 cb sb hi e1 e2 e5
    have r9 : M1.2.2 m 9 = some nm := by rw [e2]; exact h9
    have fin : ∀ (p : Nat) (v : Int64) (z : Int), z = ((i + 1 : Nat) : Int) → ∀ cb sb : Nat, mj_W sx_ms (mj_R mj_tab d) mt_X12_plain.2.2.2.2.1 Q (mt_X12_plain.2.2.2.2.1.drop 96) [some (.inr (.inr (some m))), some (.inl z)] [] G (mj_p1 M1 nm p v) cb sb := by
      intro p v z e3 cb sb
      subst e3
      exact ih (i + 1) _ cb sb (by omega) e1 e2 (fun a k h => (if_neg (fun e => by rw [e.1, hnm] at h; exact absurd h (by decide))).trans (e5 a k h))
    refine mj_W.run (mj_R_mo _ _) 15 ?_
    refine ⟨fun c1 => absurd (show (8 : Int) ≤ (i : Int) from c1) (by omega), fun c1 => ?_⟩
    refine hn_gr (fk := 9) (List.cons_ne_nil _ _) rfl rfl rfl hm r9 ?_
    refine hn_gr (fk := 9) (List.cons_ne_nil _ _) rfl rfl rfl hm r9 ?_
    refine Or.inl ⟨⟨by show (-2147483648 : Int) ≤ (8 : Int) + (i : Int); omega, by show (8 : Int) + (i : Int) < (2147483648 : Int); omega⟩, ?_⟩
    refine ⟨54103, 16, hnm, rfl, by show (0 : Int) ≤ (8 : Int) + (i : Int); omega, by show (8 : Int) + (i : Int) < ((16 : Nat) : Int); omega, ?_⟩
    refine ⟨54103, 16, hnm, rfl, by decide, by show (0 : Int) ≤ (i : Int); omega, by show (i : Int) < ((16 : Nat) : Int); omega, ?_⟩
    refine Or.inl ⟨⟨by show (-2147483648 : Int) ≤ (i : Int) + 1; omega, by show (i : Int) + 1 < (2147483648 : Int); omega⟩, ?_⟩
    exact fin _ _ _ (show (i : Int) + 1 = _ by omega) _ _
set_option maxRecDepth 100000 in
theorem r_plain_t {d m s : Nat} {G : mj_G} {M : mj_M} {Q : mj_P} (hm : G m = (1012, 0)) (hs : G s = (51100, 537)) (h6 : M.2.2 m 6 = some s) (hI0 : ab_Inv G M)
    (hQ : ∀ z M', ab_Inv G M' → ab_frm hn_WP G M M' → M'.1 m 2 = 0 → hn_F M' s 356 → Q (some (.inl z)) G M') (M1 : mj_M) (x : Int) (cb sb : Nat) (I1 : ab_Inv G M1) (F1 : ab_frm hn_WP G M M1) (L1 : M1.1 m 2 = 0) : mj_W sx_ms (mj_R mj_tab d) mt_X12_plain.2.2.2.2.1 Q (mt_X12_plain.2.2.2.2.1.drop 74) [some (.inr (.inr (some m))), some (.inl x)] [] G M1 cb sb := by
  obtain ⟨h, h7, hh⟩ := hn_rf (k := 7) (q := (52100, 221)) hI0 hm rfl (by decide) (by decide) (by decide) (fun e => absurd e (by decide))
  obtain ⟨nm, h9, hnm⟩ := hn_rf (k := 9) (q := (54103, 16)) hI0 hm rfl (by decide) (by decide) (by decide) (fun e => absurd e (by decide))
  have n1 : s ≠ m := hn_ne hs hm (by decide)
  refine mj_W.run (mj_R_mo _ _) 2 ?_
  refine r_plain_1 (d := d) hm hs hh h6 h7 (fun M2 cb sb I2 F2 L2 Z2 => ?_) 537 0 M1 cb sb rfl I1 F1 L1 (fun e => absurd e (by decide))
  have r9 : M2.2.2 m 9 = some nm := (F2 m 9 (by rw [hm]; exact hn_nc (by decide))).2.trans h9
  refine mj_W.run (mj_R_mo _ _) 2 ?_
  refine r_plain_2 (d := d) (M0 := M2) hm hnm r9 (fun M3 cb sb e1 e2 e5 => ?_) 8 0 M2 cb sb rfl rfl rfl (fun _ _ _ => rfl)
  have i3 : ab_Inv G M3 := hn_L I2 e1 e2 e5
  have F3 : ab_frm hn_WP G M M3 := fun a k hn => by rw [e1, e2]; exact F2 a k hn
  have fin : ∀ z v y : Int, mj_in z → mj_in v → Q (some (.inl y)) G (mj_p0 (mj_p0 (mj_p0 M3 m 28 0) m 26 z) m 25 v) := by
    intro z v y hz hv
    have i4 : ab_Inv G (mj_p0 M3 m 28 0) := i3.p0 (by rw [hm]; exact ⟨by decide, by decide⟩)
    have i5 : ab_Inv G (mj_p0 (mj_p0 M3 m 28 0) m 26 z) := i4.p0 (by rw [hm]; exact hn_ii hz)
    have i6 : ab_Inv G (mj_p0 (mj_p0 (mj_p0 M3 m 28 0) m 26 z) m 25 v) := i5.p0 (by rw [hm]; exact hn_ii hv)
    refine hQ y _ i6 (hn_f0 (hn_f0 (hn_f0 F3 ⟨(1012, 28, 28), by decide, by rw [hm], by decide, by decide⟩) ⟨(1012, 24, 26), by decide, by rw [hm], by decide, by decide⟩) ⟨(1012, 24, 26), by decide, by rw [hm], by decide, by decide⟩) ?_ ⟨0, 0, ?_, rfl⟩
    · exact (hn_n (Or.inr (by decide))).trans ((hn_n (Or.inr (by decide))).trans ((hn_n (Or.inr (by decide))).trans (by rw [e1]; exact L2)))
    · exact (hn_n (Or.inl n1)).trans ((hn_n (Or.inl n1)).trans ((hn_n (Or.inl n1)).trans (by rw [e1]; exact Z2)))
  refine mj_W.run (mj_R_mo _ _) 20 ?_
  refine hn_pi (fk := 28) (List.cons_ne_nil _ _) rfl rfl rfl hm (fun q => by cases q) ?_
  refine hn_gi (fk := 26) (List.cons_ne_nil _ _) rfl rfl rfl hm rfl ?_
  refine Or.inr (fun z hz _ => ?_)
  refine hn_pi (fk := 26) (List.cons_ne_nil _ _) rfl rfl rfl hm (fun q => by cases q) ?_
  refine hn_gi (fk := 26) (v := z) (List.cons_ne_nil _ _) rfl rfl rfl hm hn_s ?_
  refine hn_pi (fk := 25) (List.cons_ne_nil _ _) rfl rfl rfl hm (fun q => by cases q) ?_
  refine hn_gi (fk := 19) (List.cons_ne_nil _ _) rfl rfl rfl hm rfl ?_
  exact ⟨rfl, (fun e => by cases e), fin _ _ _ hz hz⟩
theorem hn_pl3 : (ab_c cx_X12_plain_a).all (fun b => Nat.beq b.2.2.length 3) = true := by decide +kernel
set_option maxRecDepth 100000 in
theorem r_plain {d m s : Nat} {G : mj_G} {M : mj_M} {Q : mj_P} (hm : G m = (1012, 0)) (hs : G s = (51100, 537)) (h6 : M.2.2 m 6 = some s) (hI : ab_Inv G M) (hF : hn_F M s 356)
    (hQ : ∀ z M', ab_Inv G M' → ab_frm hn_WP G M M' → M'.1 m 2 = 0 → hn_F M' s 356 → Q (some (.inl z)) G M') : mj_R mj_tab (d + 6) 226 [.inr (.inr (some m))] G M Q := by
  refine ab_seg (c := cx_X12_plain_a) (id := 223) (fun i => Nat.beq i 74) (by decide +kernel) xe_X12_plain_a (fun b hb => List.all_eq_true.mp xl_X12_plain_a b hb) (fun b hb b' hb' => ?_) (ab_all_ok 223 (Nat.le_refl _)) (dd := d + 5) (Nat.le_add_left _ _) (w0 := (1, hn_g [M.1 m 2], 1, fun _ => some m)) (hn_Y1 (by have := hI.1 m 2; rw [hm] at this; exact this)) (hn_RR hm) (fun e he => ?_) ⟨_, _, rfl, ⟨Nat.zero_lt_one, rfl⟩, rfl⟩ hI (fun r M' i f ⟨po, hp, h1⟩ => ?_) (fun b hb hex wb Lb Mb cb sb hg => ?_)
  · rw [sx_beq (List.all_eq_true.mp hn_pl3 b hb), sx_beq (List.all_eq_true.mp hn_pl3 b' hb')]
  · cases he with
    | head => exact ⟨Nat.zero_lt_one, m, 2, rfl, rfl, by decide, hn_I (Nat.le_of_ble_eq_true rfl) rfl⟩
    | tail _ he => cases he
  · cases hp with
    | head =>
      obtain ⟨⟨z, rfl, hz⟩, h2⟩ := h1
      obtain ⟨a, ha, hx⟩ := h2 _ (List.Mem.head _)
      cases ha
      exact hQ z M' i (hn_up f (by decide +kernel)) hx (hF.cg (fun k _ => (f s k (by rw [hs]; exact hn_nt (by decide +kernel))).1))
    | tail _ hp => cases hp
  · cases hb with
    | head => cases hex
    | tail _ hb => cases hb with
      | head => cases hex
      | tail _ hb => cases hb with
        | head => cases hex
        | tail _ hb => cases hb with
          | head =>
            obtain ⟨p1, p2, p3, p4, p5, p6, p7⟩ := hg
            obtain ⟨v, L', rfl, ⟨-, rfl⟩, v2, L2, rfl, ⟨z, rfl, -⟩, hL2⟩ := p4
            have hL2 : L2 = [] := hL2
            subst hL2
            have e0 : wb.2.2.2 0 = some m := p7.2.2.2 0 Nat.zero_lt_one
            obtain ⟨-, a, z2, ha, hz2, -, hv⟩ := p3 _ (List.Mem.tail _ (List.Mem.tail _ (List.Mem.head _)))
            have ha : wb.2.2.2 0 = some a := ha
            have hz2 : (2 : Int) = z2 := hz2
            have hv : (0 : Int) = Mb.1 a z2.toNat := hv
            cases e0.symm.trans ha
            subst hz2
            show mj_W sx_ms (mj_R mj_tab (d + 5)) mt_X12_plain.2.2.2.2.1 Q (mt_X12_plain.2.2.2.2.1.drop 74) [some (.inr (.inr (wb.2.2.2 0))), some (.inl z)] [] G Mb cb sb
            rw [e0]
            exact r_plain_t hm hs h6 hI hQ Mb z cb sb p5 (hn_up p6 (by decide +kernel)) hv.symm
          | tail _ hb => cases hb
end
section
/-! ===== places, stack, cells of the symbolic run ===== -/
theorem sx_nt_s {w : sx_w} : ∀ {L : sx_L} {L' : mj_L} {i : Nat} {x : sx_V}, sx_RL w L L' → sx_nt L i = some x → ∃ v, mj_nt L' i = some v ∧ sx_RV w x v
  | [], _, _, _, _, h => by cases h
  | none :: _, _, 0, _, _, h => by cases h
  | none :: t, _, i + 1, x, hL, h => by
    obtain ⟨v, L', rfl, h3⟩ := hL
    exact sx_nt_s (L := t) (i := i) h3 h
  | some y :: t, _, 0, x, hL, h => by
    obtain ⟨v, L', rfl, h2, h3⟩ := hL
    have e : y = x := Option.some.inj h
    exact ⟨v, rfl, e ▸ h2⟩
  | some y :: t, _, i + 1, x, hL, h => by
    obtain ⟨v, L', rfl, h2, h3⟩ := hL
    exact sx_nt_s (L := t) (i := i) h3 h
theorem sx_set_s {w : sx_w} {x : sx_V} {v : mj_V} (hx : sx_RV w x v) : ∀ {L : sx_L} {L' : mj_L} {i : Nat}, sx_RL w L L' → sx_RL w (L.set i (some x)) (L'.set i (some v))
  | [], _, _, h => by rw [show _ = ([] : mj_L) from h]; rfl
  | none :: t, _, 0, h => by
    obtain ⟨u, L', rfl, h3⟩ := h
    exact ⟨v, L', rfl, hx, h3⟩
  | some y :: t, _, 0, h => by
    obtain ⟨u, L', rfl, h2, h3⟩ := h
    exact ⟨v, L', rfl, hx, h3⟩
  | none :: t, _, i + 1, h => by
    obtain ⟨u, L', rfl, h3⟩ := h
    exact ⟨u, _, rfl, sx_set_s hx h3⟩
  | some y :: t, _, i + 1, h => by
    obtain ⟨u, L', rfl, h2, h3⟩ := h
    exact ⟨u, _, rfl, h2, sx_set_s hx h3⟩
theorem sx_non_s {w : sx_w} {o : Option mj_V} : ∀ {L : sx_L} {L' : mj_L} {i : Nat}, sx_RL w L L' → sx_RL w (L.set i none) (L'.set i o)
  | [], _, _, h => by rw [show _ = ([] : mj_L) from h]; rfl
  | none :: t, _, 0, h => by
    obtain ⟨u, L', rfl, h3⟩ := h
    exact ⟨_, L', rfl, h3⟩
  | some y :: t, _, 0, h => by
    obtain ⟨u, L', rfl, h2, h3⟩ := h
    exact ⟨_, L', rfl, h3⟩
  | none :: t, _, i + 1, h => by
    obtain ⟨u, L', rfl, h3⟩ := h
    exact ⟨u, _, rfl, sx_non_s h3⟩
  | some y :: t, _, i + 1, h => by
    obtain ⟨u, L', rfl, h2, h3⟩ := h
    exact ⟨u, _, rfl, h2, sx_non_s h3⟩
/-- only the concrete place is spoilt: the symbolic one said nothing -/
theorem sx_spl_s {w : sx_w} : ∀ {L : sx_L} {L' : mj_L} {i : Nat}, sx_RL w L L' → sx_nt L i = none → sx_RL w L (L'.set i none)
  | [], _, _, h, _ => by rw [show _ = ([] : mj_L) from h]; rfl
  | none :: t, _, 0, h, _ => by
    obtain ⟨u, L', rfl, h3⟩ := h
    exact ⟨_, L', rfl, h3⟩
  | some y :: t, _, 0, h, hn => by cases hn
  | none :: t, _, i + 1, h, hn => by
    obtain ⟨u, L', rfl, h3⟩ := h
    exact ⟨u, _, rfl, sx_spl_s h3 hn⟩
  | some y :: t, _, i + 1, h, hn => by
    obtain ⟨u, L', rfl, h2, h3⟩ := h
    exact ⟨u, _, rfl, h2, sx_spl_s h3 hn⟩
theorem sx_kl_s {w : sx_w} {L : sx_L} {L' : mj_L} {i : Nat} (h : sx_RL w L L') : sx_RL w (sx_kl L i) (mj_kl L' i) := by
  cases i with
  | zero => exact h
  | succ j =>
    unfold sx_kl mj_kl
    dsimp only
    cases hx : sx_nt L j with
    | none =>
      dsimp only
      split
      · exact sx_spl_s h hx
      · exact h
    | some x =>
      obtain ⟨v, hv, hr⟩ := sx_nt_s h hx
      rw [hv]
      rcases x with x | x | x
      · obtain ⟨z, rfl, -⟩ := hr
        exact h
      · obtain rfl : v = _ := hr
        exact sx_non_s h
      · obtain ⟨z, rfl, -⟩ := hr
        exact h
theorem sx_s1_s {w : sx_w} {L : sx_L} {L' : mj_L} {i : Nat} {x : sx_V} {v : mj_V} (h : sx_RL w L L') (hx : sx_RV w x v) : sx_RL w (sx_s1 L i x) (mj_s1 L' i v) := sx_set_s hx (sx_kl_s h)
theorem sx_ldi_s {w : sx_w} {L : sx_L} {L' : mj_L} {i : Nat} {k : sx_I → Bool} (h : sx_ldi L i k = true) (hL : sx_RL w L L') : ∃ x z, mj_nt L' i = some (.inl z) ∧ sx_RI w x z ∧ k x = true := by
  unfold sx_ldi at h
  split at h
  · rename_i x hx
    obtain ⟨v, hv, z, rfl, hz⟩ := sx_nt_s hL hx
    exact ⟨x, z, hv, hz, h⟩
  · cases h
theorem sx_ldl_s {w : sx_w} {L : sx_L} {L' : mj_L} {i : Nat} {k : Int64 → Bool} (h : sx_ldl L i k = true) (hL : sx_RL w L L') : ∃ x, mj_nt L' i = some (.inr (.inl x)) ∧ k x = true := by
  unfold sx_ldl at h
  split at h
  · rename_i x hx
    obtain ⟨v, hv, hr⟩ := sx_nt_s hL hx
    obtain rfl : v = _ := hr
    exact ⟨x, hv, h⟩
  · cases h
theorem sx_lda_s {w : sx_w} {L : sx_L} {L' : mj_L} {i : Nat} {k : Option Nat → Bool} (h : sx_lda L i k = true) (hL : sx_RL w L L') : ∃ x r, mj_nt L' i = some (.inr (.inr r)) ∧ sx_RO w x r ∧ k x = true := by
  unfold sx_lda at h
  split at h
  · rename_i x hx
    obtain ⟨v, hv, r, rfl, hr⟩ := sx_nt_s hL hx
    exact ⟨x, r, hv, hr, h⟩
  · cases h
section SXS
variable {w : sx_w} {st : List sx_V} {st' : List mj_V}
theorem sx_i1_s {k : sx_I → List sx_V → Bool} (h : sx_i1 st k = true) (hS : sx_RS w st st') : ∃ x t z t', st' = .inl z :: t' ∧ sx_RI w x z ∧ sx_RS w t t' ∧ k x t = true := by
  unfold sx_i1 at h
  split at h
  · obtain ⟨v, t', rfl, ⟨z, rfl, hz⟩, hS⟩ := hS
    exact ⟨_, _, z, t', rfl, hz, hS, h⟩
  · cases h
theorem sx_l1_s {k : Int64 → List sx_V → Bool} (h : sx_l1 st k = true) (hS : sx_RS w st st') : ∃ x t t', st' = .inr (.inl x) :: t' ∧ sx_RS w t t' ∧ k x t = true := by
  unfold sx_l1 at h
  split at h
  · obtain ⟨v, t', rfl, hv, hS⟩ := hS
    obtain rfl : v = _ := hv
    exact ⟨_, _, t', rfl, hS, h⟩
  · cases h
theorem sx_r1_s {k : Option Nat → List sx_V → Bool} (h : sx_r1 st k = true) (hS : sx_RS w st st') : ∃ x t r t', st' = .inr (.inr r) :: t' ∧ sx_RO w x r ∧ sx_RS w t t' ∧ k x t = true := by
  unfold sx_r1 at h
  split at h
  · obtain ⟨v, t', rfl, ⟨r, rfl, hr⟩, hS⟩ := hS
    exact ⟨_, _, r, t', rfl, hr, hS, h⟩
  · cases h
theorem sx_a1_s {k : Nat → List sx_V → Bool} (h : sx_a1 st k = true) (hS : sx_RS w st st') : ∃ i t t', st' = .inr (.inr (some (w.2.2.2 i))) :: t' ∧ i < w.2.2.1 ∧ sx_RS w t t' ∧ k i t = true := by
  unfold sx_a1 at h
  split at h
  · obtain ⟨v, t', rfl, ⟨r, rfl, hr⟩, hS⟩ := hS
    obtain ⟨h1, rfl⟩ := hr
    exact ⟨_, _, t', rfl, h1, hS, h⟩
  · cases h
theorem sx_c1_s {k : sx_V → List sx_V → Bool} (h : sx_c1 st k = true) (hS : sx_RS w st st') : ∃ x t v t', st' = v :: t' ∧ sx_RV w x v ∧ (∀ u, v ≠ .inr (.inl u)) ∧ sx_RS w t t' ∧ k x t = true := by
  unfold sx_c1 at h
  split at h
  · obtain ⟨v, t', rfl, hv, hS⟩ := hS
    refine ⟨_, _, v, t', rfl, hv, ?_, hS, h⟩
    obtain ⟨z, rfl, -⟩ := hv
    intro u q; cases q
  · obtain ⟨v, t', rfl, hv, hS⟩ := hS
    refine ⟨_, _, v, t', rfl, hv, ?_, hS, h⟩
    obtain ⟨z, rfl, -⟩ := hv
    intro u q; cases q
  · cases h
theorem sx_c1_i {v : mj_V} {t : List mj_V} {k : mj_V → List mj_V → Prop} (hv : ∀ u, v ≠ .inr (.inl u)) (h : k v t) : mj_c1 (v :: t) k := by
  rcases v with z | z | z
  · exact h
  · exact absurd rfl (hv z)
  · exact h
theorem sx_pop_s {k : List sx_V → List sx_V → Bool} {k' : List mj_V → List mj_V → Prop} : ∀ (n : Nat) {acc : List sx_V} {acc' : List mj_V} {st : List sx_V} {st' : List mj_V}, sx_pop n acc st k = true → sx_RS w acc acc' → sx_RS w st st' → (∀ A t A' t', sx_RS w A A' → sx_RS w t t' → k A t = true → k' A' t') → mj_pop n acc' st' k'
  | 0, _, _, _, _, h, hA, hS, kk => kk _ _ _ _ hA hS h
  | n + 1, _, _, [], _, h, _, _, _ => by cases h
  | n + 1, _, _, v :: t, _, h, hA, hS, kk => by
    obtain ⟨u, t', rfl, hv, hS⟩ := hS
    exact sx_pop_s n (st := t) h ⟨u, _, rfl, hv, hA⟩ hS kk
theorem sx_cat_s : ∀ {st : List sx_V} {st' : List mj_V}, sx_RS w st st' → sx_cat st = mj_cat st'
  | [], _, h => by rw [show _ = ([] : List mj_V) from h]; rfl
  | x :: t, _, h => by
    obtain ⟨v, t', rfl, hv, hS⟩ := h
    have ih := sx_cat_s hS
    rcases x with x | x | x
    · obtain ⟨z, rfl, -⟩ := hv; simp only [sx_cat, mj_cat, ih]
    · obtain rfl : v = _ := hv; simp only [sx_cat, mj_cat, ih]
    · obtain ⟨z, rfl, -⟩ := hv; simp only [sx_cat, mj_cat, ih]
theorem sx_wd_s : ∀ {st : List sx_V} {st' : List mj_V}, sx_RS w st st' → sx_wd st = mj_wd st'
  | [], _, h => by rw [show _ = ([] : List mj_V) from h]; rfl
  | x :: t, _, h => by
    obtain ⟨v, t', rfl, hv, hS⟩ := h
    have ih := sx_wd_s hS
    rcases x with x | x | x
    · obtain ⟨z, rfl, -⟩ := hv; simp only [sx_wd, mj_wd, ih]
    · obtain rfl : v = _ := hv; simp only [sx_wd, mj_wd, ih]
    · obtain ⟨z, rfl, -⟩ := hv; simp only [sx_wd, mj_wd, ih]
theorem sx_rep_s : ∀ n, sx_RL w (List.replicate n none) (List.replicate n none)
  | 0 => rfl
  | n + 1 => ⟨none, List.replicate n none, rfl, sx_rep_s n⟩
theorem sx_en_s : ∀ {st : List sx_V} {st' : List mj_V} (n : Nat), sx_RS w st st' → sx_RL w (sx_en st n) (mj_en st' n)
  | [], _, n, h => by rw [show _ = ([] : List mj_V) from h]; exact sx_rep_s n
  | x :: t, _, n, h => by
    obtain ⟨v, t', rfl, hv, hS⟩ := h
    rcases x with x | x | x
    · obtain ⟨z, rfl, hz⟩ := hv; exact ⟨_, _, rfl, ⟨z, rfl, hz⟩, sx_en_s (n - 1) hS⟩
    · obtain rfl : v = _ := hv; exact ⟨_, _, rfl, rfl, none, _, rfl, sx_en_s (n - 2) hS⟩
    · obtain ⟨z, rfl, hz⟩ := hv; exact ⟨_, _, rfl, ⟨z, rfl, hz⟩, sx_en_s (n - 1) hS⟩
end SXS
/-! trees -/
theorem sx_g_leaf {β : Type} (a : β) (k : Nat) : sx_g (.leaf a) k = a := rfl
theorem sx_g_br {β : Type} (p : Nat) (l r : Lean.RArray β) (k : Nat) : sx_g (.branch p l r) k = cond (Nat.beq (k % 2) 0) (sx_g l (k / 2)) (sx_g r (k / 2)) := rfl
theorem sx_sk_eq {β : Type} : ∀ (d : Nat) (t : Lean.RArray β) (k : Nat) (v : β) (K : Lean.RArray β → Bool), sx_sk d t k v K = K (sx_s d t k v)
  | 0, t, k, v, K => by cases t <;> rfl
  | d + 1, .leaf a, k, v, K => by
    show cond (Nat.beq (k % 2) 0) (sx_sk d (.leaf a) (k / 2) v fun l => K (.branch 0 l (.leaf a))) (sx_sk d (.leaf a) (k / 2) v fun r => K (.branch 0 (.leaf a) r)) = K (cond (Nat.beq (k % 2) 0) (.branch 0 (sx_s d (.leaf a) (k / 2) v) (.leaf a)) (.branch 0 (.leaf a) (sx_s d (.leaf a) (k / 2) v)))
    rw [sx_sk_eq d, sx_sk_eq d]
    cases Nat.beq (k % 2) 0 <;> rfl
  | d + 1, .branch p l r, k, v, K => by
    show cond (Nat.beq (k % 2) 0) (sx_sk d l (k / 2) v fun l' => K (.branch p l' r)) (sx_sk d r (k / 2) v fun r' => K (.branch p l r')) = K (cond (Nat.beq (k % 2) 0) (.branch p (sx_s d l (k / 2) v) r) (.branch p l (sx_s d r (k / 2) v)))
    rw [sx_sk_eq d, sx_sk_eq d]
    cases Nat.beq (k % 2) 0 <;> rfl
theorem sx_bq {a b : Nat} : Nat.beq a b = decide (a = b) := by
  by_cases h : a = b
  · subst h; simp
  · rw [decide_eq_false h]
    cases e : Nat.beq a b with
    | false => rfl
    | true => exact absurd (Nat.eq_of_beq_eq_true e) h
theorem sx_gs {β : Type} : ∀ (d : Nat) (t : Lean.RArray β) (k j : Nat) (v : β), k < 2 ^ d → j < 2 ^ d → sx_g (sx_s d t k v) j = if j = k then v else sx_g t j
  | 0, t, k, j, v, hk, hj => by
    have e : sx_s 0 t k v = .leaf v := by cases t <;> rfl
    rw [e, sx_g_leaf, if_pos (by omega)]
  | d + 1, .leaf a, k, j, v, hk, hj => by
    have ih := sx_gs d (.leaf a) (k / 2) (j / 2) v (by omega) (by omega)
    show sx_g (cond (Nat.beq (k % 2) 0) (.branch 0 (sx_s d (.leaf a) (k / 2) v) (.leaf a)) (.branch 0 (.leaf a) (sx_s d (.leaf a) (k / 2) v))) j = _
    rw [sx_bq]
    by_cases hk2 : k % 2 = 0
    · rw [decide_eq_true hk2, cond_true, sx_g_br, sx_bq]
      by_cases hj2 : j % 2 = 0
      · rw [decide_eq_true hj2, cond_true, ih]
        by_cases e : j = k
        · rw [if_pos e, if_pos (by omega)]
        · rw [if_neg e, if_neg (by omega)]; rfl
      · rw [decide_eq_false hj2, cond_false, if_neg (by omega)]; rfl
    · rw [decide_eq_false hk2, cond_false, sx_g_br, sx_bq]
      by_cases hj2 : j % 2 = 0
      · rw [decide_eq_true hj2, cond_true, if_neg (by omega)]; rfl
      · rw [decide_eq_false hj2, cond_false, ih]
        by_cases e : j = k
        · rw [if_pos e, if_pos (by omega)]
        · rw [if_neg e, if_neg (by omega)]; rfl
  | d + 1, .branch p l r, k, j, v, hk, hj => by
    have il := sx_gs d l (k / 2) (j / 2) v (by omega) (by omega)
    have ir := sx_gs d r (k / 2) (j / 2) v (by omega) (by omega)
    show sx_g (cond (Nat.beq (k % 2) 0) (.branch p (sx_s d l (k / 2) v) r) (.branch p l (sx_s d r (k / 2) v))) j = _
    rw [sx_bq]
    by_cases hk2 : k % 2 = 0
    · rw [decide_eq_true hk2, cond_true, sx_g_br, sx_g_br, sx_bq]
      by_cases hj2 : j % 2 = 0
      · rw [decide_eq_true hj2, cond_true, cond_true, il]
        by_cases e : j = k
        · rw [if_pos e, if_pos (by omega)]
        · rw [if_neg e, if_neg (by omega)]
      · rw [decide_eq_false hj2, cond_false, cond_false, if_neg (by omega)]
    · rw [decide_eq_false hk2, cond_false, sx_g_br, sx_g_br, sx_bq]
      by_cases hj2 : j % 2 = 0
      · rw [decide_eq_true hj2, cond_true, cond_true, if_neg (by omega)]
      · rw [decide_eq_false hj2, cond_false, cond_false, ir]
        by_cases e : j = k
        · rw [if_pos e, if_pos (by omega)]
        · rw [if_neg e, if_neg (by omega)]
theorem sx_g12 {β : Type} (t : Lean.RArray β) {k j : Nat} (v : β) (hk : k < 4096) (hj : j < 4096) : sx_g (sx_s 12 t k v) j = if j = k then v else sx_g t j := sx_gs 12 t k j v hk hj
/-! cells -/
theorem sx_cl_eq (h : sx_H) (i : Nat) (k : Nat → Nat → Lean.RArray sx_I → Lean.RArray Int64 → Lean.RArray (Option Nat) → Bool) : sx_cl h i k = k (sx_g h.2 i).1 (sx_g h.2 i).2.1 (sx_g h.2 i).2.2.1 (sx_g h.2 i).2.2.2.1 (sx_g h.2 i).2.2.2.2 := rfl
theorem sx_pt_eq (h : sx_H) (i : Nat) (c : sx_c) (k : sx_H → Bool) : sx_pt h i c k = k (h.1, sx_s 12 h.2 i c) := by unfold sx_pt; rw [sx_sk_eq]
/-- a cell changed: the others are as they were -/
theorem sx_RH.put {w : sx_w} {h : sx_H} {G : mj_G} {M M' : mj_M} {i : Nat} {c : sx_c} (hH : sx_RH w h G M) (hi : i < w.2.2.1) (hc : sx_RC w G M' i c) (ho : ∀ x, x ≠ w.2.2.2 i → (∀ k, M'.1 x k = M.1 x k) ∧ (∀ k, M'.2.1 x k = M.2.1 x k) ∧ ∀ k, M'.2.2 x k = M.2.2 x k) : sx_RH w (h.1, sx_s 12 h.2 i c) G M' := by
  obtain ⟨h1, h2, h3, h4⟩ := hH
  refine ⟨h1, h2, fun j hj => ?_, h4⟩
  have hj' : j < h.1 := hj
  show sx_RC w G M' j (sx_g (sx_s 12 h.2 i c) j)
  rw [sx_g12 _ _ (by omega) (by omega)]
  by_cases e : j = i
  · subst e; rw [if_pos rfl]; exact hc
  · rw [if_neg e]
    obtain ⟨c1, c2, c3⟩ := h3 j hj'
    have hne : w.2.2.2 j ≠ w.2.2.2 i := fun q => e (h4 j i hj' (by omega) q)
    obtain ⟨o1, o2, o3⟩ := ho _ hne
    exact ⟨c1, c2, fun k hk => by rw [o1, o2, o3]; exact c3 k hk⟩
theorem sx_p0_s {w : sx_w} {h : sx_H} {G : mj_G} {M : mj_M} {i j : Nat} {x : sx_I} {z : Int} {k : sx_H → Bool} (hk : sx_p0 h i j x k = true) (hH : sx_RH w h G M) (hi : i < w.2.2.1) (hx : sx_RI w x z) : ∃ h', sx_RH w h' G (mj_p0 M (w.2.2.2 i) j z) ∧ k h' = true := by
  obtain ⟨hj, hk⟩ := sx_cd hk
  rw [sx_cl_eq, sx_sk_eq, sx_pt_eq] at hk
  refine ⟨_, hH.put hi ?_ (fun x hx => ⟨fun k => ?_, fun _ => rfl, fun _ => rfl⟩), hk⟩
  · obtain ⟨c1, c2, c3⟩ := hH.2.2.1 i (by rw [hH.1]; exact hi)
    refine ⟨c1, c2, fun q hq => ⟨?_, (c3 q hq).2⟩⟩
    show sx_RI w (sx_g (sx_s 12 _ j x) q) (if w.2.2.2 i = w.2.2.2 i ∧ q = j then z else M.1 (w.2.2.2 i) q)
    rw [sx_g12 _ _ (sx_blt hj) hq]
    by_cases e : q = j
    · rw [if_pos e, if_pos ⟨rfl, e⟩]; exact hx
    · rw [if_neg e, if_neg (fun u => e u.2)]; exact (c3 q hq).1
  · show (if x = w.2.2.2 i ∧ k = j then z else M.1 x k) = M.1 x k
    rw [if_neg (fun u => hx u.1)]
theorem sx_p1_s {w : sx_w} {h : sx_H} {G : mj_G} {M : mj_M} {i j : Nat} {x : Int64} {k : sx_H → Bool} (hk : sx_p1 h i j x k = true) (hH : sx_RH w h G M) (hi : i < w.2.2.1) : ∃ h', sx_RH w h' G (mj_p1 M (w.2.2.2 i) j x) ∧ k h' = true := by
  obtain ⟨hj, hk⟩ := sx_cd hk
  rw [sx_cl_eq, sx_sk_eq, sx_pt_eq] at hk
  refine ⟨_, hH.put hi ?_ (fun x' hx => ⟨fun _ => rfl, fun k => ?_, fun _ => rfl⟩), hk⟩
  · obtain ⟨c1, c2, c3⟩ := hH.2.2.1 i (by rw [hH.1]; exact hi)
    refine ⟨c1, c2, fun q hq => ⟨(c3 q hq).1, ?_, (c3 q hq).2.2⟩⟩
    show (if w.2.2.2 i = w.2.2.2 i ∧ q = j then x else M.2.1 (w.2.2.2 i) q) = sx_g (sx_s 12 _ j x) q
    rw [sx_g12 _ _ (sx_blt hj) hq]
    by_cases e : q = j
    · rw [if_pos e, if_pos ⟨rfl, e⟩]
    · rw [if_neg e, if_neg (fun u => e u.2)]; exact (c3 q hq).2.1
  · show (if x' = w.2.2.2 i ∧ k = j then x else M.2.1 x' k) = M.2.1 x' k
    rw [if_neg (fun u => hx u.1)]
theorem sx_p2_s {w : sx_w} {h : sx_H} {G : mj_G} {M : mj_M} {i j : Nat} {x r : Option Nat} {k : sx_H → Bool} (hk : sx_p2 h i j x k = true) (hH : sx_RH w h G M) (hi : i < w.2.2.1) (hx : sx_RO w x r) : ∃ h', sx_RH w h' G (mj_p2 M (w.2.2.2 i) j r) ∧ k h' = true := by
  obtain ⟨hj, hk⟩ := sx_cd hk
  rw [sx_cl_eq, sx_sk_eq, sx_pt_eq] at hk
  refine ⟨_, hH.put hi ?_ (fun x hx => ⟨fun _ => rfl, fun _ => rfl, fun k => ?_⟩), hk⟩
  · obtain ⟨c1, c2, c3⟩ := hH.2.2.1 i (by rw [hH.1]; exact hi)
    refine ⟨c1, c2, fun q hq => ⟨(c3 q hq).1, (c3 q hq).2.1, ?_⟩⟩
    show sx_RO w (sx_g (sx_s 12 _ j x) q) (if w.2.2.2 i = w.2.2.2 i ∧ q = j then r else M.2.2 (w.2.2.2 i) q)
    rw [sx_g12 _ _ (sx_blt hj) hq]
    by_cases e : q = j
    · rw [if_pos e, if_pos ⟨rfl, e⟩]; exact hx
    · rw [if_neg e, if_neg (fun u => e u.2)]; exact (c3 q hq).2.2
  · show (if x = w.2.2.2 i ∧ k = j then r else M.2.2 x k) = M.2.2 x k
    rw [if_neg (fun u => hx u.1)]
/-- n new cells behind the last -/
def sx_wn (w : sx_w) (a n : Nat) : sx_w := (w.1, w.2.1, w.2.2.1 + n, fun i => if i < w.2.2.1 then w.2.2.2 i else a + (i - w.2.2.1))
theorem sx_wn_up {w : sx_w} {a n : Nat} : sx_up w (sx_wn w a n) := ⟨Nat.le_refl _, fun _ _ => rfl, Nat.le_add_right _ _, fun _ hi => if_pos hi⟩
theorem sx_RY.wn {w : sx_w} {Y : sx_Y} {a n : Nat} (h : sx_RY w Y) : sx_RY (sx_wn w a n) Y := h
theorem sx_wn_top {w : sx_w} {a n : Nat} : sx_RO (sx_wn w a (n + 1)) (some w.2.2.1) (some a) := ⟨by show w.2.2.1 < w.2.2.1 + (n + 1); omega, by show some a = some (if w.2.2.1 < w.2.2.1 then w.2.2.2 w.2.2.1 else a + (w.2.2.1 - w.2.2.1)); rw [if_neg (Nat.lt_irrefl _), Nat.sub_self, Nat.add_zero]⟩
theorem sx_RH.new {w : sx_w} {h h' : sx_H} {G G' : mj_G} {M M' : mj_M} {a n : Nat} (hH : sx_RH w h G M) (ha : ∀ x, a ≤ x → G x = (0, 0)) (h1 : h'.1 = h.1 + n) (h2 : h'.1 ≤ 4096) (ho : ∀ j, j < h.1 → sx_g h'.2 j = sx_g h.2 j) (hG : ∀ x, ¬ a ≤ x → G' x = G x) (hM : ∀ x, ¬ a ≤ x → (∀ k, M'.1 x k = M.1 x k) ∧ (∀ k, M'.2.1 x k = M.2.1 x k) ∧ ∀ k, M'.2.2 x k = M.2.2 x k)
    (hn : ∀ j, j < n → sx_RC (sx_wn w a n) G' M' (h.1 + j) (sx_g h'.2 (h.1 + j))) : sx_RH (sx_wn w a n) h' G' M' := by
  obtain ⟨e1, e2, e3, e4⟩ := hH
  have old : ∀ j, j < h.1 → ¬ a ≤ w.2.2.2 j := fun j hj q => (e3 j hj).2.1 (by have := ha _ q; rw [(e3 j hj).1] at this; exact (Prod.mk.inj this).1)
  have eo : ∀ j, j < h.1 → (sx_wn w a n).2.2.2 j = w.2.2.2 j := fun j hj => if_pos (by omega)
  have en : ∀ j, ¬ j < h.1 → (sx_wn w a n).2.2.2 j = a + (j - w.2.2.1) := fun j hj => if_neg (by omega)
  refine ⟨by rw [h1, e1]; rfl, h2, fun j hj => ?_, fun i j hi hj q => ?_⟩
  · by_cases q : j < h.1
    · rw [ho j q]
      obtain ⟨c1, c2, c3⟩ := e3 j q
      obtain ⟨m1, m2, m3⟩ := hM _ (old j q)
      unfold sx_RC
      rw [eo j q]
      exact ⟨by rw [hG _ (old j q)]; exact c1, c2, fun k hk => by rw [m1, m2, m3]; exact ⟨(c3 k hk).1.up sx_wn_up, (c3 k hk).2.1, (c3 k hk).2.2.up sx_wn_up⟩⟩
    · have := hn (j - h.1) (by omega)
      rw [show h.1 + (j - h.1) = j by omega] at this
      exact this
  · by_cases qi : i < h.1
    · by_cases qj : j < h.1
      · exact e4 i j qi qj (by rw [eo i qi, eo j qj] at q; exact q)
      · rw [eo i qi, en j qj] at q
        exact absurd (by omega) (old i qi)
    · by_cases qj : j < h.1
      · rw [en i qi, eo j qj] at q
        exact absurd (by omega) (old j qj)
      · rw [en i qi, en j qj] at q
        omega
theorem sx_nw_s {w : sx_w} {h : sx_H} {G : mj_G} {M : mj_M} {t n : Nat} {k : Nat → sx_H → Bool} (hk : sx_nw h t n k = true) (hH : sx_RH w h G M) (ht : t ≠ 0) {a : Nat} (ha : ∀ x, a ≤ x → G x = (0, 0)) : ∃ h', sx_RH (sx_wn w a 1) h' (mj_g G a t n) (mj_z M a) ∧ k w.2.2.1 h' = true := by
  obtain ⟨hj, hk⟩ := sx_cd hk
  have hj := sx_blt hj
  rw [sx_sk_eq] at hk
  have hne : ∀ x, ¬ a ≤ x → x ≠ a := fun x hx q => hx (by omega)
  refine ⟨_, hH.new (n := 1) ha (h' := (Nat.succ h.1, sx_s 12 h.2 h.1 (sx_nc t n))) rfl hj (fun j hj' => ?_) (fun x hx => if_neg (hne x hx)) (fun x hx => ⟨fun _ => if_neg (hne x hx), fun _ => if_neg (hne x hx), fun _ => if_neg (hne x hx)⟩) (fun j hj' => ?_), by rw [← hH.1]; exact hk⟩
  · show sx_g (sx_s 12 h.2 h.1 (sx_nc t n)) j = _
    rw [sx_g12 _ _ hj (by omega), if_neg (by omega)]
  · obtain rfl : j = 0 := by omega
    show sx_RC _ _ _ h.1 (sx_g (sx_s 12 h.2 h.1 (sx_nc t n)) h.1)
    rw [sx_g12 _ _ hj hj, if_pos rfl]
    have e : (sx_wn w a 1).2.2.2 h.1 = a := by
      show (if h.1 < w.2.2.1 then w.2.2.2 h.1 else a + (h.1 - w.2.2.1)) = a
      rw [if_neg (by rw [hH.1]; omega), hH.1]; omega
    unfold sx_RC
    rw [e]
    refine ⟨if_pos rfl, ht, fun k _ => ⟨?_, if_pos rfl, if_pos rfl⟩⟩
    show (0 : Int) = if a = a then 0 else M.1 a k
    rw [if_pos rfl]
end
section
/-! ===== rows of arrays, copies, arithmetic, calls of the symbolic run ===== -/
theorem sx_rws_s {t m : Nat} : ∀ (n : Nat) {h : sx_H} {k : sx_H → Bool}, sx_rws t m n h k = true → h.1 ≤ 4096 → ∃ h', h'.1 = h.1 + n ∧ h'.1 ≤ 4096 ∧ (∀ j, j < 4096 → sx_g h'.2 j = if h.1 ≤ j ∧ j < h.1 + n then sx_nc t m else sx_g h.2 j) ∧ k h' = true
  | 0, h, k, hk, h4 => ⟨h, rfl, h4, fun j _ => by rw [if_neg (by omega)], hk⟩
  | n + 1, h, k, hk, h4 => by
    obtain ⟨hj, hk⟩ := sx_cd hk
    have hj := sx_blt hj
    rw [sx_sk_eq] at hk
    obtain ⟨h', a1, a2, a3, a4⟩ := sx_rws_s n (h := (Nat.succ h.1, sx_s 12 h.2 h.1 (sx_nc t m))) hk hj
    have a1 : h'.1 = h.1 + 1 + n := a1
    refine ⟨h', by omega, a2, fun j hj' => ?_, a4⟩
    rw [a3 j hj']
    show (if h.1 + 1 ≤ j ∧ j < h.1 + 1 + n then sx_nc t m else sx_g (sx_s 12 h.2 h.1 (sx_nc t m)) j) = _
    rw [sx_g12 _ _ hj hj']
    by_cases e : j = h.1
    · rw [if_neg (by omega), if_pos e, if_pos (by omega)]
    · rw [if_neg e]
      by_cases e2 : h.1 + 1 ≤ j ∧ j < h.1 + 1 + n
      · rw [if_pos e2, if_pos (by omega)]
      · rw [if_neg e2, if_neg (by omega)]
theorem sx_rfs_s {b : Nat} : ∀ (n : Nat) {u : Lean.RArray (Option Nat)} {k : Lean.RArray (Option Nat) → Bool}, sx_rfs b n u k = true → n ≤ 4096 → ∃ u', (∀ j, j < 4096 → sx_g u' j = if j < n then some (b + j) else sx_g u j) ∧ k u' = true
  | 0, u, k, hk, _ => ⟨u, fun j _ => by rw [if_neg (by omega)], hk⟩
  | n + 1, u, k, hk, h4 => by
    unfold sx_rfs at hk
    rw [sx_sk_eq] at hk
    obtain ⟨u', a1, a2⟩ := sx_rfs_s n hk (by omega)
    refine ⟨u', fun j hj => ?_, a2⟩
    rw [a1 j hj, sx_g12 _ _ (by omega) hj]
    by_cases e : j < n
    · rw [if_pos e, if_pos (by omega)]
    · rw [if_neg e]
      by_cases e2 : j = n
      · rw [if_pos e2, if_pos (by omega), e2]
      · rw [if_neg e2, if_neg (by omega)]
theorem sx_cpa_s {β : Type} {a : Lean.RArray β} {sp dp : Nat} : ∀ (n : Nat) {b : Lean.RArray β} {k : Lean.RArray β → Bool}, sx_cpa n a sp b dp k = true → dp + n ≤ 4096 → ∃ b', (∀ j, j < 4096 → sx_g b' j = if dp ≤ j ∧ j < dp + n then sx_g a (sp + (j - dp)) else sx_g b j) ∧ k b' = true
  | 0, b, k, hk, _ => ⟨b, fun j _ => by rw [if_neg (by omega)], hk⟩
  | n + 1, b, k, hk, h4 => by
    unfold sx_cpa at hk
    rw [sx_sk_eq] at hk
    obtain ⟨b', a1, a2⟩ := sx_cpa_s n hk (by omega)
    refine ⟨b', fun j hj => ?_, a2⟩
    rw [a1 j hj, sx_g12 _ _ (by omega) hj]
    by_cases e : dp ≤ j ∧ j < dp + n
    · rw [if_pos e, if_pos (by omega)]
    · rw [if_neg e]
      by_cases e2 : j = dp + n
      · rw [if_pos e2, if_pos (by omega), e2, Nat.add_sub_cancel_left]
      · rw [if_neg e2, if_neg (by omega)]
/-- new int[n][m] -/
theorem sx_mul_s {w : sx_w} {h : sx_H} {G : mj_G} {M : mj_M} {n m : Nat} {k : Nat → sx_H → Bool} (hk : (sx_nw h 1104 n fun i h => sx_rws 1100 m n h fun h => sx_cl h i fun t l a b c => sx_rfs (i + 1) n c fun c => sx_pt h i (t, l, a, b, c) fun h => k i h) = true) (hH : sx_RH w h G M) {a : Nat} (ha : ∀ x, a ≤ x → G x = (0, 0)) :
    ∃ h', sx_RH (sx_wn w a (1 + n)) h' (mj_gg G a 1104 n 1100 m) (mj_zz M a n) ∧ k w.2.2.1 h' = true := by
  obtain ⟨hj, hk⟩ := sx_cd hk
  have hj := sx_blt hj
  rw [sx_sk_eq] at hk
  obtain ⟨h2, b1, b2, b3, hk⟩ := sx_rws_s n hk hj
  have b1 : h2.1 = h.1 + 1 + n := b1
  have b3 : ∀ j, j < 4096 → sx_g h2.2 j = if h.1 + 1 ≤ j ∧ j < h.1 + 1 + n then sx_nc 1100 m else sx_g (sx_s 12 h.2 h.1 (sx_nc 1104 n)) j := b3
  have b4 : sx_g h2.2 h.1 = sx_nc 1104 n := by rw [b3 _ hj, if_neg (by omega), sx_g12 _ _ hj hj, if_pos rfl]
  rw [sx_cl_eq, b4] at hk
  obtain ⟨u, u1, hk⟩ := sx_rfs_s n hk (by omega)
  rw [sx_pt_eq] at hk
  have hu : ∀ j, j < 4096 → sx_g u j = if j < n then some (h.1 + 1 + j) else none := fun j hj => u1 j hj
  have e1 := hH.1
  have wv : ∀ j, j < 1 + n → (sx_wn w a (1 + n)).2.2.2 (h.1 + j) = a + j := fun j hj' => by
    show (if h.1 + j < w.2.2.1 then w.2.2.2 (h.1 + j) else a + (h.1 + j - w.2.2.1)) = a + j
    rw [if_neg (by omega)]; omega
  refine ⟨_, hH.new (n := 1 + n) ha (h' := (h2.1, sx_s 12 h2.2 h.1 ((sx_nc 1104 n).1, (sx_nc 1104 n).2.1, (sx_nc 1104 n).2.2.1, (sx_nc 1104 n).2.2.2.1, u))) (by show h2.1 = _; omega) b2 (fun j hj' => ?_) (fun x hx => ?_) (fun x hx => ?_) (fun j hj' => ?_), by rw [← hH.1]; exact hk⟩
  · show sx_g (sx_s 12 h2.2 h.1 _) j = _
    rw [sx_g12 _ _ hj (by omega), if_neg (by omega), b3 _ (by omega), if_neg (by omega), sx_g12 _ _ hj (by omega), if_neg (by omega)]
  · unfold mj_gg; rw [if_neg (by omega), if_neg (by omega)]
  · unfold mj_zz
    have n1 : ¬ (a ≤ x ∧ x ≤ a + n) := fun q => hx q.1
    have n2 : ¬ x = a := fun q => hx (by omega)
    exact ⟨fun _ => if_neg n1, fun _ => if_neg n1, fun _ => by dsimp only; rw [if_neg n2, if_neg n1]⟩
  · show sx_RC _ _ _ (h.1 + j) (sx_g (sx_s 12 h2.2 h.1 _) (h.1 + j))
    unfold sx_RC
    rw [wv j hj', sx_g12 _ _ hj (by omega)]
    have n1 : a ≤ a + j ∧ a + j ≤ a + n := ⟨by omega, by omega⟩
    by_cases e : j = 0
    · subst e
      rw [if_pos (Nat.add_zero _), Nat.add_zero]
      refine ⟨by unfold mj_gg; rw [if_pos rfl]; rfl, by show (1104 : Nat) ≠ 0; decide, fun q hq => ⟨?_, ?_, ?_⟩⟩
      · show (0 : Int) = (mj_zz M a n).1 a q
        unfold mj_zz; dsimp only; rw [if_pos (by omega)]
      · show (mj_zz M a n).2.1 a q = 0
        unfold mj_zz; dsimp only; rw [if_pos (by omega)]
      · show sx_RO _ (sx_g u q) ((mj_zz M a n).2.2 a q)
        rw [hu q hq]
        unfold mj_zz
        dsimp only
        rw [if_pos rfl]
        by_cases e2 : q < n
        · rw [if_pos e2, if_pos e2]
          refine ⟨by show h.1 + 1 + q < w.2.2.1 + (1 + n); omega, ?_⟩
          rw [show h.1 + 1 + q = h.1 + (1 + q) by omega, wv (1 + q) (by omega), show a + (1 + q) = a + 1 + q by omega]
        · rw [if_neg e2, if_neg e2]; rfl
    · rw [if_neg (by omega), b3 _ (by omega), if_pos (by omega)]
      refine ⟨by unfold mj_gg; rw [if_neg (by omega), if_pos (by omega)]; rfl, by show (1100 : Nat) ≠ 0; decide, fun q hq => ⟨?_, ?_, ?_⟩⟩
      · show (0 : Int) = (mj_zz M a n).1 (a + j) q
        unfold mj_zz; dsimp only; rw [if_pos n1]
      · show (mj_zz M a n).2.1 (a + j) q = 0
        unfold mj_zz; dsimp only; rw [if_pos n1]
      · show (mj_zz M a n).2.2 (a + j) q = none
        unfold mj_zz; dsimp only; rw [if_neg (by omega), if_pos n1]
theorem sx_ix_s {w : sx_w} {Y : sx_Y} {st : List sx_V} {st' : List mj_V} {h : sx_H} {k : Nat → Nat → Nat → sx_c → sx_Y → List sx_V → Bool} (hk : sx_ix Y st h k = true) (hS : sx_RS w st st') (hY : sx_RY w Y) :
    ∃ (i : Nat) (z : Int) (Y' : sx_Y) (t : List sx_V) (t' : List mj_V), st' = .inl z :: .inr (.inr (some (w.2.2.2 i))) :: t' ∧ i < w.2.2.1 ∧ sx_RY w Y' ∧ sx_RS w t t' ∧ 0 ≤ z ∧ z < ((sx_g h.2 i).2.1 : Int) ∧ z.toNat < 4096 ∧ k i (sx_g h.2 i).1 z.toNat (sx_g h.2 i) Y' t = true := by
  obtain ⟨x, t, z, t', rfl, hx, hS, hk⟩ := sx_i1_s hk hS
  obtain ⟨i, t, t', rfl, hi, hS, hk⟩ := sx_a1_s hk hS
  rw [sx_cl_eq] at hk
  obtain ⟨Y', hY', hk⟩ := sx_sp_s hk hY hx
  obtain ⟨h1, hk⟩ := sx_cd hk
  obtain ⟨h1, h2⟩ := sx_nd h1
  obtain ⟨h2, h3⟩ := sx_nd h2
  have h1 : 0 ≤ z := sx_le_iff.mp h1
  have h2 := sx_blt h2
  exact ⟨i, z, Y', t, t', rfl, hi, hY', hS, h1, by omega, sx_blt h3, hk⟩
/-! arithmetic -/
theorem sx_op2_s {w : sx_w} {Y : sx_Y} {st : List sx_V} {st' : List mj_V} {f : Int → Int → Int → Int → Option (Int × Int)} {k : sx_I → sx_Y → List sx_V → Bool} {F : Int → Int → Int} {g : Int32 → Int32 → Int32} {k' : List mj_V → Prop} (h : sx_op2 Y st f k = true) (hS : sx_RS w st st') (hY : sx_RY w Y) (hf : ∀ a b c d q x y, f a b c d = some q → a ≤ x → x ≤ b → c ≤ y → y ≤ d → q.1 ≤ F x y ∧ F x y ≤ q.2)
    (kk : ∀ w' x z Y' t t', sx_e w w' → sx_RY w' Y' → sx_RI w' x z → sx_RS w' t t' → k x Y' t = true → k' (.inl z :: t')) : mj_bin F st' g k' := by
  obtain ⟨y, t, zy, t', rfl, hy, hS, h⟩ := sx_i1_s h hS
  obtain ⟨x, t, zx, t', rfl, hx, hS, h⟩ := sx_i1_s h hS
  obtain ⟨a, b, h, h1, h2⟩ := sx_iv_s h hY hx
  obtain ⟨c, d, h, h3, h4⟩ := sx_iv_s h hY hy
  show (mj_in (F zx zy) ∧ k' (.inl (F zx zy) :: t')) ∨ ∀ z, mj_in z → z = (g (Int32.ofInt zx) (Int32.ofInt zy)).toInt → k' (.inl z :: t')
  have full : (sx_ff Y fun x Y => k x Y t) = true → ∀ z, mj_in z → z = (g (Int32.ofInt zx) (Int32.ofInt zy)).toInt → k' (.inl z :: t') := fun hf z hz _ => by
    obtain ⟨w', x', Y', u1, u2, u3, u4⟩ := sx_ff_s hf hY hz
    exact kk w' x' z Y' t t' u1 u2 u3 (hS.up u1.1) u4
  cases hq : f a b c d with
  | none => rw [hq] at h; exact Or.inr (full h)
  | some q =>
    rw [hq] at h
    obtain ⟨q1, q2⟩ := hf a b c d q zx zy hq h1 h2 h3 h4
    rcases sx_ai_s h hY q1 q2 with ⟨u0, w', x', Y', u1, u2, u3, u4⟩ | h
    · exact Or.inl ⟨u0, kk w' x' _ Y' t t' u1 u2 u3 (hS.up u1.1) u4⟩
    · exact Or.inr (full h)
theorem sx_fadd_s (a b c d : Int) (q : Int × Int) (x y : Int) (h : sx_fadd a b c d = some q) (h1 : a ≤ x) (h2 : x ≤ b) (h3 : c ≤ y) (h4 : y ≤ d) : q.1 ≤ x + y ∧ x + y ≤ q.2 := by
  obtain rfl := Option.some.inj h
  dsimp only; omega
theorem sx_fsub_s (a b c d : Int) (q : Int × Int) (x y : Int) (h : sx_fsub a b c d = some q) (h1 : a ≤ x) (h2 : x ≤ b) (h3 : c ≤ y) (h4 : y ≤ d) : q.1 ≤ x - y ∧ x - y ≤ q.2 := by
  obtain rfl := Option.some.inj h
  dsimp only; omega
theorem sx_fmul_s (a b c d : Int) (q : Int × Int) (x y : Int) (h : sx_fmul a b c d = some q) (h1 : a ≤ x) (h2 : x ≤ b) (h3 : c ≤ y) (h4 : y ≤ d) : q.1 ≤ x * y ∧ x * y ≤ q.2 := by
  unfold sx_fmul at h
  cases e1 : (sx_eq a b && sx_eq c d) with
  | true =>
    rw [e1] at h
    obtain rfl := Option.some.inj h
    obtain ⟨e2, e3⟩ := sx_nd e1
    have e2 := sx_eq_iff.mp e2
    have e3 := sx_eq_iff.mp e3
    rw [show x = a by omega, show y = c by omega]
    exact ⟨Int.le_refl _, Int.le_refl _⟩
  | false =>
    rw [e1] at h
    dsimp only [cond_false] at h
    cases e4 : (sx_eq c d && sx_le (.ofNat 0) c) with
    | true =>
      rw [e4] at h
      obtain rfl := Option.some.inj h
      obtain ⟨e2, e3⟩ := sx_nd e4
      have e2 := sx_eq_iff.mp e2
      have e3 : 0 ≤ c := sx_le_iff.mp e3
      rw [show y = c by omega]
      exact ⟨Int.mul_le_mul_of_nonneg_right h1 e3, Int.mul_le_mul_of_nonneg_right h2 e3⟩
    | false =>
      rw [e4] at h
      dsimp only [cond_false] at h
      cases e5 : (sx_eq a b && sx_le (.ofNat 0) a) with
      | true =>
        rw [e5] at h
        obtain rfl := Option.some.inj h
        obtain ⟨e2, e3⟩ := sx_nd e5
        have e2 := sx_eq_iff.mp e2
        have e3 : 0 ≤ a := sx_le_iff.mp e3
        rw [show x = a by omega]
        exact ⟨Int.mul_le_mul_of_nonneg_left h3 e3, Int.mul_le_mul_of_nonneg_left h4 e3⟩
      | false => rw [e5] at h; cases h
theorem sx_bit_s {w : sx_w} {Y : sx_Y} {st : List sx_V} {st' : List mj_V} {an : Bool} {k : sx_I → sx_Y → List sx_V → Bool} {g : Int32 → Int32 → Int32} {k' : List mj_V → Prop} (h : sx_bit Y st an g k = true) (hS : sx_RS w st st') (hY : sx_RY w Y) (han : an = true → ∀ (x : Int32) (c : Int), 0 ≤ c → c ≤ 2147483647 → 0 ≤ (g x (Int32.ofInt c)).toInt ∧ (g x (Int32.ofInt c)).toInt ≤ c)
    (kk : ∀ w' x z Y' t t', sx_e w w' → sx_RY w' Y' → sx_RI w' x z → sx_RS w' t t' → k x Y' t = true → k' (.inl z :: t')) : mj_op st' g k' := by
  obtain ⟨y, t, zy, t', rfl, hy, hS, h⟩ := sx_i1_s h hS
  obtain ⟨x, t, zx, t', rfl, hx, hS, h⟩ := sx_i1_s h hS
  obtain ⟨a, b, h, h1, h2⟩ := sx_iv_s h hY hx
  obtain ⟨c, d, h, h3, h4⟩ := sx_iv_s h hY hy
  intro z hz hze
  have full : (sx_ff Y fun x Y => k x Y t) = true → k' (.inl z :: t') := fun hf => by
    obtain ⟨w', x', Y', u1, u2, u3, u4⟩ := sx_ff_s hf hY hz
    exact kk w' x' z Y' t t' u1 u2 u3 (hS.up u1.1) u4
  cases e1 : sx_eq c d with
  | false => rw [e1] at h; exact full h
  | true =>
    rw [e1] at h
    have e1 := sx_eq_iff.mp e1
    have ec : zy = c := by omega
    dsimp only [cond_true] at h
    cases e2 : sx_eq a b with
    | true =>
      rw [e2] at h
      have e2 := sx_eq_iff.mp e2
      dsimp only [cond_true] at h
      rw [sx_fi_eq] at h
      refine kk w _ z Y t t' sx_e.rf hY ?_ hS h
      show (g (Int32.ofInt a) (Int32.ofInt c)).toInt = z
      rw [hze, show zx = a by omega, ec]
    | false =>
      rw [e2] at h
      dsimp only [cond_false] at h
      cases e3 : (an && (sx_le (.ofNat 0) c && sx_le c (.ofNat 2147483647))) with
      | false => rw [e3] at h; exact full h
      | true =>
        rw [e3] at h
        dsimp only [cond_true] at h
        obtain ⟨a1, a2⟩ := sx_nd e3
        obtain ⟨a2, a3⟩ := sx_nd a2
        obtain ⟨b1, b2⟩ := han a1 (Int32.ofInt zx) c (sx_le_iff.mp a2) (sx_le_iff.mp a3)
        rw [ec] at hze
        rw [← hze] at b1 b2
        obtain ⟨w', x', Y', u1, u2, u3, u4⟩ := sx_fr_s h hY b1 b2
        exact kk w' x' z Y' t t' u1 u2 u3 (hS.up u1.1) u4
theorem sx_and_in (x : Int32) (c : Int) (h0 : 0 ≤ c) (h1 : c ≤ 2147483647) : 0 ≤ (x &&& Int32.ofInt c).toInt ∧ (x &&& Int32.ofInt c).toInt ≤ c := by
  have hb : (Int32.ofInt c).toBitVec.toNat = c.toNat := by
    rw [Int32.toBitVec_ofInt, BitVec.toNat_ofInt]
    congr 1
    exact Int.emod_eq_of_lt h0 (by omega)
  have hle : x.toBitVec.toNat &&& c.toNat ≤ c.toNat := Nat.and_le_right
  have e : (x &&& Int32.ofInt c).toInt = ((x.toBitVec.toNat &&& c.toNat : Nat) : Int) := by
    show (x &&& Int32.ofInt c).toBitVec.toInt = _
    rw [Int32.toBitVec_and, BitVec.toInt_eq_toNat_cond, BitVec.toNat_and, hb, if_pos (by omega)]
  rw [e]
  omega
theorem sx_un_s {w : sx_w} {Y : sx_Y} {st : List sx_V} {st' : List mj_V} {k : sx_I → sx_Y → List sx_V → Bool} {g : Int32 → Int32} {k' : List mj_V → Prop} (h : sx_un Y st g k = true) (hS : sx_RS w st st') (hY : sx_RY w Y)
    (kk : ∀ w' x z Y' t t', sx_e w w' → sx_RY w' Y' → sx_RI w' x z → sx_RS w' t t' → k x Y' t = true → k' (.inl z :: t')) : mj_un st' g k' := by
  obtain ⟨x, t, zx, t', rfl, hx, hS, h⟩ := sx_i1_s h hS
  obtain ⟨a, b, h, h1, h2⟩ := sx_iv_s h hY hx
  intro z hz hze
  cases e2 : sx_eq a b with
  | true =>
    rw [e2] at h
    have e2 := sx_eq_iff.mp e2
    dsimp only [cond_true] at h
    rw [sx_fi_eq] at h
    refine kk w _ z Y t t' sx_e.rf hY ?_ hS h
    show (g (Int32.ofInt a)).toInt = z
    rw [hze, show zx = a by omega]
  | false =>
    rw [e2] at h
    obtain ⟨w', x', Y', u1, u2, u3, u4⟩ := sx_ff_s h hY hz
    exact kk w' x' z Y' t t' u1 u2 u3 (hS.up u1.1) u4
theorem sx_tf_s {w : sx_w} {Y : sx_Y} {x : sx_I} {z : Int} (h : sx_tf Y x = true) (hY : sx_RY w Y) (hx : sx_RI w x z) : z = 0 ∨ z = 1 := by
  obtain ⟨a, b, h, h1, h2⟩ := sx_iv_s h hY hx
  obtain ⟨h3, h4⟩ := sx_nd h
  have h3 : 0 ≤ a := sx_le_iff.mp h3
  have h4 : b ≤ 1 := sx_le_iff.mp h4
  omega
theorem sx_swt_s {w : sx_w} {Y : sx_Y} {a b z : Int} {k : Nat → sx_Y → Bool} {x : sx_I} {k' : Nat → Prop} (hY : sx_RY w Y) (hx : sx_RI w x z) (h1 : a ≤ z) (h2 : z ≤ b) (kk : ∀ t Y', sx_RY w Y' → k t Y' = true → k' t) : ∀ (ts : List Nat) (v : Int), sx_swt Y a b k x v ts = true → mj_sw z k' v ts
  | [], _, _ => trivial
  | t :: ts, v, h => by
    obtain ⟨ha, hb⟩ := sx_nd h
    refine ⟨fun e => ?_, sx_swt_s hY hx h1 h2 kk ts (v + 1) hb⟩
    subst e
    have hk := sx_ct ha (by rw [Bool.and_eq_true, sx_le_iff, sx_le_iff]; exact ⟨h1, h2⟩)
    cases x with
    | inl _ => exact kk t Y hY hk
    | inr i => exact kk t _ (hY.set ⟨by rw [hx.2]; exact Int.le_refl _, by rw [hx.2]; exact Int.le_refl _⟩) hk
end
section
/-! ===== one instruction of the symbolic run ===== -/
theorem sx_RS.c {w : sx_w} {x : sx_V} {v : mj_V} {t : List sx_V} {t' : List mj_V} (hS : sx_RS w t t') (hv : sx_RV w x v) : sx_RS w (x :: t) (v :: t') := ⟨v, t', rfl, hv, hS⟩
theorem sx_RI.v {w : sx_w} {x : sx_I} {z : Int} (h : sx_RI w x z) : sx_RV w (.inl x) (.inl z) := ⟨z, rfl, h⟩
theorem sx_RO.v {w : sx_w} {x r : Option Nat} (h : sx_RO w x r) : sx_RV w (.inr (.inr x)) (.inr (.inr r)) := ⟨r, rfl, h⟩
theorem sx_RV.l {w : sx_w} {x : Int64} : sx_RV w (.inr (.inl x)) (.inr (.inl x)) := rfl
def sx_Sem (q : sx_q) (y d : Nat) (rest : List mj_E) (L : sx_L) (st : List sx_V) (cb sb : Nat) (fs : List sx_F) (h : sx_H) (Y : sx_Y) : Prop := ∀ (w : sx_w) (L' : mj_L) (st' : List mj_V) (G : mj_G) (M : mj_M) (Q : mj_P) (Z : mj_S), sx_cz q fs y d Q Z → sx_RL w L L' → sx_RS w st st' → sx_RF q w fs Q → sx_RH w h G M → sx_RY w Y → Z rest L' st' G M cb sb
def sx_ks (q : sx_q) (K : sx_K) : Prop := ∀ y d rest L st cb sb fs h Y, K y d rest L st cb sb fs h Y = true → sx_Sem q y d rest L st cb sb fs h Y
theorem sx_call_s {q : sx_q} {K : sx_K} (hK : sx_ks q K) {y d : Nat} {rest : List mj_E} {L : sx_L} {st : List sx_V} {cb sb : Nat} {fs : List sx_F} {h : sx_H} {Y : sx_Y} {f : Nat} {av : List sx_V} {w : sx_w} {L' : mj_L} {st' av' : List mj_V} {G : mj_G} {M : mj_M} {Q : mj_P} {Z : mj_S} (hk : sx_call K y d rest L st cb sb fs h Y f av = true) (hz : sx_cz q fs y d Q Z) (hL : sx_RL w L L') (hS : sx_RS w st st') (hA : sx_RS w av av') (hF : sx_RF q w fs Q) (hH : sx_RH w h G M) (hY : sx_RY w Y) :
    mj_cat st' ≤ 8 ∧ (sx_ms f).1 ≤ cb ∧ (sx_ms f).2 ≤ sb ∧ mj_R mj_tab d f av' G M fun r G M => Z rest L' (mj_ret r st') G M (cb - (sx_ms f).1) (sb - (sx_ms f).2) := by
  cases d with
  | zero => cases hk
  | succ d =>
    obtain ⟨hc, hk⟩ := sx_cd hk
    obtain ⟨c1, hc⟩ := sx_nd hc
    obtain ⟨c2, hc⟩ := sx_nd hc
    obtain ⟨c3, hc⟩ := sx_nd hc
    obtain ⟨c4, c5⟩ := sx_nd hc
    refine ⟨by rw [← sx_cat_s hS]; exact sx_ble c1, sx_ble c2, sx_ble c3, by rw [← sx_wd_s hA]; exact sx_ble c4, ?_⟩
    intro Z' hZ'
    have hfull : sx_full f = (mj_tab f).2.2.2.2.1 := by unfold sx_full; rw [c5]; rfl
    refine hK _ _ _ _ _ _ _ _ _ _ hk w _ _ G M _ Z' ⟨by rw [hfull]; exact hZ', fun q => by cases q⟩ (sx_en_s _ hA) rfl ⟨L', st', Q, Z, hz, hL, hS, hF, fun r G M h => h⟩ hH hY
theorem sx_back_s {q : sx_q} {K : sx_K} (hK : sx_ks q K) {fs : List sx_F} {h : sx_H} {Y : sx_Y} {w : sx_w} {G : mj_G} {M : mj_M} {Q : mj_P} {r : Option sx_V} {r' : Option mj_V} (hk : sx_back K fs h Y r = true) (hr : match r with
    | none => r' = none
    | some v => ∃ v', r' = some v' ∧ sx_RV w v v') (hF : sx_RF q w fs Q) (hH : sx_RH w h G M) (hY : sx_RY w Y) : Q r' G M := by
  match fs, hk, hF with
  | [], hk, hF =>
    cases r with
    | none => cases hk
    | some v =>
      rcases v with x | x
      · have hk : sx_kn Y x (fun z => sx_eq z (.ofNat 1)) = true := hk
        obtain ⟨v', rfl, z, rfl, hz⟩ := hr
        have hz1 := sx_kn_s hk hY hz
        have := sx_eq_iff.mp hz1
        rw [show z = 1 from this]
        exact hF.1 G M
      · cases hk
  | (y, d, rest, L, st, cb, sb) :: fs, hk, hF =>
    obtain ⟨L', st', Q', Z, z1, z2, z3, z4, z5⟩ := hF
    cases r with
    | none =>
      obtain rfl : r' = none := hr
      exact z5 none G M (hK _ _ _ _ _ _ _ _ _ _ hk w L' st' G M Q' Z z1 z2 z3 z4 hH hY)
    | some v =>
      obtain ⟨v', rfl, hv⟩ := hr
      exact z5 (some v') G M (hK _ _ _ _ _ _ _ _ _ _ hk w L' (v' :: st') G M Q' Z z1 z2 ⟨v', st', rfl, hv, z3⟩ z4 hH hY)
theorem sx_lib_s {w : sx_w} {f : Nat} {Y : sx_Y} {st : List sx_V} {st' : List mj_V} {h : sx_H} {G : mj_G} {M : mj_M} {k : List sx_V → sx_H → Bool} {k' : List mj_V → mj_M → Prop} (hk : sx_lib f Y st h k = true) (hS : sx_RS w st st') (hH : sx_RH w h G M) (hY : sx_RY w Y) (kk : ∀ t t' h' M', k t h' = true → sx_RS w t t' → sx_RH w h' G M' → k' t' M') : mj_lib f st' G M k' := by
  unfold sx_lib at hk
  split at hk
  · obtain ⟨y, t, zy, t', rfl, hy, hS, hk⟩ := sx_i1_s hk hS
    obtain ⟨x, t, zx, t', rfl, hx, hS, hk⟩ := sx_i1_s hk hS
    obtain ⟨h8, hk⟩ := sx_cd hk
    have hk := sx_kn_s (sx_kn_s hk hY hx) hY hy
    refine ⟨by rw [← sx_cat_s hS]; exact sx_ble h8, fun z h1 h2 => kk _ _ h M hk (hS.c (sx_RI.v ?_)) hH⟩
    show cond (sx_le zy zx) zx zy = z
    cases e : sx_le zy zx with
    | true => have := sx_le_iff.mp e; rw [h2 (by omega)]; rfl
    | false => have := sx_le_no (x := zy) (y := zx) (by rw [e]; exact Bool.false_ne_true); rw [h1 this]; rfl
  · obtain ⟨y, t, zy, t', rfl, hy, hS, hk⟩ := sx_i1_s hk hS
    obtain ⟨x, t, zx, t', rfl, hx, hS, hk⟩ := sx_i1_s hk hS
    obtain ⟨h8, hk⟩ := sx_cd hk
    have hk := sx_kn_s (sx_kn_s hk hY hx) hY hy
    refine ⟨by rw [← sx_cat_s hS]; exact sx_ble h8, fun z h1 h2 => kk _ _ h M hk (hS.c (sx_RI.v ?_)) hH⟩
    show cond (sx_le zx zy) zx zy = z
    cases e : sx_le zx zy with
    | true => have := sx_le_iff.mp e; rw [h2 (by omega)]; rfl
    | false => have := sx_le_no (x := zx) (y := zy) (by rw [e]; exact Bool.false_ne_true); rw [h1 this]; rfl
  · obtain ⟨n, t, zn, t', rfl, hn, hS, hk⟩ := sx_i1_s hk hS
    obtain ⟨dp, t, zd, t', rfl, hd, hS, hk⟩ := sx_i1_s hk hS
    obtain ⟨b, t, t', rfl, hb, hS, hk⟩ := sx_a1_s hk hS
    obtain ⟨sp, t, zs, t', rfl, hs, hS, hk⟩ := sx_i1_s hk hS
    obtain ⟨a, t, t', rfl, ha, hS, hk⟩ := sx_a1_s hk hS
    have hk := sx_kn_s (sx_kn_s (sx_kn_s hk hY hn) hY hd) hY hs
    rw [sx_cl_eq, sx_cl_eq] at hk
    obtain ⟨hc, hk⟩ := sx_cd hk
    obtain ⟨c1, hc⟩ := sx_nd hc
    obtain ⟨c2, hc⟩ := sx_nd hc
    obtain ⟨c3, hc⟩ := sx_nd hc
    obtain ⟨c4, hc⟩ := sx_nd hc
    obtain ⟨c5, hc⟩ := sx_nd hc
    obtain ⟨c6, hc⟩ := sx_nd hc
    obtain ⟨c7, hc⟩ := sx_nd hc
    obtain ⟨c8, hc⟩ := sx_nd hc
    obtain ⟨c9, hc⟩ := sx_nd hc
    obtain ⟨c10, c11⟩ := sx_nd hc
    have c4 : 0 ≤ zs := sx_le_iff.mp c4
    have c5 : 0 ≤ zd := sx_le_iff.mp c5
    have c6 : 0 ≤ zn := sx_le_iff.mp c6
    have c7 := sx_ble c7
    have c8 := sx_ble c8
    have c9 := sx_ble c9
    have c10 := sx_ble c10
    obtain ⟨u, u1, hk⟩ := sx_cpa_s _ hk (by omega)
    rw [sx_pt_eq] at hk
    obtain ⟨a1, a2, a3⟩ := hH.2.2.1 a (by rw [hH.1]; exact ha)
    obtain ⟨b1, b2, b3⟩ := hH.2.2.1 b (by rw [hH.1]; exact hb)
    refine ⟨_, _, a1, sx_beq c1, _, _, b1, sx_beq c2, sx_blt c3, c4, c5, c6, by omega, by omega, by rw [← sx_cat_s hS]; exact sx_ble c11, kk _ _ _ _ hk hS (hH.put hb ⟨b1, b2, fun q hq => ⟨?_, (b3 q hq).2⟩⟩ (fun x hx => ⟨fun k => ?_, fun _ => rfl, fun _ => rfl⟩))⟩
    · show sx_RI w (sx_g u q) (if w.2.2.2 b = w.2.2.2 b ∧ zd.toNat ≤ q ∧ q < zd.toNat + zn.toNat then M.1 (w.2.2.2 a) (zs.toNat + (q - zd.toNat)) else M.1 (w.2.2.2 b) q)
      rw [u1 q hq]
      by_cases e : zd.toNat ≤ q ∧ q < zd.toNat + zn.toNat
      · rw [if_pos e, if_pos ⟨rfl, e⟩]; exact (a3 _ (by omega)).1
      · rw [if_neg e, if_neg (fun v => e v.2)]; exact (b3 q hq).1
    · show (if x = w.2.2.2 b ∧ zd.toNat ≤ k ∧ k < zd.toNat + zn.toNat then M.1 (w.2.2.2 a) (zs.toNat + (k - zd.toNat)) else M.1 x k) = M.1 x k
      rw [if_neg (fun v => hx v.1)]
  · obtain ⟨n, t, zn, t', rfl, hn, hS, hk⟩ := sx_i1_s hk hS
    obtain ⟨dp, t, zd, t', rfl, hd, hS, hk⟩ := sx_i1_s hk hS
    obtain ⟨b, t, t', rfl, hb, hS, hk⟩ := sx_a1_s hk hS
    obtain ⟨sp, t, zs, t', rfl, hs, hS, hk⟩ := sx_i1_s hk hS
    obtain ⟨a, t, t', rfl, ha, hS, hk⟩ := sx_a1_s hk hS
    have hk := sx_kn_s (sx_kn_s (sx_kn_s hk hY hn) hY hd) hY hs
    rw [sx_cl_eq, sx_cl_eq] at hk
    obtain ⟨hc, hk⟩ := sx_cd hk
    obtain ⟨c1, hc⟩ := sx_nd hc
    obtain ⟨c2, hc⟩ := sx_nd hc
    obtain ⟨c3, hc⟩ := sx_nd hc
    obtain ⟨c4, hc⟩ := sx_nd hc
    obtain ⟨c5, hc⟩ := sx_nd hc
    obtain ⟨c6, hc⟩ := sx_nd hc
    obtain ⟨c7, hc⟩ := sx_nd hc
    obtain ⟨c8, hc⟩ := sx_nd hc
    obtain ⟨c9, hc⟩ := sx_nd hc
    obtain ⟨c10, c11⟩ := sx_nd hc
    have c4 : 0 ≤ zs := sx_le_iff.mp c4
    have c5 : 0 ≤ zd := sx_le_iff.mp c5
    have c6 : 0 ≤ zn := sx_le_iff.mp c6
    have c7 := sx_ble c7
    have c8 := sx_ble c8
    have c9 := sx_ble c9
    have c10 := sx_ble c10
    obtain ⟨u, u1, hk⟩ := sx_cpa_s _ hk (by omega)
    rw [sx_pt_eq] at hk
    obtain ⟨a1, a2, a3⟩ := hH.2.2.1 a (by rw [hH.1]; exact ha)
    obtain ⟨b1, b2, b3⟩ := hH.2.2.1 b (by rw [hH.1]; exact hb)
    refine ⟨_, _, a1, sx_beq c1, _, _, b1, sx_beq c2, sx_blt c3, c4, c5, c6, by omega, by omega, by rw [← sx_cat_s hS]; exact sx_ble c11, kk _ _ _ _ hk hS (hH.put hb ⟨b1, b2, fun q hq => ⟨(b3 q hq).1, ?_, (b3 q hq).2.2⟩⟩ (fun x hx => ⟨fun _ => rfl, fun k => ?_, fun _ => rfl⟩))⟩
    · show (if w.2.2.2 b = w.2.2.2 b ∧ zd.toNat ≤ q ∧ q < zd.toNat + zn.toNat then M.2.1 (w.2.2.2 a) (zs.toNat + (q - zd.toNat)) else M.2.1 (w.2.2.2 b) q) = sx_g u q
      rw [u1 q hq]
      by_cases e : zd.toNat ≤ q ∧ q < zd.toNat + zn.toNat
      · rw [if_pos e, if_pos ⟨rfl, e⟩]; exact (a3 _ (by omega)).2.1
      · rw [if_neg e, if_neg (fun v => e v.2)]; exact (b3 q hq).2.1
    · show (if x = w.2.2.2 b ∧ zd.toNat ≤ k ∧ k < zd.toNat + zn.toNat then M.2.1 (w.2.2.2 a) (zs.toNat + (k - zd.toNat)) else M.2.1 x k) = M.2.1 x k
      rw [if_neg (fun v => hx v.1)]
  · cases hk
theorem sx_get_s {w : sx_w} {ci fk : Nat} {st : List sx_V} {st' : List mj_V} {h : sx_H} {G : mj_G} {M : mj_M} {k : List sx_V → Bool} {k' : List mj_V → Prop} (hk : sx_get ci fk st h k = true) (hS : sx_RS w st st') (hH : sx_RH w h G M) (kk : ∀ t t', k t = true → sx_RS w t t' → k' t') : mj_get ci fk st' G M k' := by
  obtain ⟨hf, hk⟩ := sx_cd hk
  have hf := sx_blt hf
  obtain ⟨i, t, t', rfl, hi, hS, hk⟩ := sx_a1_s hk hS
  rw [sx_cl_eq] at hk
  obtain ⟨ht, hk⟩ := sx_cd hk
  obtain ⟨c1, c2, c3⟩ := hH.2.2.1 i (by rw [hH.1]; exact hi)
  obtain ⟨d1, d2, d3⟩ := c3 fk hf
  refine ⟨_, _, c1, sx_beq ht, ?_⟩
  split at hk
  · rename_i e
    rw [e]
    exact kk _ _ hk (hS.c d1.v)
  · rename_i e
    rw [e]
    exact kk _ _ hk (hS.c (by rw [← d2]; exact sx_RV.l))
  · rename_i e1 e2
    have hg : mj_rf (M.2.2 (w.2.2.2 i) fk) fun v => k' (v :: t') := ⟨fun b hb => kk _ _ hk (hS.c (sx_RO.v (hb ▸ d3))), fun hb => kk _ _ hk (hS.c (sx_RO.v (hb ▸ d3)))⟩
    split
    · rename_i e; exact absurd e e1
    · rename_i e; exact absurd e e2
    · exact hg
theorem sx_wr_s {w : sx_w} {h : sx_H} {i s : Nat} {k : Bool} {G : mj_G} {M : mj_M} (hk : sx_wr h i s k = true) (hH : sx_RH w h G M) (hi : i < w.2.2.1) : (∃ t n, G (w.2.2.2 i) = (t, n) ∧ t % 1000 = s ∧ t < 900000) ∧ k = true := by
  unfold sx_wr at hk
  rw [sx_cl_eq] at hk
  obtain ⟨hc, hk⟩ := sx_cd hk
  obtain ⟨h1, h2⟩ := sx_nd hc
  obtain ⟨c1, c2, c3⟩ := hH.2.2.1 i (by rw [hH.1]; exact hi)
  exact ⟨⟨_, _, c1, sx_beq h1, sx_blt h2⟩, hk⟩
theorem sx_put_s {w : sx_w} {ci fk : Nat} {Y : sx_Y} {st : List sx_V} {st' : List mj_V} {h : sx_H} {G : mj_G} {M : mj_M} {k : List sx_V → sx_H → Bool} {k' : List mj_V → mj_M → Prop} (hk : sx_put ci fk Y st h k = true) (hS : sx_RS w st st') (hH : sx_RH w h G M) (hY : sx_RY w Y) (kk : ∀ t t' h' M', k t h' = true → sx_RS w t t' → sx_RH w h' G M' → k' t' M') : mj_put ci fk st' G M k' := by
  unfold sx_put at hk
  unfold mj_put
  split at hk
  · rename_i e
    rw [e]
    obtain ⟨x, t, z, t', rfl, hx, hS, hk⟩ := sx_i1_s hk hS
    obtain ⟨i, t, t', rfl, hi, hS, hk⟩ := sx_a1_s hk hS
    obtain ⟨⟨tt, n, g1, g2, g3⟩, hk⟩ := sx_wr_s hk hH hi
    obtain ⟨hb, hk⟩ := sx_nd hk
    obtain ⟨h', u1, u2⟩ := sx_p0_s hk hH hi hx
    refine ⟨tt, n, g1, g2, g3, fun q => ?_, kk _ _ _ _ u2 hS u1⟩
    rw [q] at hb
    exact sx_tf_s hb hY hx
  · rename_i e
    rw [e]
    obtain ⟨x, t, t', rfl, hS, hk⟩ := sx_l1_s hk hS
    obtain ⟨i, t, t', rfl, hi, hS, hk⟩ := sx_a1_s hk hS
    obtain ⟨⟨tt, n, g1, g2, g3⟩, hk⟩ := sx_wr_s hk hH hi
    obtain ⟨h', u1, u2⟩ := sx_p1_s hk hH hi
    exact ⟨tt, n, g1, g2, g3, kk _ _ _ _ u2 hS u1⟩
  · rename_i e1 e2
    obtain ⟨x, t, z, t', rfl, hx, hS, hk⟩ := sx_r1_s hk hS
    obtain ⟨i, t, t', rfl, hi, hS, hk⟩ := sx_a1_s hk hS
    obtain ⟨⟨tt, n, g1, g2, g3⟩, hk⟩ := sx_wr_s hk hH hi
    obtain ⟨h', u1, u2⟩ := sx_p2_s hk hH hi hx
    split
    · rename_i e; exact absurd e e1
    · rename_i e; exact absurd e e2
    · exact ⟨tt, n, g1, g2, g3, kk _ _ _ _ u2 hS u1⟩
end
