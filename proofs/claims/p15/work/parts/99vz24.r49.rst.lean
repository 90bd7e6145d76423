/-! ===== restore of the reference, undoMany told ===== -/
theorem r_restore6 {d m s kp ik : Nat} {kz : Int} {G : mj_G} {M : mj_M} {Q : mj_P} (hm : G m = (1012, 0)) (hs : G s = (51100, 537)) (hkp : G kp = (70100, 1076)) (hik : G ik = (72102, 2)) (h6 : M.2.2 m 6 = some s) (h59 : M.2.2 m 59 = some kp) (h61 : M.2.2 m 61 = some ik) (hI : ab_Inv G M)
    (hQ0 : (¬ (0 ≤ kz ∧ kz ≤ 1) ∨ ∃ k : Nat, kz = (k : Int) ∧ k ≤ 1 ∧ M.1 ik k = 0) → Q (some (.inl 0)) G (mj_p0 M m 0 0))
    (hQ1 : ∀ (k : Nat) M', kz = (k : Int) → k ≤ 1 → M.1 ik k ≠ 0 → ab_Inv G M' → M'.2.2 = M.2.2 → ab_frm hn_WR G M M' → (∀ p, p < 537 → M'.1 s p = M.1 kp (538 * k + p)) → M'.1 m 28 = 0 → Q (some (.inl 1)) G M') : mj_R mj_tab (d + 2) 235 [.inr (.inr (some m)), .inl kz] G M Q := by
  have i0 : ab_Inv G (mj_p0 M m 0 0) := hI.p0 (by rw [hm]; exact ⟨by decide, by decide⟩)
  have a1 : m ≠ s := hn_ne hm hs (by decide)
  have a2 : m ≠ kp := hn_ne hm hkp (by decide)
  have a3 : m ≠ ik := hn_ne hm hik (by decide)
  obtain ⟨nm, h9, hnm⟩ := hn_rf (k := 9) (q := (54103, 16)) hI hm rfl (by decide) (by decide) (by decide) (fun e => absurd e (by decide))
  obtain ⟨nk, h60, hnk⟩ := hn_rf (k := 60) (q := (71103, 16)) hI hm rfl (by decide) (by decide) (by decide) (fun e => absurd e (by decide))
  have P15 : ∀ (k : Nat) (cb sb : Nat), kz = (k : Int) → k ≤ 1 → M.1 ik k ≠ 0 → mj_W sx_ms (mj_R mj_tab (d + 1)) mt_X12_restore.2.2.2.2.1 Q (mt_X12_restore.2.2.2.2.1.drop 15) [some (.inr (.inr (some m))), some (.inl (k : Int)), none] [] G (mj_p0 M m 0 0) cb sb := by
    intro k cb sb ek hk hik0
    refine mj_W.run (mj_R_mo _ _) 2 ?_
    refine r_restore_1 (d := d) (M0 := mj_p0 M m 0 0) hm hs hkp h6 h59 hk i0 (fun M2 cb sb C2 => ?_) 537 0 _ cb sb rfl ⟨i0, rfl, fun _ _ _ => rfl, fun _ _ => rfl, fun p hp => absurd hp (by omega)⟩
    obtain ⟨c1, c2, c3, c4, c5⟩ := C2
    have r59 : M2.2.2 m 59 = some kp := by rw [c2]; exact h59
    have r9 : M2.2.2 m 9 = some nm := by rw [c2]; exact h9
    have r60 : M2.2.2 m 60 = some nk := by rw [c2]; exact h60
    have fin : ∀ (v : Int), mj_in v → ∀ cb sb : Nat, mj_W sx_ms (mj_R mj_tab (d + 1)) mt_X12_restore.2.2.2.2.1 Q (mt_X12_restore.2.2.2.2.1.drop 46) [some (.inr (.inr (some m))), some (.inl (k : Int)), some (.inl 0)] [] G (mj_p0 M2 m 25 v) cb sb := by
      intro v hv cb sb
      have i3 : ab_Inv G (mj_p0 M2 m 25 v) := c1.p0 (by
        rw [hm]
        exact hn_ii hv)
      refine r_restore_2 (d := d) (M0 := mj_p0 M2 m 25 v) hm hnm hnk r9 r60 hk (fun M4 cb sb e1 e2 e5 => ?_) 8 0 _ cb sb rfl rfl rfl (fun _ _ _ => rfl)
      have i4 : ab_Inv G M4 := hn_L i3 e1 e2 e5
      have end1 : Q (some (.inl 1)) G (mj_p0 M4 m 28 0) := by
        have o1 : ∀ x q, x ≠ s → ¬ (x = m ∧ q = 25) → M4.1 x q = (mj_p0 M m 0 0).1 x q := fun x q hx h25 => by rw [e1]; exact (show (mj_p0 M2 m 25 v).1 x q = M2.1 x q from if_neg h25).trans (c3 x q hx)
        refine hQ1 k _ ek hk hik0 (i4.p0 (by rw [hm]; exact ⟨by decide, by decide⟩)) (by show M4.2.2 = M.2.2; rw [e2]; show M2.2.2 = M.2.2; rw [c2]; rfl) ?_ (fun q hq => ?_) hn_s
        · intro x q hn
          have x1 : ¬ (x = m ∧ q = 0) := fun e => hn ⟨(1012, 0, 0), by decide, by rw [e.1, hm], by rw [e.2]; decide, by rw [e.2]; decide⟩
          have x2 : ¬ (x = m ∧ q = 25) := fun e => hn ⟨(1012, 25, 25), by decide, by rw [e.1, hm], by rw [e.2]; decide, by rw [e.2]; decide⟩
          have x3 : ¬ (x = m ∧ q = 28) := fun e => hn ⟨(1012, 28, 28), by decide, by rw [e.1, hm], by rw [e.2]; decide, by rw [e.2]; decide⟩
          have x4 : ¬ (x = s ∧ q ≤ 536) := fun e => hn ⟨(51100, 0, 536), by decide, by rw [e.1, hs], Nat.zero_le _, e.2⟩
          refine ⟨?_, by show M4.2.2 x q = _; rw [e2]; show M2.2.2 x q = _; rw [c2]; rfl⟩
          have z1 : (mj_p0 M4 m 28 0).1 x q = M4.1 x q := if_neg x3
          have z0 : (mj_p0 M m 0 0).1 x q = M.1 x q := if_neg x1
          rw [z1]
          by_cases ex : x = s
          · subst ex
            rw [e1]
            have hq : 537 ≤ q := by
              by_cases g : q ≤ 536
              · exact absurd ⟨rfl, g⟩ x4
              · omega
            exact (hn_n (Or.inl a1.symm)).trans ((c4 q (by omega)).trans z0)
          · exact (o1 x q ex x2).trans z0
        · refine (hn_n (Or.inl a1.symm)).trans ?_
          rw [e1]
          have c5 := c5 q hq
          rw [Nat.zero_add] at c5
          exact (hn_n (Or.inl a1.symm)).trans (c5.trans (hn_n (Or.inl a2.symm)))
      refine mj_W.run (mj_R_mo _ _) 10 ?_
      refine hn_pi (fk := 28) (List.cons_ne_nil _ _) rfl rfl rfl hm (fun q => by cases q) ?_
      exact ⟨rfl, fun _ => Or.inr rfl, end1⟩
    refine mj_W.run (mj_R_mo _ _) 12 ?_
    refine hn_gr (fk := 59) (List.cons_ne_nil _ _) rfl rfl rfl hm r59 ?_
    refine Or.inl ⟨⟨by show (-2147483648 : Int) ≤ (538 : Int) * (k : Int); omega, by show (538 : Int) * (k : Int) < (2147483648 : Int); omega⟩, ?_⟩
    refine Or.inl ⟨⟨by show (-2147483648 : Int) ≤ (538 : Int) * (k : Int) + 537; omega, by show (538 : Int) * (k : Int) + 537 < (2147483648 : Int); omega⟩, ?_⟩
    refine ⟨70100, 1076, hkp, rfl, by show (0 : Int) ≤ (538 : Int) * (k : Int) + 537; omega, by show (538 : Int) * (k : Int) + 537 < ((1076 : Nat) : Int); omega, ?_⟩
    refine hn_pi (fk := 25) (List.cons_ne_nil _ _) rfl rfl rfl hm (fun q => by cases q) ?_
    exact fin _ (c1.mj kp _) _ _
  refine ⟨Nat.le_of_ble_eq_true rfl, mj_W.run (mj_R_mo _ _) 20 ?_⟩
  refine hn_pi (fk := 0) (List.cons_ne_nil _ _) rfl rfl rfl hm (fun q => by cases q) ?_
  refine ⟨List.cons_ne_nil _ _, Nat.le_of_ble_eq_true rfl, Nat.zero_le _, Nat.zero_le _, ?_⟩
  refine r_isIn (fun g1 g2 => ?_) (fun g => ?_)
  · refine ⟨fun c1 => absurd (show (1 : Int) = 0 from c1) (by decide), fun _ => ?_⟩
    obtain ⟨k, rfl⟩ : ∃ k : Nat, kz = (k : Int) := ⟨kz.toNat, by omega⟩
    refine hn_gr (fk := 61) (List.cons_ne_nil _ _) rfl rfl rfl hm h61 ?_
    refine Or.inr ⟨72102, 2, hik, rfl, by show (0 : Int) ≤ (k : Int); omega, by show (k : Int) < ((2 : Nat) : Int); omega, ?_⟩
    have e : (mj_p0 M m 0 0).1 ik ((k : Int)).toNat = M.1 ik k := hn_n (Or.inl a3.symm)
    refine ⟨fun c2 => mj_W.stay (mj_R_mo _ _) _ (P15 k _ _ rfl (by omega) (by
      have c2 : (mj_p0 M m 0 0).1 ik ((k : Int)).toNat ≠ 0 := c2
      rw [e] at c2
      exact c2)), fun c2 => ⟨rfl, fun _ => Or.inl rfl, hQ0 (Or.inr ⟨k, rfl, by omega, ?_⟩)⟩⟩
    have c2 : ¬ (mj_p0 M m 0 0).1 ik ((k : Int)).toNat ≠ 0 := c2
    rw [e] at c2
    omega
  · exact ⟨fun _ => ⟨rfl, fun _ => Or.inl rfl, hQ0 (Or.inl g)⟩, fun c1 => absurd (show (0 : Int) = 0 from rfl) c1⟩
theorem lc_X12_restore6 {d x m tp s kp ik : Nat} {z1 : Int} {G : mj_G} {M : mj_M} {Q : mj_P} (hV : lw_V G M x m tp s kp) (hik : G ik = (72102, 2)) (h61 : M.2.2 m 61 = some ik) (hQ : ∀ z M', lw_V G M' x m tp s kp → (M'.1 tp 1 = M.1 tp 1 ∧ M'.1 m 2 = M.1 m 2) → ab_frm hn_WR G M M' → (((¬ (0 ≤ z1 ∧ z1 ≤ 1) ∨ M.1 ik z1.toNat = 0) ∧ z = 0 ∧ M'.1 s = M.1 s ∧ M'.1 m 28 = M.1 m 28) ∨ (∃ k : Nat, k ≤ 1 ∧ z1 = (k : Int) ∧ M.1 ik k ≠ 0 ∧ z = 1 ∧ (∀ p, p < 537 → M'.1 s p = M.1 kp (538 * k + p)) ∧ M'.1 m 28 = 0)) → Q (some (.inl z)) G M') : mj_R mj_tab (d + 31) 235 [.inr (.inr (some m)), .inl z1] G M Q := by
  obtain ⟨hI, ⟨g1, g2, g3, g4, g5⟩, ⟨r1, r2, r3⟩, f1, f2, f3⟩ := id hV
  refine r_restore6 (d := d + 29) g2 g4 g5 hik r2 r3 h61 hI (fun c0 => ?_) (fun k M' ek hk k0 i e22 f h1 u0 => ?_)
  · have f0 : ab_frm [(1012, 0, 0)] G M (mj_p0 M m 0 0) := hn_f0 ab_frm.rf ⟨(1012, 0, 0), by decide, by rw [g2], by decide, by decide⟩
    exact hQ 0 _ (hV.fr (hI.p0 (by rw [g2]; exact ⟨by decide, by decide⟩)) f0 (by decide)) (hV.sz f0 (by decide)) (hn_up f0 (by decide)) (Or.inl ⟨c0.imp id (fun ⟨k, e1, e2, e3⟩ => by rw [e1]; exact e3), rfl, wz_c (hn_ne g4 g2 (by decide)), hn_n (Or.inr (by decide))⟩)
  · have hF : hn_F M' s 356 := by
      by_cases e : k = 0
      · subst e
        exact f2.mv (lw_45k (k := 0) hI g5 (by decide)) (fun j hj => by have := h1 (356 + j) (by omega); rw [Nat.mul_zero, Nat.zero_add] at this; exact this)
      · have e1 : k = 1 := by omega
        subst e1
        exact f3.mv (lw_45k (k := 1) hI g5 (by decide)) (fun j hj => by have := h1 (356 + j) (by omega); rw [show 538 * 1 + (356 + j) = 894 + j by omega] at this; exact this)
    exact hQ 1 M' (hV.fs i f (by decide) hF).1 (hV.sz f (by decide)) f (Or.inr ⟨k, hk, ek, k0, rfl, h1, u0⟩)
