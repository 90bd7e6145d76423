/-! ===== by hand: image and restore of the reference ===== -/
theorem r_isIn {d : Nat} {v lo hi : Int} {G : mj_G} {M : mj_M} {Q : mj_P} (h1 : lo ≤ v → v ≤ hi → Q (some (.inl 1)) G M) (h2 : ¬ (lo ≤ v ∧ v ≤ hi) → Q (some (.inl 0)) G M) : mj_R mj_tab (d + 1) 198 [.inl v, .inl lo, .inl hi] G M Q := by
  refine ⟨Nat.le_of_ble_eq_true rfl, mj_W.run (mj_R_mo _ _) 20 ?_⟩
  refine ⟨fun c1 => ⟨rfl, fun _ => Or.inl rfl, h2 (fun e => ?_)⟩, fun c1 => ⟨fun c2 => ⟨rfl, fun _ => Or.inl rfl, h2 (fun e => ?_)⟩, fun c2 => ⟨rfl, fun _ => Or.inr rfl, h1 (Int.not_lt.mp c1) (Int.not_lt.mp c2)⟩⟩⟩
  · have c1 : v < lo := c1
    omega
  · have c2 : hi < v := c2
    omega
theorem hn_rk0 (p : Nat) : ab_rg 70100 p = cond (Nat.blt (Nat.mod p 538) 537) (ab_s (Nat.mod p 538)) ab_ii := by
  have ct : ∀ (x y : Int × Int), cond true x y = x := fun _ _ => rfl
  have cf : ∀ (x y : Int × Int), cond false x y = y := fun _ _ => rfl
  unfold ab_rg
  rw [show ab_per 70100 = true by decide, ct]
  unfold ab_rgp
  rw [show (Nat.beq 70100 51100 || Nat.beq 70100 52100) = false by decide, cf, show Nat.beq 70100 64100 = false by decide, cf, show Nat.beq 70100 70100 = true by decide, ct]
theorem hn_rk {k i : Nat} (hk : k ≤ 1) (hi : i < 537) : ab_rg 70100 (538 * k + i) = ab_s i := by
  rw [hn_rk0]
  have e : Nat.mod (538 * k + i) 538 = i := by
    show (538 * k + i) % 538 = i
    omega
  rw [e]
  have e2 : Nat.blt i 537 = true := Nat.ble_eq_true_of_le hi
  rw [e2]
  exact (fun (x y : Int × Int) => (rfl : cond true x y = x)) _ _
theorem hn_rk2 {k : Nat} (hk : k ≤ 1) : ab_rg 70100 (538 * k + 537) = ab_ii := by
  rw [hn_rk0]
  have e : Nat.mod (538 * k + 537) 538 = 537 := by
    show (538 * k + 537) % 538 = 537
    omega
  rw [e, show Nat.blt 537 537 = false by decide]
  exact (fun (x y : Int × Int) => (rfl : cond false x y = y)) _ _
/-- i ints of b, from off on, are copied to a, from base on -/
def hn_C (G : mj_G) (M0 M1 : mj_M) (a b base off i : Nat) : Prop := ab_Inv G M1 ∧ M1.2 = M0.2 ∧ (∀ x q, x ≠ a → M1.1 x q = M0.1 x q) ∧ (∀ q, q < base ∨ base + i ≤ q → M1.1 a q = M0.1 a q) ∧ ∀ p, p < i → M1.1 a (base + p) = M0.1 b (off + p)
theorem hn_C.st {G : mj_G} {M0 M1 : mj_M} {a b base off i : Nat} (h : hn_C G M0 M1 a b base off i) (hr : (ab_rg (G a).1 (base + i)).1 ≤ M0.1 b (off + i) ∧ M0.1 b (off + i) ≤ (ab_rg (G a).1 (base + i)).2) : hn_C G M0 (mj_p0 M1 a (base + i) (M0.1 b (off + i))) a b base off (i + 1) := by
  obtain ⟨h1, h2, h3, h4, h5⟩ := h
  refine ⟨h1.p0 hr, h2, fun x q hx => (hn_n (Or.inl hx)).trans (h3 x q hx), fun q hq => (hn_n (Or.inr (by omega))).trans (h4 q (by omega)), fun p hp => ?_⟩
  by_cases e : p = i
  · subst e; exact hn_s
  · exact (hn_n (Or.inr (by omega))).trans (h5 p (by omega))
theorem hn_L {G : mj_G} {M M' : mj_M} (h : ab_Inv G M) (e1 : M'.1 = M.1) (e2 : M'.2.2 = M.2.2) (e5 : ∀ a k, (G a).1 = 55103 → M'.2.1 a k = M.2.1 a k) : ab_Inv G M' := by
  unfold ab_Inv at h ⊢
  rw [e1, e2]
  exact ⟨h.1, h.2.1, h.2.2.1, h.2.2.2.1, fun a k ha hk => (e5 a k ha).trans (h.2.2.2.2 a k ha hk)⟩
abbrev hn_WI : List (Nat × Nat × Nat) := [(1012, 0, 0), (70100, 0, 1075), (72102, 0, 1)]
abbrev hn_WR : List (Nat × Nat × Nat) := [(1012, 0, 0), (1012, 25, 25), (1012, 28, 28), (51100, 0, 536)]
set_option maxRecDepth 100000 in
theorem r_image_1 {d m s kp k : Nat} {G : mj_G} {M0 : mj_M} {Q : mj_P} (hm : G m = (1012, 0)) (hs : G s = (51100, 537)) (hkp : G kp = (70100, 1076)) (h6 : M0.2.2 m 6 = some s) (h59 : M0.2.2 m 59 = some kp) (hk : k ≤ 1) (hI : ab_Inv G M0)
    (hK : ∀ M2 cb sb, hn_C G M0 M2 kp s (538 * k) 0 537 → mj_W sx_ms (mj_R mj_tab (d + 1)) mt_X12_image.2.2.2.2.1 Q (mt_X12_image.2.2.2.2.1.drop 29) [some (.inr (.inr (some m))), some (.inl (k : Int)), some (.inl ((537 : Nat) : Int))] [] G M2 cb sb) : ∀ (j i : Nat) (M1 : mj_M) (cb sb : Nat), i + j = 537 → hn_C G M0 M1 kp s (538 * k) 0 i → mj_W sx_ms (mj_R mj_tab (d + 1)) mt_X12_image.2.2.2.2.1 Q (mt_X12_image.2.2.2.2.1.drop 12) [some (.inr (.inr (some m))), some (.inl (k : Int)), some (.inl (i : Int))] [] G M1 cb sb := by
  have n1 : s ≠ kp := hn_ne hs hkp (by decide)
  intro j
  induction j with
  | zero =>
    intro i M1 cb sb hi C1
    have hi : i = 537 := by omega
    subst hi
    refine mj_W.run (mj_R_mo _ _) 10 ?_
    exact ⟨fun _ => mj_W.stay (mj_R_mo _ _) _ (hK M1 _ _ C1), fun c1 => absurd (show (537 : Int) ≤ ((537 : Nat) : Int) by decide) c1⟩
  | succ j ih =>
    intro i M1 cb sb hi C1
    have r6 : M1.2.2 m 6 = some s := by rw [C1.2.1]; exact h6
    have r59 : M1.2.2 m 59 = some kp := by rw [C1.2.1]; exact h59
    have fin : ∀ (p : Nat) (v z : Int), p = 538 * k + i → v = M0.1 s (0 + i) → z = ((i + 1 : Nat) : Int) → ∀ cb sb : Nat, mj_W sx_ms (mj_R mj_tab (d + 1)) mt_X12_image.2.2.2.2.1 Q (mt_X12_image.2.2.2.2.1.drop 12) [some (.inr (.inr (some m))), some (.inl (k : Int)), some (.inl z)] [] G (mj_p0 M1 kp p v) cb sb := by
      intro p v z e1 e2 e3 cb sb
      subst e1 e2 e3
      refine ih (i + 1) _ cb sb (by omega) (C1.st ?_)
      have r := hI.1 s (0 + i)
      rw [hs] at r
      rw [hkp]
      show (ab_rg 70100 (538 * k + i)).1 ≤ _ ∧ _ ≤ (ab_rg 70100 (538 * k + i)).2
      rw [hn_rk hk (by omega)]
      rw [Nat.zero_add] at r ⊢
      exact r
    refine mj_W.run (mj_R_mo _ _) 17 ?_
    refine ⟨fun c1 => absurd (show (537 : Int) ≤ (i : Int) from c1) (by omega), fun c1 => ?_⟩
    refine hn_gr (fk := 59) (List.cons_ne_nil _ _) rfl rfl rfl hm r59 ?_
    refine Or.inl ⟨⟨by show (-2147483648 : Int) ≤ (538 : Int) * (k : Int); omega, by show (538 : Int) * (k : Int) < (2147483648 : Int); omega⟩, ?_⟩
    refine Or.inl ⟨⟨by show (-2147483648 : Int) ≤ (538 : Int) * (k : Int) + (i : Int); omega, by show (538 : Int) * (k : Int) + (i : Int) < (2147483648 : Int); omega⟩, ?_⟩
    refine hn_gr (fk := 6) (List.cons_ne_nil _ _) rfl rfl rfl hm r6 ?_
    refine ⟨51100, 537, hs, rfl, by show (0 : Int) ≤ (i : Int); omega, by show (i : Int) < ((537 : Nat) : Int); omega, ?_⟩
    refine ⟨70100, 1076, hkp, rfl, by decide, by show (0 : Int) ≤ (538 : Int) * (k : Int) + (i : Int); omega, by show (538 : Int) * (k : Int) + (i : Int) < ((1076 : Nat) : Int); omega, ?_⟩
    refine Or.inl ⟨⟨by show (-2147483648 : Int) ≤ (i : Int) + 1; omega, by show (i : Int) + 1 < (2147483648 : Int); omega⟩, ?_⟩
    exact fin _ _ _ (show ((538 : Int) * (k : Int) + (i : Int)).toNat = _ by omega) (show M1.1 s ((i : Int)).toNat = _ by rw [C1.2.2.1 _ _ n1, Nat.zero_add]; rfl) (show (i : Int) + 1 = _ by omega) _ _
set_option maxRecDepth 100000 in
theorem r_image_2 {d m nm nk k : Nat} {G : mj_G} {M0 : mj_M} {Q : mj_P} (hm : G m = (1012, 0)) (hnm : G nm = (54103, 16)) (hnk : G nk = (71103, 16)) (h9 : M0.2.2 m 9 = some nm) (h60 : M0.2.2 m 60 = some nk) (hk : k ≤ 1)
    (hK : ∀ M2 cb sb, M2.1 = M0.1 → M2.2.2 = M0.2.2 → (∀ a k, (G a).1 = 55103 → M2.2.1 a k = M0.2.1 a k) → mj_W sx_ms (mj_R mj_tab (d + 1)) mt_X12_image.2.2.2.2.1 Q (mt_X12_image.2.2.2.2.1.drop 58) [some (.inr (.inr (some m))), some (.inl (k : Int)), some (.inl ((8 : Nat) : Int))] [] G M2 cb sb) : ∀ (j i : Nat) (M1 : mj_M) (cb sb : Nat), i + j = 8 → M1.1 = M0.1 → M1.2.2 = M0.2.2 → (∀ a k, (G a).1 = 55103 → M1.2.1 a k = M0.2.1 a k) → mj_W sx_ms (mj_R mj_tab (d + 1)) mt_X12_image.2.2.2.2.1 Q (mt_X12_image.2.2.2.2.1.drop 41) [some (.inr (.inr (some m))), some (.inl (k : Int)), some (.inl (i : Int))] [] G M1 cb sb := by
  intro j
  induction j with
  | zero =>
    intro i M1 cb sb hi e1 e2 e5
    have hi : i = 8 := by omega
    subst hi
    refine mj_W.run (mj_R_mo _ _) 10 ?_
    exact ⟨fun _ => mj_W.stay (mj_R_mo _ _) _ (hK M1 _ _ e1 e2 e5), fun c1 => absurd (show (8 : Int) ≤ ((8 : Nat) : Int) by decide) c1⟩
  | succ j ih =>
    intro i M1 cb sb hi e1 e2 e5
    have r9 : M1.2.2 m 9 = some nm := by rw [e2]; exact h9
    have r60 : M1.2.2 m 60 = some nk := by rw [e2]; exact h60
    have fin : ∀ (p : Nat) (v : Int64) (z : Int), z = ((i + 1 : Nat) : Int) → ∀ cb sb : Nat, mj_W sx_ms (mj_R mj_tab (d + 1)) mt_X12_image.2.2.2.2.1 Q (mt_X12_image.2.2.2.2.1.drop 41) [some (.inr (.inr (some m))), some (.inl (k : Int)), some (.inl z)] [] G (mj_p1 M1 nk p v) cb sb := by
      intro p v z e3 cb sb
      subst e3
      exact ih (i + 1) _ cb sb (by omega) e1 e2 (fun a k h => (if_neg (fun e => by rw [e.1, hnk] at h; exact absurd h (by decide))).trans (e5 a k h))
    refine mj_W.run (mj_R_mo _ _) 17 ?_
    refine ⟨fun c1 => absurd (show (8 : Int) ≤ (i : Int) from c1) (by omega), fun c1 => ?_⟩
    refine hn_gr (fk := 60) (List.cons_ne_nil _ _) rfl rfl rfl hm r60 ?_
    refine Or.inl ⟨⟨by show (-2147483648 : Int) ≤ (8 : Int) * (k : Int); omega, by show (8 : Int) * (k : Int) < (2147483648 : Int); omega⟩, ?_⟩
    refine Or.inl ⟨⟨by show (-2147483648 : Int) ≤ (8 : Int) * (k : Int) + (i : Int); omega, by show (8 : Int) * (k : Int) + (i : Int) < (2147483648 : Int); omega⟩, ?_⟩
    refine hn_gr (fk := 9) (List.cons_ne_nil _ _) rfl rfl rfl hm r9 ?_
    refine ⟨54103, 16, hnm, rfl, by show (0 : Int) ≤ (i : Int); omega, by show (i : Int) < ((16 : Nat) : Int); omega, ?_⟩
    refine ⟨71103, 16, hnk, rfl, by decide, by show (0 : Int) ≤ (8 : Int) * (k : Int) + (i : Int); omega, by show (8 : Int) * (k : Int) + (i : Int) < ((16 : Nat) : Int); omega, ?_⟩
    refine Or.inl ⟨⟨by show (-2147483648 : Int) ≤ (i : Int) + 1; omega, by show (i : Int) + 1 < (2147483648 : Int); omega⟩, ?_⟩
    exact fin _ _ _ (show (i : Int) + 1 = _ by omega) _ _
set_option maxRecDepth 100000 in
theorem r_image {d m s kp ik : Nat} {kz : Int} {G : mj_G} {M : mj_M} {Q : mj_P} (hm : G m = (1012, 0)) (hs : G s = (51100, 537)) (hkp : G kp = (70100, 1076)) (hik : G ik = (72102, 2)) (h6 : M.2.2 m 6 = some s) (h59 : M.2.2 m 59 = some kp) (h61 : M.2.2 m 61 = some ik) (hI : ab_Inv G M)
    (hQ0 : ¬ (0 ≤ kz ∧ kz ≤ 1) → Q (some (.inl 0)) G (mj_p0 M m 0 0))
    (hQ1 : ∀ (k : Nat) M', kz = (k : Int) → k ≤ 1 → ab_Inv G M' → M'.2.2 = M.2.2 → ab_frm hn_WI G M M' → (∀ p, p < 537 → M'.1 kp (538 * k + p) = M.1 s p) → (∀ q, q < 538 * k ∨ 538 * k + 538 ≤ q → M'.1 kp q = M.1 kp q) → M'.1 ik k = 1 → (∀ q, q ≠ k → M'.1 ik q = M.1 ik q) → Q (some (.inl 1)) G M') : mj_R mj_tab (d + 2) 195 [.inr (.inr (some m)), .inl kz] G M Q := by
  have i0 : ab_Inv G (mj_p0 M m 0 0) := hI.p0 (by rw [hm]; exact ⟨by decide, by decide⟩)
  have F0 : ab_frm hn_WI G M (mj_p0 M m 0 0) := hn_f0 ab_frm.rf ⟨(1012, 0, 0), by decide, by rw [hm], by decide, by decide⟩
  have a1 : m ≠ s := hn_ne hm hs (by decide)
  have a2 : m ≠ kp := hn_ne hm hkp (by decide)
  have a3 : m ≠ ik := hn_ne hm hik (by decide)
  have a4 : kp ≠ ik := hn_ne hkp hik (by decide)
  have a5 : s ≠ kp := hn_ne hs hkp (by decide)
  obtain ⟨nm, h9, hnm⟩ := hn_rf (k := 9) (q := (54103, 16)) hI hm rfl (by decide) (by decide) (by decide) (fun e => absurd e (by decide))
  obtain ⟨nk, h60, hnk⟩ := hn_rf (k := 60) (q := (71103, 16)) hI hm rfl (by decide) (by decide) (by decide) (fun e => absurd e (by decide))
  have P10 : ∀ (k : Nat) (cb sb : Nat), kz = (k : Int) → k ≤ 1 → mj_W sx_ms (mj_R mj_tab (d + 1)) mt_X12_image.2.2.2.2.1 Q (mt_X12_image.2.2.2.2.1.drop 10) [some (.inr (.inr (some m))), some (.inl (k : Int)), none] [] G (mj_p0 M m 0 0) cb sb := by
    intro k cb sb ek hk
    -- the end
    have P58 : ∀ (M0 M2 : mj_M) cb sb, M2.1 = M0.1 → M2.2.2 = M0.2.2 → hn_C G (mj_p0 M m 0 0) M0 kp s (538 * k) 0 537 → False → mj_W sx_ms (mj_R mj_tab (d + 1)) mt_X12_image.2.2.2.2.1 Q (mt_X12_image.2.2.2.2.1.drop 58) [some (.inr (.inr (some m))), some (.inl (k : Int)), some (.inl ((8 : Nat) : Int))] [] G M2 cb sb := fun _ _ _ _ _ _ _ f => f.elim
    refine mj_W.run (mj_R_mo _ _) 2 ?_
    refine r_image_1 (d := d) (M0 := mj_p0 M m 0 0) hm hs hkp h6 h59 hk i0 (fun M2 cb sb C2 => ?_) 537 0 _ cb sb rfl ⟨i0, rfl, fun _ _ _ => rfl, fun _ _ => rfl, fun p hp => absurd hp (by omega)⟩
    obtain ⟨c1, c2, c3, c4, c5⟩ := C2
    have r59 : M2.2.2 m 59 = some kp := by rw [c2]; exact h59
    have r61 : M2.2.2 m 61 = some ik := by rw [c2]; exact h61
    have r9 : M2.2.2 m 9 = some nm := by rw [c2]; exact h9
    have r60 : M2.2.2 m 60 = some nk := by rw [c2]; exact h60
    have fin : ∀ (p : Nat) (v : Int), p = 538 * k + 537 → mj_in v → ∀ cb sb : Nat, mj_W sx_ms (mj_R mj_tab (d + 1)) mt_X12_image.2.2.2.2.1 Q (mt_X12_image.2.2.2.2.1.drop 41) [some (.inr (.inr (some m))), some (.inl (k : Int)), some (.inl 0)] [] G (mj_p0 M2 kp p v) cb sb := by
      intro p v ep hv cb sb
      subst ep
      have i3 : ab_Inv G (mj_p0 M2 kp (538 * k + 537) v) := c1.p0 (by
        rw [hkp]
        show (ab_rg 70100 (538 * k + 537)).1 ≤ _ ∧ _ ≤ (ab_rg 70100 (538 * k + 537)).2
        rw [hn_rk2 hk]
        exact hn_ii hv)
      refine r_image_2 (d := d) (M0 := mj_p0 M2 kp (538 * k + 537) v) hm hnm hnk r9 r60 hk (fun M4 cb sb e1 e2 e5 => ?_) 8 0 _ cb sb rfl rfl rfl (fun _ _ _ => rfl)
      have i4 : ab_Inv G M4 := hn_L i3 e1 e2 e5
      have q61 : M4.2.2 m 61 = some ik := by rw [e2]; exact r61
      have end1 : ∀ (p : Nat), p = k → Q (some (.inl 1)) G (mj_p0 M4 ik p 1) := by
        intro p ep
        subst ep
        have o1 : ∀ x q, x ≠ kp → M4.1 x q = (mj_p0 M m 0 0).1 x q := fun x q hx => by rw [e1]; exact (hn_n (Or.inl hx)).trans (c3 x q hx)
        refine hQ1 p _ ek hk (i4.p0 (by rw [hik]; exact ⟨(by decide : (0 : Int) ≤ 1), (by decide : (1 : Int) ≤ 1)⟩)) (by show M4.2.2 = M.2.2; rw [e2]; show M2.2.2 = M.2.2; rw [c2]; rfl) ?_ (fun q hq => ?_) (fun q hq => ?_) hn_s (fun q hq => ?_)
        · intro x q hn
          have x1 : ¬ (x = m ∧ q = 0) := fun e => hn ⟨(1012, 0, 0), by decide, by rw [e.1, hm], by rw [e.2]; decide, by rw [e.2]; decide⟩
          have x3 : ¬ (x = ik ∧ q = p) := fun e => hn ⟨(72102, 0, 1), by decide, by rw [e.1, hik], Nat.zero_le _, by rw [e.2]; exact hk⟩
          have x2 : ¬ (x = kp ∧ q ≤ 1075) := fun e => hn ⟨(70100, 0, 1075), by decide, by rw [e.1, hkp], Nat.zero_le _, e.2⟩
          refine ⟨?_, by show M4.2.2 x q = _; rw [e2]; show M2.2.2 x q = _; rw [c2]; rfl⟩
          have z1 : (mj_p0 M4 ik p 1).1 x q = M4.1 x q := if_neg x3
          have z0 : (mj_p0 M m 0 0).1 x q = M.1 x q := if_neg x1
          rw [z1]
          by_cases ex : x = kp
          · subst ex
            rw [e1]
            have hq : 1076 ≤ q := by
              by_cases g : q ≤ 1075
              · exact absurd ⟨rfl, g⟩ x2
              · omega
            exact (hn_n (Or.inr (by omega))).trans ((c4 q (by omega)).trans z0)
          · exact (o1 x q ex).trans z0
        · refine (hn_n (Or.inl a4)).trans ?_
          rw [e1]
          refine (hn_n (Or.inr (by omega))).trans ((c5 q hq).trans ?_)
          rw [Nat.zero_add]
          exact hn_n (Or.inl a1.symm)
        · refine (hn_n (Or.inl a4)).trans ?_
          rw [e1]
          exact (hn_n (Or.inr (by omega))).trans ((c4 q (by omega)).trans (hn_n (Or.inl a2.symm)))
        · exact (hn_n (Or.inr hq)).trans ((o1 ik q a4.symm).trans (hn_n (Or.inl a3.symm)))
      refine mj_W.run (mj_R_mo _ _) 10 ?_
      refine hn_gr (fk := 61) (List.cons_ne_nil _ _) rfl rfl rfl hm q61 ?_
      refine Or.inr ⟨Or.inr rfl, ⟨72102, 2, hik, rfl, by decide, by show (0 : Int) ≤ (k : Int); omega, by show (k : Int) < ((2 : Nat) : Int); omega, ?_⟩⟩
      exact ⟨rfl, fun _ => Or.inr rfl, end1 _ (show ((k : Int)).toNat = k by omega)⟩
    refine mj_W.run (mj_R_mo _ _) 12 ?_
    refine hn_gr (fk := 59) (List.cons_ne_nil _ _) rfl rfl rfl hm r59 ?_
    refine Or.inl ⟨⟨by show (-2147483648 : Int) ≤ (538 : Int) * (k : Int); omega, by show (538 : Int) * (k : Int) < (2147483648 : Int); omega⟩, ?_⟩
    refine Or.inl ⟨⟨by show (-2147483648 : Int) ≤ (538 : Int) * (k : Int) + 537; omega, by show (538 : Int) * (k : Int) + 537 < (2147483648 : Int); omega⟩, ?_⟩
    refine hn_gi (fk := 25) (v := M2.1 m 25) (List.cons_ne_nil _ _) rfl rfl rfl hm rfl ?_
    refine ⟨70100, 1076, hkp, rfl, by decide, by show (0 : Int) ≤ (538 : Int) * (k : Int) + 537; omega, by show (538 : Int) * (k : Int) + 537 < ((1076 : Nat) : Int); omega, ?_⟩
    exact fin _ _ (show ((538 : Int) * (k : Int) + 537).toNat = _ by omega) (c1.mj m 25) _ _
  refine ⟨Nat.le_of_ble_eq_true rfl, mj_W.run (mj_R_mo _ _) 20 ?_⟩
  refine hn_pi (fk := 0) (List.cons_ne_nil _ _) rfl rfl rfl hm (fun q => by cases q) ?_
  refine ⟨List.cons_ne_nil _ _, Nat.le_of_ble_eq_true rfl, Nat.zero_le _, Nat.zero_le _, ?_⟩
  refine r_isIn (fun g1 g2 => ?_) (fun g => ?_)
  · refine ⟨fun _ => ?_, fun c1 => absurd (show (1 : Int) ≠ 0 by decide) c1⟩
    obtain ⟨k, rfl⟩ : ∃ k : Nat, kz = (k : Int) := ⟨kz.toNat, by omega⟩
    exact mj_W.stay (mj_R_mo _ _) _ (P10 k _ _ rfl (by omega))
  · exact ⟨fun c1 => absurd rfl c1, fun _ => ⟨rfl, fun _ => Or.inl rfl, hQ0 g⟩⟩
