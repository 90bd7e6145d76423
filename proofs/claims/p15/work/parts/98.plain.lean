/-! ===== by hand: plain of the reference ===== -/
def hn_z0 (q : Int × Int) : Prop := q.1 ≤ 0 ∧ 0 ≤ q.2
theorem hn_z0c {b : Bool} {x y : Int × Int} (h1 : hn_z0 x) (h2 : hn_z0 y) : hn_z0 (cond b x y) := by cases b <;> assumption
theorem hn_s0 (k : Nat) : hn_z0 (ab_s k) := by
  unfold ab_s
  repeat' first | exact ⟨by decide, by decide⟩ | apply hn_z0c
theorem hn_rh0 (p : Nat) : ab_rg 52100 p = ab_s p := by
  show ab_s p = ab_s p
  rfl
abbrev hn_WP : List (Nat × Nat × Nat) := [(1012, 0, 0), (1012, 2, 5), (1012, 11, 22), (1012, 24, 26), (1012, 28, 28), (51100, 0, 536), (52100, 0, 220), (54103, 0, 15), (56100, 0, 3)]
set_option maxRecDepth 100000 in
theorem r_plain_1 {d m s h : Nat} {G : mj_G} {M : mj_M} {Q : mj_P} (hm : G m = (1012, 0)) (hs : G s = (51100, 537)) (hh : G h = (52100, 221)) (h6 : M.2.2 m 6 = some s) (h7 : M.2.2 m 7 = some h)
    (hK : ∀ M2 cb sb, ab_Inv G M2 → ab_frm hn_WP G M M2 → M2.1 m 2 = 0 → M2.1 s 356 = 0 → mj_W sx_ms (mj_R mj_tab d) mt_X12_plain.2.2.2.2.1 Q (mt_X12_plain.2.2.2.2.1.drop 94) [some (.inr (.inr (some m))), some (.inl ((537 : Nat) : Int))] [] G M2 cb sb) : ∀ (j i : Nat) (M1 : mj_M) (cb sb : Nat), i + j = 537 → ab_Inv G M1 → ab_frm hn_WP G M M1 → M1.1 m 2 = 0 → (356 < i → M1.1 s 356 = 0) → mj_W sx_ms (mj_R mj_tab d) mt_X12_plain.2.2.2.2.1 Q (mt_X12_plain.2.2.2.2.1.drop 76) [some (.inr (.inr (some m))), some (.inl (i : Int))] [] G M1 cb sb := by
  have n1 : m ≠ s := hn_ne hm hs (by decide)
  intro j
  induction j with
  | zero =>
    intro i M1 cb sb hi I1 F1 L1 Z1
    have hi : i = 537 := by omega
    subst hi
    refine mj_W.run (mj_R_mo _ _) 10 ?_
    exact ⟨fun _ => mj_W.stay (mj_R_mo _ _) _ (hK M1 _ _ I1 F1 L1 (Z1 (by decide))), fun c1 => absurd (show (537 : Int) ≤ ((537 : Nat) : Int) by decide) c1⟩
  | succ j ih =>
    intro i M1 cb sb hi I1 F1 L1 Z1
    have r6 : M1.2.2 m 6 = some s := (F1 m 6 (by rw [hm]; exact hn_nc (by decide))).2.trans h6
    have r7 : M1.2.2 m 7 = some h := (F1 m 7 (by rw [hm]; exact hn_nc (by decide))).2.trans h7
    have fin : ∀ (p : Nat) (v z : Int), p = i → z = ((i + 1 : Nat) : Int) → (i = 356 → v = 0) → ((ab_s i).1 ≤ v ∧ v ≤ (ab_s i).2) → ∀ cb sb : Nat, mj_W sx_ms (mj_R mj_tab d) mt_X12_plain.2.2.2.2.1 Q (mt_X12_plain.2.2.2.2.1.drop 76) [some (.inr (.inr (some m))), some (.inl z)] [] G (mj_p0 M1 s p v) cb sb := by
      intro p v z e1 e3 hv hr cb sb
      subst e1 e3
      refine ih (p + 1) _ cb sb (by omega) (I1.p0 (by rw [hs]; show (ab_rg 51100 p).1 ≤ _ ∧ _ ≤ (ab_rg 51100 p).2; rw [hn_rs0]; exact hr)) (hn_f0 F1 ⟨(51100, 0, 536), by decide, by rw [hs], Nat.zero_le _, by show p ≤ 536; omega⟩) ((hn_n (Or.inl n1)).trans L1) (fun hp => ?_)
      by_cases e : p = 356
      · have := hv e
        subst e this
        exact hn_s
      · exact (hn_n (Or.inr (fun q => e q.symm))).trans (Z1 (by omega))
    have P91 : ∀ (v : Int) (cb sb : Nat), (i = 356 → v = 0) → ((ab_s i).1 ≤ v ∧ v ≤ (ab_s i).2) → mj_W sx_ms (mj_R mj_tab d) mt_X12_plain.2.2.2.2.1 Q (mt_X12_plain.2.2.2.2.1.drop 91) [some (.inr (.inr (some m))), some (.inl (i : Int))] [.inl v, .inl (i : Int), .inr (.inr (some s))] G M1 cb sb := by
      intro v cb sb hv hr
      refine mj_W.run (mj_R_mo _ _) 3 ?_
      refine ⟨51100, 537, hs, rfl, by decide, by show (0 : Int) ≤ (i : Int); omega, by show (i : Int) < ((537 : Nat) : Int); omega, ?_⟩
      refine Or.inl ⟨⟨by show (-2147483648 : Int) ≤ (i : Int) + 1; omega, by show (i : Int) + 1 < (2147483648 : Int); omega⟩, ?_⟩
      exact fin _ _ _ (show ((i : Int)).toNat = i by omega) (show (i : Int) + 1 = _ by omega) hv hr _ _
    have P89 : ∀ (v : Int) (cb sb : Nat), (i = 356 → v = 0) → ((ab_s i).1 ≤ v ∧ v ≤ (ab_s i).2) → mj_W sx_ms (mj_R mj_tab d) mt_X12_plain.2.2.2.2.1 Q (mt_X12_plain.2.2.2.2.1.drop 89) [some (.inr (.inr (some m))), some (.inl (i : Int))] [.inl v, .inl (i : Int), .inr (.inr (some s))] G M1 cb sb := fun v cb sb hv hr => mj_W.run (mj_R_mo _ _) 1 (P91 v cb sb hv hr)
    have P90 : ∀ (cb sb : Nat), mj_W sx_ms (mj_R mj_tab d) mt_X12_plain.2.2.2.2.1 Q (mt_X12_plain.2.2.2.2.1.drop 90) [some (.inr (.inr (some m))), some (.inl (i : Int))] [.inl (i : Int), .inr (.inr (some s))] G M1 cb sb := fun cb sb => mj_W.run (mj_R_mo _ _) 1 (P91 0 cb sb (fun _ => rfl) (hn_s0 i))
    refine mj_W.run (mj_R_mo _ _) 30 ?_
    refine ⟨fun c1 => absurd (show (537 : Int) ≤ (i : Int) from c1) (by omega), fun c1 => ?_⟩
    refine hn_gr (fk := 6) (List.cons_ne_nil _ _) rfl rfl rfl hm r6 ?_
    refine ⟨fun c2 => mj_W.stay (mj_R_mo _ _) _ (P90 _ _), fun c2 => ?_⟩
    have c2 : ¬ (221 : Int) ≤ (i : Int) := c2
    refine hn_gr (fk := 7) (List.cons_ne_nil _ _) rfl rfl rfl hm r7 ?_
    refine ⟨52100, 221, hh, rfl, by show (0 : Int) ≤ (i : Int); omega, by show (i : Int) < ((221 : Nat) : Int); omega, ?_⟩
    refine mj_W.stay (mj_R_mo _ _) _ (P89 _ _ _ (fun e => absurd e (by omega)) ?_)
    have r := I1.1 h i
    rw [hh] at r
    have r : (ab_rg 52100 i).1 ≤ _ ∧ _ ≤ (ab_rg 52100 i).2 := r
    rw [hn_rh0] at r
    exact r
set_option maxRecDepth 100000 in
theorem r_plain_2 {d m nm : Nat} {G : mj_G} {M0 : mj_M} {Q : mj_P} (hm : G m = (1012, 0)) (hnm : G nm = (54103, 16)) (h9 : M0.2.2 m 9 = some nm)
    (hK : ∀ M2 cb sb, M2.1 = M0.1 → M2.2.2 = M0.2.2 → (∀ a k, (G a).1 = 55103 → M2.2.1 a k = M0.2.1 a k) → mj_W sx_ms (mj_R mj_tab d) mt_X12_plain.2.2.2.2.1 Q (mt_X12_plain.2.2.2.2.1.drop 111) [some (.inr (.inr (some m))), some (.inl ((8 : Nat) : Int))] [] G M2 cb sb) : ∀ (j i : Nat) (M1 : mj_M) (cb sb : Nat), i + j = 8 → M1.1 = M0.1 → M1.2.2 = M0.2.2 → (∀ a k, (G a).1 = 55103 → M1.2.1 a k = M0.2.1 a k) → mj_W sx_ms (mj_R mj_tab d) mt_X12_plain.2.2.2.2.1 Q (mt_X12_plain.2.2.2.2.1.drop 96) [some (.inr (.inr (some m))), some (.inl (i : Int))] [] G M1 cb sb := by
  intro j
  induction j with
  | zero =>
    intro i M1 cb sb hi e1 e2 e5
    have hi : i = 8 := by omega
    subst hi
    refine mj_W.run (mj_R_mo _ _) 10 ?_
    exact ⟨fun _ => mj_W.stay (mj_R_mo _ _) _ (hK M1 _ _ e1 e2 e5), fun c1 => absurd (show (8 : Int) ≤ ((8 : Nat) : Int) by decide) c1⟩
  | succ j ih =>
    intro i M1 cb sb hi e1 e2 e5
    have r9 : M1.2.2 m 9 = some nm := by rw [e2]; exact h9
    have fin : ∀ (p : Nat) (v : Int64) (z : Int), z = ((i + 1 : Nat) : Int) → ∀ cb sb : Nat, mj_W sx_ms (mj_R mj_tab d) mt_X12_plain.2.2.2.2.1 Q (mt_X12_plain.2.2.2.2.1.drop 96) [some (.inr (.inr (some m))), some (.inl z)] [] G (mj_p1 M1 nm p v) cb sb := by
      intro p v z e3 cb sb
      subst e3
      exact ih (i + 1) _ cb sb (by omega) e1 e2 (fun a k h => (if_neg (fun e => by rw [e.1, hnm] at h; exact absurd h (by decide))).trans (e5 a k h))
    refine mj_W.run (mj_R_mo _ _) 15 ?_
    refine ⟨fun c1 => absurd (show (8 : Int) ≤ (i : Int) from c1) (by omega), fun c1 => ?_⟩
    refine hn_gr (fk := 9) (List.cons_ne_nil _ _) rfl rfl rfl hm r9 ?_
    refine hn_gr (fk := 9) (List.cons_ne_nil _ _) rfl rfl rfl hm r9 ?_
    refine Or.inl ⟨⟨by show (-2147483648 : Int) ≤ (8 : Int) + (i : Int); omega, by show (8 : Int) + (i : Int) < (2147483648 : Int); omega⟩, ?_⟩
    refine ⟨54103, 16, hnm, rfl, by show (0 : Int) ≤ (8 : Int) + (i : Int); omega, by show (8 : Int) + (i : Int) < ((16 : Nat) : Int); omega, ?_⟩
    refine ⟨54103, 16, hnm, rfl, by decide, by show (0 : Int) ≤ (i : Int); omega, by show (i : Int) < ((16 : Nat) : Int); omega, ?_⟩
    refine Or.inl ⟨⟨by show (-2147483648 : Int) ≤ (i : Int) + 1; omega, by show (i : Int) + 1 < (2147483648 : Int); omega⟩, ?_⟩
    exact fin _ _ _ (show (i : Int) + 1 = _ by omega) _ _
set_option maxRecDepth 100000 in
theorem r_plain_t {d m s : Nat} {G : mj_G} {M : mj_M} {Q : mj_P} (hm : G m = (1012, 0)) (hs : G s = (51100, 537)) (h6 : M.2.2 m 6 = some s) (hI0 : ab_Inv G M)
    (hQ : ∀ z M', ab_Inv G M' → ab_frm hn_WP G M M' → M'.1 m 2 = 0 → hn_F M' s 356 → Q (some (.inl z)) G M') (M1 : mj_M) (x : Int) (cb sb : Nat) (I1 : ab_Inv G M1) (F1 : ab_frm hn_WP G M M1) (L1 : M1.1 m 2 = 0) : mj_W sx_ms (mj_R mj_tab d) mt_X12_plain.2.2.2.2.1 Q (mt_X12_plain.2.2.2.2.1.drop 74) [some (.inr (.inr (some m))), some (.inl x)] [] G M1 cb sb := by
  obtain ⟨h, h7, hh⟩ := hn_rf (k := 7) (q := (52100, 221)) hI0 hm rfl (by decide) (by decide) (by decide) (fun e => absurd e (by decide))
  obtain ⟨nm, h9, hnm⟩ := hn_rf (k := 9) (q := (54103, 16)) hI0 hm rfl (by decide) (by decide) (by decide) (fun e => absurd e (by decide))
  have n1 : s ≠ m := hn_ne hs hm (by decide)
  refine mj_W.run (mj_R_mo _ _) 2 ?_
  refine r_plain_1 (d := d) hm hs hh h6 h7 (fun M2 cb sb I2 F2 L2 Z2 => ?_) 537 0 M1 cb sb rfl I1 F1 L1 (fun e => absurd e (by decide))
  have r9 : M2.2.2 m 9 = some nm := (F2 m 9 (by rw [hm]; exact hn_nc (by decide))).2.trans h9
  refine mj_W.run (mj_R_mo _ _) 2 ?_
  refine r_plain_2 (d := d) (M0 := M2) hm hnm r9 (fun M3 cb sb e1 e2 e5 => ?_) 8 0 M2 cb sb rfl rfl rfl (fun _ _ _ => rfl)
  have i3 : ab_Inv G M3 := hn_L I2 e1 e2 e5
  have F3 : ab_frm hn_WP G M M3 := fun a k hn => by rw [e1, e2]; exact F2 a k hn
  have fin : ∀ z v y : Int, mj_in z → mj_in v → Q (some (.inl y)) G (mj_p0 (mj_p0 (mj_p0 M3 m 28 0) m 26 z) m 25 v) := by
    intro z v y hz hv
    have i4 : ab_Inv G (mj_p0 M3 m 28 0) := i3.p0 (by rw [hm]; exact ⟨by decide, by decide⟩)
    have i5 : ab_Inv G (mj_p0 (mj_p0 M3 m 28 0) m 26 z) := i4.p0 (by rw [hm]; exact hn_ii hz)
    have i6 : ab_Inv G (mj_p0 (mj_p0 (mj_p0 M3 m 28 0) m 26 z) m 25 v) := i5.p0 (by rw [hm]; exact hn_ii hv)
    refine hQ y _ i6 (hn_f0 (hn_f0 (hn_f0 F3 ⟨(1012, 28, 28), by decide, by rw [hm], by decide, by decide⟩) ⟨(1012, 24, 26), by decide, by rw [hm], by decide, by decide⟩) ⟨(1012, 24, 26), by decide, by rw [hm], by decide, by decide⟩) ?_ ⟨0, 0, ?_, rfl⟩
    · exact (hn_n (Or.inr (by decide))).trans ((hn_n (Or.inr (by decide))).trans ((hn_n (Or.inr (by decide))).trans (by rw [e1]; exact L2)))
    · exact (hn_n (Or.inl n1)).trans ((hn_n (Or.inl n1)).trans ((hn_n (Or.inl n1)).trans (by rw [e1]; exact Z2)))
  refine mj_W.run (mj_R_mo _ _) 20 ?_
  refine hn_pi (fk := 28) (List.cons_ne_nil _ _) rfl rfl rfl hm (fun q => by cases q) ?_
  refine hn_gi (fk := 26) (List.cons_ne_nil _ _) rfl rfl rfl hm rfl ?_
  refine Or.inr (fun z hz _ => ?_)
  refine hn_pi (fk := 26) (List.cons_ne_nil _ _) rfl rfl rfl hm (fun q => by cases q) ?_
  refine hn_gi (fk := 26) (v := z) (List.cons_ne_nil _ _) rfl rfl rfl hm hn_s ?_
  refine hn_pi (fk := 25) (List.cons_ne_nil _ _) rfl rfl rfl hm (fun q => by cases q) ?_
  refine hn_gi (fk := 19) (List.cons_ne_nil _ _) rfl rfl rfl hm rfl ?_
  exact ⟨rfl, (fun e => by cases e), fin _ _ _ hz hz⟩
theorem hn_pl3 : (ab_c cx_X12_plain_a).all (fun b => Nat.beq b.2.2.length 3) = true := by decide +kernel
set_option maxRecDepth 100000 in
theorem r_plain {d m s : Nat} {G : mj_G} {M : mj_M} {Q : mj_P} (hm : G m = (1012, 0)) (hs : G s = (51100, 537)) (h6 : M.2.2 m 6 = some s) (hI : ab_Inv G M) (hF : hn_F M s 356)
    (hQ : ∀ z M', ab_Inv G M' → ab_frm hn_WP G M M' → M'.1 m 2 = 0 → hn_F M' s 356 → Q (some (.inl z)) G M') : mj_R mj_tab (d + 6) 226 [.inr (.inr (some m))] G M Q := by
  refine ab_seg (c := cx_X12_plain_a) (id := 223) (fun i => Nat.beq i 74) (by decide +kernel) xe_X12_plain_a (fun b hb => List.all_eq_true.mp xl_X12_plain_a b hb) (fun b hb b' hb' => ?_) (ab_all_ok 223 (Nat.le_refl _)) (dd := d + 5) (Nat.le_add_left _ _) (w0 := (1, hn_g [M.1 m 2], 1, fun _ => some m)) (hn_Y1 (by have := hI.1 m 2; rw [hm] at this; exact this)) (hn_RR hm) (fun e he => ?_) ⟨_, _, rfl, ⟨Nat.zero_lt_one, rfl⟩, rfl⟩ hI (fun r M' i f ⟨po, hp, h1⟩ => ?_) (fun b hb hex wb Lb Mb cb sb hg => ?_)
  · rw [sx_beq (List.all_eq_true.mp hn_pl3 b hb), sx_beq (List.all_eq_true.mp hn_pl3 b' hb')]
  · cases he with
    | head => exact ⟨Nat.zero_lt_one, m, 2, rfl, rfl, by decide, hn_I (Nat.le_of_ble_eq_true rfl) rfl⟩
    | tail _ he => cases he
  · cases hp with
    | head =>
      obtain ⟨⟨z, rfl, hz⟩, h2⟩ := h1
      obtain ⟨a, ha, hx⟩ := h2 _ (List.Mem.head _)
      cases ha
      exact hQ z M' i (hn_up f (by decide +kernel)) hx (hF.cg (fun k _ => (f s k (by rw [hs]; exact hn_nt (by decide +kernel))).1))
    | tail _ hp => cases hp
  · cases hb with
    | head => cases hex
    | tail _ hb => cases hb with
      | head => cases hex
      | tail _ hb => cases hb with
        | head => cases hex
        | tail _ hb => cases hb with
          | head =>
            obtain ⟨p1, p2, p3, p4, p5, p6, p7⟩ := hg
            obtain ⟨v, L', rfl, ⟨-, rfl⟩, v2, L2, rfl, ⟨z, rfl, -⟩, hL2⟩ := p4
            have hL2 : L2 = [] := hL2
            subst hL2
            have e0 : wb.2.2.2 0 = some m := p7.2.2.2 0 Nat.zero_lt_one
            obtain ⟨-, a, z2, ha, hz2, -, hv⟩ := p3 _ (List.Mem.tail _ (List.Mem.tail _ (List.Mem.head _)))
            have ha : wb.2.2.2 0 = some a := ha
            have hz2 : (2 : Int) = z2 := hz2
            have hv : (0 : Int) = Mb.1 a z2.toNat := hv
            cases e0.symm.trans ha
            subst hz2
            show mj_W sx_ms (mj_R mj_tab (d + 5)) mt_X12_plain.2.2.2.2.1 Q (mt_X12_plain.2.2.2.2.1.drop 74) [some (.inr (.inr (wb.2.2.2 0))), some (.inl z)] [] G Mb cb sb
            rw [e0]
            exact r_plain_t hm hs h6 hI hQ Mb z cb sb p5 (hn_up p6 (by decide +kernel)) hv.symm
          | tail _ hb => cases hb
