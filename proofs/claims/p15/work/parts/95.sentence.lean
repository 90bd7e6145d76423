/-! ===== by hand: sentence of the reference ===== -/
/-- the codes at p of the array a can be run -/
def hn_F (M : mj_M) (a p : Nat) : Prop := ∃ c n : Nat, M.1 a p = (c : Int) ∧ hn_k (fun i => M.1 a (p + 1 + 3 * i)) c n
theorem hn_rf {G : mj_G} {M : mj_M} {a t n k : Nat} {q : Nat × Nat} (hI : ab_Inv G M) (ha : G a = (t, n)) (e : ab_rf t k = some q) (h1 : q.1 ≠ 0) (h2 : q.1 ≠ 1) (h3 : q.1 ≠ 50) (h4 : 100 ≤ t % 1000 → k < n) : ∃ b, M.2.2 a k = some b ∧ G b = q := by
  have := hI.2.1 a k q (by rw [ha]; exact e) (by rw [ha]; exact h4)
  rcases this with h | h | h | ⟨-, -, -, b, hb, hG⟩
  · exact absurd h.1 h1
  · exact absurd h.1 h2
  · exact absurd h.1 h3
  · exact ⟨b, hb, hG⟩
theorem hn_rs {k : Nat} (h : 357 ≤ k) : ab_rg 51100 k = ab_ii := by
  show ab_s k = ab_ii
  unfold ab_s
  have a1 : Nat.beq k 0 = false := Bool.eq_false_iff.mpr (fun e => by have := sx_beq e; omega)
  have a2 : Nat.beq k 222 = false := Bool.eq_false_iff.mpr (fun e => by have := sx_beq e; omega)
  have a3 : Nat.beq k 356 = false := Bool.eq_false_iff.mpr (fun e => by have := sx_beq e; omega)
  have a4 : Nat.blt k 220 = false := Bool.eq_false_iff.mpr (fun e => by have := sx_blt e; omega)
  have a5 : Nat.blt k 356 = false := Bool.eq_false_iff.mpr (fun e => by have := sx_blt e; omega)
  rw [a1, a2, a3, a4, a5, Bool.and_false, Bool.and_false]
  rfl
abbrev hn_WX : List (Nat × Nat × Nat) := [(1012, 0, 0), (1012, 2, 5), (1012, 11, 17), (1012, 53, 57), (53100, 0, 134), (68100, 0, 44), (51100, 356, 491)]
/-- what sentence keeps -/
def hn_X (G : mj_G) (M M' : mj_M) (m s : Nat) : Prop := ab_frm hn_WX G M M' ∧ M'.1 m 2 = 0 ∧ hn_F M' s 356 ∧ M'.2.2 m 6 = some s
theorem hn_F.cg {M M' : mj_M} {a p : Nat} (h : hn_F M a p) (e : ∀ k, p ≤ k → M'.1 a k = M.1 a k) : hn_F M' a p := by
  obtain ⟨c, n, h1, h2⟩ := h
  exact ⟨c, n, (e p (Nat.le_refl _)).trans h1, h2.cg (fun j _ => (e _ (by omega)).symm)⟩
theorem hn_X.up {W : List (Nat × Nat × Nat)} {G : mj_G} {M M1 M2 : mj_M} {m s : Nat} (hX : hn_X G M M1 m s) (hm : G m = (1012, 0)) (hs : G s = (51100, 537)) (f : ab_frm W G M1 M2) (h1 : W.all (fun e => ab_cw hn_WX e.1 (.ofNat e.2.1) (.ofNat e.2.2)) = true) (h2 : W.all (fun q => !(Nat.beq q.1 1012 && (Nat.ble q.2.1 2 && Nat.ble 2 q.2.2))) = true) (h3 : W.all (fun q => !(Nat.beq q.1 1012 && (Nat.ble q.2.1 6 && Nat.ble 6 q.2.2))) = true) (h4 : W.all (fun q => !(Nat.beq q.1 51100)) = true) : hn_X G M M2 m s :=
  ⟨hX.1.tr (hn_up f h1), (f m 2 (by rw [hm]; exact hn_nc h2)).1.trans hX.2.1, hX.2.2.1.cg (fun k _ => (f s k (by rw [hs]; exact hn_nt h4)).1), (f m 6 (by rw [hm]; exact hn_nc h3)).2.trans hX.2.2.2⟩
set_option maxRecDepth 100000 in
theorem r_sent_copy {d m rd sk s c h o b B : Nat} {G : mj_G} {M : mj_M} {Q : mj_P} (hs : G s = (51100, 537)) (hc : c ≤ 45)
    (hQ : ∀ z M', ab_Inv G M' → hn_X G M M' m s → Q (some (.inl z)) G M') : ∀ (j i : Nat) (M1 : mj_M) (cb sb : Nat), i + j = 3 * c → hn_Q G M1 m rd sk 0 c h o b B → ab_frm hn_WX G M M1 → M1.1 m 2 = 0 → M1.2.2 m 6 = some s → M1.1 s 356 = (c : Int) → (∀ k, k < i → M1.1 s (357 + k) = M1.1 rd k) → mj_W sx_ms (mj_R mj_tab (d + 3)) mt_X12_sentence.2.2.2.2.1 Q (mt_X12_sentence.2.2.2.2.1.drop 79) [some (.inr (.inr (some m))), some (.inl 0), some (.inl (i : Int))] [] G M1 cb sb := by
  intro j
  induction j with
  | zero =>
    intro i M1 cb sb hi S1 F1 e2 e6 e356 hk
    have hm : G m = (1012, 0) := S1.1.1.1
    refine mj_W.run (mj_R_mo _ _) 20 ?_
    refine hn_gi (fk := 53) (v := (c : Int)) (List.cons_ne_nil _ _) rfl rfl rfl hm S1.1.2.2.2.1 ?_
    refine Or.inl ⟨⟨by show (-2147483648 : Int) ≤ (3 : Int) * (c : Int); omega, by show (3 : Int) * (c : Int) < (2147483648 : Int); omega⟩, ?_⟩
    refine ⟨fun c1 => ?_, fun c1 => absurd (show (3 : Int) * (c : Int) ≤ (i : Int) by omega) c1⟩
    refine hn_gi (fk := 54) (v := (o : Int)) (List.cons_ne_nil _ _) rfl rfl rfl hm S1.2.1 ?_
    refine ⟨rfl, (fun e => by cases e), hQ _ M1 S1.1.2.1 ⟨F1, e2, ⟨c, h, e356, S1.1.2.2.2.2.cg (fun j hj => ?_)⟩, e6⟩⟩
    show M1.1 rd (3 * j) = M1.1 s (356 + 1 + 3 * j)
    exact (hk (3 * j) (by omega)).symm
  | succ j ih =>
    intro i M1 cb sb hi S1 F1 e2 e6 e356 hk
    have hm : G m = (1012, 0) := S1.1.1.1
    have hrd : G rd = (53100, 135) := S1.1.1.2.2.1
    have hsk : G sk = (68100, 45) := S1.1.1.2.2.2.2
    have n1 : m ≠ s := hn_ne hm hs (by decide)
    have n2 : rd ≠ s := hn_ne hrd hs (by decide)
    have n3 : sk ≠ s := hn_ne hsk hs (by decide)
    have fin : ∀ p v, p = 357 + i → v = M1.1 rd i → ∀ (z : Int), z = ((i + 1 : Nat) : Int) → ∀ cb sb, mj_W sx_ms (mj_R mj_tab (d + 3)) mt_X12_sentence.2.2.2.2.1 Q (mt_X12_sentence.2.2.2.2.1.drop 79) [some (.inr (.inr (some m))), some (.inl 0), some (.inl z)] [] G (mj_p0 M1 s p v) cb sb := by
      intro p v ep ev z ez cb sb
      subst ep ev ez
      have i2 : ab_Inv G (mj_p0 M1 s (357 + i) (M1.1 rd i)) := S1.1.2.1.p0 (by
        rw [hs]
        show (ab_rg 51100 (357 + i)).1 ≤ _ ∧ _ ≤ (ab_rg 51100 (357 + i)).2
        rw [hn_rs (by omega)]
        exact hn_ii (S1.1.2.1.mj rd i))
      refine ih (i + 1) _ cb sb (by omega) ⟨⟨S1.1.1, i2, (hn_n (Or.inl n1)).trans S1.1.2.2.1, (hn_n (Or.inl n1)).trans S1.1.2.2.2.1, S1.1.2.2.2.2.cg (fun j _ => (hn_n (Or.inl n2)).symm)⟩, (hn_n (Or.inl n1)).trans S1.2.1, (hn_n (Or.inl n1)).trans S1.2.2.1, (hn_b.cg (fun j _ => hn_n (Or.inl n3))).trans S1.2.2.2⟩ (hn_f0 F1 ⟨(51100, 356, 491), by decide, by rw [hs], by show 356 ≤ 357 + i; omega, by show 357 + i ≤ 491; omega⟩) ((hn_n (Or.inl n1)).trans e2) e6 ((hn_n (Or.inr (by omega))).trans e356) (fun k hk2 => ?_)
      by_cases e : k = i
      · subst e
        exact hn_s.trans (hn_n (Or.inl n2)).symm
      · exact (hn_n (Or.inr (by omega))).trans ((hk k (by omega)).trans (hn_n (Or.inl n2)).symm)
    refine mj_W.run (mj_R_mo _ _) 18 ?_
    refine hn_gi (fk := 53) (v := (c : Int)) (List.cons_ne_nil _ _) rfl rfl rfl hm S1.1.2.2.2.1 ?_
    refine Or.inl ⟨⟨by show (-2147483648 : Int) ≤ (3 : Int) * (c : Int); omega, by show (3 : Int) * (c : Int) < (2147483648 : Int); omega⟩, ?_⟩
    refine ⟨fun c1 => absurd (show (3 : Int) * (c : Int) ≤ (i : Int) from c1) (by omega), fun c1 => ?_⟩
    refine hn_gr (fk := 6) (List.cons_ne_nil _ _) rfl rfl rfl hm e6 ?_
    refine Or.inl ⟨⟨by show (-2147483648 : Int) ≤ (357 : Int) + (i : Int); omega, by show (357 : Int) + (i : Int) < (2147483648 : Int); omega⟩, ?_⟩
    refine hn_gr (fk := 8) (List.cons_ne_nil _ _) rfl rfl rfl hm S1.1.1.2.1 ?_
    refine ⟨53100, 135, hrd, rfl, by show (0 : Int) ≤ (i : Int); omega, by show (i : Int) < ((135 : Nat) : Int); omega, ?_⟩
    refine ⟨51100, 537, hs, rfl, by decide, by show (0 : Int) ≤ (357 : Int) + (i : Int); omega, by show (357 : Int) + (i : Int) < ((537 : Nat) : Int); omega, ?_⟩
    refine Or.inl ⟨⟨by show (-2147483648 : Int) ≤ (i : Int) + 1; omega, by show (i : Int) + 1 < (2147483648 : Int); omega⟩, ?_⟩
    exact fin _ _ (show ((357 : Int) + (i : Int)).toNat = _ by omega) (show M1.1 rd ((i : Int)).toNat = _ from rfl) ((i : Int) + 1) (by omega) _ _
set_option maxRecDepth 100000 in
theorem r_sent_w {d m rd sk s : Nat} {G : mj_G} {M : mj_M} {Q : mj_P} (hs : G s = (51100, 537)) (hm : G m = (1012, 0))
    (hQ : ∀ z M', ab_Inv G M' → hn_X G M M' m s → Q (some (.inl z)) G M') : ∀ (n : Nat) (M1 : mj_M) (t c o b B cb sb : Nat), hn_Q G M1 m rd sk t c (B + b) o b B → b ≤ 1 → t + b ≤ o → o ≤ 20 → c + t + b ≤ 2 * o → 4 * (21 - o) + 2 * b + t < n → hn_X G M M1 m s → mj_W sx_ms (mj_R mj_tab (d + 3)) mt_X12_sentence.2.2.2.2.1 Q (mt_X12_sentence.2.2.2.2.1.drop 28) [some (.inr (.inr (some m))), some (.inl 1), none] [] G M1 cb sb := by
  -- an error's end
  have P66 : ∀ (M1 : mj_M) (x y : Option mj_V) (cb sb : Nat), ab_Inv G M1 → hn_X G M M1 m s → mj_W sx_ms (mj_R mj_tab (d + 3)) mt_X12_sentence.2.2.2.2.1 Q (mt_X12_sentence.2.2.2.2.1.drop 66) [some (.inr (.inr (some m))), x, y] [] G M1 cb sb := by
    intro M1 x y cb sb I1 X1
    refine mj_W.run (mj_R_mo _ _) 20 ?_
    refine hn_gi (fk := 16) (v := M1.1 m 16) (List.cons_ne_nil _ _) rfl rfl rfl hm rfl ?_
    refine Or.inr (fun z hz _ => ⟨rfl, (fun e => by cases e), hQ z M1 I1 X1⟩)
  -- the codes are kept
  have P28 : ∀ (M1 : mj_M) (c h o b B cb sb : Nat), hn_Q G M1 m rd sk 0 c h o b B → c ≤ 45 → hn_X G M M1 m s → mj_W sx_ms (mj_R mj_tab (d + 3)) mt_X12_sentence.2.2.2.2.1 Q (mt_X12_sentence.2.2.2.2.1.drop 28) [some (.inr (.inr (some m))), some (.inl 0), none] [] G M1 cb sb := by
    intro M1 c h o b B cb sb S1 hc X1
    have hrd : G rd = (53100, 135) := S1.1.1.2.2.1
    have hsk : G sk = (68100, 45) := S1.1.1.2.2.2.2
    have n1 : m ≠ s := hn_ne hm hs (by decide)
    have n2 : rd ≠ s := hn_ne hrd hs (by decide)
    have n3 : sk ≠ s := hn_ne hsk hs (by decide)
    refine mj_W.run (mj_R_mo _ _) 10 ?_
    refine ⟨fun _ => ?_, fun c1 => absurd rfl c1⟩
    refine hn_gr (fk := 6) (List.cons_ne_nil _ _) rfl rfl rfl hm X1.2.2.2 ?_
    refine hn_gi (fk := 53) (v := (c : Int)) (List.cons_ne_nil _ _) rfl rfl rfl hm S1.1.2.2.2.1 ?_
    refine ⟨51100, 537, hs, rfl, by decide, by show (0 : Int) ≤ (356 : Int); omega, by show (356 : Int) < ((537 : Nat) : Int); omega, ?_⟩
    have i2 : ab_Inv G (mj_p0 M1 s 356 (c : Int)) := S1.1.2.1.p0 (by
      rw [hs]
      exact ⟨by show (0 : Int) ≤ (c : Int); omega, by show (c : Int) ≤ 45; omega⟩)
    have r := r_sent_copy (d := d) (Q := Q) hs hc hQ (3 * c) 0 (mj_p0 M1 s 356 (c : Int)) cb sb (by omega) ⟨⟨S1.1.1, i2, (hn_n (Or.inl n1)).trans S1.1.2.2.1, (hn_n (Or.inl n1)).trans S1.1.2.2.2.1, S1.1.2.2.2.2.cg (fun j _ => (hn_n (Or.inl n2)).symm)⟩, (hn_n (Or.inl n1)).trans S1.2.1, (hn_n (Or.inl n1)).trans S1.2.2.1, (hn_b.cg (fun j _ => hn_n (Or.inl n3))).trans S1.2.2.2⟩ (hn_f0 X1.1 ⟨(51100, 356, 491), by decide, by rw [hs], by decide, by decide⟩) ((hn_n (Or.inl n1)).trans X1.2.1) X1.2.2.2 hn_s (fun k hk => absurd hk (by omega))
    exact r
  have P53 : ∀ (M1 : mj_M) (c h o b B cb sb : Nat), hn_Q G M1 m rd sk 0 c h o b B → c ≤ 45 → hn_X G M M1 m s → mj_W sx_ms (mj_R mj_tab (d + 3)) mt_X12_sentence.2.2.2.2.1 Q (mt_X12_sentence.2.2.2.2.1.drop 53) [some (.inr (.inr (some m))), some (.inl 1), none] [] G M1 cb sb := fun M1 c h o b B cb sb S1 hc X1 => mj_W.run (mj_R_mo _ _) 3 (P28 M1 c h o b B cb sb S1 hc X1)
  intro n
  induction n with
  | zero => intro M1 t c o b B cb sb S1 h1 h2 h3 h4 h5; omega
  | succ n ih =>
    intro M1 t c o b B cb sb S1 h1 h2 h3 h4 h5 X1
    have P56 : ∀ (M2 : mj_M) (cb sb : Nat), hn_Q G M2 m rd sk t c (B + b) o b B → hn_X G M M2 m s → mj_W sx_ms (mj_R mj_tab (d + 3)) mt_X12_sentence.2.2.2.2.1 Q (mt_X12_sentence.2.2.2.2.1.drop 56) [some (.inr (.inr (some m))), some (.inl 1), none] [] G M2 cb sb := by
      intro M2 cb sb S2 X2
      refine mj_W.run (mj_R_mo _ _) 20 ?_
      refine hn_gi (fk := 57) (v := (b : Int)) (List.cons_ne_nil _ _) rfl rfl rfl hm S2.2.2.1 ?_
      refine ⟨fun c1 => ?_, fun c1 => ?_⟩
      · have c1 : (b : Int) = 0 := c1
        have b0 : b = 0 := by omega
        subst b0
        refine ⟨List.cons_ne_nil _ _, 1012, 0, hm, rfl, Nat.le_of_ble_eq_true rfl, Nat.zero_le _, Nat.zero_le _, ?_⟩
        exact r_operand (B := B) S2 h3 (by omega) (by omega) (fun M3 i3 f3 => ⟨fun c2 => absurd rfl c2, fun _ => mj_W.stay (mj_R_mo _ _) _ (P66 M3 _ _ _ _ i3 (X2.up hm hs f3 (by decide) (by decide) (by decide) (by decide)))⟩) (fun M3 t' c' b' S3 o19 ht f3 => ⟨fun _ => mj_W.stay (mj_R_mo _ _) _ (ih M3 t' c' (o + 1) b' B _ _ S3 (by omega) (by omega) (by omega) (by omega) (by omega) (X2.up hm hs f3 (by decide) (by decide) (by decide) (by decide))), fun c2 => absurd (show (1 : Int) ≠ 0 by decide) c2⟩)
      · have c1 : ¬ (b : Int) = 0 := c1
        have b1 : b = 1 := by omega
        subst b1
        refine ⟨List.cons_ne_nil _ _, 1012, 0, hm, rfl, Nat.le_of_ble_eq_true rfl, Nat.zero_le _, Nat.zero_le _, ?_⟩
        exact r_behind (B := B) S2 h3 (by omega) (by omega) (fun M3 i3 f3 => ⟨fun c2 => absurd rfl c2, fun _ => mj_W.stay (mj_R_mo _ _) 13 (P66 M3 _ _ _ _ i3 (X2.up hm hs f3 (by decide) (by decide) (by decide) (by decide)))⟩) (fun M3 t' c' b' B' S3 ht f3 => ⟨fun _ => mj_W.stay (mj_R_mo _ _) _ (ih M3 t' c' o b' B' _ _ S3 (by omega) (by omega) (by omega) (by omega) (by omega) (X2.up hm hs f3 (by decide) (by decide) (by decide) (by decide))), fun c2 => absurd (show (1 : Int) ≠ 0 by decide) c2⟩)
    refine mj_W.run (mj_R_mo _ _) 40 ?_
    refine ⟨fun c1 => absurd (show (1 : Int) = 0 from c1) (by decide), fun _ => ?_⟩
    refine hn_gi (fk := 57) (v := (b : Int)) (List.cons_ne_nil _ _) rfl rfl rfl hm S1.2.2.1 ?_
    refine ⟨fun c1 => mj_W.stay (mj_R_mo _ _) _ (P56 M1 _ _ S1 X1), fun c1 => ?_⟩
    have c1 : ¬ (b : Int) = 0 := c1
    have b1 : b = 1 := by omega
    subst b1
    refine hn_gi (fk := 11) (v := M1.1 m 11) (List.cons_ne_nil _ _) rfl rfl rfl hm rfl ?_
    refine ⟨fun c2 => mj_W.stay (mj_R_mo _ _) _ (P56 M1 _ _ S1 X1), fun c2 => ?_⟩
    refine ⟨List.cons_ne_nil _ _, 1012, 0, hm, rfl, Nat.le_of_ble_eq_true rfl, Nat.zero_le _, Nat.zero_le _, ?_⟩
    refine r_nots (h := B + 1) (by omega) S1.1 (by omega) (fun M2 t1 c1 J2 g2 g3 f2 g5 => ?_)
    have S2 : hn_Q G M2 m rd sk t1 c1 (B + 1) o 1 B := S1.wr J2 f2 (g5.trans S1.2.2.2)
    have X2 := (X1.up hm hs f2 (by decide) (by decide) (by decide) (by decide))
    refine ⟨List.cons_ne_nil _ _, 1012, 0, hm, rfl, Nat.le_of_ble_eq_true rfl, Nat.zero_le _, Nat.zero_le _, ?_⟩
    refine r_joins (t := t1) (c := c1) (by rw [S2.2.2.2]; exact S2.1) (by omega) (fun M3 t2 c2 J3 k2 k3 f3 _ => ?_)
    have S3 : hn_Q G M3 m rd sk t2 c2 (hn_b (hn_f M2 sk) t2 + 1) o 1 (hn_b (hn_f M2 sk) t2) := S2.wr J3 f3 rfl
    have X3 := (X2.up hm hs f3 (by decide) (by decide) (by decide) (by decide))
    refine hn_gi (fk := 55) (v := (t2 : Int)) (List.cons_ne_nil _ _) rfl rfl rfl hm S3.1.2.2.1 ?_
    refine ⟨fun e => ?_, fun e => ?_⟩
    · have e : (t2 : Int) ≤ 0 := e
      have e0 : t2 = 0 := by omega
      subst e0
      exact mj_W.stay (mj_R_mo _ _) _ (P53 M3 c2 _ o 1 _ _ _ S3 (by omega) X3)
    · refine ⟨List.cons_ne_nil _ _, 1012, 0, hm, rfl, Nat.le_of_ble_eq_true rfl, Nat.zero_le _, Nat.zero_le _, ?_⟩
      refine r_bad hm S3.1.2.1 ⟨by decide, by decide⟩ (fun M4 i4 f4 => ?_)
      have X4 := (X3.up hm hs f4 (by decide) (by decide) (by decide) (by decide))
      refine hn_gi (fk := 16) (v := M4.1 m 16) (List.cons_ne_nil _ _) rfl rfl rfl hm rfl ?_
      exact Or.inr (fun z hz _ => ⟨rfl, (fun e => by cases e), hQ z M4 i4 X4⟩)
set_option maxRecDepth 100000 in
theorem r_sentence {d m s : Nat} {G : mj_G} {M : mj_M} {Q : mj_P} (hm : G m = (1012, 0)) (hs : G s = (51100, 537)) (h6 : M.2.2 m 6 = some s) (hI : ab_Inv G M) (hF : hn_F M s 356)
    (hQ : ∀ z M', ab_Inv G M' → hn_X G M M' m s → Q (some (.inl z)) G M') : mj_R mj_tab (d + 4) 239 [.inr (.inr (some m))] G M Q := by
  have n1 : m ≠ s := hn_ne hm hs (by decide)
  refine ⟨Nat.le_of_ble_eq_true rfl, mj_W.run (mj_R_mo _ _) 28 ?_⟩
  refine hn_pi (fk := 0) (List.cons_ne_nil _ _) rfl rfl rfl hm (fun q => by cases q) ?_
  have i1 : ab_Inv G (mj_p0 M m 0 0) := hI.p0 (by rw [hm]; exact ⟨by decide, by decide⟩)
  refine ⟨List.cons_ne_nil _ _, 1012, 0, hm, rfl, Nat.le_of_ble_eq_true rfl, Nat.zero_le _, Nat.zero_le _, ?_⟩
  refine r_taken hm i1 ⟨by decide, by decide⟩ (fun M2 i2 f2 e2 => ?_)
  have F2 : ab_frm hn_WX G M M2 := (hn_f0 (G := G) (M0 := M) (M := M) ab_frm.rf ⟨(1012, 0, 0), by decide, by rw [hm], by decide, by decide⟩).tr (hn_up f2 (by decide))
  have X2 : hn_X G M M2 m s := ⟨F2, e2, hF.cg (fun k _ => ((f2 s k (by rw [hs]; exact hn_nt (by decide))).1).trans (hn_n (Or.inl n1.symm))), ((f2 m 6 (by rw [hm]; exact hn_nc (by decide))).2).trans h6⟩
  refine hn_pi (fk := 15) (List.cons_ne_nil _ _) rfl rfl rfl hm (fun q => by cases q) ?_
  refine hn_pi (fk := 53) (List.cons_ne_nil _ _) rfl rfl rfl hm (fun q => by cases q) ?_
  refine hn_pi (fk := 54) (List.cons_ne_nil _ _) rfl rfl rfl hm (fun q => by cases q) ?_
  refine hn_pi (fk := 55) (List.cons_ne_nil _ _) rfl rfl rfl hm (fun q => by cases q) ?_
  refine hn_pi (fk := 56) (List.cons_ne_nil _ _) rfl rfl rfl hm (fun q => by cases q) ?_
  refine hn_pi (fk := 57) (List.cons_ne_nil _ _) rfl rfl rfl hm (fun _ => Or.inl rfl) ?_
  have i8 : ab_Inv G (mj_p0 (mj_p0 (mj_p0 (mj_p0 (mj_p0 (mj_p0 M2 m 15 0) m 53 0) m 54 0) m 55 0) m 56 1) m 57 0) := ((((((i2.p0 (by rw [hm]; exact ⟨by decide, by decide⟩)).p0 (by rw [hm]; exact ⟨by decide, by decide⟩)).p0 (by rw [hm]; exact ⟨by decide, by decide⟩)).p0 (by rw [hm]; exact ⟨by decide, by decide⟩)).p0 (by rw [hm]; exact ⟨by decide, by decide⟩)).p0 (by rw [hm]; exact ⟨by decide, by decide⟩))
  have cv : ∀ k, (k = 15 ∨ (53 ≤ k ∧ k ≤ 57)) → ab_cov [(1012, 15, 15), (1012, 53, 57)] (G m).1 k := fun k hk => by
    rw [hm]
    rcases hk with rfl | hk
    · exact ⟨(1012, 15, 15), by decide, rfl, by decide, by decide⟩
    · exact ⟨(1012, 53, 57), by decide, rfl, hk.1, hk.2⟩
  have f8 : ab_frm [(1012, 15, 15), (1012, 53, 57)] G M2 (mj_p0 (mj_p0 (mj_p0 (mj_p0 (mj_p0 (mj_p0 M2 m 15 0) m 53 0) m 54 0) m 55 0) m 56 1) m 57 0) := hn_f0 (hn_f0 (hn_f0 (hn_f0 (hn_f0 (hn_f0 ab_frm.rf (cv _ (by decide))) (cv _ (by decide))) (cv _ (by decide))) (cv _ (by decide))) (cv _ (by decide))) (cv _ (by decide))
  have X8 := X2.up hm hs f8 (by decide) (by decide) (by decide) (by decide)
  obtain ⟨rd, h8, hrd⟩ := hn_rf (k := 8) (q := (53100, 135)) i8 hm rfl (by decide) (by decide) (by decide) (fun e => absurd e (by decide))
  obtain ⟨sk, h52, hsk⟩ := hn_rf (k := 52) (q := (68100, 45)) i8 hm rfl (by decide) (by decide) (by decide) (fun e => absurd e (by decide))
  have S8 : hn_Q G (mj_p0 (mj_p0 (mj_p0 (mj_p0 (mj_p0 (mj_p0 M2 m 15 0) m 53 0) m 54 0) m 55 0) m 56 1) m 57 0) m rd sk 0 0 0 0 0 0 := by
    refine ⟨⟨⟨hm, h8, hrd, h52, hsk⟩, i8, ?_, ?_, rfl⟩, ?_, hn_s, rfl⟩
    · exact (hn_n (Or.inr (by decide))).trans ((hn_n (Or.inr (by decide))).trans hn_s)
    · exact (hn_n (Or.inr (by decide))).trans ((hn_n (Or.inr (by decide))).trans ((hn_n (Or.inr (by decide))).trans ((hn_n (Or.inr (by decide))).trans hn_s)))
    · exact (hn_n (Or.inr (by decide))).trans ((hn_n (Or.inr (by decide))).trans ((hn_n (Or.inr (by decide))).trans hn_s))
  refine ⟨List.cons_ne_nil _ _, 1012, 0, hm, rfl, Nat.le_of_ble_eq_true rfl, Nat.zero_le _, Nat.zero_le _, ?_⟩
  refine r_next hm i8 (fun M9 i9 f9 => ?_)
  have X9 := X8.up hm hs f9 (by decide) (by decide) (by decide) (by decide)
  exact r_sent_w (d := d) (rd := rd) (sk := sk) hs hm hQ 100 M9 0 0 0 0 0 _ _ (S8.fr f9 i9 (by decide)) (by decide) (by decide) (by decide) (by decide) (by decide) X9
