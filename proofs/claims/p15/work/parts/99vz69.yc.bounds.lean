/-! ===== what is kept of a YEAR's numbers, MONTH by MONTH ===== -/
def yd_ok (H : Nat → Int) : Prop := ∀ j, j < 12 → 0 ≤ H (184 + 3 * j) ∧ (H (184 + 3 * j) ≤ H 0 ∨ H (184 + 3 * j) = 9) ∧ 0 ≤ H (185 + 3 * j) ∧ H (185 + 3 * j) ≤ H 0 ∧ (0 < H (185 + 3 * j) → 0 < H (184 + 3 * j) ∧ H (184 + 3 * j) ≤ H 0 ∧ H (184 + 3 * j) ≠ H (185 + 3 * j)) ∧ 0 ≤ H (186 + 3 * j) ∧ H (186 + 3 * j) ≤ 999
/-- the PLAIN's numbers and the CONTRACTS' -/
def ye_H (H : Nat → Int) : Prop := (0 ≤ H 0 ∧ H 0 ≤ 8) ∧ (0 ≤ H 1 ∧ H 1 ≤ 99) ∧ (0 ≤ H 2 ∧ H 2 ≤ 999) ∧ (1 ≤ H 3 ∧ H 3 ≤ 12) ∧ (∀ j, 4 ≤ j → j < 76 → 0 ≤ H j ∧ H j ≤ 999) ∧ (∀ j, j < 12 → 0 ≤ H (76 + j) ∧ H (76 + j) ≤ 999) ∧ (∀ t j, t < 8 → j < 12 → 0 ≤ H (88 + 12 * t + j) ∧ H (88 + 12 * t + j) ≤ 999) ∧ yd_ok H
theorem ye_H.of {H : Nat → Int} (h : rv_r6 H 0) (hd : yd_ok H) : ye_H H := by
  obtain ⟨⟨a1, a2, a3, a4, a5, a6⟩, b, -⟩ := id h
  refine ⟨a1, ?_, ?_, ?_, fun j j1 j2 => ?_, fun j hj => ?_, fun t j ht hj => ?_, hd⟩
  rotate_left 3
  · have q := a5 ((j - 4) / 9) ((j - 4) % 9) (by omega) (by omega)
    rw [show 0 + (4 + 9 * ((j - 4) / 9) + (j - 4) % 9) = j by omega] at q
    exact ⟨q.1, q.2.1⟩
  · have q := a6 j hj
    rw [Nat.zero_add] at q; exact q
  · have q := b t j ht hj
    rw [Nat.zero_add] at q; exact ⟨q.1, q.2.1⟩
  · rw [Nat.zero_add] at a2; exact a2
  · rw [Nat.zero_add] at a3; exact a3
  · rw [Nat.zero_add] at a4; exact a4
/-- a TOWN's row behind m MONTHS -/
def ye_rk (H : Nat → Int) (m : Int) (t : Nat) (r : Nat → Int) : Prop := (0 ≤ r 0 ∧ r 0 ≤ H (5 + 9 * t)) ∧ (0 ≤ r 1 ∧ r 1 ≤ 1000 + 13000 * m) ∧ (0 ≤ r 2 ∧ r 2 ≤ m) ∧ (r 3 = 0 ∨ (r 3 = 1 ∧ r 0 = 0)) ∧ (0 ≤ r 4 ∧ r 4 ≤ m) ∧ (0 ≤ r 5 ∧ r 5 ≤ 1000 * m) ∧ (0 ≤ r 6 ∧ r 6 ≤ 1000 * m) ∧ (0 ≤ r 7 ∧ r 7 ≤ m) ∧ (0 ≤ r 8 ∧ r 8 ≤ m) ∧ (0 ≤ r 9 ∧ r 9 ≤ 12000 ∧ (m < 12 → r 9 = 0)) ∧ (0 ≤ r 10 ∧ r 10 ≤ r 8)
def ye_ok (H g A B C : Nat → Int) (R : Nat → Nat → Int) : Prop := (0 ≤ g 222 ∧ g 222 ≤ 12) ∧ (g 223 = 8 ∨ (0 ≤ g 223 ∧ g 223 < H 0)) ∧ (-10000 * g 222 ≤ g 224 ∧ g 224 ≤ 10000 * g 222) ∧ (0 ≤ g 225 ∧ g 225 ≤ 999) ∧ (0 ≤ g 226 ∧ g 226 ≤ 2000 * g 222) ∧ (0 ≤ g 227 ∧ g 227 ≤ 20000 * g 222) ∧ (0 ≤ g 228 ∧ g 228 ≤ 4000 * g 222) ∧ (0 ≤ g 229 ∧ g 229 ≤ 20000 * g 222) ∧ (0 ≤ g 230 ∧ g 230 ≤ g 222) ∧ (0 ≤ g 231 ∧ g 231 ≤ 10000 * g 222) ∧ (∀ t, t < 8 → ye_rk H (g 222) t (R t)) ∧ (∀ t : Nat, t < 8 → H 0 ≤ (t : Int) → ∀ w, w < 11 → R t w = 0) ∧ (∀ j : Nat, (j : Int) < g 222 → (A j = 8 ∧ B j = -1 ∧ C j = 0) ∨ ((0 ≤ A j ∧ A j < H 0) ∧ (B j = -1 ∨ (0 ≤ B j ∧ B j < H 0)) ∧ 0 ≤ C j ∧ C j ≤ 999))
section YB
variable {H g A B C : Nat → Int} {R : Nat → Nat → Int} {m : Int} {L O P W x : Int} {t k : Nat} {r : Nat → Int}
/-- to whom a MONTH may be let -/
def ye_lt (H : Nat → Int) (R : Nat → Nat → Int) (L O P : Int) : Prop := (L = 8 ∧ O = -1 ∧ P = 0) ∨ ((0 ≤ L ∧ L < H 0) ∧ (0 ≤ P ∧ P ≤ 999) ∧ R L.toNat 3 = 0 ∧ ((O = -1 ∧ P ≤ R L.toNat 1) ∨ ((0 ≤ O ∧ O < H 0) ∧ O ≠ L ∧ R O.toNat 3 = 0 ∧ P - P / 2 ≤ R L.toNat 1 ∧ P / 2 ≤ R O.toNat 1)))
theorem ye_le_b (hH : ye_H H) {m : Nat} (hm : m < 12) : ye_lt H R (ye_le H R m).1 (ye_le H R m).2.1 (ye_le H R m).2.2 := by
  obtain ⟨h0, -, -, -, -, -, hB, hd⟩ := hH
  obtain ⟨d1, d2, d3, d4, d5, d6, d7⟩ := hd m hm
  by_cases c : 0 < H (184 + 3 * m)
  · by_cases n : ye_no H R m
    · rw [ye_le1 c n]; exact Or.inl ⟨rfl, rfl, rfl⟩
    · rw [ye_le2 c n]
      have n1 : ¬ H (184 + 3 * m) = 9 := fun q => n (Or.inl q)
      have n2 : ye_cp R (H (184 + 3 * m) - 1).toNat (ye_a (H (186 + 3 * m)) (H (185 + 3 * m) - 1)) := Decidable.byContradiction (fun q => n (Or.inr (Or.inl q)))
      refine Or.inr ⟨by show 0 ≤ H (184 + 3 * m) - 1 ∧ H (184 + 3 * m) - 1 < H 0; omega, ⟨d6, d7⟩, n2.1, ?_⟩
      have n3 := n2.2
      unfold ye_a at n3
      by_cases c2 : 0 < H (185 + 3 * m)
      · have n4 : ye_cp R (H (185 + 3 * m) - 1).toNat (H (186 + 3 * m) / 2) := Decidable.byContradiction (fun q => n (Or.inr (Or.inr ⟨c2, q⟩)))
        rw [if_neg (by omega)] at n3
        have := d5 c2
        exact Or.inr ⟨by show 0 ≤ H (185 + 3 * m) - 1 ∧ H (185 + 3 * m) - 1 < H 0; omega, by show H (185 + 3 * m) - 1 ≠ H (184 + 3 * m) - 1; omega, n4.1, n3, n4.2⟩
      · rw [if_pos (by omega)] at n3
        exact Or.inl ⟨by show H (185 + 3 * m) - 1 = -1; omega, n3⟩
  · rw [ye_le3 c]
    have b := ye_bb_b (R := R) (m := m) (fun t ht => hB t m ht hm) (H 0).toNat (by omega)
    rcases b.2 with ⟨b1, b2⟩ | ⟨b1, b2, b3⟩
    · exact Or.inl ⟨b1, rfl, b2⟩
    · exact Or.inr ⟨⟨b1, by omega⟩, b.1, b3.1, Or.inl ⟨rfl, b3.2⟩⟩
theorem ye_pr_w {z : Int} : ye_pr r z 0 = r 0 ∧ ye_pr r z 1 = r 1 - z ∧ ye_pr r z 2 = r 2 ∧ ye_pr r z 3 = r 3 ∧ ye_pr r z 4 = r 4 ∧ ye_pr r z 5 = r 5 + z ∧ ye_pr r z 6 = r 6 ∧ ye_pr r z 7 = r 7 ∧ ye_pr r z 8 = r 8 ∧ ye_pr r z 9 = r 9 ∧ ye_pr r z 10 = r 10 := ⟨rfl, rfl, rfl, rfl, rfl, rfl, rfl, rfl, rfl, rfl, rfl⟩
/-- a row while a MONTH goes on: paid not yet poured; what is let has no SHORE -/
def ye_r1 (H : Nat → Int) (m : Int) (t : Nat) (a : Prop) (r : Nat → Int) : Prop := (0 ≤ r 0 ∧ r 0 ≤ H (5 + 9 * t)) ∧ (0 ≤ r 1 ∧ r 1 ≤ 1000 + 13000 * m) ∧ (0 ≤ r 2 ∧ r 2 ≤ m) ∧ (r 3 = 0 ∨ (¬ a ∧ r 3 = 1 ∧ r 0 = 0)) ∧ (0 ≤ r 4 ∧ r 4 ≤ m) ∧ (0 ≤ r 5 ∧ r 5 ≤ 1000 * m + 999) ∧ (0 ≤ r 6 ∧ r 6 ≤ 1000 * m) ∧ (0 ≤ r 7 ∧ r 7 ≤ m) ∧ (0 ≤ r 8 ∧ r 8 ≤ m) ∧ (0 ≤ r 9 ∧ r 9 ≤ 12000 ∧ (m < 12 → r 9 = 0)) ∧ (0 ≤ r 10 ∧ r 10 ≤ r 8)
theorem ye_R1_b (hR : ∀ t, t < 8 → ye_rk H m t (R t)) (h0 : 0 ≤ H 0 ∧ H 0 ≤ 8) (hl : ye_lt H R L O P) : ∀ t : Nat, t < 8 → ye_r1 H m t ((t : Int) = L ∨ (t : Int) = O) (ye_R1 R L O P t) := fun t ht => by
  have keep : ¬ ((t : Int) = L ∨ (t : Int) = O) → ye_r1 H m t ((t : Int) = L ∨ (t : Int) = O) (R t) := fun n => by
    obtain ⟨a0, a1, a2, a3, a4, a5, a6, a7, a8, a9, a10⟩ := hR t ht
    exact ⟨a0, a1, a2, a3.imp id (fun q => ⟨n, q⟩), a4, ⟨a5.1, by omega⟩, a6, a7, a8, a9, a10⟩
  have pay : ∀ z : Int, 0 ≤ z → z ≤ 999 → R t 3 = 0 → z ≤ R t 1 → ye_r1 H m t ((t : Int) = L ∨ (t : Int) = O) (ye_pr (R t) z) := fun z z0 z9 s0 zp => by
    obtain ⟨a0, a1, a2, a3, a4, a5, a6, a7, a8, a9, a10⟩ := hR t ht
    obtain ⟨w0, w1, w2, w3, w4, w5, w6, w7, w8, w9, w10⟩ := ye_pr_w (r := R t) (z := z)
    unfold ye_r1
    rw [w0, w1, w2, w3, w4, w5, w6, w7, w8, w9, w10]
    exact ⟨a0, by omega, a2, Or.inl s0, a4, by omega, a6, a7, a8, a9, a10⟩
  rcases hl with ⟨rfl, rfl, rfl⟩ | ⟨⟨l0, l1⟩, ⟨p0, p9⟩, ls, ho⟩
  · unfold ye_R1; rw [if_pos rfl]; exact keep (by omega)
  · rcases ho with ⟨rfl, lp⟩ | ⟨⟨o0, o1⟩, on, os, lp, op⟩
    · unfold ye_R1; rw [if_neg (by omega), if_pos (by decide)]
      unfold ye_p1
      by_cases e : t = L.toNat
      · subst e; rw [ye_ru_s]; exact pay P p0 p9 ls lp
      · rw [ye_ru_n e]; exact keep (by omega)
    · unfold ye_R1; rw [if_neg (by omega), if_neg (by omega)]
      unfold ye_p1
      by_cases e : t = O.toNat
      · subst e; rw [ye_ru_s, ye_ru_n (by omega)]; exact pay (P / 2) (by omega) (by omega) os op
      · rw [ye_ru_n e]
        by_cases e2 : t = L.toNat
        · subst e2; rw [ye_ru_s]; exact pay (P - P / 2) (by omega) (by omega) ls lp
        · rw [ye_ru_n e2]; exact keep (by omega)
theorem ye_se_b (hT : ∀ j, 4 ≤ j → j < 76 → 0 ≤ H j ∧ H j ≤ 999) {t z : Int} (t0 : 0 ≤ t) (t7 : t ≤ 7) (z0 : 0 ≤ z) : 0 ≤ ye_se H t z ∧ ye_se H t z ≤ z := by
  have q := hT (4 + 9 * t.toNat) (by omega) (by omega)
  unfold ye_se; split <;> omega
theorem ye_in_b (hT : ∀ j, 4 ≤ j → j < 76 → 0 ≤ H j ∧ H j ≤ 999) {t z : Int} (t0 : 0 ≤ t) (t7 : t ≤ 7) (z0 : 0 ≤ z) (p0 : 0 ≤ R t.toNat 0) (p1 : R t.toNat 0 ≤ H (5 + 9 * t.toNat)) : 0 ≤ ye_in H R t z ∧ ye_in H R t z ≤ z - ye_se H t z ∧ R t.toNat 0 + ye_in H R t z ≤ H (5 + 9 * t.toNat) ∧ ye_in H R t z ≤ 999 := by
  have q := hT (5 + 9 * t.toNat) (by omega) (by omega)
  have s := ye_se_b hT t0 t7 z0
  unfold ye_in; split <;> omega
end YB
section YB2
variable {H g A B C : Nat → Int} {R : Nat → Nat → Int} {m : Int} {L O P W x : Int} {t k : Nat} {r : Nat → Int}
theorem ye_mi_w : ye_mi H t r 0 = r 0 ∧ ye_mi H t r 1 = r 1 + H (9 + 9 * t) ∧ ye_mi H t r 2 = r 2 ∧ ye_mi H t r 3 = r 3 ∧ ye_mi H t r 4 = r 4 + 1 ∧ ye_mi H t r 5 = r 5 ∧ ye_mi H t r 6 = r 6 ∧ ye_mi H t r 7 = r 7 ∧ ye_mi H t r 8 = r 8 ∧ ye_mi H t r 9 = r 9 ∧ ye_mi H t r 10 = r 10 := ⟨rfl, rfl, rfl, rfl, rfl, rfl, rfl, rfl, rfl, rfl, rfl⟩
theorem ye_pc_w {c : Int} : ye_pc r c 0 = r 0 + c ∧ ye_pc r c 1 = r 1 ∧ ye_pc r c 2 = r 2 ∧ ye_pc r c 3 = r 3 ∧ ye_pc r c 4 = r 4 ∧ ye_pc r c 5 = r 5 ∧ ye_pc r c 6 = r 6 + c ∧ ye_pc r c 7 = r 7 ∧ ye_pc r c 8 = r 8 ∧ ye_pc r c 9 = r 9 ∧ ye_pc r c 10 = r 10 := ⟨rfl, rfl, rfl, rfl, rfl, rfl, rfl, rfl, rfl, rfl, rfl⟩
/-- a row behind the WATER and the mills -/
def ye_r2 (H : Nat → Int) (m : Int) (t : Nat) (r : Nat → Int) : Prop := (0 ≤ r 0 ∧ r 0 ≤ H (5 + 9 * t)) ∧ (0 ≤ r 1 ∧ r 1 ≤ 1999 + 13000 * m) ∧ (0 ≤ r 2 ∧ r 2 ≤ m) ∧ (r 3 = 0 ∨ (r 3 = 1 ∧ r 0 = 0)) ∧ (0 ≤ r 4 ∧ r 4 ≤ m + 1) ∧ (0 ≤ r 5 ∧ r 5 ≤ 1000 * m + 999) ∧ (0 ≤ r 6 ∧ r 6 ≤ 1000 * m + 999) ∧ (0 ≤ r 7 ∧ r 7 ≤ m) ∧ (0 ≤ r 8 ∧ r 8 ≤ m) ∧ (0 ≤ r 9 ∧ r 9 ≤ 12000 ∧ (m < 12 → r 9 = 0)) ∧ (0 ≤ r 10 ∧ r 10 ≤ r 8)
theorem ye_ml_b (hT : ∀ j, 4 ≤ j → j < 76 → 0 ≤ H j ∧ H j ≤ 999) (h0 : 0 ≤ H 0 ∧ H 0 ≤ 8) (hW : 0 ≤ W) (hl : (L = 8 ∧ O = -1) ∨ ((0 ≤ L ∧ L < H 0) ∧ (O = -1 ∨ ((0 ≤ O ∧ O < H 0) ∧ O ≠ L)))) (hR : ∀ t : Nat, t < 8 → ye_r1 H m t ((t : Int) = L ∨ (t : Int) = O) (R t)) : ∀ t, t < 8 → ye_r2 H m t (ye_ml H L O (ye_R2 H R L O W) t) := fun t ht => by
  have keep : ∀ r, ye_r1 H m t ((t : Int) = L ∨ (t : Int) = O) r → ye_r2 H m t r := fun r h => by
    obtain ⟨a0, a1, a2, a3, a4, a5, a6, a7, a8, a9, a10⟩ := h
    exact ⟨a0, by omega, a2, a3.imp id (fun q => q.2), by omega, a5, by omega, a7, a8, a9, a10⟩
  have pour : ∀ c : Int, ((t : Int) = L ∨ (t : Int) = O) → 0 ≤ c → c ≤ 999 → R t 0 + c ≤ H (5 + 9 * t) → ye_r2 H m t (ye_mi H t (ye_pc (R t) c)) := fun c a c0 c1 c2 => by
    obtain ⟨a0, a1, a2, a3, a4, a5, a6, a7, a8, a9, a10⟩ := hR t ht
    obtain ⟨w0, w1, w2, w3, w4, w5, w6, w7, w8, w9, w10⟩ := ye_mi_w (H := H) (t := t) (r := ye_pc (R t) c)
    obtain ⟨v0, v1, v2, v3, v4, v5, v6, v7, v8, v9, v10⟩ := ye_pc_w (r := R t) (c := c)
    have q := hT (9 + 9 * t) (by omega) (by omega)
    unfold ye_r2
    rw [w0, w1, w2, w3, w4, w5, w6, w7, w8, w9, w10, v0, v1, v2, v3, v4, v5, v6, v7, v8, v9, v10]
    exact ⟨by omega, by omega, a2, Or.inl (a3.elim id (fun q => absurd a q.1)), by omega, a5, by omega, a7, a8, a9, a10⟩
  rcases hl with ⟨rfl, rfl⟩ | ⟨⟨l0, l1⟩, ho⟩
  · rw [show ye_R2 H R 8 (-1) W = R from if_pos rfl]
    unfold ye_ml
    rw [if_neg (by omega)]; exact keep _ (hR t ht)
  · have rl := hR L.toNat (by omega)
    rcases ho with rfl | ⟨⟨o0, o1⟩, on⟩
    · rw [show ye_R2 H R L (-1) W = ye_cR H R L W by unfold ye_R2; rw [if_neg (show ¬ L = 8 by omega), if_pos (by decide)]]
      unfold ye_ml ye_cR
      by_cases e : t = L.toNat
      · subst e
        rw [if_pos (by omega), ye_ru_s]
        have b := ye_in_b (R := R) hT l0 (by omega) hW rl.1.1 rl.1.2
        exact pour _ (by omega) b.1 b.2.2.2 b.2.2.1
      · rw [if_neg (by omega), ye_ru_n e]; exact keep _ (hR t ht)
    · rw [show ye_R2 H R L O W = ye_cR H (ye_cR H R L (W - W / 2)) O (W / 2) by unfold ye_R2; rw [if_neg (show ¬ L = 8 by omega), if_neg (show ¬ O < 0 by omega)]]
      have ro := hR O.toNat (by omega)
      have e0 : ye_cR H R L (W - W / 2) O.toNat = R O.toNat := ye_ru_n (by omega)
      unfold ye_ml
      by_cases e : t = O.toNat
      · subst e
        rw [if_pos (by omega)]
        have b := ye_in_b (R := ye_cR H R L (W - W / 2)) (t := O) (z := W / 2) hT o0 (by omega) (by omega) (by rw [e0]; exact ro.1.1) (by rw [e0]; exact ro.1.2)
        have b2 := b.2.2.1
        rw [e0] at b2
        rw [show ye_cR H (ye_cR H R L (W - W / 2)) O (W / 2) O.toNat = ye_pc (R O.toNat) (ye_in H (ye_cR H R L (W - W / 2)) O (W / 2)) by rw [← e0]; exact ye_ru_s]
        exact pour _ (by omega) b.1 b.2.2.2 b2
      · rw [show ye_cR H (ye_cR H R L (W - W / 2)) O (W / 2) t = ye_cR H R L (W - W / 2) t from ye_ru_n e]
        by_cases e2 : t = L.toNat
        · subst e2
          rw [if_pos (by omega)]
          have b := ye_in_b (R := R) (z := W - W / 2) hT l0 (by omega) (by omega) rl.1.1 rl.1.2
          rw [show ye_cR H R L (W - W / 2) L.toNat = ye_pc (R L.toNat) (ye_in H R L (W - W / 2)) from ye_ru_s]
          exact pour _ (by omega) b.1 b.2.2.2 b.2.2.1
        · rw [if_neg (by omega), show ye_cR H R L (W - W / 2) t = R t from ye_ru_n e2]; exact keep _ (hR t ht)
/-- behind USE and fields -/
def ye_r3 (H : Nat → Int) (m : Int) (t : Nat) (r : Nat → Int) : Prop := (0 ≤ r 0 ∧ r 0 ≤ H (5 + 9 * t)) ∧ (0 ≤ r 1 ∧ r 1 ≤ 1999 + 13000 * m) ∧ (0 ≤ r 2 ∧ r 2 ≤ m + 1) ∧ (r 3 = 0 ∨ (r 3 = 1 ∧ r 0 = 0)) ∧ (0 ≤ r 4 ∧ r 4 ≤ m + 1) ∧ (0 ≤ r 5 ∧ r 5 ≤ 1000 * m + 999) ∧ (0 ≤ r 6 ∧ r 6 ≤ 1000 * m + 999) ∧ (0 ≤ r 7 ∧ r 7 ≤ m + 1) ∧ (0 ≤ r 8 ∧ r 8 ≤ m + 1) ∧ (0 ≤ r 9 ∧ r 9 ≤ 12000 ∧ (m < 12 → r 9 = 0)) ∧ (0 ≤ r 10 ∧ r 10 ≤ r 8)
theorem ye_dk_b (hT : ∀ j, 4 ≤ j → j < 76 → 0 ≤ H j ∧ H j ≤ 999) (h3 : 1 ≤ H 3) (ht : t < 8) (h : ye_r2 H m t r) : ye_r3 H m t (ye_dk H t r) ∧ (0 ≤ ye_u H t r + ye_fl H t r ∧ ye_u H t r + ye_fl H t r ≤ 1998) ∧ (0 ≤ ye_sp H t r ∧ ye_sp H t r ≤ 999) := by
  obtain ⟨a0, a1, a2, a3, a4, a5, a6, a7, a8, a9, a10⟩ := h
  have t5 := hT (5 + 9 * t) (by omega) (by omega)
  have t6 := hT (6 + 9 * t) (by omega) (by omega)
  have t11 := hT (11 + 9 * t) (by omega) (by omega)
  obtain ⟨w0, w1, w2, w3, w4, w5, w6, w7, w8, w9, w10⟩ := ye_dkw (H := H) (t := t) (r := r)
  have eu : 0 ≤ ye_u H t r ∧ ye_u H t r ≤ r 0 ∧ ye_u H t r ≤ H (6 + 9 * t) := by unfold ye_u; split <;> omega
  have ed : 0 ≤ ye_d H t r ∧ ye_d H t r ≤ m + 1 := by unfold ye_d; split <;> omega
  have es : 0 ≤ ye_sp H t r ∧ ye_sp H t r ≤ r 0 - ye_u H t r ∧ (H 3 ≤ ye_d H t r → ye_sp H t r = r 0 - ye_u H t r) := by
    unfold ye_sp; split
    · exact ⟨by omega, Int.le_refl _, fun _ => rfl⟩
    · exact ⟨Int.le_refl 0, by omega, fun q => by omega⟩
  have ef : 0 ≤ ye_fl H t r ∧ ye_fl H t r ≤ r 0 - ye_u H t r - ye_sp H t r ∧ ye_fl H t r ≤ H (11 + 9 * t) := by unfold ye_fl; split <;> omega
  have eg : 0 ≤ ye_gr H t r ∧ ye_gr H t r ≤ r 10 + 1 := by unfold ye_gr; split <;> omega
  refine ⟨?_, by omega, by omega⟩
  unfold ye_r3
  rw [w0, w1, w2, w3, w4, w5, w6, w7, w8, w9, w10]
  refine ⟨by omega, a1, ed, ?_, a4, a5, a6, ?_, ?_, a9, ?_⟩
  · by_cases c : H 3 ≤ ye_d H t r
    · rw [if_pos c]; have := es.2.2 c; exact Or.inr ⟨rfl, by omega⟩
    · rw [if_neg c]; rcases a3 with q | ⟨q1, q2⟩
      · exact Or.inl q
      · exact Or.inr ⟨q1, by omega⟩
  · split <;> omega
  · split <;> omega
  · split <;> omega
end YB2
