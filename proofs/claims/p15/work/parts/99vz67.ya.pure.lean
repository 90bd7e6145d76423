/-! ===== a MONTH of the YEAR as a pure thing: H the PLAIN and CONTRACTS (as s has them), g the YEAR's numbers (222 to 231), R the TOWNS' rows, l to whom the MONTHS were let ===== -/
def ye_ru (R : Nat → Nat → Int) (t : Nat) (r : Nat → Int) : Nat → Nat → Int := fun s => if s = t then r else R s
section YR
variable {R : Nat → Nat → Int} {t s w : Nat} {r r' : Nat → Int}
theorem ye_ru_s : ye_ru R t r t = r := if_pos rfl
theorem ye_ru_n (h : s ≠ t) : ye_ru R t r s = R s := if_neg h
theorem ye_ru_o : ye_ru R t (R t) = R := funext fun s => by
  by_cases h : s = t
  · rw [h]; exact ye_ru_s
  · exact ye_ru_n h
theorem ye_ru_2 : ye_ru (ye_ru R t r) t r' = ye_ru R t r' := funext fun s => by
  by_cases h : s = t
  · rw [h, ye_ru_s, ye_ru_s]
  · rw [ye_ru_n h, ye_ru_n h, ye_ru_n h]
theorem ye_ru_c (h : ∀ w, w < 11 → r w = r' w) : ∀ s w, s < 8 → w < 11 → ye_ru R t r s w = ye_ru R t r' s w := fun s w _ hw => by
  by_cases e : s = t
  · rw [e, ye_ru_s, ye_ru_s]; exact h w hw
  · rw [ye_ru_n e, ye_ru_n e]
end YR
theorem ye_11 {P : Nat → Prop} (h0 : P 0) (h1 : P 1) (h2 : P 2) (h3 : P 3) (h4 : P 4) (h5 : P 5) (h6 : P 6) (h7 : P 7) (h8 : P 8) (h9 : P 9) (h10 : P 10) : ∀ w, w < 11 → P w := fun w hw => by
  rcases (by omega : w = 0 ∨ w = 1 ∨ w = 2 ∨ w = 3 ∨ w = 4 ∨ w = 5 ∨ w = 6 ∨ w = 7 ∨ w = 8 ∨ w = 9 ∨ w = 10) with e | e | e | e | e | e | e | e | e | e | e <;> subst e <;> assumption
theorem ye_10 {P : Nat → Prop} (h0 : P 222) (h1 : P 223) (h2 : P 224) (h3 : P 225) (h4 : P 226) (h5 : P 227) (h6 : P 228) (h7 : P 229) (h8 : P 230) (h9 : P 231) : ∀ w, 222 ≤ w → w < 232 → P w := fun w hv hw => by
  rcases (by omega : w = 222 ∨ w = 223 ∨ w = 224 ∨ w = 225 ∨ w = 226 ∨ w = 227 ∨ w = 228 ∨ w = 229 ∨ w = 230 ∨ w = 231) with e | e | e | e | e | e | e | e | e | e <;> subst e <;> assumption
abbrev ye_cp (R : Nat → Nat → Int) (t : Nat) (z : Int) : Prop := R t 3 = 0 ∧ z ≤ R t 1
def ye_a (z o : Int) : Int := if o < 0 then z else z - z / 2
/-- the greatest bid among the first towns, and whose it is -/
def ye_bb (H : Nat → Int) (R : Nat → Nat → Int) (m : Nat) : Nat → Int × Int
  | 0 => (8, 0)
  | t + 1 => if (ye_bb H R m t).2 < H (88 + 12 * t + m) ∧ ye_cp R t (H (88 + 12 * t + m)) then ((t : Int), H (88 + 12 * t + m)) else ye_bb H R m t
/-- whether the CONTRACT for a MONTH can't be paid, or is the SEA's -/
abbrev ye_no (H : Nat → Int) (R : Nat → Nat → Int) (m : Nat) : Prop := H (184 + 3 * m) = 9 ∨ ¬ ye_cp R (H (184 + 3 * m) - 1).toNat (ye_a (H (186 + 3 * m)) (H (185 + 3 * m) - 1)) ∨ (0 < H (185 + 3 * m) ∧ ¬ ye_cp R (H (185 + 3 * m) - 1).toNat (H (186 + 3 * m) / 2))
def ye_le (H : Nat → Int) (R : Nat → Nat → Int) (m : Nat) : Int × Int × Int :=
  if 0 < H (184 + 3 * m) then (if ye_no H R m then (8, -1, 0) else (H (184 + 3 * m) - 1, H (185 + 3 * m) - 1, H (186 + 3 * m)))
  else ((ye_bb H R m (H 0).toNat).1, -1, (ye_bb H R m (H 0).toNat).2)
def ye_pr (r : Nat → Int) (z : Int) : Nat → Int := rv_up (rv_up r 1 (r 1 - z)) 5 (r 5 + z)
def ye_p1 (R : Nat → Nat → Int) (t : Int) (z : Int) : Nat → Nat → Int := ye_ru R t.toNat (ye_pr (R t.toNat) z)
/-- who pays -/
def ye_R1 (R : Nat → Nat → Int) (L O P : Int) : Nat → Nat → Int := if L = 8 then R else if O < 0 then ye_p1 R L P else ye_p1 (ye_p1 R L (P - P / 2)) O (P / 2)
def ye_pl (H : Nat → Int) (k : Int) : Int := if k = 8 then H 0 else k
def ye_wy (H g : Nat → Int) (L : Int) : Int := if ye_pl H L - ye_pl H (g 223) < 0 then -(ye_pl H L - ye_pl H (g 223)) else ye_pl H L - ye_pl H (g 223)
def ye_br (H A B : Nat → Int) (m : Nat) (k : Int) : Int := if k = 8 ∨ k = -1 then 0 else if 0 < m ∧ (A (m - 1) = k ∨ B (m - 1) = k) then 0 else H (10 + 9 * k.toNat)
def ye_co (H g A B : Nat → Int) (m : Nat) (L O : Int) : Int := H 1 * ye_wy H g L + ye_br H A B m L + ye_br H A B m O
/-- the river moves -/
def ye_g1 (H g A B : Nat → Int) (m : Nat) (L O P : Int) : Nat → Int := rv_up (rv_up (rv_up (rv_up g 224 (g 224 + P - ye_co H g A B m L O)) 231 (g 231 + ye_co H g A B m L O)) 225 (if g 225 - ye_wy H g L < 0 then 0 else g 225 - ye_wy H g L)) 223 L
def ye_se (H : Nat → Int) (t z : Int) : Int := if z < H (4 + 9 * t.toNat) then z else H (4 + 9 * t.toNat)
def ye_in (H : Nat → Int) (R : Nat → Nat → Int) (t z : Int) : Int := if z - ye_se H t z < H (5 + 9 * t.toNat) - R t.toNat 0 then z - ye_se H t z else H (5 + 9 * t.toNat) - R t.toNat 0
/-- WATER comes to a TOWN: its row, the numbers -/
def ye_pc (r : Nat → Int) (c : Int) : Nat → Int := rv_up (rv_up r 0 (r 0 + c)) 6 (r 6 + c)
def ye_mi (H : Nat → Int) (t : Nat) (r : Nat → Int) : Nat → Int := rv_up (rv_up r 1 (r 1 + H (9 + 9 * t))) 4 (r 4 + 1)
def ye_c1 (H : Nat → Int) (R : Nat → Nat → Int) (g : Nat → Int) (t z : Int) : Nat → Int := rv_up (rv_up g 228 (g 228 + ye_se H t z)) 229 (g 229 + (z - ye_se H t z - ye_in H R t z))
def ye_cR (H : Nat → Int) (R : Nat → Nat → Int) (t z : Int) : Nat → Nat → Int := ye_ru R t.toNat (ye_pc (R t.toNat) (ye_in H R t z))
def ye_R2 (H : Nat → Int) (R : Nat → Nat → Int) (L O W : Int) : Nat → Nat → Int := if L = 8 then R else if O < 0 then ye_cR H R L W else ye_cR H (ye_cR H R L (W - W / 2)) O (W / 2)
def ye_g2 (H : Nat → Int) (R : Nat → Nat → Int) (g : Nat → Int) (L O W : Int) : Nat → Int := if L = 8 then rv_up g 229 (g 229 + W) else if O < 0 then ye_c1 H R (rv_up g 230 (g 230 + 1)) L W else ye_c1 H (ye_cR H R L (W - W / 2)) (ye_c1 H R (rv_up g 230 (g 230 + 1)) L (W - W / 2)) O (W / 2)
/-- the mills of those to whom the MONTH is let -/
def ye_ml (H : Nat → Int) (L O : Int) (R : Nat → Nat → Int) : Nat → Nat → Int := fun t => if (t : Int) = L ∨ (t : Int) = O then ye_mi H t (R t) else R t
def ye_u (H : Nat → Int) (t : Nat) (r : Nat → Int) : Int := if r 0 < H (6 + 9 * t) then r 0 else H (6 + 9 * t)
def ye_d (H : Nat → Int) (t : Nat) (r : Nat → Int) : Int := if ye_u H t r < H (6 + 9 * t) then r 2 + 1 else 0
def ye_sp (H : Nat → Int) (t : Nat) (r : Nat → Int) : Int := if H 3 ≤ ye_d H t r then r 0 - ye_u H t r else 0
def ye_fl (H : Nat → Int) (t : Nat) (r : Nat → Int) : Int := if 0 < H (11 + 9 * t) ∧ H (11 + 9 * t) ≤ r 0 - ye_u H t r - ye_sp H t r then H (11 + 9 * t) else 0
def ye_gr (H : Nat → Int) (t : Nat) (r : Nat → Int) : Int := if 0 < H (11 + 9 * t) ∧ H (11 + 9 * t) ≤ r 0 - ye_u H t r - ye_sp H t r then r 10 + 1 else 0
/-- a TOWN uses its WATER: its row -/
def ye_dk (H : Nat → Int) (t : Nat) (r : Nat → Int) : Nat → Int := fun w => if w = 0 then r 0 - ye_u H t r - ye_sp H t r - ye_fl H t r else if w = 2 then ye_d H t r else if w = 3 then (if H 3 ≤ ye_d H t r then 1 else r 3) else if w = 7 then (if ye_u H t r < H (6 + 9 * t) then r 7 + 1 else r 7) else if w = 8 then (if r 8 < ye_gr H t r then ye_gr H t r else r 8) else if w = 10 then ye_gr H t r else r w
def ye_sm (f : Nat → Int) : Nat → Int
  | 0 => 0
  | k + 1 => ye_sm f k + f k
/-- the first k TOWNS have used -/
def ye_R3 (H : Nat → Int) (F : Nat → Nat → Int) (k : Nat) : Nat → Nat → Int := fun t => if t < k then ye_dk H t (F t) else F t
def ye_g3 (H : Nat → Int) (F : Nat → Nat → Int) (g : Nat → Int) (k : Nat) : Nat → Int := rv_up (rv_up g 227 (g 227 + ye_sm (fun t => ye_u H t (F t) + ye_fl H t (F t)) k)) 229 (g 229 + ye_sm (fun t => ye_sp H t (F t)) k)
def ye_hv (H : Nat → Int) (t : Nat) (r : Nat → Int) : Nat → Int := rv_up (rv_up r 9 (r 9 + H (12 + 9 * t) * r 8)) 1 (r 1 + (r 9 + H (12 + 9 * t) * r 8))
def ye_R4 (H : Nat → Int) (F : Nat → Nat → Int) (k : Nat) : Nat → Nat → Int := fun t => if t < k then ye_hv H t (F t) else F t
/-- one MONTH, x more WATER in it -/
def ye_mR (H : Nat → Int) (x : Int) (g : Nat → Int) (R : Nat → Nat → Int) : Nat → Nat → Int :=
  let m := (g 222).toNat
  let d := ye_le H R m
  let F := ye_R3 H (ye_ml H d.1 d.2.1 (ye_R2 H (ye_R1 R d.1 d.2.1 d.2.2) d.1 d.2.1 (H (76 + m) + x))) (H 0).toNat
  if g 222 = 11 then ye_R4 H F (H 0).toNat else F
def ye_mg (H : Nat → Int) (x : Int) (g : Nat → Int) (R : Nat → Nat → Int) (A B : Nat → Int) : Nat → Int :=
  let m := (g 222).toNat
  let d := ye_le H R m
  let R1 := ye_R1 R d.1 d.2.1 d.2.2
  let W := H (76 + m) + x
  let g1 := ye_g1 H g A B m d.1 d.2.1 d.2.2
  let g2 := ye_g2 H R1 (rv_up g1 226 (g1 226 + W)) d.1 d.2.1 W
  rv_up (ye_g3 H (ye_ml H d.1 d.2.1 (ye_R2 H R1 d.1 d.2.1 W)) g2 (H 0).toNat) 222 (g 222 + 1)
theorem ye_le1 {H : Nat → Int} {R : Nat → Nat → Int} {m : Nat} (h : 0 < H (184 + 3 * m)) (n : ye_no H R m) : ye_le H R m = (8, -1, 0) := by unfold ye_le; rw [if_pos h, if_pos n]
theorem ye_le2 {H : Nat → Int} {R : Nat → Nat → Int} {m : Nat} (h : 0 < H (184 + 3 * m)) (n : ¬ ye_no H R m) : ye_le H R m = (H (184 + 3 * m) - 1, H (185 + 3 * m) - 1, H (186 + 3 * m)) := by unfold ye_le; rw [if_pos h, if_neg n]
theorem ye_le3 {H : Nat → Int} {R : Nat → Nat → Int} {m : Nat} (h : ¬ 0 < H (184 + 3 * m)) : ye_le H R m = ((ye_bb H R m (H 0).toNat).1, -1, (ye_bb H R m (H 0).toNat).2) := by unfold ye_le; rw [if_neg h]
theorem ye_half {x z : Int} (h0 : 0 ≤ x) (hx : x < 2147483648) (e : z = (Int32.ofInt x / Int32.ofInt 2).toInt) : z = x / 2 := by
  have h := cs_idiv h0 (by decide : (0 : Int) < 2) ⟨by omega, by omega⟩ ⟨by decide, by decide⟩ e
  have e2 : ((2 : Int).toNat) = 2 := rfl
  rw [e2] at h
  omega
theorem ye_bb_b {H : Nat → Int} {R : Nat → Nat → Int} {m : Nat} (hb : ∀ t, t < 8 → 0 ≤ H (88 + 12 * t + m) ∧ H (88 + 12 * t + m) ≤ 999) : ∀ t, t ≤ 8 → (0 ≤ (ye_bb H R m t).2 ∧ (ye_bb H R m t).2 ≤ 999) ∧ (((ye_bb H R m t).1 = 8 ∧ (ye_bb H R m t).2 = 0) ∨ (0 ≤ (ye_bb H R m t).1 ∧ (ye_bb H R m t).1 < (t : Int) ∧ ye_cp R (ye_bb H R m t).1.toNat (ye_bb H R m t).2))
  | 0, _ => ⟨⟨Int.le_refl 0, (by decide : (0 : Int) ≤ 999)⟩, Or.inl ⟨rfl, rfl⟩⟩
  | t + 1, ht => by
    have ih := ye_bb_b (R := R) hb t (by omega)
    have h2 := hb t (by omega)
    unfold ye_bb
    by_cases c : (ye_bb H R m t).2 < H (88 + 12 * t + m) ∧ ye_cp R t (H (88 + 12 * t + m))
    · rw [if_pos c]
      exact ⟨h2, Or.inr ⟨by show (0 : Int) ≤ (t : Int); omega, by show (t : Int) < ((t + 1 : Nat) : Int); omega, by show ye_cp R (t : Int).toNat _; rw [Int.toNat_natCast]; exact c.2⟩⟩
    · rw [if_neg c]
      refine ⟨ih.1, ih.2.imp id (fun q => ⟨q.1, ?_, q.2.2⟩)⟩
      have := q.2.1
      omega
theorem ye_mR_e {H g : Nat → Int} {R : Nat → Nat → Int} {x mi L O P : Int} (hm : g 222 = mi) (hl : ye_le H R mi.toNat = (L, O, P)) : ye_mR H x g R = (if mi = 11 then ye_R4 H (ye_R3 H (ye_ml H L O (ye_R2 H (ye_R1 R L O P) L O (H (76 + mi.toNat) + x))) (H 0).toNat) (H 0).toNat else (ye_R3 H (ye_ml H L O (ye_R2 H (ye_R1 R L O P) L O (H (76 + mi.toNat) + x))) (H 0).toNat)) := by
  have e : ye_mR H x g R = (if g 222 = 11 then ye_R4 H (ye_R3 H (ye_ml H (ye_le H R (g 222).toNat).1 (ye_le H R (g 222).toNat).2.1 (ye_R2 H (ye_R1 R (ye_le H R (g 222).toNat).1 (ye_le H R (g 222).toNat).2.1 (ye_le H R (g 222).toNat).2.2) (ye_le H R (g 222).toNat).1 (ye_le H R (g 222).toNat).2.1 (H (76 + (g 222).toNat) + x))) (H 0).toNat) (H 0).toNat else (ye_R3 H (ye_ml H (ye_le H R (g 222).toNat).1 (ye_le H R (g 222).toNat).2.1 (ye_R2 H (ye_R1 R (ye_le H R (g 222).toNat).1 (ye_le H R (g 222).toNat).2.1 (ye_le H R (g 222).toNat).2.2) (ye_le H R (g 222).toNat).1 (ye_le H R (g 222).toNat).2.1 (H (76 + (g 222).toNat) + x))) (H 0).toNat)) := rfl
  rw [e, hm, hl]
theorem ye_mg_e {H g A B : Nat → Int} {R : Nat → Nat → Int} {x mi L O P : Int} (hm : g 222 = mi) (hl : ye_le H R mi.toNat = (L, O, P)) : ye_mg H x g R A B = (rv_up (ye_g3 H (ye_ml H L O (ye_R2 H (ye_R1 R L O P) L O (H (76 + mi.toNat) + x))) (ye_g2 H (ye_R1 R L O P) (rv_up (ye_g1 H g A B mi.toNat L O P) 226 ((ye_g1 H g A B mi.toNat L O P) 226 + (H (76 + mi.toNat) + x))) L O (H (76 + mi.toNat) + x)) (H 0).toNat) 222 (mi + 1)) := by
  have e : ye_mg H x g R A B = (rv_up (ye_g3 H (ye_ml H (ye_le H R (g 222).toNat).1 (ye_le H R (g 222).toNat).2.1 (ye_R2 H (ye_R1 R (ye_le H R (g 222).toNat).1 (ye_le H R (g 222).toNat).2.1 (ye_le H R (g 222).toNat).2.2) (ye_le H R (g 222).toNat).1 (ye_le H R (g 222).toNat).2.1 (H (76 + (g 222).toNat) + x))) (ye_g2 H (ye_R1 R (ye_le H R (g 222).toNat).1 (ye_le H R (g 222).toNat).2.1 (ye_le H R (g 222).toNat).2.2) (rv_up (ye_g1 H g A B (g 222).toNat (ye_le H R (g 222).toNat).1 (ye_le H R (g 222).toNat).2.1 (ye_le H R (g 222).toNat).2.2) 226 ((ye_g1 H g A B (g 222).toNat (ye_le H R (g 222).toNat).1 (ye_le H R (g 222).toNat).2.1 (ye_le H R (g 222).toNat).2.2) 226 + (H (76 + (g 222).toNat) + x))) (ye_le H R (g 222).toNat).1 (ye_le H R (g 222).toNat).2.1 (H (76 + (g 222).toNat) + x)) (H 0).toNat) 222 (g 222 + 1)) := rfl
  rw [e, hm, hl]
