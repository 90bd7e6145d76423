/-! ===== a MONTH keeps the bounds ===== -/
section YH
variable {H g A B C : Nat → Int} {R : Nat → Nat → Int} {mi x : Int} {L O P W : Int} {t k j : Nat} {r : Nat → Int}
theorem ye_g2_n (h1 : j ≠ 228) (h2 : j ≠ 229) (h3 : j ≠ 230) : ye_g2 H R g L O W j = g j := by
  unfold ye_g2
  by_cases c : L = 8
  · rw [if_pos c, rv_up_n h2]
  · rw [if_neg c]
    by_cases c2 : O < 0
    · rw [if_pos c2]; unfold ye_c1; rw [rv_up_n h2, rv_up_n h1, rv_up_n h3]
    · rw [if_neg c2]; unfold ye_c1; rw [rv_up_n h2, rv_up_n h1, rv_up_n h2, rv_up_n h1, rv_up_n h3]
theorem ye_g3_n (h1 : j ≠ 227) (h2 : j ≠ 229) : ye_g3 H R g k j = g j := by
  unfold ye_g3; rw [rv_up_n h2, rv_up_n h1]
theorem ye_g1_n (h1 : j ≠ 223) (h2 : j ≠ 224) (h3 : j ≠ 225) (h4 : j ≠ 231) {m : Nat} : ye_g1 H g A B m L O P j = g j := by
  unfold ye_g1; rw [rv_up_n h1, rv_up_n h3, rv_up_n h4, rv_up_n h2]
theorem ye_g1_w {m : Nat} : ye_g1 H g A B m L O P 223 = L ∧ ye_g1 H g A B m L O P 224 = g 224 + P - ye_co H g A B m L O ∧ ye_g1 H g A B m L O P 225 = (if g 225 - ye_wy H g L < 0 then 0 else g 225 - ye_wy H g L) ∧ ye_g1 H g A B m L O P 231 = g 231 + ye_co H g A B m L O := ⟨rfl, rfl, rfl, rfl⟩
theorem ye_hv_w : ye_hv H t r 0 = r 0 ∧ ye_hv H t r 1 = r 1 + (r 9 + H (12 + 9 * t) * r 8) ∧ ye_hv H t r 2 = r 2 ∧ ye_hv H t r 3 = r 3 ∧ ye_hv H t r 4 = r 4 ∧ ye_hv H t r 5 = r 5 ∧ ye_hv H t r 6 = r 6 ∧ ye_hv H t r 7 = r 7 ∧ ye_hv H t r 8 = r 8 ∧ ye_hv H t r 9 = r 9 + H (12 + 9 * t) * r 8 ∧ ye_hv H t r 10 = r 10 := ⟨rfl, rfl, rfl, rfl, rfl, rfl, rfl, rfl, rfl, rfl, rfl⟩
/-- what of the WATER seeps, runs over; at most all of it -/
theorem ye_g2_b (hT : ∀ j, 4 ≤ j → j < 76 → 0 ≤ H j ∧ H j ≤ 999) (h0 : 0 ≤ H 0 ∧ H 0 ≤ 8) (hW : 0 ≤ W) (lo : L = 8 ∨ ((0 ≤ L ∧ L < H 0) ∧ (O = -1 ∨ ((0 ≤ O ∧ O < H 0) ∧ O ≠ L)))) (hR : ∀ t : Nat, t < 8 → 0 ≤ R t 0 ∧ R t 0 ≤ H (5 + 9 * t)) : (0 ≤ ye_g2 H R g L O W 228 - g 228 ∧ ye_g2 H R g L O W 228 - g 228 ≤ 2 * W) ∧ (0 ≤ ye_g2 H R g L O W 229 - g 229 ∧ ye_g2 H R g L O W 229 - g 229 ≤ 2 * W) ∧ (0 ≤ ye_g2 H R g L O W 230 - g 230 ∧ ye_g2 H R g L O W 230 - g 230 ≤ 1) := by
  unfold ye_g2
  rcases lo with rfl | ⟨lo1, lo3⟩
  · rw [if_pos rfl, rv_up_s, rv_up_n (by decide), rv_up_n (by decide)]
    omega
  · rw [if_neg (by omega)]
    have rl := hR L.toNat (by omega)
    rcases lo3 with lo3 | ⟨lo3, lo4⟩
    · rw [if_pos (by omega)]
      have b1 := ye_se_b (z := W) hT lo1.1 (by omega) hW
      have b2 := ye_in_b (R := R) (z := W) hT lo1.1 (by omega) hW rl.1 rl.2
      have e8 : ye_c1 H R (rv_up g 230 (g 230 + 1)) L W 228 = g 228 + ye_se H L W := rfl
      have e9 : ye_c1 H R (rv_up g 230 (g 230 + 1)) L W 229 = g 229 + (W - ye_se H L W - ye_in H R L W) := rfl
      have e0 : ye_c1 H R (rv_up g 230 (g 230 + 1)) L W 230 = g 230 + 1 := rfl
      rw [e8, e9, e0]
      omega
    · rw [if_neg (by omega)]
      have ro := hR O.toNat (by omega)
      have e0 : ye_cR H R L (W - W / 2) O.toNat = R O.toNat := ye_ru_n (by omega)
      have b1 := ye_se_b (z := W - W / 2) hT lo1.1 (by omega) (by omega)
      have b2 := ye_in_b (R := R) (z := W - W / 2) hT lo1.1 (by omega) (by omega) rl.1 rl.2
      have b3 := ye_se_b (z := W / 2) hT lo3.1 (by omega) (by omega)
      have b4 := ye_in_b (R := ye_cR H R L (W - W / 2)) (z := W / 2) hT lo3.1 (by omega) (by omega) (by rw [e0]; exact ro.1) (by rw [e0]; exact ro.2)
      have e8 : ye_c1 H (ye_cR H R L (W - W / 2)) (ye_c1 H R (rv_up g 230 (g 230 + 1)) L (W - W / 2)) O (W / 2) 228 = g 228 + ye_se H L (W - W / 2) + ye_se H O (W / 2) := rfl
      have e9 : ye_c1 H (ye_cR H R L (W - W / 2)) (ye_c1 H R (rv_up g 230 (g 230 + 1)) L (W - W / 2)) O (W / 2) 229 = g 229 + (W - W / 2 - ye_se H L (W - W / 2) - ye_in H R L (W - W / 2)) + (W / 2 - ye_se H O (W / 2) - ye_in H (ye_cR H R L (W - W / 2)) O (W / 2)) := rfl
      have e7 : ye_c1 H (ye_cR H R L (W - W / 2)) (ye_c1 H R (rv_up g 230 (g 230 + 1)) L (W - W / 2)) O (W / 2) 230 = g 230 + 1 := rfl
      rw [e8, e9, e7]
      omega
theorem ye_z_b (h0 : 0 ≤ H 0 ∧ H 0 ≤ 8) (lo : L = 8 ∨ ((0 ≤ L ∧ L < H 0) ∧ (O = -1 ∨ (0 ≤ O ∧ O < H 0)))) (ht : t < 8) (hn : H 0 ≤ (t : Int)) (hO : L = 8 → O = -1) : ye_R3 H (ye_ml H L O (ye_R2 H (ye_R1 R L O P) L O W)) (H 0).toNat t = R t := by
  have p1 : ∀ (R2 : Nat → Nat → Int) (k z : Int), 0 ≤ k → k < H 0 → ye_p1 R2 k z t = R2 t := fun R2 k z k0 k1 => ye_ru_n (by omega)
  have pc : ∀ (R2 : Nat → Nat → Int) (k z : Int), 0 ≤ k → k < H 0 → ye_cR H R2 k z t = R2 t := fun R2 k z k0 k1 => ye_ru_n (by omega)
  have e1 : ye_R1 R L O P t = R t := by
    unfold ye_R1
    rcases lo with rfl | ⟨lo1, lo3⟩
    · rw [if_pos rfl]
    · rw [if_neg (by omega)]
      rcases lo3 with lo3 | lo3
      · rw [if_pos (by omega)]; exact p1 _ _ _ lo1.1 lo1.2
      · rw [if_neg (by omega)]; exact (p1 _ _ _ lo3.1 lo3.2).trans (p1 _ _ _ lo1.1 lo1.2)
  have e2 : ye_R2 H (ye_R1 R L O P) L O W t = ye_R1 R L O P t := by
    unfold ye_R2
    rcases lo with rfl | ⟨lo1, lo3⟩
    · rw [if_pos rfl]
    · rw [if_neg (by omega)]
      rcases lo3 with lo3 | lo3
      · rw [if_pos (by omega)]; exact pc _ _ _ lo1.1 lo1.2
      · rw [if_neg (by omega)]; exact (pc _ _ _ lo3.1 lo3.2).trans (pc _ _ _ lo1.1 lo1.2)
  unfold ye_R3
  rw [if_neg (by omega)]
  unfold ye_ml
  rw [if_neg (by omega), e2, e1]
/-- a MONTH keeps what is kept -/
theorem ye_mo_ok (hH : ye_H H) (hk : ye_ok H g A B C R) (hm : g 222 = mi) (m0 : 0 ≤ mi ∧ mi ≤ 11) (hx : 0 ≤ x ∧ x ≤ 99) : ye_ok H (ye_mg H x g R A B) (rv_up A mi.toNat (ye_le H R mi.toNat).1) (rv_up B mi.toNat (ye_le H R mi.toNat).2.1) (rv_up C mi.toNat (ye_le H R mi.toNat).2.2) (ye_mR H x g R) ∧ ye_mg H x g R A B 222 = mi + 1 := by
  obtain ⟨h0, hm1, hm2, h3, hT, hw, hB, hd⟩ := id hH
  obtain ⟨k2, k3, k4, k5, k6, k7, k8, k9, k10, k11, kR, kz, kl⟩ := id hk
  rw [hm] at k4 k6 k7 k8 k9 k10 k11 kR kl
  have hlt := ye_le_b (R := R) hH (show mi.toNat < 12 by omega)
  revert hlt
  rcases hle : ye_le H R mi.toNat with ⟨L, O, P⟩
  intro hlt
  replace hlt : ye_lt H R L O P := hlt
  rw [ye_mR_e hm hle, ye_mg_e hm hle]
  dsimp only
  have hr1 := ye_R1_b kR h0 hlt
  have lo : (L = 8 ∧ O = -1 ∧ P = 0) ∨ ((0 ≤ L ∧ L < H 0) ∧ (0 ≤ P ∧ P ≤ 999) ∧ (O = -1 ∨ ((0 ≤ O ∧ O < H 0) ∧ O ≠ L))) := by
    rcases hlt with q | ⟨q1, q2, -, q3⟩
    · exact Or.inl q
    · exact Or.inr ⟨q1, q2, q3.imp (fun z => z.1) (fun z => ⟨z.1, z.2.1⟩)⟩
  have hwm := hw mi.toNat (by omega)
  have hr2 : ∀ t, t < 8 → ye_r2 H mi t (ye_ml H L O (ye_R2 H (ye_R1 R L O P) L O (H (76 + mi.toNat) + x)) t) := ye_ml_b hT h0 (by omega) (by omega) hr1
  have hf : ∀ j, j < 8 → (0 ≤ (fun t => ye_u H t (ye_ml H L O (ye_R2 H (ye_R1 R L O P) L O (H (76 + mi.toNat) + x)) t) + ye_fl H t (ye_ml H L O (ye_R2 H (ye_R1 R L O P) L O (H (76 + mi.toNat) + x)) t)) j ∧ (fun t => ye_u H t (ye_ml H L O (ye_R2 H (ye_R1 R L O P) L O (H (76 + mi.toNat) + x)) t) + ye_fl H t (ye_ml H L O (ye_R2 H (ye_R1 R L O P) L O (H (76 + mi.toNat) + x)) t)) j ≤ 1998) ∧ (0 ≤ (fun t => ye_sp H t (ye_ml H L O (ye_R2 H (ye_R1 R L O P) L O (H (76 + mi.toNat) + x)) t)) j ∧ (fun t => ye_sp H t (ye_ml H L O (ye_R2 H (ye_R1 R L O P) L O (H (76 + mi.toNat) + x)) t)) j ≤ 999) := fun j hj => (ye_dk_b hT h3.1 hj (hr2 j hj)).2
  have s7 := ye_sm_b (fun j hj => (hf j hj).1) (H 0).toNat (by omega)
  have s9 := ye_sm_b (fun j hj => (hf j hj).2) (H 0).toNat (by omega)
  have b2 := ye_g2_b (g := rv_up (ye_g1 H g A B mi.toNat L O P) 226 (ye_g1 H g A B mi.toNat L O P 226 + (H (76 + mi.toNat) + x))) (R := ye_R1 R L O P) (W := H (76 + mi.toNat) + x) hT h0 (by omega) (L := L) (O := O) (by omega) (fun t ht => (hr1 t ht).1)
  have wy : 0 ≤ ye_wy H g L ∧ ye_wy H g L ≤ 8 := by unfold ye_wy ye_pl; (repeat' split) <;> omega
  have bl := ye_br_b (A := A) (B := B) (m := mi.toNat) (k := L) hT (by omega)
  have bo := ye_br_b (A := A) (B := B) (m := mi.toNat) (k := O) hT (by omega)
  have hq := ye_mulb hm1.1 hm1.2 wy.1 wy.2
  have hc : 0 ≤ ye_co H g A B mi.toNat L O ∧ ye_co H g A B mi.toNat L O ≤ 2790 := by unfold ye_co; omega
  obtain ⟨w3, w4, w5, w1⟩ := ye_g1_w (H := H) (g := g) (A := A) (B := B) (L := L) (O := O) (P := P) (m := mi.toNat)
  have G : ∀ j v : _, rv_up (ye_g3 H (ye_ml H L O (ye_R2 H (ye_R1 R L O P) L O (H (76 + mi.toNat) + x))) (ye_g2 H (ye_R1 R L O P) (rv_up (ye_g1 H g A B mi.toNat L O P) 226 (ye_g1 H g A B mi.toNat L O P 226 + (H (76 + mi.toNat) + x))) L O (H (76 + mi.toNat) + x)) (H 0).toNat) 222 v j = (if j = 222 then v else ye_g3 H (ye_ml H L O (ye_R2 H (ye_R1 R L O P) L O (H (76 + mi.toNat) + x))) (ye_g2 H (ye_R1 R L O P) (rv_up (ye_g1 H g A B mi.toNat L O P) 226 (ye_g1 H g A B mi.toNat L O P 226 + (H (76 + mi.toNat) + x))) L O (H (76 + mi.toNat) + x)) (H 0).toNat j) := fun _ _ => rfl
  have g22 : ∀ v, rv_up (ye_g3 H (ye_ml H L O (ye_R2 H (ye_R1 R L O P) L O (H (76 + mi.toNat) + x))) (ye_g2 H (ye_R1 R L O P) (rv_up (ye_g1 H g A B mi.toNat L O P) 226 (ye_g1 H g A B mi.toNat L O P 226 + (H (76 + mi.toNat) + x))) L O (H (76 + mi.toNat) + x)) (H 0).toNat) 222 v 222 = v := fun _ => rv_up_s
  refine ⟨?_, g22 _⟩
  have kn : ∀ j, j ≠ 222 → j ≠ 227 → j ≠ 228 → j ≠ 229 → j ≠ 230 → j ≠ 226 → ∀ v, rv_up (ye_g3 H (ye_ml H L O (ye_R2 H (ye_R1 R L O P) L O (H (76 + mi.toNat) + x))) (ye_g2 H (ye_R1 R L O P) (rv_up (ye_g1 H g A B mi.toNat L O P) 226 (ye_g1 H g A B mi.toNat L O P 226 + (H (76 + mi.toNat) + x))) L O (H (76 + mi.toNat) + x)) (H 0).toNat) 222 v j = ye_g1 H g A B mi.toNat L O P j := fun j a b c d e f v => by
    rw [rv_up_n a, ye_g3_n b d, ye_g2_n c d e, rv_up_n f]
  have h26 : ∀ v, rv_up (ye_g3 H (ye_ml H L O (ye_R2 H (ye_R1 R L O P) L O (H (76 + mi.toNat) + x))) (ye_g2 H (ye_R1 R L O P) (rv_up (ye_g1 H g A B mi.toNat L O P) 226 (ye_g1 H g A B mi.toNat L O P 226 + (H (76 + mi.toNat) + x))) L O (H (76 + mi.toNat) + x)) (H 0).toNat) 222 v 226 = g 226 + (H (76 + mi.toNat) + x) := fun v => by
    rw [rv_up_n (by decide), ye_g3_n (by decide) (by decide), ye_g2_n (by decide) (by decide) (by decide), rv_up_s, ye_g1_n (by decide) (by decide) (by decide) (by decide)]
  have j8 : rv_up (ye_g1 H g A B mi.toNat L O P) 226 (ye_g1 H g A B mi.toNat L O P 226 + (H (76 + mi.toNat) + x)) 228 = g 228 := by rw [rv_up_n (by decide), ye_g1_n (by decide) (by decide) (by decide) (by decide)]
  have j9 : rv_up (ye_g1 H g A B mi.toNat L O P) 226 (ye_g1 H g A B mi.toNat L O P 226 + (H (76 + mi.toNat) + x)) 229 = g 229 := by rw [rv_up_n (by decide), ye_g1_n (by decide) (by decide) (by decide) (by decide)]
  have j0 : rv_up (ye_g1 H g A B mi.toNat L O P) 226 (ye_g1 H g A B mi.toNat L O P 226 + (H (76 + mi.toNat) + x)) 230 = g 230 := by rw [rv_up_n (by decide), ye_g1_n (by decide) (by decide) (by decide) (by decide)]
  rw [j8, j9, j0] at b2
  have h27 : ∀ v, rv_up (ye_g3 H (ye_ml H L O (ye_R2 H (ye_R1 R L O P) L O (H (76 + mi.toNat) + x))) (ye_g2 H (ye_R1 R L O P) (rv_up (ye_g1 H g A B mi.toNat L O P) 226 (ye_g1 H g A B mi.toNat L O P 226 + (H (76 + mi.toNat) + x))) L O (H (76 + mi.toNat) + x)) (H 0).toNat) 222 v 227 = g 227 + ye_sm (fun t => ye_u H t (ye_ml H L O (ye_R2 H (ye_R1 R L O P) L O (H (76 + mi.toNat) + x)) t) + ye_fl H t (ye_ml H L O (ye_R2 H (ye_R1 R L O P) L O (H (76 + mi.toNat) + x)) t)) (H 0).toNat := fun v => by
    rw [rv_up_n (by decide)]
    unfold ye_g3
    rw [rv_up_n (by decide), rv_up_s, ye_g2_n (by decide) (by decide) (by decide), rv_up_n (by decide), ye_g1_n (by decide) (by decide) (by decide) (by decide)]
  have h28 : ∀ v, rv_up (ye_g3 H (ye_ml H L O (ye_R2 H (ye_R1 R L O P) L O (H (76 + mi.toNat) + x))) (ye_g2 H (ye_R1 R L O P) (rv_up (ye_g1 H g A B mi.toNat L O P) 226 (ye_g1 H g A B mi.toNat L O P 226 + (H (76 + mi.toNat) + x))) L O (H (76 + mi.toNat) + x)) (H 0).toNat) 222 v 228 = ye_g2 H (ye_R1 R L O P) (rv_up (ye_g1 H g A B mi.toNat L O P) 226 (ye_g1 H g A B mi.toNat L O P 226 + (H (76 + mi.toNat) + x))) L O (H (76 + mi.toNat) + x) 228 := fun v => by
    rw [rv_up_n (by decide), ye_g3_n (by decide) (by decide)]
  have h29 : ∀ v, rv_up (ye_g3 H (ye_ml H L O (ye_R2 H (ye_R1 R L O P) L O (H (76 + mi.toNat) + x))) (ye_g2 H (ye_R1 R L O P) (rv_up (ye_g1 H g A B mi.toNat L O P) 226 (ye_g1 H g A B mi.toNat L O P 226 + (H (76 + mi.toNat) + x))) L O (H (76 + mi.toNat) + x)) (H 0).toNat) 222 v 229 = ye_g2 H (ye_R1 R L O P) (rv_up (ye_g1 H g A B mi.toNat L O P) 226 (ye_g1 H g A B mi.toNat L O P 226 + (H (76 + mi.toNat) + x))) L O (H (76 + mi.toNat) + x) 229 + ye_sm (fun t => ye_sp H t (ye_ml H L O (ye_R2 H (ye_R1 R L O P) L O (H (76 + mi.toNat) + x)) t)) (H 0).toNat := fun v => by
    rw [rv_up_n (by decide)]
    unfold ye_g3
    rw [rv_up_s]
  have h30 : ∀ v, rv_up (ye_g3 H (ye_ml H L O (ye_R2 H (ye_R1 R L O P) L O (H (76 + mi.toNat) + x))) (ye_g2 H (ye_R1 R L O P) (rv_up (ye_g1 H g A B mi.toNat L O P) 226 (ye_g1 H g A B mi.toNat L O P 226 + (H (76 + mi.toNat) + x))) L O (H (76 + mi.toNat) + x)) (H 0).toNat) 222 v 230 = ye_g2 H (ye_R1 R L O P) (rv_up (ye_g1 H g A B mi.toNat L O P) 226 (ye_g1 H g A B mi.toNat L O P 226 + (H (76 + mi.toNat) + x))) L O (H (76 + mi.toNat) + x) 230 := fun v => by
    rw [rv_up_n (by decide), ye_g3_n (by decide) (by decide)]
  have hr3 : ∀ t, t < 8 → ye_r3 H mi t (ye_dk H t (ye_ml H L O (ye_R2 H (ye_R1 R L O P) L O (H (76 + mi.toNat) + x)) t)) := fun t ht => (ye_dk_b hT h3.1 ht (hr2 t ht)).1
  have rows : ∀ t, t < 8 → ye_r3 H mi t (ye_R3 H (ye_ml H L O (ye_R2 H (ye_R1 R L O P) L O (H (76 + mi.toNat) + x))) (H 0).toNat t) := fun t ht => by
    unfold ye_R3
    by_cases c : t < (H 0).toNat
    · rw [if_pos c]; exact hr3 t ht
    · rw [if_neg c]
      obtain ⟨a0, a1, a2, a3, a4, a5, a6, a7, a8, a9, a10⟩ := hr2 t ht
      exact ⟨a0, a1, by omega, a3, a4, a5, a6, by omega, by omega, a9, a10⟩
  have fin1 : ∀ t r, ye_r3 H mi t r → mi < 11 → ye_rk H (mi + 1) t r := fun t r q c => by
    obtain ⟨a0, a1, a2, a3, a4, a5, a6, a7, a8, a9, a10⟩ := q
    exact ⟨a0, by omega, a2, a3, a4, by omega, by omega, a7, a8, ⟨a9.1, a9.2.1, fun _ => a9.2.2 (by omega)⟩, a10⟩
  have fin2 : ∀ t r, t < 8 → ye_r3 H mi t r → mi = 11 → ye_rk H (mi + 1) t r ∧ ye_rk H (mi + 1) t (ye_hv H t r) := fun t r ht q c => by
    obtain ⟨a0, a1, a2, a3, a4, a5, a6, a7, a8, a9, a10⟩ := q
    refine ⟨⟨a0, by omega, a2, a3, a4, by omega, by omega, a7, a8, ⟨a9.1, a9.2.1, fun _ => a9.2.2 (by omega)⟩, a10⟩, ?_⟩
    obtain ⟨v0, v1, v2, v3, v4, v5, v6, v7, v8, v9, v10⟩ := ye_hv_w (H := H) (t := t) (r := r)
    have q12 := hT (12 + 9 * t) (by omega) (by omega)
    have qm := ye_mul9 q12.1 q12.2 a8.1 (by omega)
    have z9 := a9.2.2 (by omega)
    unfold ye_rk
    rw [v0, v1, v2, v3, v4, v5, v6, v7, v8, v9, v10]
    exact ⟨a0, by omega, a2, a3, a4, by omega, by omega, a7, a8, ⟨by omega, by omega, fun q => by omega⟩, a10⟩
  refine ⟨by rw [g22]; omega, by rw [kn 223 (by decide) (by decide) (by decide) (by decide) (by decide) (by decide), w3]; omega, by rw [kn 224 (by decide) (by decide) (by decide) (by decide) (by decide) (by decide), w4, g22]; omega, by rw [kn 225 (by decide) (by decide) (by decide) (by decide) (by decide) (by decide), w5]; split <;> omega, by rw [h26, g22]; omega, by rw [h27, g22]; omega, by rw [h28, g22]; omega, by rw [h29, g22]; omega, by rw [h30, g22]; omega, by rw [kn 231 (by decide) (by decide) (by decide) (by decide) (by decide) (by decide), w1, g22]; omega, ?_, ?_, ?_⟩
  · intro t ht
    rw [g22]
    by_cases c : mi = 11
    · rw [if_pos c]
      unfold ye_R4
      by_cases c2 : t < (H 0).toNat
      · rw [if_pos c2]; exact (fin2 t _ ht (rows t ht) c).2
      · rw [if_neg c2]; exact (fin2 t _ ht (rows t ht) c).1
    · rw [if_neg c]; exact fin1 t _ (rows t ht) (by omega)
  · intro t ht hn w hw
    have ez := ye_z_b (R := R) (P := P) (W := H (76 + mi.toNat) + x) h0 (L := L) (O := O) (by omega) ht hn (by omega)
    by_cases c : mi = 11
    · rw [if_pos c]
      unfold ye_R4
      rw [if_neg (by omega), ez]; exact kz t ht hn w hw
    · rw [if_neg c, ez]; exact kz t ht hn w hw
  · intro j hj
    rw [g22] at hj
    by_cases c : j = mi.toNat
    · subst c
      rw [rv_up_s, rv_up_s, rv_up_s]
      omega
    · rw [rv_up_n c, rv_up_n c, rv_up_n c]; exact kl j (by omega)
end YH
