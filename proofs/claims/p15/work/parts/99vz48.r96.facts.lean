/-! ===== rows that were wanting ===== -/
section WY
variable {d : Nat} {full : List mj_E} {Q : mj_P} {rest : List mj_E} {L : mj_L} {st : List mj_V} {G : mj_G} {M : mj_M} {cb sb pc : Nat} {aux : List Nat} {im : Int}
theorem w_ldc {k : Nat} (kk : wz d full Q rest L (.inl im :: st) G M cb sb) : wz d full Q ((.ldc k, pc, aux, im) :: rest) L st G M cb sb := wz_st kk
theorem w_ldcw {k : Nat} (kk : wz d full Q rest L (.inl im :: st) G M cb sb) : wz d full Q ((.ldc_w k, pc, aux, im) :: rest) L st G M cb sb := wz_st kk
theorem w_neg {x : Int} (hi : mj_in x) (hx : x ≠ -2147483648) (kk : wz d full Q rest L (.inl (-x) :: st) G M cb sb) : wz d full Q ((.ineg, pc, aux, im) :: rest) L (.inl x :: st) G M cb sb := wz_st (fun z hz e => by
  have e : z = (-(Int32.ofInt x)).toInt := e
  have h := hi
  have e2 : z = -x := by
    rw [e, Int32.toInt_neg, mj_ti hi]
    exact ab_bm1 (by have := h.2; omega) (by have := h.1; omega)
  rw [e2]; exact kk)
theorem w_abs {w k : Nat} {x : Int} (h8 : mj_cat st ≤ 8) (kk : ∀ z, (0 ≤ x → z = x) → (x < 0 → x ≠ -2147483648 → z = -x) → wz d full Q rest L (.inl z :: st) G M cb sb) : wz d full Q ((.invokestatic k, pc, [2, w], im) :: rest) L (.inl x :: st) G M cb sb := wz_st ⟨h8, fun z _ h1 h2 => kk z h1 h2⟩
theorem w_div {x y : Int} (hy : y ≠ 0) (kk : ∀ z, mj_in z → z = (Int32.ofInt x / Int32.ofInt y).toInt → wz d full Q rest L (.inl z :: st) G M cb sb) : wz d full Q ((.idiv, pc, aux, im) :: rest) L (.inl y :: .inl x :: st) G M cb sb := wz_st ⟨hy, kk⟩
end WY
/-! ===== the cheapest letting: numbers' facts ===== -/
theorem cp_up {M : mj_M} {a j n : Nat} {v : Int} {F : Nat → Int} (h : ∀ k, k < n → M.1 a k = F k) : ∀ k, k < n → (mj_p0 M a j v).1 a k = rv_up F j v k := fun k hk => by
  by_cases e : k = j
  · rw [e, rv_up_s]; exact hn_s
  · rw [rv_up_n e]; exact (hn_n (Or.inr e)).trans (h k hk)
section CX
variable {H : Nat → Int}
theorem cs_rt (h : rv_r4 H 0) {j : Nat} (h1 : 4 ≤ j) (h2 : j < 76) : 0 ≤ H j ∧ H j ≤ 999 := by
  have := h.2.2.2.2.1 ((j - 4) / 9) ((j - 4) % 9) (by omega) (by omega)
  rw [show 0 + (4 + 9 * ((j - 4) / 9) + (j - 4) % 9) = j by omega] at this; exact ⟨this.1, this.2.1⟩
theorem cs_rw (h : rv_r4 H 0) {j : Nat} (h1 : 76 ≤ j) (h2 : j < 88) : 0 ≤ H j ∧ H j ≤ 999 := by
  have := h.2.2.2.2.2 (j - 76) (by omega)
  rw [show 0 + (76 + (j - 76)) = j by omega] at this; exact this
theorem cs_r1 (h : rv_r4 H 0) : 0 ≤ H 1 ∧ H 1 ≤ 99 := h.2.1
theorem cs_te (h : rv_r4 H 0) : ((cs_t H : Nat) : Int) = H 0 := by
  have := h.1
  unfold cs_t; omega
theorem cs_oke (h : rv_r4 H 0) : cs_ok H := ⟨(cs_r1 h).1, fun k hk => by
  have e := cs_te h
  have := h.1
  exact (cs_rt h (by omega) (by omega)).1⟩
theorem cs_gain_i {k m : Int} (k0 : 0 ≤ k) (m0 : 0 ≤ m) : cs_gain H k.toNat m.toNat = if H (9 * k + 4).toNat < H (m + 76).toNat then H (m + 76).toNat - H (9 * k + 4).toNat else 0 := by
  unfold cs_gain
  rw [show 4 + 9 * k.toNat = (9 * k + 4).toNat by omega, show 76 + m.toNat = (m + 76).toNat by omega]
theorem cs_gain_9 (h : rv_r4 H 0) {k m : Nat} (hk : k < 8) (hm : m < 12) : 0 ≤ cs_gain H k m ∧ cs_gain H k m ≤ 999 := by
  have a := cs_rt h (j := 4 + 9 * k) (by omega) (by omega)
  have b := cs_rw h (j := 76 + m) (by omega) (by omega)
  unfold cs_gain; split <;> omega
theorem cs_all_9 (h : rv_r4 H 0) {k : Nat} (hk : k < 8) : ∀ (r m : Nat), m + r ≤ 12 → 0 ≤ cs_all H k r m ∧ cs_all H k r m ≤ 999 * r
  | 0, _, _ => ⟨Int.le_refl _, Int.le_refl _⟩
  | r + 1, m, e => by
    have h1 := cs_all_9 h hk r (m + 1) (by omega)
    have h2 := cs_gain_9 h hk (show m < 12 by omega)
    show 0 ≤ cs_gain H k m + cs_all H k r (m + 1) ∧ cs_gain H k m + cs_all H k r (m + 1) ≤ _
    omega
theorem cs_mul_b {u z : Int} (u0 : 0 ≤ u) (u9 : u ≤ 99) {n : Int} (z0 : 0 ≤ z) (zn : z ≤ n) : 0 ≤ u * z ∧ u * z ≤ 99 * n := ⟨Int.mul_nonneg u0 z0, Int.mul_le_mul u9 zn z0 (by decide)⟩
theorem cs_d_3 {a b n : Nat} (ha : a ≤ n) (hb : b ≤ n) : cs_d a b ≤ n := by
  unfold cs_d; split <;> omega
theorem cs_cost_9 (h : rv_r4 H 0) (h3 : H 0 ≤ 3) {a b : Nat} (ha : a ≤ cs_t H) (hb : b ≤ cs_t H) : 0 ≤ cs_cost H a b ∧ cs_cost H a b ≤ 1296 := by
  have e := cs_te h
  have h1 := cs_r1 h
  have d3 := cs_d_3 ha hb
  have m1 := cs_mul_b h1.1 h1.2 (cs_d_0 a b) (n := 3) (by omega)
  unfold cs_cost
  by_cases c : b < cs_t H ∧ a ≠ b
  · have := cs_rt h (j := 10 + 9 * b) (by omega) (by omega)
    rw [if_pos c]; omega
  · rw [if_neg c]; omega
theorem cs_cost_i {a b : Nat} {z v : Int} (hz : z = cs_d a b) (hv : v = if b < cs_t H ∧ a ≠ b then H (10 + 9 * b) else 0) : H 1 * z + v = cs_cost H a b := by
  subst hz; subst hv; rfl
/-- a place as a plan tells it -/
def cs_pc (H : Nat → Int) (z : Int) : Int := if z = H 0 then 8 else z
theorem cs_pc_i (h : rv_r4 H 0) {z : Int} (hz : 0 ≤ z) : cs_pc H z = cs_code H z.toNat := by
  have e := cs_te h
  unfold cs_pc cs_code
  by_cases c : z = H 0
  · rw [if_pos c, if_pos (by omega)]
  · rw [if_neg c, if_neg (by omega)]; omega
theorem cs_pc_n (h : rv_r4 H 0) (n : Nat) : cs_pc H (n : Int) = cs_code H n := cs_pc_i h (Int.natCast_nonneg n)
theorem cs_S_cg : ∀ (r m a : Nat) (L L' : Nat → Int), (∀ k, k < cs_t H → L k = L' k) → cs_S H r m a L = cs_S H r m a L'
  | 0, m, a, L, L', h => by
    have e : cs_met H L ↔ cs_met H L' := ⟨fun q k hk => by rw [← h k hk]; exact q k hk, fun q k hk => by rw [h k hk]; exact q k hk⟩
    unfold cs_S
    by_cases c : cs_met H L
    · rw [if_pos c, if_pos (e.mp c)]
    · rw [if_neg c, if_neg (fun z => c (e.mpr z))]
  | r + 1, m, a, L, L', h => by
    show cs_fold _ _ = cs_fold _ _
    refine cs_fold_cg _ (fun c hc => ?_)
    show cs_add _ _ _ (cs_S H r (m + 1) c (cs_lk H L c m)) = cs_add _ _ _ (cs_S H r (m + 1) c (cs_lk H L' c m))
    rw [cs_S_cg r (m + 1) c (cs_lk H L c m) (cs_lk H L' c m) (fun k hk => by unfold cs_lk; rw [h k hk])]
theorem cs_pre_cg {k : Int} {P P' : Nat → Int} {m : Nat} {a : cs_R} (h : ∀ j, j < m → P j = P' j) : cs_pre k P m a = cs_pre k P' m a := by
  cases a with
  | none => rfl
  | some x =>
    show some (k + x.1, _) = some (k + x.1, _)
    congr 1
    refine Prod.ext rfl (funext fun j => ?_)
    show (if j < m then P j else x.2 j) = (if j < m then P' j else x.2 j)
    by_cases e : j < m
    · rw [if_pos e, if_pos e, h j e]
    · rw [if_neg e, if_neg e]
/-- a best so far in numbers (far: none; then the plan is as it was) -/
def cs_N (far : Int) (P0 : Nat → Int) (b : cs_R) (best : Int) (PL : Nat → Int) : Prop := match b with
  | none => best = far ∧ ∀ j, j < 12 → PL j = P0 j
  | some x => x.1 = best ∧ 0 ≤ best ∧ best < far ∧ ∀ j, j < 12 → PL j = x.2 j
theorem cs_N.b {far : Int} {P0 : Nat → Int} {b : cs_R} {best : Int} {PL : Nat → Int} (h : cs_N far P0 b best PL) (h0 : 0 ≤ far) : 0 ≤ best ∧ best ≤ far := by
  cases b with
  | none => have h : best = far := h.1; omega
  | some x => obtain ⟨-, h1, h2, -⟩ := h; omega
theorem cs_N.le {far : Int} {P0 : Nat → Int} {b : cs_R} {best k : Int} {PL : Nat → Int} (h : cs_N far P0 b best PL) (hk : best ≤ k) (hf : k < far) : cs_le b k := by
  cases b with
  | none => have h : best = far := h.1; omega
  | some x => exact ⟨x, rfl, by rw [h.1]; exact hk⟩
theorem cs_N.cg {far : Int} {P0 : Nat → Int} {b : cs_R} {best : Int} {PL PL' : Nat → Int} (h : cs_N far P0 b best PL) (e : ∀ j, j < 12 → PL' j = PL j) : cs_N far P0 b best PL' := by
  cases b with
  | none => exact ⟨h.1, fun j hj => (e j hj).trans (h.2 j hj)⟩
  | some x => exact ⟨h.1, h.2.1, h.2.2.1, fun j hj => (e j hj).trans (h.2.2.2 j hj)⟩
/-- a better one is taken -/
theorem cs_N.tk {far : Int} {P0 : Nat → Int} {b : cs_R} {best k : Int} {PL : Nat → Int} (h : cs_N far P0 b best PL) (x : Int × (Nat → Int)) (e : x.1 = k) (hk : k < best) : cs_min b (some x) = some x := by
  cases b with
  | none => rfl
  | some y =>
    have := h.1
    exact if_pos (by omega)
end CX
