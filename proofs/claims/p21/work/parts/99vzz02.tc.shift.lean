/-! ===== letters out of a name's number ===== -/
section LR
variable {d : Nat} {full : List mj_E} {Q : mj_P} {rest : List mj_E} {L : mj_L} {st : List mj_V} {G : mj_G} {M : mj_M} {cb sb pc : Nat} {aux : List Nat} {im : Int}
theorem w_lshr {x : Int64} {y : Int} (kk : wz d full Q rest L (.inr (.inl (x >>> ((Int32.ofInt y).toInt64 &&& 63))) :: st) G M cb sb) : wz d full Q ((.lshr, pc, aux, im) :: rest) L (.inl y :: .inr (.inl x) :: st) G M cb sb := wz_st kk
theorem w_land {x y : Int64} (kk : wz d full Q rest L (.inr (.inl (x &&& y)) :: st) G M cb sb) : wz d full Q ((.land, pc, aux, im) :: rest) L (.inr (.inl y) :: .inr (.inl x) :: st) G M cb sb := wz_st kk
theorem w_l2i {x : Int64} (kk : ∀ z, mj_in z → z = x.toInt32.toInt → wz d full Q rest L (.inl z :: st) G M cb sb) : wz d full Q ((.l2i, pc, aux, im) :: rest) L (.inr (.inl x) :: st) G M cb sb := wz_st kk
end LR
theorem pt_shr {N s : Nat} {y : Int64} (hN : N < 2 ^ 63) (hy : (y.toBitVec.smod 64).toNat = s) : (Int64.ofNat N >>> y).toBitVec.toNat = N / 2 ^ s := by
  have e : (Int64.ofNat N).toBitVec = BitVec.ofNat 64 N := rfl
  have m : (BitVec.ofNat 64 N).msb = false := by rw [BitVec.msb_eq_false_iff_two_mul_lt, BitVec.toNat_ofNat]; omega
  rw [Int64.toBitVec_shiftRight, e]
  show ((BitVec.ofNat 64 N).sshiftRight (y.toBitVec.smod 64).toNat).toNat = _
  rw [hy, BitVec.sshiftRight_eq_of_msb_false m, BitVec.toNat_ushiftRight, BitVec.toNat_ofNat, Nat.shiftRight_eq_div_pow]
  rw [Nat.mod_eq_of_lt (by omega)]
theorem pt_sh5 {N : Nat} {k : Nat} (hN : N < 2 ^ 63) (hk : k < 8) : (Int64.ofNat N >>> ((Int32.ofInt (5 * k : Int)).toInt64 &&& 63)).toBitVec.toNat = N / 2 ^ (5 * k) := by
  have h : ∀ k : Fin 8, ((((Int32.ofInt (5 * (k.val : Int))).toInt64 &&& 63).toBitVec).smod 64).toNat = 5 * k.val := by decide +kernel
  exact pt_shr hN (h ⟨k, hk⟩)
theorem pt_sh8 {N : Nat} {k : Nat} (hN : N < 2 ^ 63) (hk : k < 8) : (Int64.ofNat N >>> ((Int32.ofInt (8 * k : Int)).toInt64 &&& 63)).toBitVec.toNat = N / 2 ^ (8 * k) := by
  have h : ∀ k : Fin 8, ((((Int32.ofInt (8 * (k.val : Int))).toInt64 &&& 63).toBitVec).smod 64).toNat = 8 * k.val := by decide +kernel
  exact pt_shr hN (h ⟨k, hk⟩)
theorem pt_and {x : Int64} {n : Nat} (hx : x.toBitVec.toNat = n) : (x &&& 31).toBitVec.toNat = n % 32 ∧ (x &&& 255).toBitVec.toNat = n % 256 := by
  constructor
  · rw [Int64.toBitVec_and, BitVec.toNat_and, hx]
    show n &&& 31 = n % 32
    exact Nat.and_two_pow_sub_one_eq_mod n 5
  · rw [Int64.toBitVec_and, BitVec.toNat_and, hx]
    show n &&& 255 = n % 256
    exact Nat.and_two_pow_sub_one_eq_mod n 8
theorem pt_toi {x : Int64} {n : Nat} (hx : x.toBitVec.toNat = n) (hn : n < 256) : x.toInt32.toInt = (n : Int) := by
  have e : x.toInt32.toBitVec = x.toBitVec.signExtend 32 := rfl
  have e2 : x.toInt32.toBitVec.toNat = n := by
    rw [show x.toInt32.toBitVec = x.toBitVec.setWidth 32 from by rw [e]; exact BitVec.signExtend_eq_setWidth_of_le _ (by decide), BitVec.toNat_setWidth, hx]
    exact Nat.mod_eq_of_lt (by omega)
  show x.toInt32.toBitVec.toInt = _
  rw [BitVec.toInt_eq_toNat_of_lt (by rw [e2]; omega), e2]
