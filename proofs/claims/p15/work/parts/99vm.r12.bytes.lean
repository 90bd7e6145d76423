/-! ===== bytes that come: by >>> or by >>, they are the same ===== -/
theorem rv_bk (x : BitVec 32) (s : Nat) (hs : s ≤ 24) : (x >>> s).setWidth 8 = (x.sshiftRight s).setWidth 8 := by
  apply BitVec.eq_of_getLsbD_eq
  intro i hi
  rw [BitVec.getLsbD_setWidth, BitVec.getLsbD_setWidth, BitVec.getLsbD_ushiftRight, BitVec.getLsbD_sshiftRight]
  have h1 : decide (32 ≤ i) = false := decide_eq_false (by omega)
  have h2 : s + i < 32 := by omega
  simp [h1, h2]
  try omega
theorem rv_kk (x s : Int32) (u : UInt32) (i : Nat) (hi : i ≤ 24) (hu : u.toBitVec % 32 = BitVec.ofNat 32 i) (hs : s.toBitVec.smod 32 = BitVec.ofNat 32 i) : ((x.toUInt32 >>> u).toInt32).toInt8 = (x >>> s).toInt8 := by
  apply Int8.toBitVec_inj.mp
  rw [Int32.toBitVec_toInt8, Int32.toBitVec_toInt8, UInt32.toBitVec_toInt32, UInt32.toBitVec_shiftRight, Int32.toBitVec_shiftRight, hu, hs, BitVec.signExtend_eq_setWidth_of_le _ (by decide), BitVec.signExtend_eq_setWidth_of_le _ (by decide)]
  have e : (BitVec.ofNat 32 i).toNat = i := by rw [BitVec.toNat_ofNat]; exact Nat.mod_eq_of_lt (by omega)
  show (x.toBitVec >>> (BitVec.ofNat 32 i).toNat).setWidth 8 = (x.toBitVec.sshiftRight (BitVec.ofNat 32 i).toNat).setWidth 8
  rw [e]
  exact rv_bk _ _ hi
theorem rv_b712 (v : Int) : ∀ j, j < 4 → rv_b7 v j = rv_b12 v j := by
  intro j hj
  unfold rv_b7 rv_b12 rv_s7 rv_s12
  rw [mj_it, mj_it]
  have h : j = 0 ∨ j = 1 ∨ j = 2 ∨ j = 3 := by omega
  rcases h with rfl | rfl | rfl | rfl
  · rw [rv_kk (Int32.ofInt v) (Int32.ofInt (24 - 8 * ((0 : Nat) : Int)) &&& 31) _ 24 (by decide) (by decide) (by decide)]
  · rw [rv_kk (Int32.ofInt v) (Int32.ofInt (24 - 8 * ((1 : Nat) : Int)) &&& 31) _ 16 (by decide) (by decide) (by decide)]
  · rw [rv_kk (Int32.ofInt v) (Int32.ofInt (24 - 8 * ((2 : Nat) : Int)) &&& 31) _ 8 (by decide) (by decide) (by decide)]
  · rw [rv_kk (Int32.ofInt v) (Int32.ofInt (24 - 8 * ((3 : Nat) : Int)) &&& 31) _ 0 (by decide) (by decide) (by decide)]
