/-! bits of small numbers, as numbers of Nat -/
theorem bvI (n : Nat) (h : n < 2147483648) : (BitVec.ofNat 32 n).toInt = (n : Int) := by
  rw [BitVec.toInt_eq_toNat_cond, BitVec.toNat_ofNat, Nat.mod_eq_of_lt (show n < 2 ^ 32 by omega), if_pos (by omega)]
theorem iI_bv (n : Nat) : (iI (n : Int)).toBitVec = BitVec.ofNat 32 n := by
  unfold iI
  rw [Int32.toBitVec_ofInt, BitVec.ofInt_natCast]
theorem zAnd_n (a b : Nat) (ha : a < 2147483648) : zAnd (a : Int) (b : Int) = ((a &&& b : Nat) : Int) := by
  unfold zAnd
  show ((iI (a : Int) &&& iI (b : Int)).toBitVec).toInt = _
  rw [Int32.toBitVec_and, iI_bv, iI_bv, ← BitVec.ofNat_and, bvI]
  exact Nat.lt_of_le_of_lt Nat.and_le_left ha
theorem zUshr_n (a k : Nat) (ha : a < 2147483648) (hk : k < 32) (e : ((iI (k : Int)).toUInt32 &&& Int32.toUInt32 31).toBitVec % 32 = BitVec.ofNat 32 k) : zUshr (a : Int) (k : Int) = ((a >>> k : Nat) : Int) := by
  unfold zUshr
  show (((iI (a : Int)).toUInt32 >>> ((iI (k : Int)).toUInt32 &&& Int32.toUInt32 31)).toBitVec).toInt = _
  rw [UInt32.toBitVec_shiftRight, e]
  show (((iI (a : Int)).toBitVec) >>> (BitVec.ofNat 32 k)).toInt = _
  rw [iI_bv, BitVec.ushiftRight_eq', BitVec.toNat_ofNat, Nat.mod_eq_of_lt (show k < 2 ^ 32 by omega)]
  have : (BitVec.ofNat 32 a) >>> k = BitVec.ofNat 32 (a >>> k) := by
    apply BitVec.eq_of_toNat_eq
    rw [BitVec.toNat_ushiftRight, BitVec.toNat_ofNat, BitVec.toNat_ofNat, Nat.mod_eq_of_lt (show a < 2 ^ 32 by omega), Nat.mod_eq_of_lt]
    exact Nat.lt_of_le_of_lt (Nat.shiftRight_le _ _) (by omega)
  rw [this, bvI]
  exact Nat.lt_of_le_of_lt (Nat.shiftRight_le _ _) ha
