/-! a place of a set, on Nat -/
theorem inS_n (x o : Nat) (ho : o < 32) : inS (x : Int) (o : Int) ↔ (x >>> o) % 2 = 1 := by
  rw [inS_bit ⟨by omega, by omega⟩, iI_bv, Int.toNat_natCast, BitVec.getLsbD_ofNat, Nat.testBit_eq_decide_div_mod_eq, Nat.shiftRight_eq_div_pow]
  simp [ho]
