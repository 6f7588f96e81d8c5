/-- the boards that meet some order of few, k orders looked at -/
noncomputable def bmN (M : Int → Int) (fw : Int) : Nat → Int
  | 0 => 0
  | k + 1 => cif (inS fw k) (zOr (bmN M fw k) (M k)) (bmN M fw k)
noncomputable def bmS (M : Int → Int) (fw k : Int) : Int := bmN M fw k.toNat
theorem bmS_s {M : Int → Int} {fw k : Int} (h : 0 ≤ k) : bmS M fw (k + 1) = cif (inS fw k) (zOr (bmS M fw k) (M k)) (bmS M fw k) := by
  unfold bmS
  rw [show (k + 1).toNat = k.toNat + 1 by omega]
  show cif (inS fw (k.toNat : Int)) (zOr _ (M (k.toNat : Int))) _ = _
  rw [Int.toNat_of_nonneg h]
/-- no few of the orders os have fewer boards among bs -/
def HallQ (M : Int → Int) (os bs : Int) : Prop := ∀ fw, 1 ≤ fw → fw ≤ os → zAnd fw (zXor os (-1)) = 0 → popc fw ≤ popc (zAnd (bmS M fw 6) bs)

