/-! popc of a small number, on Nat -/
def pc1 (x : Nat) : Nat := x - ((x >>> 1) &&& 1431655765)
def pc2 (x : Nat) : Nat := (x &&& 858993459) + ((x >>> 2) &&& 858993459)
def pc3 (x : Nat) : Nat := (x + (x >>> 4)) &&& 252645135
def pc4 (x : Nat) : Nat := x + (x >>> 8)
def pc5 (x : Nat) : Nat := x + (x >>> 16)
def pcN (x : Nat) : Nat := pc5 (pc4 (pc3 (pc2 (pc1 x)))) &&& 63
theorem shr_le (a k : Nat) : a >>> k ≤ a := Nat.shiftRight_le a k
theorem popc_n (x : Nat) (h : x < 65536) : popc (x : Int) = ((pcN x : Nat) : Int) := by
  have l1 : pc1 x ≤ x := Nat.sub_le _ _
  have g1 : (x >>> 1) &&& 1431655765 ≤ x := Nat.le_trans Nat.and_le_left (shr_le x 1)
  have l2 : pc2 (pc1 x) ≤ 2 * 65536 := by
    have a : (pc1 x) &&& 858993459 ≤ pc1 x := Nat.and_le_left
    have b : ((pc1 x) >>> 2) &&& 858993459 ≤ pc1 x := Nat.le_trans Nat.and_le_left (shr_le _ 2)
    unfold pc2; omega
  have l3 : pc3 (pc2 (pc1 x)) ≤ 4 * 65536 := by
    have a := shr_le (pc2 (pc1 x)) 4
    exact Nat.le_trans (Nat.and_le_left (n := pc2 (pc1 x) + (pc2 (pc1 x)) >>> 4)) (by omega)
  have l4 : pc4 (pc3 (pc2 (pc1 x))) ≤ 8 * 65536 := by
    have a := shr_le (pc3 (pc2 (pc1 x))) 8
    unfold pc4; omega
  have l5 : pc5 (pc4 (pc3 (pc2 (pc1 x)))) ≤ 16 * 65536 := by
    have a := shr_le (pc4 (pc3 (pc2 (pc1 x)))) 16
    unfold pc5; omega
  have e1 : (x : Int) - zAnd (zUshr (x : Int) 1) 1431655765 = ((pc1 x : Nat) : Int) := by
    have u : zUshr (x : Int) 1 = ((x >>> 1 : Nat) : Int) := zUshr_n x 1 (by omega) (by decide) (by decide)
    have v : zAnd ((x >>> 1 : Nat) : Int) 1431655765 = (((x >>> 1) &&& 1431655765 : Nat) : Int) := zAnd_n _ _ (by have := shr_le x 1; omega)
    rw [u, v]; unfold pc1; omega
  have e2 : zAnd ((pc1 x : Nat) : Int) 858993459 + zAnd (zUshr ((pc1 x : Nat) : Int) 2) 858993459 = ((pc2 (pc1 x) : Nat) : Int) := by
    have u : zUshr ((pc1 x : Nat) : Int) 2 = (((pc1 x) >>> 2 : Nat) : Int) := zUshr_n _ 2 (by omega) (by decide) (by decide)
    have v : zAnd (((pc1 x) >>> 2 : Nat) : Int) 858993459 = ((((pc1 x) >>> 2) &&& 858993459 : Nat) : Int) := zAnd_n _ _ (by have := shr_le (pc1 x) 2; omega)
    have w : zAnd ((pc1 x : Nat) : Int) 858993459 = (((pc1 x) &&& 858993459 : Nat) : Int) := zAnd_n _ _ (by omega)
    rw [u, v, w]; unfold pc2; omega
  have e3 : zAnd (((pc2 (pc1 x) : Nat) : Int) + zUshr ((pc2 (pc1 x) : Nat) : Int) 4) 252645135 = ((pc3 (pc2 (pc1 x)) : Nat) : Int) := by
    have u : zUshr ((pc2 (pc1 x) : Nat) : Int) 4 = (((pc2 (pc1 x)) >>> 4 : Nat) : Int) := zUshr_n _ 4 (by omega) (by decide) (by decide)
    rw [u, ← Int.natCast_add]
    exact zAnd_n _ _ (by have := shr_le (pc2 (pc1 x)) 4; omega)
  have e4 : ((pc3 (pc2 (pc1 x)) : Nat) : Int) + zUshr ((pc3 (pc2 (pc1 x)) : Nat) : Int) 8 = ((pc4 (pc3 (pc2 (pc1 x))) : Nat) : Int) := by
    have u : zUshr ((pc3 (pc2 (pc1 x)) : Nat) : Int) 8 = (((pc3 (pc2 (pc1 x))) >>> 8 : Nat) : Int) := zUshr_n _ 8 (by omega) (by decide) (by decide)
    rw [u]; unfold pc4; omega
  have e5 : ((pc4 (pc3 (pc2 (pc1 x))) : Nat) : Int) + zUshr ((pc4 (pc3 (pc2 (pc1 x))) : Nat) : Int) 16 = ((pc5 (pc4 (pc3 (pc2 (pc1 x)))) : Nat) : Int) := by
    have u : zUshr ((pc4 (pc3 (pc2 (pc1 x))) : Nat) : Int) 16 = (((pc4 (pc3 (pc2 (pc1 x)))) >>> 16 : Nat) : Int) := zUshr_n _ 16 (by omega) (by decide) (by decide)
    rw [u]; unfold pc5; omega
  unfold popc
  show zAnd _ 63 = _
  rw [e1, e2, e3, e4, e5]
  exact zAnd_n _ 63 (by omega)
