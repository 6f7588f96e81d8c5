theorem shl_16 {k : Int} (h : 0 ≤ k ∧ k ≤ 16) : 1 ≤ zShl 1 k ∧ zShl 1 k ≤ 65536 := by
  obtain ⟨j, rfl⟩ : ∃ j : Nat, k = j := ⟨k.toNat, by omega⟩
  have e : ∀ j : Fin 17, 1 ≤ zShl 1 ((j.val : Nat) : Int) ∧ zShl 1 ((j.val : Nat) : Int) ≤ 65536 := by decide +kernel
  exact e ⟨j, by omega⟩
theorem zOr_63 {a k : Int} (h : 0 ≤ a ∧ a ≤ 63) (hk : 0 ≤ k ∧ k < 6) : 0 ≤ zOr a (zShl 1 k) ∧ zOr a (zShl 1 k) ≤ 63 := by
  obtain ⟨j, rfl⟩ : ∃ j : Nat, k = j := ⟨k.toNat, by omega⟩
  obtain ⟨i, rfl⟩ : ∃ i : Nat, a = i := ⟨a.toNat, by omega⟩
  have e : ∀ i : Fin 64, ∀ j : Fin 6, 0 ≤ zOr ((i.val : Nat) : Int) (zShl 1 ((j.val : Nat) : Int)) ∧ zOr ((i.val : Nat) : Int) (zShl 1 ((j.val : Nat) : Int)) ≤ 63 := by decide +kernel
  exact e ⟨i, by omega⟩ ⟨j, by omega⟩
/-- the orders met, of the first k, by greed -/
noncomputable def omN (M : Int → Int) (bs : Int) : Nat → Int
  | 0 => 0
  | k + 1 => cif (HallQ M (zOr (omN M bs k) (zShl 1 k)) bs) (zOr (omN M bs k) (zShl 1 k)) (omN M bs k)
noncomputable def omS (M : Int → Int) (bs k : Int) : Int := omN M bs k.toNat
theorem omS_s {M : Int → Int} {bs k : Int} (h : 0 ≤ k) : omS M bs (k + 1) = cif (HallQ M (zOr (omS M bs k) (zShl 1 k)) bs) (zOr (omS M bs k) (zShl 1 k)) (omS M bs k) := by
  unfold omS
  rw [show (k + 1).toNat = k.toNat + 1 by omega]
  show cif (HallQ M (zOr _ (zShl 1 (k.toNat : Int))) bs) (zOr _ (zShl 1 (k.toNat : Int))) _ = _
  rw [Int.toNat_of_nonneg h]

