theorem zAnd_le {a b : Int} (h : 0 ≤ a ∧ a ≤ 2147483647) : 0 ≤ zAnd a b ∧ zAnd a b ≤ a := by
  have ea : (iI a).toBitVec.toInt = a := iI_toInt ⟨by omega, by omega⟩
  have ha : (iI a).toBitVec.toNat < 2147483648 ∧ ((iI a).toBitVec.toNat : Int) = a := by
    rw [BitVec.toInt_eq_toNat_cond] at ea
    have hl := (iI a).toBitVec.isLt
    split at ea <;> omega
  have e : zAnd a b = ((iI a).toBitVec &&& (iI b).toBitVec).toInt := by
    show (iI a &&& iI b).toBitVec.toInt = _
    rw [Int32.toBitVec_and]
  have hn : ((iI a).toBitVec &&& (iI b).toBitVec).toNat ≤ (iI a).toBitVec.toNat := by
    rw [BitVec.toNat_and]; exact Nat.and_le_left
  rw [e, BitVec.toInt_eq_toNat_cond, if_pos (by omega)]
  omega
theorem zAnd_63 {a b : Int} (h : 0 ≤ a ∧ a ≤ 63) : 0 ≤ zAnd a b ∧ zAnd a b ≤ 63 := by
  have := zAnd_le (a := a) (b := b) (by omega)
  omega
theorem omS_b {M : Int → Int} {bs k : Int} (h : 0 ≤ k ∧ k ≤ 6) : 0 ≤ omS M bs k ∧ omS M bs k ≤ 63 := by
  have key : ∀ j : Nat, j ≤ 6 → 0 ≤ omN M bs j ∧ omN M bs j ≤ 63 := by
    intro j
    induction j with
    | zero => intro _; exact ⟨Int.le_refl _, by show (0 : Int) ≤ 63; decide⟩
    | succ j ih =>
      intro hj
      have h1 := ih (by omega)
      show 0 ≤ cif _ _ _ ∧ cif _ _ _ ≤ (63 : Int)
      by_cases c : HallQ M (zOr (omN M bs j) (zShl 1 (j : Int))) bs
      · rw [cif_t c]; exact zOr_63 h1 ⟨by omega, by omega⟩
      · rw [cif_f c]; exact h1
  exact key k.toNat (by omega)
/-- what boardFor answers -/
def bfP (M : Int → Int) (o oth bs r : Int) : Prop := (∃ b, 0 ≤ b ∧ b < 16 ∧ r = zShl 1 b ∧ (zAnd (zAnd (M o) bs) (zShl 1 b) ≠ 0 ∧ HallQ M oth (zAnd bs (zXor (zShl 1 b) (-1)))) ∧ ∀ c, 0 ≤ c → c < b → ¬ (zAnd (zAnd (M o) bs) (zShl 1 c) ≠ 0 ∧ HallQ M oth (zAnd bs (zXor (zShl 1 c) (-1))))) ∨ (r = 0 ∧ ∀ c, 0 ≤ c → c < 16 → ¬ (zAnd (zAnd (M o) bs) (zShl 1 c) ≠ 0 ∧ HallQ M oth (zAnd bs (zXor (zShl 1 c) (-1)))))
noncomputable def bfC (M : Int → Int) (o oth bs : Int) : Int := Classical.epsilon fun r => bfP M o oth bs r
theorem bfP_u {M : Int → Int} {o oth bs r r' : Int} (h : bfP M o oth bs r) (h' : bfP M o oth bs r') : r = r' := by
  rcases h with ⟨b, h1, h2, h3, h4, h5⟩ | ⟨h1, h2⟩ <;> rcases h' with ⟨b', g1, g2, g3, g4, g5⟩ | ⟨g1, g2⟩
  · have e : b = b' := by
      rcases Int.lt_trichotomy b b' with q | q | q
      · exact absurd h4 (g5 b h1 q)
      · exact q
      · exact absurd g4 (h5 b' g1 q)
    rw [h3, g3, e]
  · exact absurd h4 (g2 b h1 h2)
  · exact absurd g4 (h2 b' g1 g2)
  · rw [h1, g1]
theorem bf_u {M : Int → Int} {o oth bs r : Int} (h : bfP M o oth bs r) : bfC M o oth bs = r := by
  have h2 : bfP M o oth bs (bfC M o oth bs) := Classical.epsilon_spec (p := fun r => bfP M o oth bs r) ⟨r, h⟩
  exact bfP_u h2 h
/-- serving: orders still open, boards still there, k orders looked at -/
noncomputable def svCN (M : Int → Int) (om bs : Int) : Nat → Int × Int
  | 0 => (om, bs)
  | k + 1 => cif (inS om k) (zAnd (svCN M om bs k).1 (zXor (zShl 1 k) (-1)), zAnd (svCN M om bs k).2 (zXor (bfC M k (zAnd (svCN M om bs k).1 (zXor (zShl 1 k) (-1))) (svCN M om bs k).2) (-1))) (svCN M om bs k)
noncomputable def svC (M : Int → Int) (om bs k : Int) : Int × Int := svCN M om bs k.toNat
theorem svC_s {M : Int → Int} {om bs k : Int} (h : 0 ≤ k) : svC M om bs (k + 1) = cif (inS om k) (zAnd (svC M om bs k).1 (zXor (zShl 1 k) (-1)), zAnd (svC M om bs k).2 (zXor (bfC M k (zAnd (svC M om bs k).1 (zXor (zShl 1 k) (-1))) (svC M om bs k).2) (-1))) (svC M om bs k) := by
  unfold svC
  rw [show (k + 1).toNat = k.toNat + 1 by omega]
  show cif (inS om (k.toNat : Int)) (zAnd _ (zXor (zShl 1 (k.toNat : Int)) (-1)), zAnd _ (zXor (bfC M (k.toNat : Int) (zAnd _ (zXor (zShl 1 (k.toNat : Int)) (-1))) _) (-1))) _ = _
  rw [Int.toNat_of_nonneg h]
theorem sv_40 {V V2 V3 : Nat → Int → Int} (h1 : ∀ q z, q ≠ 1 + 3 → ¬ (q = 1 ∧ z = 8) → V2 q z = V q z) (h2 : ∀ q z, q ≠ 1 + 4 → ¬ (q = 1 ∧ z = 10) → V3 q z = V2 q z) : V3 40 = V 40 := funext fun z => (h2 40 z (by decide) (by omega)).trans (h1 40 z (by decide) (by omega))

