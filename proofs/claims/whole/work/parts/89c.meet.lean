/-! a board meets an order: the class's rows against the model's -/
/-- the class's order rows are the model's, in their own order -/
def OrdEq (o o' : Int → Int) (m : Int) : Prop := ∀ j, 0 ≤ j → j < m → o (4 * j) = o' (4 * j) ∧ o (4 * j + 3) = o' (4 * j + 1) ∧ o (4 * j + 1) = o' (4 * j + 2) ∧ o (4 * j + 2) = o' (4 * j + 3)
def RowEq (c c' : Int → Int) (n : Int) : Prop := ∀ z, 0 ≤ z → z < 4 * n → c z = c' z
theorem meet_eq {c c' o o' : Int → Int} {n m b j : Int} (hc : RowEq c c' n) (ho : OrdEq o o' m) (hb : 0 ≤ b ∧ b < n) (hj : 0 ≤ j ∧ j < m) : meetQ c o (4 * b) (4 * j) ↔ meetP c' o' b j := by
  obtain ⟨a0, a1, a2, a3⟩ := ho j hj.1 hj.2
  have c0 := hc (4 * b) (by omega) (by omega)
  have c1 := hc (4 * b + 1) (by omega) (by omega)
  have c2 := hc (4 * b + 2) (by omega) (by omega)
  have c3 := hc (4 * b + 3) (by omega) (by omega)
  unfold meetQ meetP
  rw [a0, a1, a2, a3, c0, c1, c2, c3]
  exact ⟨fun h => ⟨h.1, h.2.2.2, h.2.1, h.2.2.1⟩, fun h => ⟨h.1, h.2.2.1, h.2.2.2, h.2.1⟩⟩
