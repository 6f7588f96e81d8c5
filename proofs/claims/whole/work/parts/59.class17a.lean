theorem rm_b {w : Int} (h : 0 ≤ w ∧ w ≤ 6) : (w = 0 ∧ tat tRM w = 2) ∨ (w = 1 ∧ tat tRM w = 1) ∨ (2 ≤ w ∧ w ≤ 5 ∧ tat tRM w = 99) ∨ (w = 6 ∧ tat tRM w = 30) := by
  rcases (show w = 0 ∨ w = 1 ∨ w = 2 ∨ w = 3 ∨ w = 4 ∨ w = 5 ∨ w = 6 by omega) with e | e | e | e | e | e | e <;> subst e <;> decide

