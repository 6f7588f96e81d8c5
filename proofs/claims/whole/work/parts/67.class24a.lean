theorem tLT_b (j : Int) : 0 ≤ tat tLT j ∧ tat tLT j ≤ 127 := by
  by_cases h : j.toNat < 7
  · have : ∀ i, i < 7 → (0 : Int) ≤ tLT.getD i 0 ∧ tLT.getD i 0 ≤ 127 := by decide
    exact this _ h
  · have e1 : tat tLT j = 0 := by unfold tat; rw [List.getD_eq_getElem?_getD, List.getElem?_eq_none (by show 7 ≤ j.toNat; omega)]; rfl
    rw [e1]; decide
theorem kb_y {c j : Int} (hc : 0 ≤ c ∧ c ≤ 255) (hj : 0 ≤ j ∧ j < 7) (h : tat tLT j = sB c) : j = kbT c := by
  rw [sB_c hc] at h
  have hb := tLT_b j
  have e : c = tat tLT j := by split at h <;> omega
  rw [e]
  rcases (show j = 0 ∨ j = 1 ∨ j = 2 ∨ j = 3 ∨ j = 4 ∨ j = 5 ∨ j = 6 by omega) with q | q | q | q | q | q | q <;> subst q <;> decide
theorem kb_n {c : Int} (hc : 0 ≤ c ∧ c ≤ 255) (h : ∀ x, 0 ≤ x → x < 7 → tat tLT x ≠ sB c) : (-1 : Int) = kbT c := by
  have h0 := h 0 (by decide) (by decide)
  have h1 := h 1 (by decide) (by decide)
  have h2 := h 2 (by decide) (by decide)
  have h3 := h 3 (by decide) (by decide)
  have h4 := h 4 (by decide) (by decide)
  have h5 := h 5 (by decide) (by decide)
  have h6 := h 6 (by decide) (by decide)
  rw [sB_c hc] at h0 h1 h2 h3 h4 h5 h6
  rw [show tat tLT 0 = 107 from rfl] at h0
  rw [show tat tLT 1 = 108 from rfl] at h1
  rw [show tat tLT 2 = 115 from rfl] at h2
  rw [show tat tLT 3 = 104 from rfl] at h3
  rw [show tat tLT 4 = 114 from rfl] at h4
  rw [show tat tLT 5 = 111 from rfl] at h5
  rw [show tat tLT 6 = 116 from rfl] at h6
  unfold kbT
  by_cases q : c < 128
  · rw [if_pos q] at h0 h1 h2 h3 h4 h5 h6
    (repeat' split) <;> omega
  · (repeat' split) <;> omega
/-- can a byte be part q of an item -/
def canP (v q : Int) : Prop := (q = 0 ∧ 0 ≤ kbT v) ∨ (q = 3 ∧ 49 ≤ v ∧ v ≤ 52) ∨ (q ≠ 0 ∧ q ≠ 3 ∧ 48 ≤ v ∧ v ≤ 55)

