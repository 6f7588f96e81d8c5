/-- the borders of the sums are 0 -/
def SwZ (V : Nat → Int → Int) (sv : Nat) : Prop := ∀ y s x : Int, 0 ≤ y → y < 12 → 0 ≤ s → s ≤ 8 → 0 ≤ x → x ≤ 12 → (s = 0 ∨ x = 0) → V (sv + 4) (y * 117 + s * 13 + x) = 0 ∧ V (sv + 5) (y * 117 + s * 13 + x) = 0
/-- the sums are right up to row y, slice s, column x -/
def SumI (V : Nat → Int → Int) (sv : Nat) (H : Int → Int → Int → Int) (L y s x : Int) : Prop := ∀ y1 s1 x1 : Int, 0 ≤ y1 → y1 < 12 → 0 ≤ s1 → s1 ≤ L → 0 ≤ x1 → x1 ≤ 12 → (y1 < y ∨ (y1 = y ∧ (s1 ≤ s ∨ (s1 = s + 1 ∧ x1 ≤ x)))) → V (sv + 4) (y1 * 117 + s1 * 13 + x1) = sm (fun i => sm (H i y1) x1) s1 ∧ V (sv + 5) (y1 * 117 + s1 * 13 + x1) = sm (fun i => sm (fun c => bI (H i y1 c = 9)) x1) s1
theorem sm_zero {z : Int} (h : 0 ≤ z) : sm (fun _ => (0 : Int)) z = 0 := by
  have := sm_tailI (f := fun _ => (0 : Int)) (a := 0) (b := z) (by omega) h (fun _ _ _ => rfl)
  exact this
theorem SS_0 {r : Int → Int → Int} {s x : Int} (hs : 0 ≤ s) (h : s = 0 ∨ x = 0) : sm (fun i => sm (r i) x) s = 0 := by
  rcases h with h | h
  · subst h; rfl
  · subst h; exact sm_zero hs
theorem SS_b {r : Int → Int → Int} (hr : ∀ i c, 0 ≤ r i c ∧ r i c ≤ 9) {s x : Int} (hs : 0 ≤ s ∧ s ≤ 8) (hx : 0 ≤ x ∧ x ≤ 12) : 0 ≤ sm (fun i => sm (r i) x) s ∧ sm (fun i => sm (r i) x) s ≤ 864 := by
  have h1 : ∀ i : Int, 0 ≤ sm (r i) x ∧ sm (r i) x ≤ 108 := fun i => by
    have := sm_b (f := r i) (A := 9) hx.1 (fun c _ _ => hr i c)
    omega
  have := sm_b (f := fun i => sm (r i) x) (A := 108) hs.1 (fun i _ _ => h1 i)
  omega
theorem SS_step {h : Int → Int → Int} {s x w : Int} (hs : 0 ≤ s) (hw : w = sm (h s) (x + 1)) : sm (fun i => sm (h i) (x + 1)) s + w = sm (fun i => sm (h i) (x + 1)) (s + 1) := by rw [sm_s hs, hw]
theorem idx_inj {y s x y1 s1 x1 : Int} (hx : 0 ≤ x ∧ x ≤ 12) (hs : 0 ≤ s ∧ s ≤ 8) (hx1 : 0 ≤ x1 ∧ x1 ≤ 12) (hs1 : 0 ≤ s1 ∧ s1 ≤ 8) (h : y1 * 117 + s1 * 13 + x1 = y * 117 + s * 13 + x) : y1 = y ∧ s1 = s ∧ x1 = x := by
  have e1 : y1 = y := by omega
  have e2 : s1 = s := by omega
  exact ⟨e1, e2, by omega⟩
section SU
variable {V : Nat → Int → Int} {sv : Nat} {H : Int → Int → Int → Int} {L y s x p A B : Int}
theorem SumI.base (hZ : SwZ V sv) (hL : L ≤ 8 := by omega) : SumI V sv H L 0 0 0 := by
  intro y1 s1 x1 a b c d e f g
  have hz := hZ y1 s1 x1 a b c (by omega) e f (by omega)
  rw [hz.1, hz.2, SS_0 c (by omega), SS_0 (r := fun i c => bI (H i y1 c = 9)) c (by omega)]
  exact ⟨rfl, rfl⟩
theorem SumI.row (h : SumI V sv H L y s x) (hZ : SwZ V sv) (hx : 12 ≤ x) (hL : L ≤ 8 := by omega) : SumI V sv H L y (s + 1) 0 := by
  intro y1 s1 x1 a b c d e f g
  by_cases q : y1 < y ∨ (y1 = y ∧ s1 ≤ s + 1)
  · exact h y1 s1 x1 a b c d e f (by omega)
  · have hz := hZ y1 s1 x1 a b c (by omega) e f (by omega)
    rw [hz.1, hz.2, SS_0 c (by omega), SS_0 (r := fun i c => bI (H i y1 c = 9)) c (by omega)]
    exact ⟨rfl, rfl⟩
theorem SumI.col (h : SumI V sv H L y s x) (hZ : SwZ V sv) (hs : L ≤ s) (hL : L ≤ 8 := by omega) : SumI V sv H L (y + 1) 0 0 := by
  intro y1 s1 x1 a b c d e f g
  by_cases q : y1 < y + 1
  · exact h y1 s1 x1 a b c d e f (by omega)
  · have g2 : s1 ≤ 0 ∨ (s1 = 0 + 1 ∧ x1 ≤ 0) := by
      rcases g with g | g
      · exact absurd g q
      · exact g.2
    have hz := hZ y1 s1 x1 a b c (by omega) e f (by omega)
    rw [hz.1, hz.2, SS_0 c (by omega), SS_0 (r := fun i c => bI (H i y1 c = 9)) c (by omega)]
    exact ⟨rfl, rfl⟩
theorem SumI.out (h : SumI V sv H L y s x) (hy : 12 ≤ y) : SwSum V sv H L := fun {y1 s1 x1} a b c d e f => h y1 s1 x1 a b c d e f (Or.inl (by omega))
theorem SumI.step (h : SumI V sv H L y s x) (hp : p = y * 117 + (s + 1) * 13 + x + 1) (hx : 0 ≤ x ∧ x < 12) (hs : 0 ≤ s ∧ s < L) (hL : L ≤ 8) (hy : 0 ≤ y ∧ y < 12) (hA : A = sm (fun i => sm (H i y) (x + 1)) (s + 1)) (hB : B = sm (fun i => sm (fun c => bI (H i y c = 9)) (x + 1)) (s + 1)) : SumI (u2 (u2 V (sv + 4) p A) (sv + 5) p B) sv H L y s (x + 1) := by
  intro y1 s1 x1 a b c d e f g
  rw [u2_at, if_neg (by omega), u2_at, u2_at]
  by_cases q : y1 * 117 + s1 * 13 + x1 = p
  · obtain ⟨q1, q2, q3⟩ := idx_inj (y := y) (s := s + 1) (x := x + 1) (y1 := y1) (by omega) (by omega) ⟨e, f⟩ ⟨c, by omega⟩ (by omega)
    subst q1 q2 q3
    rw [if_pos ⟨rfl, q⟩, if_pos ⟨rfl, q⟩, hA, hB]
    exact ⟨rfl, rfl⟩
  · rw [if_neg (fun w => q w.2), if_neg (fun w => q w.2), u2_at, if_neg (fun w => q w.2)]
    refine h y1 s1 x1 a b c d e f ?_
    rcases g with g | ⟨g1, g2 | ⟨g2, g3⟩⟩
    · exact Or.inl g
    · exact Or.inr ⟨g1, Or.inl g2⟩
    · refine Or.inr ⟨g1, Or.inr ⟨g2, ?_⟩⟩
      have : x1 ≠ x + 1 := fun w => q (by subst g1 g2 w; omega)
      omega
theorem SwZ.step (h : SwZ V sv) (hp : p = y * 117 + (s + 1) * 13 + x + 1) (hx : 0 ≤ x ∧ x < 12) (hs : 0 ≤ s ∧ s < 8) (hy : 0 ≤ y ∧ y < 12) : SwZ (u2 (u2 V (sv + 4) p A) (sv + 5) p B) sv := by
  intro y1 s1 x1 a b c d e f g
  have q : y1 * 117 + s1 * 13 + x1 ≠ p := fun q => by
    obtain ⟨q1, q2, q3⟩ := idx_inj (y := y) (s := s + 1) (x := x + 1) (y1 := y1) (by omega) (by omega) ⟨e, f⟩ ⟨c, d⟩ (by omega)
    omega
  rw [u2_at, if_neg (fun w => q w.2), u2_at, if_neg (fun w => q w.2), u2_at, if_neg (fun w => q w.2), u2_at, if_neg (fun w => q w.2)]
  exact h y1 s1 x1 a b c d e f g
end SU

