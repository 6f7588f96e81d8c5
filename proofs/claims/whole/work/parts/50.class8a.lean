theorem fwS_u {r t y s x : Int} (hx : 0 ≤ x ∧ x ≤ 6) (hn : ∀ j, 0 ≤ j → j < x → ¬ woodP r t j y s) (hw : x < 6 → woodP r t x y s) : x = fwS r t y s := by
  have h := fwS_sp r t y s
  refine Classical.byContradiction fun c => ?_
  by_cases q : x < fwS r t y s
  · exact h.2.1 x hx.1 q (hw (by omega))
  · exact hn _ h.1.1 (by omega) (h.2.2 (by omega))
/-- what a mark leaves of the hurt of place p, slice s -/
noncomputable def mkC (V : Nat → Int → Int) (sv : Nat) (k a sl z g s p : Int) : Int := cif (atF k sl z s ∧ inU k a z (2 * oX (p % 12) (p / 12) g - 11) (2 * oY (p % 12) (p / 12) g - 11)) (max (V (sv + 3) (s * 144 + p)) (hurtK k)) (V (sv + 3) (s * 144 + p))
/-- marks are set on places ahead of q, and on q up to slice s -/
def MkI (V V2 : Nat → Int → Int) (sv : Nat) (k a sl z g L q s : Int) : Prop := ∀ s1 p : Int, 0 ≤ s1 → s1 < L → 0 ≤ p → p < 144 → V2 (sv + 3) (s1 * 144 + p) = cif (p < q ∨ (p = q ∧ s1 < s)) (mkC V sv k a sl z g s1 p) (V (sv + 3) (s1 * 144 + p))
section MK
variable {V V2 : Nat → Int → Int} {sv : Nat} {k a sl z g L q s e : Int}
theorem MkI.zero : MkI V V sv k a sl z g L 0 0 := fun s1 p a1 _ b1 _ => (cif_f (by omega)).symm
theorem MkI.not (h : MkI V V2 sv k a sl z g L q 0) (hn : ¬ inU k a z (2 * oX (q % 12) (q / 12) g - 11) (2 * oY (q % 12) (q / 12) g - 11)) : MkI V V2 sv k a sl z g L (q + 1) 0 := by
  intro s1 p a1 a2 b1 b2
  rw [h s1 p a1 a2 b1 b2]
  by_cases c : p < q
  · rw [cif_t (Or.inl c), cif_t (Or.inl (by omega))]
  · rw [cif_f (by omega)]
    by_cases d : p = q
    · rw [cif_t (by omega), d]
      exact (cif_f (fun w => hn w.2)).symm
    · rw [cif_f (by omega)]
theorem MkI.in (h : MkI V V2 sv k a sl z g L q 0) : MkI V V2 sv k a sl z g L q sl := by
  intro s1 p a1 a2 b1 b2
  rw [h s1 p a1 a2 b1 b2]
  by_cases c : p < q
  · rw [cif_t (Or.inl c), cif_t (Or.inl c)]
  · rw [cif_f (by omega)]
    by_cases d : p = q ∧ s1 < sl
    · rw [cif_t (Or.inr d)]
      exact (cif_f (fun w => by have := w.1.1; omega)).symm
    · rw [cif_f (by omega)]
theorem mk_e (he : e = min L (sl + max 0 (min (lastC k sl z L) (L - sl)))) (hL : 1 ≤ L ∧ L ≤ 8) (hsl : 0 ≤ sl ∧ sl ≤ 7) (hz : 1 ≤ z ∧ z ≤ 4) {s1 : Int} (h0 : 0 ≤ s1 ∧ s1 < L) : atF k sl z s1 ↔ (sl ≤ s1 ∧ s1 < e) := by
  unfold atF lastF
  unfold lastC at he
  (repeat' split) <;> (repeat' split at he) <;> omega
theorem MkI.out (h : MkI V V2 sv k a sl z g L q s) (he : e = min L (sl + max 0 (min (lastC k sl z L) (L - sl)))) (hse : e ≤ s) (hss : sl ≤ s) (hL : 1 ≤ L ∧ L ≤ 8) (hsl : 0 ≤ sl ∧ sl ≤ 7) (hz : 1 ≤ z ∧ z ≤ 4) : MkI V V2 sv k a sl z g L (q + 1) 0 := by
  intro s1 p a1 a2 b1 b2
  rw [h s1 p a1 a2 b1 b2]
  by_cases c : p < q ∨ (p = q ∧ s1 < s)
  · rw [cif_t c, cif_t (Or.inl (by omega))]
  · rw [cif_f c]
    by_cases d : p = q
    · rw [cif_t (by omega)]
      exact (cif_f (fun w => by have := (mk_e he hL hsl hz ⟨a1, a2⟩).mp w.1; omega)).symm
    · rw [cif_f (by omega)]
theorem MkI.step (h : MkI V V2 sv k a sl z g L q s) (he : e = min L (sl + max 0 (min (lastC k sl z L) (L - sl)))) (hse : s < e) (hss : sl ≤ s) (hq : 0 ≤ q ∧ q < 144) (hL : 1 ≤ L ∧ L ≤ 8) (hsl : 0 ≤ sl ∧ sl ≤ 7) (hz : 1 ≤ z ∧ z ≤ 4) (hi : inU k a z (2 * oX (q % 12) (q / 12) g - 11) (2 * oY (q % 12) (q / 12) g - 11)) : MkI V (u2 V2 (sv + 3) (s * 144 + q) (max (V2 (sv + 3) (s * 144 + q)) (hurtK k))) sv k a sl z g L q (s + 1) := by
  intro s1 p a1 a2 b1 b2
  rw [u2_at]
  by_cases c : s1 * 144 + p = s * 144 + q
  · have e1 : s1 = s := by omega
    have e2 : p = q := by omega
    subst e1 e2
    rw [if_pos ⟨rfl, rfl⟩, cif_t (by omega), h _ _ a1 a2 b1 b2, cif_f (by omega)]
    exact (cif_t ⟨(mk_e he hL hsl hz ⟨a1, a2⟩).mpr ⟨hss, hse⟩, hi⟩).symm
  · rw [if_neg (fun w => c w.2), h s1 p a1 a2 b1 b2]
    by_cases d : p < q ∨ (p = q ∧ s1 < s)
    · rw [cif_t d, cif_t (by omega)]
    · rw [cif_f d, cif_f (by omega)]
end MK

