theorem lr_1 {T : Int → Int} {kf y fr : Int} {V : Nat → Int → Int} {sv : Nat} (h : ∃ p : List Int, bl T kf 0 = p ++ bl T kf (max y fr) ∧ V sv 2 = p.length ∧ ∀ q : Int, 0 ≤ q → q < p.length → V (sv + 11) q = lat p q) (hy : y < fr) : ∃ p : List Int, bl T kf 0 = p ++ bl T kf (max (y + 1) fr) ∧ V sv 2 = p.length ∧ ∀ q : Int, 0 ≤ q → q < p.length → V (sv + 11) q = lat p q := by
  rw [show max (y + 1) fr = max y fr by omega]; exact h
theorem lr_2 {T : Int → Int} {kf y fr : Int} {V : Nat → Int → Int} {sv : Nat} (h : ∃ p : List Int, bl T kf 0 = p ++ bl T kf (max y fr) ∧ V sv 2 = p.length ∧ ∀ q : Int, 0 ≤ q → q < p.length → V (sv + 11) q = lat p q) (hk : 0 ≤ kf) (hy : fr ≤ y) (h12 : y < 12) (ht : T y ≤ 0) : ∃ p : List Int, bl T kf 0 = p ++ bl T kf (max (y + 1) fr) ∧ V sv 2 = p.length ∧ ∀ q : Int, 0 ≤ q → q < p.length → V (sv + 11) q = lat p q := by
  rw [show max y fr = y by omega, bl_n hk h12 (by omega)] at h
  rw [show max (y + 1) fr = y + 1 by omega]; exact h
theorem lr_3 {T : Int → Int} {kf y fr b : Int} {V : Nat → Int → Int} {sv : Nat} {p : List Int} (h1 : bl T kf 0 = p ++ y :: bl T kf (y + T y + kf)) (h2 : V sv 2 = p.length) (h3 : ∀ q : Int, 0 ≤ q → q < p.length → V (sv + 11) q = lat p q) (hb : b = V sv 2 + 1 ∧ max (y + 1) fr = y + T y + kf) : ∃ p : List Int, bl T kf 0 = p ++ bl T kf (max (y + 1) fr) ∧ u2 (u2 V (sv + 11) (V sv 2) y) sv 2 b sv 2 = p.length ∧ ∀ q : Int, 0 ≤ q → q < p.length → u2 (u2 V (sv + 11) (V sv 2) y) sv 2 b (sv + 11) q = lat p q := by
  refine ⟨p ++ [y], by rw [h1, List.append_assoc, hb.2]; rfl, ?_, fun i a c => ?_⟩
  · rw [u2_s, u1_s, hb.1, h2, List.length_append]; rfl
  · rw [List.length_append] at c
    simp only [List.length_cons, List.length_nil] at c
    rw [u2_n (by omega), u2_s]
    by_cases q : i = p.length
    · rw [q, h2, u1_s, lat_mid rfl]
    · rw [u1_n (by omega), lat_app a (by omega)]; exact h3 i a (by omega)
theorem lr_e {T : Int → Int} {kf y fr : Int} {V : Nat → Int → Int} {sv : Nat} (h : ∃ p : List Int, bl T kf 0 = p ++ bl T kf (max y fr) ∧ V sv 2 = p.length ∧ ∀ q : Int, 0 ≤ q → q < p.length → V (sv + 11) q = lat p q) (hy : 12 ≤ y) : V sv 2 = (bl T kf 0).length ∧ ∀ q : Int, 0 ≤ q → q < (bl T kf 0).length → V (sv + 11) q = lat (bl T kf 0) q := by
  obtain ⟨p, h1, h2⟩ := h
  rw [bl_e (y := max y fr) (by omega), List.append_nil] at h1
  rw [h1]; exact h2

