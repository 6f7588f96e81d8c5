/-! the class holds the model's log, at the start -/
theorem StartS.z {V : Nat → Int → Int} {R : Nat → Int → Option Nat} (h : StartS V R) (c : Nat) (z : Int) (hc : c < 67) (h1 : (tb c).1 ≠ 23) (h2 : (tb c).1 ≠ 24) (h3 : ¬ (c = 3 ∨ c = 8 ∨ c = 44)) (h4 : ¬ (c = 37 ∨ c = 64)) : V c z = 0 := by
  rw [h.1 c z hc h1 h2 (fun e => h4 (Or.inl e))]
  unfold iniV
  rw [if_neg h3, if_neg h4]
theorem StartS.r {V : Nat → Int → Int} {R : Nat → Int → Option Nat} (h : StartS V R) (c : Nat) (z : Int) (hc : c = 3 ∨ c = 8 ∨ c = 44) (hz : 0 ≤ z ∧ z < 7) : V c z = tat tRF z := by
  have e : c < 67 ∧ (tb c).1 ≠ 23 ∧ (tb c).1 ≠ 24 ∧ c ≠ 37 := by rcases hc with e | e | e <;> subst e <;> decide
  rw [h.1 c z e.1 e.2.1 e.2.2.1 e.2.2.2]
  unfold iniV
  rw [if_pos hc, if_pos hz]
theorem start_sawZ {V : Nat → Int → Int} {R : Nat → Int → Option Nat} (h : StartS V R) : SawZ V :=
  ⟨fun y s x _ _ _ _ _ _ _ => ⟨h.z 15 _ (by decide) (by decide) (by decide) (by decide) (by decide), h.z 16 _ (by decide) (by decide) (by decide) (by decide) (by decide)⟩, h.z 19 _ (by decide) (by decide) (by decide) (by decide) (by decide),
   fun y s x _ _ _ _ _ _ _ => ⟨h.z 27 _ (by decide) (by decide) (by decide) (by decide) (by decide), h.z 28 _ (by decide) (by decide) (by decide) (by decide) (by decide)⟩, h.z 31 _ (by decide) (by decide) (by decide) (by decide) (by decide)⟩
theorem start_C {V : Nat → Int → Int} {R : Nat → Int → Option Nat} (h : StartS V R) : CInv 67 V R (V 42 0) (V 42 1) (V 42 2) (FM V) (V 42 4) (V 42 3) (V 44) := by
  have m : ∀ z, V 42 z = 0 := fun z => h.z 42 z (by decide) (by decide) (by decide) (by decide) (by decide)
  have y : ∀ z, V 1 z = 0 := fun z => h.z 1 z (by decide) (by decide) (by decide) (by decide) (by decide)
  have s : ∀ z, V 11 z = 0 := fun z => h.z 11 z (by decide) (by decide) (by decide) (by decide) (by decide)
  have r : ∀ z, 0 ≤ z → z < 7 → V 44 z = tat tRF z := fun z a b => h.r 44 z (by decide) ⟨a, b⟩
  refine ⟨⟨⟨by rw [m, y], by rw [m, y], by rw [m, y], by rw [m, y], by rw [m, y]⟩, ?_, fun i a b => ?_, ?_, fun z a b => ?_, fun i a b => ?_⟩, ⟨Or.inl (s 0), Or.inl (s 1), fun e => ?_⟩, start_sawZ h⟩
  · rw [m, m, m, m, m]; omega
  · rw [m] at b; omega
  · refine ⟨?_, ?_, fun z a b => ?_, ?_⟩
    · rw [r 0 (by decide) (by decide)]; decide
    · rw [r 1 (by decide) (by decide)]; decide
    · rw [r z (by omega) (by omega)]
      obtain rfl | rfl | rfl | rfl : z = 2 ∨ z = 3 ∨ z = 4 ∨ z = 5 := by omega
      all_goals decide
    · rw [r 6 (by decide) (by decide)]; decide
  · rw [r z a b, h.r 3 z (by decide) ⟨a, b⟩]
  · rw [m] at b; omega
  · rw [s] at e; exact absurd e (by decide)
