theorem fe_s {V V1 V2 : Nat → Int → Int} {a b c d e k j q x : Int} (h : fedP 36 0 7 V V1 a b c d e (min k j)) (h2 : ((q = 0 ∨ V1 0 7 = 40) ∧ V2 = V1) ∨ (q = 1 ∧ V1 0 7 < 40 ∧ V2 = u2 (u2 V1 36 (V1 0 7) x) 0 7 (V1 0 7 + 1))) (hk : 1 ≤ k ∧ V 0 7 + k ≤ 40 ∧ 0 ≤ V 0 7 ∧ 0 ≤ j) (hq : (q = 1 ∧ j + 1 ≤ k) ∨ (q = 0 ∧ k < j + 1)) (hx : x = argF a b c d e j) : fedP 36 0 7 V V2 a b c d e (min k (j + 1)) := by
  have h1 := h.1
  rcases h2 with ⟨h3, rfl⟩ | ⟨h3, h4, rfl⟩
  · rw [show min k (j + 1) = min k j by omega]; exact h
  · rw [show min k (j + 1) = min k j + 1 by omega]
    exact fedP_s (by decide) (by omega) h (by rw [show min k j = j by omega]; exact hx)
/-- wood with a fault, as the log lies by turn g -/
noncomputable def gH (lr lt : Int) (f : Int → Int → Int) (m g : Int) : Int → Int := fun c => bI (woodP lr lt (c % 12) (c / 12 % 12) (c / 144) ∧ 0 < hurtS f m (c % 12) (c / 12 % 12) (c / 144) g)
noncomputable def hurtT (lr lt L : Int) (f : Int → Int → Int) (m g : Int) : Int := sm (gH lr lt f m g) (144 * L)
theorem gH_s {lr lt m g s q : Int} {f : Int → Int → Int} (h : 0 ≤ q) (h2 : q < 144) (hs : 0 ≤ s) : sm (gH lr lt f m g) (144 * s + (q + 1)) = sm (gH lr lt f m g) (144 * s + q) + bI (woodP lr lt (q % 12) (q / 12) s ∧ 0 < hurtS f m (q % 12) (q / 12) s g) := by
  rw [← Int.add_assoc, sm_s (by omega)]
  show _ + bI (woodP lr lt ((144 * s + q) % 12) ((144 * s + q) / 12 % 12) ((144 * s + q) / 144) ∧ 0 < hurtS f m ((144 * s + q) % 12) ((144 * s + q) / 12 % 12) ((144 * s + q) / 144) g) = _
  rw [show (144 * s + q) / 144 = s by omega, show (144 * s + q) % 12 = q % 12 by omega, show (144 * s + q) / 12 % 12 = q / 12 by omega]

