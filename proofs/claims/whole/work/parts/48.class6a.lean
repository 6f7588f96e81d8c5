/-- a piece that is worth no more even at the best price is no better -/
theorem tp_small {f : Int → Int → Int} {m g y k a b s t ar top W AR : Int} {pr : Int → Int} (har : ar = (b - a + 1) * (t - s + 1)) (hab : 0 ≤ ar ∧ ar ≤ 96) (hle : a ≤ b) (hk : 1 ≤ k ∧ k ≤ 4) (hp : ∀ z, 2 ≤ z → z ≤ 5 → (0 ≤ pr z ∧ pr z ≤ 99) ∧ pr z ≤ top) (hq : 0 ≤ top ∧ top ≤ 99) (hW : 0 ≤ W ∧ W ≤ 38016) (hA : 0 ≤ AR ∧ AR ≤ 96) (hX : 0 < W → W ≤ AR * k * top) (h : ar * k * top ≤ W) : ¬ (a ≤ b ∧ (W < wP f m g pr y k a b s t ∨ (0 < wP f m g pr y k a b s t ∧ wP f m g pr y k a b s t = W ∧ AR < areaP a b s t))) := by
  have hw : wP f m g pr y k a b s t ≤ ar * k * top := by
    unfold wP
    have hgb : 0 ≤ grP f m g y k a b s t ∧ grP f m g y k a b s t ≤ 4 := gradeS_b _ _ _ _ _
    have hak := mul_bd (a := ar) (b := k) (A := 96) (B := 4) hab (by omega)
    have hat := mul_bd (a := ar * k) (b := top) (A := 384) (B := 99) hak hq
    split
    · omega
    · next c =>
      rw [← har]
      exact Int.mul_le_mul_of_nonneg_left (hp _ (by omega) (by omega)).2 hak.1
  rintro ⟨-, c | ⟨c1, c2, c3⟩⟩
  · omega
  · have hx := hX (by omega)
    have ha : AR < ar := by rw [har]; exact c3
    have h1 : AR * k * top ≤ ar * k * top := Int.mul_le_mul_of_nonneg_right (Int.mul_le_mul_of_nonneg_right (by omega) (by omega)) hq.1
    have e1 : AR * k * top = ar * k * top := by omega
    have hkt : 1 ≤ k * top := by
      have : k * top ≠ 0 := fun z => by rw [Int.mul_assoc, z, Int.mul_zero] at hx; omega
      have := (mul_bd (a := k) (b := top) (A := 4) (B := 99) (by omega) hq).1
      omega
    rw [Int.mul_assoc, Int.mul_assoc] at e1
    have h2 : (AR + 1) * (k * top) ≤ ar * (k * top) := Int.mul_le_mul_of_nonneg_right (by omega) (by omega)
    rw [Int.add_mul, Int.one_mul] at h2
    omega
theorem tp_nine {V : Nat → Int → Int} {c : Nat} {a b s t x u l ar w : Int} : (fun U : Nat → Int → Int => U c 0 = a ∧ U c 1 = b ∧ U c 2 = s ∧ U c 3 = t ∧ U c 4 = x ∧ U c 5 = u ∧ U c 6 = l ∧ U c 7 = ar ∧ U c 8 = w) (u2 (u2 (u2 (u2 (u2 (u2 (u2 (u2 (u2 V c 0 a) c 1 b) c 2 s) c 3 t) c 4 x) c 5 u) c 6 l) c 7 ar) c 8 w) := by
  refine ⟨?_, ?_, ?_, ?_, ?_, ?_, ?_, ?_, ?_⟩ <;> simp [u2_at]

