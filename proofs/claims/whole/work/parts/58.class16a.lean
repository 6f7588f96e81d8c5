/-- wood, cell by cell -/
noncomputable def gW (r t : Int) : Int → Int := fun c => bI (woodP r t (c % 12) (c / 12 % 12) (c / 144))
theorem gW_s {r t s q : Int} (h : 0 ≤ q) (h2 : q < 144) (hs : 0 ≤ s) : sm (gW r t) (144 * s + (q + 1)) = sm (gW r t) (144 * s + q) + bI (woodP r t (q % 12) (q / 12) s) := by
  rw [← Int.add_assoc, sm_s (by omega)]
  show _ + bI (woodP r t ((144 * s + q) % 12) ((144 * s + q) / 12 % 12) ((144 * s + q) / 144)) = _
  rw [show (144 * s + q) / 144 = s by omega, show (144 * s + q) % 12 = q % 12 by omega, show (144 * s + q) / 12 % 12 = q / 12 by omega]
theorem told_4 {r t L a b c d A B C D : Int} (h0 : A = a) (h1 : B = b) (h2 : C = c) (h3 : D = d) : nWoodIn r t L a b c d = nWoodIn r t L A B C D := by rw [h0, h1, h2, h3]
theorem told_5 {k sl z L A C D : Int} (h0 : A = k) (h2 : C = sl) (h3 : D = z) (hs : 0 ≤ sl ∧ sl ≤ 7) (hz : 1 ≤ z ∧ z ≤ 4) (hL : 0 ≤ L ∧ L ≤ 8) : max 0 (min (lastC k sl z L) (L - sl)) = max 0 (min L (C + lastF A D) - C) := by
  rw [h0, h2, h3]
  unfold lastC lastF
  (repeat' split) <;> omega

