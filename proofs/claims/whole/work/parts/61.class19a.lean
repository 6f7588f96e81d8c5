theorem saw_lo {V : Nat → Int → Int} {c : Nat} {p a b d e z : Int} (h : z < 4 * p) : u2 (u2 (u2 (u2 V c (4 * p) a) c (4 * p + 1) b) c (4 * p + 2) d) c (4 * p + 3) e c z = V c z := by
  rw [u2_at, if_neg (by omega), u2_at, if_neg (by omega), u2_at, if_neg (by omega), u2_at, if_neg (by omega)]
theorem saw_row {V : Nat → Int → Int} {lr lt L : Int} {f : Int → Int → Int} {m g : Int} {pr : Int → Int} {y k p : Int} (h : BestB lr lt L f m g pr y k (V 18 8) (V 18 7) (V 18 0) (V 18 1) (V 18 2) (V 18 3) (V 18 4)) (hw : 0 < V 18 8) : sawRow lr lt L f m g pr (u2 (u2 (u2 (u2 V 4 (4 * p) k) 4 (4 * p + 1) (V 18 1 - V 18 0 + 1)) 4 (4 * p + 2) (V 18 3 - V 18 2 + 1)) 4 (4 * p + 3) (V 18 4) 4) p y k := by
  refine ⟨_, _, _, _, _, _, _, hw, h, ?_, ?_, ?_, ?_⟩
  · rw [u2_at, if_neg (by omega), u2_at, if_neg (by omega), u2_at, if_neg (by omega), u2_at, if_pos ⟨rfl, rfl⟩]
  · rw [u2_at, if_neg (by omega), u2_at, if_neg (by omega), u2_at, if_pos ⟨rfl, rfl⟩]
  · rw [u2_at, if_neg (by omega), u2_at, if_pos ⟨rfl, rfl⟩]
  · rw [u2_at, if_pos ⟨rfl, rfl⟩]
theorem saw_cg {lr lt L : Int} {f : Int → Int → Int} {m g : Int} {pr : Int → Int} {y k j : Int} {c d : Int → Int} (h : sawRow lr lt L f m g pr c j y k) (e : ∀ z, 4 * j ≤ z → z < 4 * j + 4 → d z = c z) : sawRow lr lt L f m g pr d j y k := by
  obtain ⟨W, AR, A, B, S, T, G, h1, h2, h3, h4, h5, h6⟩ := h
  exact ⟨W, AR, A, B, S, T, G, h1, h2, (e _ (by omega) (by omega)).trans h3, (e _ (by omega) (by omega)).trans h4, (e _ (by omega) (by omega)).trans h5, (e _ (by omega) (by omega)).trans h6⟩
theorem saw_old {V : Nat → Int → Int} {lr lt L : Int} {f : Int → Int → Int} {m g : Int} {pr : Int → Int} {y k p j a b d e : Int} (h : sawRow lr lt L f m g pr (V 4) j y k) (hj : j < p) : sawRow lr lt L f m g pr (u2 (u2 (u2 (u2 V 4 (4 * p) a) 4 (4 * p + 1) b) 4 (4 * p + 2) d) 4 (4 * p + 3) e 4) j y k :=
  saw_cg h (fun z _ c => saw_lo (by omega))

