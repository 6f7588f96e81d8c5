theorem SwOk.fr {V V2 : Nat → Int → Int} {sv : Nat} {lr lt L : Int} {f : Int → Int → Int} {m g : Int} {pr : Int → Int} (ok : SwOk V sv lr lt L f m g pr) (h : ∀ q, q ≠ sv + 6 → q ≠ sv + 7 → V2 q = V q) : SwOk V2 sv lr lt L f m g pr := by
  have e0 := h sv (by omega) (by omega)
  have e1 := h (sv + 1) (by omega) (by omega)
  have e2 := h (sv + 2) (by omega) (by omega)
  have e3 := h (sv + 3) (by omega) (by omega)
  have e4 := h (sv + 4) (by omega) (by omega)
  have e5 := h (sv + 5) (by omega) (by omega)
  unfold SwOk SwSum at ok ⊢
  rw [e0, e1, e2, e3, e4, e5]
  exact ok
/-- the piece found stands for all pieces ahead of the key K -/
def FInv (V : Nat → Int → Int) (sv : Nat) (lr lt L : Int) (f : Int → Int → Int) (m g : Int) (pr : Int → Int) (y k K : Int) : Prop :=
  BestOf (grP f m g y k) (wP f m g pr y k) (fun x z u v => CandP (fcS lr lt y k) L (pr 1) x z u v ∧ 1521 * u + 169 * v + 13 * x + z < K) (V (sv + 7) 8) (V (sv + 7) 7) (V (sv + 7) 0) (V (sv + 7) 1) (V (sv + 7) 2) (V (sv + 7) 3) (V (sv + 7) 4) ∧
  (0 ≤ V (sv + 7) 8 ∧ V (sv + 7) 8 ≤ 38016) ∧ (0 ≤ V (sv + 7) 7 ∧ V (sv + 7) 7 ≤ 96) ∧
  (0 < V (sv + 7) 8 → V (sv + 7) 8 ≤ V (sv + 7) 7 * k * V sv 4 ∧ V (sv + 7) 5 = faceH f m g y (V (sv + 7) 0) (V (sv + 7) 1) (V (sv + 7) 2) (V (sv + 7) 3) ∧ V (sv + 7) 6 = faceH f m g (y + k - 1) (V (sv + 7) 0) (V (sv + 7) 1) (V (sv + 7) 2) (V (sv + 7) 3))
section FI
variable {V V1 : Nat → Int → Int} {sv : Nat} {lr lt L : Int} {f : Int → Int → Int} {m g : Int} {pr : Int → Int} {y k K K' : Int}
theorem FInv.zero (h : V (sv + 7) 8 = 0 ∧ V (sv + 7) 7 = 0) (hF : ∀ x, 0 ≤ fcS lr lt y k x) (hL : 1 ≤ L ∧ L ≤ 8) : FInv V sv lr lt L f m g pr y k (1521 * 0) := by
  refine ⟨Or.inl ⟨h.1, fun a b s t z => ?_⟩, by omega, by omega, fun q => by omega⟩
  have := CandP_b z.1 hF hL
  have := z.2
  omega
theorem FInv.next (h : FInv V sv lr lt L f m g pr y k K) (hK : K ≤ K') (hg : ∀ x z u v, CandP (fcS lr lt y k) L (pr 1) x z u v → K ≤ 1521 * u + 169 * v + 13 * x + z → 1521 * u + 169 * v + 13 * x + z < K' → False) : FInv V sv lr lt L f m g pr y k K' := by
  refine ⟨h.1.mono fun x z u v => ⟨fun c => ⟨c.1, by have := c.2; omega⟩, fun c => ⟨c.1, ?_⟩⟩, h.2⟩
  exact Classical.byContradiction fun q => hg x z u v c.1 (by omega) c.2
theorem wP_top {a b s t top : Int} (hab : 0 ≤ areaP a b s t ∧ areaP a b s t ≤ 96) (hk : 1 ≤ k ∧ k ≤ 4) (hp : ∀ z, 2 ≤ z → z ≤ 5 → (0 ≤ pr z ∧ pr z ≤ 99) ∧ pr z ≤ top) (hq : 0 ≤ top ∧ top ≤ 99) : wP f m g pr y k a b s t ≤ areaP a b s t * k * top := by
  unfold wP
  have hgb : 0 ≤ grP f m g y k a b s t ∧ grP f m g y k a b s t ≤ 4 := gradeS_b _ _ _ _ _
  have hak := mul_bd (a := areaP a b s t) (b := k) (A := 96) (B := 4) hab (by omega)
  have hat := mul_bd (a := areaP a b s t * k) (b := top) (A := 384) (B := 99) hak hq
  split
  · omega
  · next c => exact Int.mul_le_mul_of_nonneg_left (hp _ (by omega) (by omega)).2 hak.1
theorem key_inj {a b s t x z u v : Int} (ha : 0 ≤ a ∧ a ≤ 12) (hb : 0 ≤ b ∧ b ≤ 12) (ht : 0 ≤ t ∧ t ≤ 8) (hx : 0 ≤ x ∧ x ≤ 12) (hz : 0 ≤ z ∧ z ≤ 12) (hv : 0 ≤ v ∧ v ≤ 8) (h : 1521 * u + 169 * v + 13 * x + z = 1521 * s + 169 * t + 13 * a + b) : x = a ∧ z = b ∧ u = s ∧ v = t := by
  have e1 : u = s := by omega
  have e2 : v = t := by omega
  have e3 : x = a := by omega
  exact ⟨e3, by omega, e1, e2⟩
theorem key_t {s t x z u v : Int} (ht : 0 ≤ t ∧ t ≤ 8) (hx : 0 ≤ x ∧ x ≤ 12) (hz : 0 ≤ z ∧ z ≤ 12) (hv : 0 ≤ v ∧ v ≤ 8) (h : 1521 * s + 169 * t ≤ 1521 * u + 169 * v + 13 * x + z) (h2 : 1521 * u + 169 * v + 13 * x + z < 1521 * s + 169 * t + 169) : u = s ∧ v = t := by
  have e1 : u = s := by omega
  have e2 : v = t := by omega
  exact ⟨e1, e2⟩
theorem key_lex {a b s t x z u v : Int} (ha : 0 ≤ a ∧ a ≤ 12) (hb : 0 ≤ b ∧ b ≤ 12) (ht : 0 ≤ t ∧ t ≤ 8) (hx : 0 ≤ x ∧ x ≤ 12) (hz : 0 ≤ z ∧ z ≤ 12) (hv : 0 ≤ v ∧ v ≤ 8) (h : 1521 * u + 169 * v + 13 * x + z < 1521 * s + 169 * t + 13 * a + b) : ¬ lexP a b s t x z u v := by
  unfold lexP
  split <;> omega
theorem FInv.try {a b s t : Int} (h : FInv V sv lr lt L f m g pr y k (1521 * s + 169 * t + 13 * a + b))
    (ht : ((a ≤ b ∧ ((V (sv + 7) 8) < (wP f m g pr y k a b s t) ∨ (0 < (wP f m g pr y k a b s t) ∧ (wP f m g pr y k a b s t) = (V (sv + 7) 8) ∧ (V (sv + 7) 7) < areaP a b s t))) ∧ V1 (sv + 7) 0 = a ∧ V1 (sv + 7) 1 = b ∧ V1 (sv + 7) 2 = s ∧ V1 (sv + 7) 3 = t ∧ V1 (sv + 7) 4 = grP f m g y k a b s t ∧ V1 (sv + 7) 5 = faceH f m g y a b s t ∧ V1 (sv + 7) 6 = faceH f m g (y + k - 1) a b s t ∧ V1 (sv + 7) 7 = areaP a b s t ∧ V1 (sv + 7) 8 = wP f m g pr y k a b s t) ∨ (¬ (a ≤ b ∧ ((V (sv + 7) 8) < (wP f m g pr y k a b s t) ∨ (0 < (wP f m g pr y k a b s t) ∧ (wP f m g pr y k a b s t) = (V (sv + 7) 8) ∧ (V (sv + 7) 7) < areaP a b s t))) ∧ V1 = V)) (e : V1 sv = V sv) (ok : SwOk V sv lr lt L f m g pr) (hk : 1 ≤ k ∧ k ≤ 4) (hF : ∀ x, 0 ≤ fcS lr lt y k x) (hra : 0 ≤ a ∧ a ≤ 12 ∧ a ≤ b + 1) (hrb : b ≤ 11) (hst : 0 ≤ s ∧ s ≤ t ∧ t < L) (hc : a ≤ b → CandP (fcS lr lt y k) L (pr 1) a b s t) :
    FInv V1 sv lr lt L f m g pr y k (1521 * s + 169 * t + 13 * a + (b + 1)) := by
  have hL := ok.L
  have hset : a ≤ b → ∀ x z u v, ((CandP (fcS lr lt y k) L (pr 1) x z u v ∧ 1521 * u + 169 * v + 13 * x + z < 1521 * s + 169 * t + 13 * a + b) ∨ (x = a ∧ z = b ∧ u = s ∧ v = t)) ↔ (CandP (fcS lr lt y k) L (pr 1) x z u v ∧ 1521 * u + 169 * v + 13 * x + z < 1521 * s + 169 * t + 13 * a + (b + 1)) := by
    intro hab x z u v
    constructor
    · rintro (c | ⟨rfl, rfl, rfl, rfl⟩)
      · exact ⟨c.1, by have := c.2; omega⟩
      · exact ⟨hc hab, by omega⟩
    · intro c
      by_cases q : 1521 * u + 169 * v + 13 * x + z < 1521 * s + 169 * t + 13 * a + b
      · exact Or.inl ⟨c.1, q⟩
      · have cb := CandP_b c.1 hF hL
        have := c.2
        exact Or.inr (key_inj (by omega) (by omega) (by omega) (by omega) (by omega) (by omega) (by omega))
  rcases ht with ⟨⟨hab, hq⟩, n0, n1, n2, n3, n4, n5, n6, n7, n8⟩ | ⟨hq, rfl⟩
  · have har : 0 ≤ areaP a b s t ∧ areaP a b s t ≤ 96 := mul_bd (a := b - a + 1) (b := t - s + 1) (A := 12) (B := 8) (by omega) (by omega)
    have hw := wP_b (f := f) (m := m) (g := g) (pr := pr) (y := y) (k := k) (a := a) (b := b) (s := s) (t := t) (fun z z1 z2 => (ok.p z z1 z2).1) hk (by omega) hrb (by omega) (by omega)
    have hb := BestOf.step (a := a) (b := b) (s := s) (t := t) h.1 (Or.inl ⟨by unfold betterP; omega, n8, n7, n0, n1, n2, n3, n4⟩)
    refine ⟨hb.mono (hset hab), by rw [n8]; exact hw, by rw [n7]; exact har, fun _ => ⟨?_, by rw [n5, n0, n1, n2, n3], by rw [n6, n0, n1, n2, n3]⟩⟩
    rw [n8, n7, e]
    exact wP_top har hk ok.p ok.q
  · by_cases hab : a ≤ b
    · refine ⟨(BestOf.step (a := a) (b := b) (s := s) (t := t) h.1 (Or.inr ⟨?_, rfl, rfl, rfl, rfl, rfl, rfl, rfl⟩)).mono (hset hab), h.2⟩
      intro c
      rcases h.1 with ⟨q, -⟩ | ⟨w0, ⟨w1, w2⟩, -⟩
      · apply hq
        refine ⟨hab, ?_⟩
        unfold betterP at c
        omega
      · have cb := CandP_b w1 hF hL
        have hl := key_lex (a := a) (b := b) (s := s) (t := t) (by omega) (by omega) (by omega) (by omega) (by omega) (by omega) w2
        apply hq
        refine ⟨hab, ?_⟩
        unfold betterP at c
        rcases c with c | ⟨c1, c2, c3 | ⟨-, c4⟩⟩
        · exact Or.inl c
        · exact Or.inr ⟨c1, c2, c3⟩
        · exact absurd c4 hl
    · refine h.next (by omega) fun x z u v c k1 k2 => ?_
      have cb := CandP_b c hF hL
      by_cases hb0 : 0 ≤ b
      · have := key_inj (a := a) (b := b) (s := s) (t := t) (x := x) (z := z) (u := u) (v := v) (by omega) (by omega) (by omega) (by omega) (by omega) (by omega) (by omega)
        omega
      · omega
theorem FInv.out (h : FInv V sv lr lt L f m g pr y k K) (hF : ∀ x, 0 ≤ fcS lr lt y k x) (hL : 1 ≤ L ∧ L ≤ 8) (hK : 1521 * L ≤ K) : BestB lr lt L f m g pr y k (V (sv + 7) 8) (V (sv + 7) 7) (V (sv + 7) 0) (V (sv + 7) 1) (V (sv + 7) 2) (V (sv + 7) 3) (V (sv + 7) 4) := by
  refine h.1.mono fun x z u v => ⟨fun c => c.1, fun c => ⟨c, ?_⟩⟩
  have := CandP_b c hF hL
  omega
end FI

