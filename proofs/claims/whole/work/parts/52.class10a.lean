theorem FOk.fr {n : Nat} {V V2 : Nat → Int → Int} {c : Nat} (h : FOk n V c) (e : V2 c = V c) : FOk n V2 c := by unfold FOk at *; rw [e]; exact h
theorem SwZ.fr {V V2 : Nat → Int → Int} {sv : Nat} (h : SwZ V sv) (e4 : V2 (sv + 4) = V (sv + 4)) (e5 : V2 (sv + 5) = V (sv + 5)) : SwZ V2 sv := by unfold SwZ at *; rw [e4, e5]; exact h
theorem u2_nn {V : Nat → Int → Int} {c d : Nat} {z v y w : Int} (h : d ≠ c) (h2 : d ≠ c) : u2 (u2 V c z v) c y w d = V d := by rw [u2_n h, u2_n h]
theorem mk_hurt {V VD V2 : Nat → Int → Int} {R : Nat → Int → Option Nat} {sv fa c : Nat} {g L j : Int} (hR : R fa j = some c) (ec : VD c = V c) (hj : 0 ≤ j) (h : ∀ s p, 0 ≤ s → s < L → 0 ≤ p → p < 144 → VD (sv + 3) (s * 144 + p) = hurtS (FR V R fa) j (p % 12) (p / 12) s g) (hm : MkI VD V2 sv (VD c 3) (VD c 0) (VD c 1) (VD c 2) g L 144 0) : ∀ s p, 0 ≤ s → s < L → 0 ≤ p → p < 144 → V2 (sv + 3) (s * 144 + p) = hurtS (FR V R fa) (j + 1) (p % 12) (p / 12) s g := by
  intro s p a b d e
  rw [hm s p a b d e, cif_t (Or.inl e), hurtS_s hj]
  unfold mkC
  rw [h s p a b d e, ec, (FR_e (V := V) hR).1]
  exact (cif_c (hit_c hR)).symm
theorem lay_ok {V VA V70 V78 VD V123 V1 : Nat → Int → Int} {R : Nat → Int → Option Nat} {sv fa : Nat} {g cnt j : Int} (h1 : ∀ q, q ≠ sv → V1 q = V123 q) (h2 : ∀ z, 2 ≤ z → V1 sv z = V123 sv z) (h123 : ∀ q, q ≠ sv + 4 → q ≠ sv + 5 → V123 q = VD q) (hD : ∀ q, q ≠ sv + 3 → VD q = V78 q) (h78 : ∀ q, q ≠ sv + 3 → V78 q = V70 q) (h70 : ∀ q, q ≠ sv + 2 → V70 q = VA q)
    (hA2 : ∀ z, 0 ≤ z → z < 7 → VA (sv + 1) z = V 3 z) (hA3 : VA sv 3 = V 1 2) (hA4 : (0 ≤ VA sv 4 ∧ VA sv 4 ≤ 99) ∧ ∀ z, 2 ≤ z → z < 2 + j → V 3 z ≤ VA sv 4) (hj : 4 ≤ j) (hRu : RulesOk (V 3)) (hL8 : 1 ≤ V 1 2 ∧ V 1 2 ≤ 8)
    (hw : ∀ s1 y1 : Int, 0 ≤ s1 → s1 < V 1 2 → 0 ≤ y1 → y1 < 12 → V70 (sv + 2) (s1 * 12 + y1) = fwS (VA 1 0) (VA 1 1) y1 s1) (hh : ∀ s p, 0 ≤ s → s < V 1 2 → 0 ≤ p → p < 144 → VD (sv + 3) (s * 144 + p) = hurtS (FR V R fa) cnt (p % 12) (p / 12) s g) (hs : SwSum V123 sv (fun i y c => hurtS (FR V R fa) cnt c y i g) (V 1 2)) (eA1 : VA 1 = V 1 := by assumption) : SwOk V1 sv (V 1 0) (V 1 1) (V 1 2) (FR V R fa) cnt g (V 3) := by
  have e0 : ∀ z, 2 ≤ z → V1 sv z = VA sv z := fun z a => by rw [h2 z a, h123 sv (by omega) (by omega), hD sv (by omega), h78 sv (by omega), h70 sv (by omega)]
  refine ⟨(e0 3 (by decide)).trans hA3, hL8, fun z a b => ?_, ?_, fun z a b => ?_, fun {s y} a b c d => ?_, fun {s y x} a b c d e f => ?_, ?_⟩
  · rw [e0 4 (by decide)]
    exact ⟨hRu.2.2.1 z a b, hA4.2 z a (by omega)⟩
  · rw [e0 4 (by decide)]; exact hA4.1
  · rw [h1 _ (by omega), h123 _ (by omega) (by omega), hD _ (by omega), h78 _ (by omega), h70 _ (by omega)]; exact hA2 z a b
  · rw [h1 _ (by omega), h123 _ (by omega) (by omega), hD _ (by omega), h78 _ (by omega), hw s y a b c d, eA1]
  · rw [h1 _ (by omega), h123 _ (by omega) (by omega), show s * 144 + y * 12 + x = s * 144 + (y * 12 + x) by omega, hh s (y * 12 + x) a b (by omega) (by omega), show (y * 12 + x) % 12 = x by omega, show (y * 12 + x) / 12 = y by omega]
  · unfold SwSum at *
    rw [h1 _ (by omega), h1 _ (by omega)]
    exact hs

