/-- what an opening leaves: rows, thicknesses, grades -/
def OpenOk (V : Nat → Int → Int) (sv : Nat) (lr lt L : Int) (f : Int → Int → Int) (m g : Int) (pr : Int → Int) (kf : Int) : Prop :=
  (V sv 2 = (bl (dpR (bwC lr lt L f m g pr) (pr 6) kf (-1)).2 kf 0).length ∧ ∀ q : Int, 0 ≤ q → q < (bl (dpR (bwC lr lt L f m g pr) (pr 6) kf (-1)).2 kf 0).length → V (sv + 11) q = lat (bl (dpR (bwC lr lt L f m g pr) (pr 6) kf (-1)).2 kf 0) q) ∧
  ∀ z, 0 ≤ z → z ≤ 11 → V (sv + 9) z = (dpR (bwC lr lt L f m g pr) (pr 6) kf (-1)).2 z ∧ (0 < V (sv + 9) z → V (sv + 10) z = bestG lr lt L f m g pr z (V (sv + 9) z))
theorem SwOk.fr2 {V V2 : Nat → Int → Int} {sv : Nat} {lr lt L : Int} {f : Int → Int → Int} {m g : Int} {pr : Int → Int} (ok : SwOk V sv lr lt L f m g pr) (h0 : ∀ z, 3 ≤ z → V2 sv z = V sv z) (h : ∀ q, sv < q ∧ q < sv + 6 → V2 q = V q) : SwOk V2 sv lr lt L f m g pr := by
  have e1 := h (sv + 1) (by omega)
  have e2 := h (sv + 2) (by omega)
  have e3 := h (sv + 3) (by omega)
  have e4 := h (sv + 4) (by omega)
  have e5 := h (sv + 5) (by omega)
  unfold SwOk SwSum at ok ⊢
  rw [h0 3 (by decide), h0 4 (by decide), e1, e2, e3, e4, e5]
  exact ok
theorem dpR_bd (lr lt L : Int) (f : Int → Int → Int) (m g : Int) (pr : Int → Int) (kf : Int) {y : Int} (hy : -1 ≤ y ∧ y ≤ 11) : (∀ z, 0 ≤ (dpR (bwC lr lt L f m g pr) (pr 6) kf y).1 z ∧ (dpR (bwC lr lt L f m g pr) (pr 6) kf y).1 z ≤ 456192) ∧ (∀ z, 0 ≤ (dpR (bwC lr lt L f m g pr) (pr 6) kf y).2 z ∧ (dpR (bwC lr lt L f m g pr) (pr 6) kf y).2 z ≤ 4 ∧ ((dpR (bwC lr lt L f m g pr) (pr 6) kf y).2 z = 0 ∨ (0 ≤ z ∧ z + (dpR (bwC lr lt L f m g pr) (pr 6) kf y).2 z ≤ 12))) ∧ (∀ z, 12 ≤ z → (dpR (bwC lr lt L f m g pr) (pr 6) kf y).1 z = 0) := by
  have h := dpTab_b (bw := bwC lr lt L f m g pr) (th := pr 6) (kf := kf) (fun y n _ _ _ _ => bwC_b _ _ _ _ _ _ _ _ _) (11 - y).toNat (by omega)
  rw [dpR_e]
  refine ⟨fun z => ?_, h.2.1, h.2.2.2⟩
  have h1 := h.1 z
  have e : (38016 : Int) * ((11 - y).toNat : Int) ≤ 456192 := by rw [Int.toNat_of_nonneg (by omega)]; omega
  exact ⟨h1.1, Int.le_trans h1.2 e⟩
/-- rows behind y are done -/
def OO (c8 c9 c10 : Int → Int) (bw bg : Int → Int → Int) (th kf y : Int) : Prop := (∀ z, y < z → z ≤ 12 → c8 z = (dpR bw th kf y).1 z) ∧ ∀ z, y < z → z ≤ 11 → c9 z = (dpR bw th kf y).2 z ∧ (0 < c9 z → c10 z = bg z (c9 z))
/-- of row y, k thicknesses are tried -/
def OI (c8 c9 c10 : Int → Int) (bw bg : Int → Int → Int) (th kf : Int) (F T : Int → Int) (y k : Int) : Prop := (∀ z, y ≤ z → z ≤ 12 → c8 z = u1 F y (dpI bw th kf F y k).1 z) ∧ ∀ z, y ≤ z → z ≤ 11 → c9 z = u1 T y (dpI bw th kf F y k).2 z ∧ (0 < c9 z → c10 z = bg z (c9 z))
section OP
variable {c8 c9 c10 : Int → Int} {bw bg : Int → Int → Int} {th kf y k W G : Int} {F T : Int → Int}
theorem OO.zero (h : c8 12 = 0) : OO c8 c9 c10 bw bg th kf 11 := by
  refine ⟨fun z a b => ?_, fun z a b => by omega⟩
  rw [show z = 12 by omega, h, dpR_0]
theorem OO.in (h : OO c8 c9 c10 bw bg th kf y) (hy : 0 ≤ y ∧ y ≤ 11) : OI (u1 c8 y (c8 (y + 1))) (u1 c9 y 0) c10 bw bg th kf (dpR bw th kf y).1 (dpR bw th kf y).2 y (1 - 1) := by
  rw [show (1 : Int) - 1 = 0 by rfl]
  refine ⟨fun z a b => ?_, fun z a b => ?_⟩
  · rw [dpI_0]
    by_cases e : z = y
    · rw [e, u1_s, u1_s]; exact h.1 _ (by omega) (by omega)
    · rw [u1_n e, u1_n e]; exact h.1 z (by omega) b
  · rw [dpI_0]
    by_cases e : z = y
    · rw [e, u1_s, u1_s]; exact ⟨rfl, fun q => absurd q (by decide)⟩
    · rw [u1_n e, u1_n e]; exact h.2 z (by omega) b
theorem OI.no (h : OI c8 c9 c10 bw bg th kf F T y (k - 1)) (hk : 1 ≤ k) (hn : ¬ (y + k ≤ 12 ∧ thickP th k ∧ 0 < bw y k ∧ (dpI bw th kf F y (k - 1)).1 ≤ bw y k + F (y + k + kf))) : OI c8 c9 c10 bw bg th kf F T y k := by
  unfold OI
  rw [dpI_s hk, cif_f hn]; exact h
theorem OI.lt (h : OI c8 c9 c10 bw bg th kf F T y (k - 1)) (hy : 0 ≤ y ∧ y ≤ 12) (hb : W = bw y k) (hc : W + F (y + k + kf) < c8 y) : ¬ (y + k ≤ 12 ∧ thickP th k ∧ 0 < bw y k ∧ (dpI bw th kf F y (k - 1)).1 ≤ bw y k + F (y + k + kf)) := fun q => by
  have h1 := h.1 y (by omega) (by omega)
  rw [u1_s] at h1
  have h2 := q.2.2.2
  omega
theorem OI.yes (h : OI c8 c9 c10 bw bg th kf F T y (k - 1)) (hk : 1 ≤ k) (hy : 0 ≤ y ∧ y + k ≤ 12) (ht : inS th k) (hb : W = bw y k) (h0 : 0 < W) (hc : c8 y ≤ W + F (y + k + kf)) (hg : G = bg y k) : OI (u1 c8 y (W + F (y + k + kf))) (u1 c9 y k) (u1 c10 y G) bw bg th kf F T y k := by
  have h1 := h.1 y (by omega) (by omega)
  rw [u1_s] at h1
  unfold OI
  rw [dpI_s hk, cif_t ⟨hy.2, ht, by omega, by omega⟩]
  refine ⟨fun z a b => ?_, fun z a b => ?_⟩
  · by_cases e : z = y
    · rw [e, u1_s, u1_s, hb]
    · have h2 := h.1 z a b
      rw [u1_n e] at h2
      rw [u1_n e, u1_n e]; exact h2
  · by_cases e : z = y
    · rw [e, u1_s, u1_s, u1_s]; exact ⟨rfl, fun _ => hg⟩
    · have h2 := h.2 z a b
      rw [u1_n e] at h2
      rw [u1_n e, u1_n e, u1_n e]; exact h2
theorem OI.out (h : OI c8 c9 c10 bw bg th kf (dpR bw th kf y).1 (dpR bw th kf y).2 y (k - 1)) (hk1 : 1 ≤ k) (hk2 : k ≤ 5) (he : 4 < k ∨ 12 < y + k) (hy : y ≤ 11) : OO c8 c9 c10 bw bg th kf (y - 1) := by
  unfold OO
  rw [dpR_s hy, ← dpI_end ⟨hk1, hk2⟩ he]
  exact ⟨fun z a b => h.1 z (by omega) b, fun z a b => h.2 z (by omega) b⟩
theorem OI.at (h : OI c8 c9 c10 bw bg th kf F T y (k - 1)) (hF : (∀ z, 0 ≤ T z ∧ T z ≤ 4 ∧ (T z = 0 ∨ (0 ≤ z ∧ z + T z ≤ 12))) ∧ ∀ z, 12 ≤ z → F z = 0) (hy : 0 ≤ y ∧ y ≤ 11) (hk : 1 ≤ k ∧ 0 ≤ kf) : c8 (min 12 (y + k + kf)) = F (y + k + kf) := by
  by_cases c : y + k + kf ≤ 12
  · rw [show min 12 (y + k + kf) = y + k + kf by omega, h.1 _ (by omega) c, u1_n (by omega)]
  · rw [show min 12 (y + k + kf) = 12 by omega, h.1 12 (by omega) (by omega), u1_n (by omega), hF.2 12 (by omega), hF.2 _ (by omega)]
end OP
theorem open_ok {V3 V1 : Nat → Int → Int} {sv : Nat} {lr lt L : Int} {f : Int → Int → Int} {m g : Int} {pr : Int → Int} {kf : Int} (h : OO (V3 (sv + 8)) (V3 (sv + 9)) (V3 (sv + 10)) (bwC lr lt L f m g pr) (bestG lr lt L f m g pr) (pr 6) kf (-1)) (e9 : V1 (sv + 9) = V3 (sv + 9)) (e10 : V1 (sv + 10) = V3 (sv + 10)) (h2 : V1 sv 2 = (bl (dpR (bwC lr lt L f m g pr) (pr 6) kf (-1)).2 kf 0).length) (h3 : ∀ q : Int, 0 ≤ q → q < (bl (dpR (bwC lr lt L f m g pr) (pr 6) kf (-1)).2 kf 0).length → V1 (sv + 11) q = lat (bl (dpR (bwC lr lt L f m g pr) (pr 6) kf (-1)).2 kf 0) q) : OpenOk V1 sv lr lt L f m g pr kf := by
  refine ⟨⟨h2, h3⟩, fun z a b => ?_⟩
  rw [e9, e10]
  exact h.2 z (by omega) b

