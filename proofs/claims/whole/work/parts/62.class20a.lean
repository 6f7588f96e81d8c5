theorem SwOk.rul {V : Nat → Int → Int} {sv : Nat} {lr lt L : Int} {f : Int → Int → Int} {m g : Int} {pr pr' : Int → Int} (ok : SwOk V sv lr lt L f m g pr) (hp : ∀ z, 0 ≤ z → z < 7 → pr z = pr' z) : SwOk V sv lr lt L f m g pr' := ok.cg (fun _ _ _ _ => rfl) hp
theorem thought_ok2 {n : Nat} {V V1 : Nat → Int → Int} {R : Nat → Int → Option Nat} {lr lt L : Int} {f F : Int → Int → Int} {m g cnt : Int} {pr : Int → Int} (hI : CInv n V R lr lt L f m g pr) (h : SwOk V1 23 (V 1 0) (V 1 1) (V 1 2) F cnt (V 1 3) (V 3)) : SwOk V1 23 lr lt L F cnt g pr := by
  obtain ⟨e0, e1, e2, e3, e5⟩ := hI.1.1
  rw [e0, e1, e2, e3] at h
  exact h.rul hI.1.2.2.2.2.1
theorem CInv.R {n : Nat} {V : Nat → Int → Int} {R R2 : Nat → Int → Option Nat} {lr lt L : Int} {f : Int → Int → Int} {m g : Int} {pr : Int → Int} (hI : CInv n V R lr lt L f m g pr) (e : R2 2 = R 2) : CInv n V R2 lr lt L f m g pr := by
  refine ⟨?_, hI.2⟩
  have h := hI.1
  unfold LogC FsOk FEq FR at *
  rw [e]; exact h
theorem wo_okR {n : Nat} {V : Nat → Int → Int} {R R2 : Nat → Int → Option Nat} {q w : Int} (hF : FsOk n V R 2 (V 1 5)) (hN : ∀ j : Int, 0 ≤ j → j < w → R2 35 j = R 2 (if j < q then j else j + 1)) (hw : w + 1 ≤ V 1 5) : FsOk n V R2 35 w := by
  intro j a b
  rw [hN j a b]
  exact hF _ (by split <;> omega) (by split <;> omega)
theorem wo_FR {V : Nat → Int → Int} {R R2 : Nat → Int → Option Nat} {f : Int → Int → Int} {m i j x : Int} (hE : FEq V R 2 f m) (hR : R2 35 j = R 2 i) (hi : 0 ≤ i ∧ i < m) (h0 : 0 ≤ x) (h3 : x ≤ 3) : FR V R2 35 j x = f i x := by
  rw [← hE i hi.1 hi.2 x h0 h3]
  unfold FR
  rw [hR]

