theorem CInv.fr78 {n : Nat} {V V1 : Nat → Int → Int} {R : Nat → Int → Option Nat} {lr lt L : Int} {f : Int → Int → Int} {m g : Int} {pr : Int → Int} (hI : CInv n V R lr lt L f m g pr) (hf : ∀ q, q ≠ 11 + 6 → q ≠ 11 + 7 → V1 q = V q) : CInv n V1 R lr lt L f m g pr := by
  have h11 := hf 11 (by omega) (by omega)
  refine ⟨hI.1.fr (fun q a => hf q (by omega) (by omega)), ?_, hI.2.2.1.fr (hf _ (by omega) (by omega)) (hf _ (by omega) (by omega)), by rw [hf 19 (by omega) (by omega)]; exact hI.2.2.2.1, hI.2.2.2.2.1.fr (hf _ (by omega) (by omega)) (hf _ (by omega) (by omega)), by rw [hf 31 (by omega) (by omega)]; exact hI.2.2.2.2.2⟩
  obtain ⟨a1, a2, a3⟩ := hI.2.1
  unfold LiesC
  rw [h11]
  refine ⟨a1, a2, fun a => ⟨(a3 a).1.fr hf, fun b => ?_⟩⟩
  have h := (a3 a).2 b
  unfold OpenOk at h ⊢
  rw [h11, hf (11 + 11) (by omega) (by omega), hf (11 + 9) (by omega) (by omega), hf (11 + 10) (by omega) (by omega)]
  exact h

