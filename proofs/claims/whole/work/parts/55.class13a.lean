def FEq (V : Nat → Int → Int) (R : Nat → Int → Option Nat) (a : Nat) (f : Int → Int → Int) (m : Int) : Prop := ∀ i, 0 ≤ i → i < m → ∀ j, 0 ≤ j → j ≤ 3 → FR V R a i j = f i j
/-- the yard holds the log lr, lt, L with faults f (m), turn g, rules pr -/
def LogC (n : Nat) (V : Nat → Int → Int) (R : Nat → Int → Option Nat) (lr lt L : Int) (f : Int → Int → Int) (m g : Int) (pr : Int → Int) : Prop :=
  (V 1 0 = lr ∧ V 1 1 = lt ∧ V 1 2 = L ∧ V 1 3 = g ∧ V 1 5 = m) ∧ ((0 ≤ lr ∧ lr ≤ 6) ∧ (0 ≤ lt ∧ lt ≤ 4) ∧ (0 ≤ L ∧ L ≤ 8) ∧ (0 ≤ g ∧ g ≤ 3) ∧ (0 ≤ m ∧ m ≤ 8)) ∧ FsOk n V R 2 m ∧ RulesOk pr ∧ (∀ z, 0 ≤ z → z < 7 → V 3 z = pr z) ∧ FEq V R 2 f m
def LiesC (V : Nat → Int → Int) (lr lt L : Int) (f : Int → Int → Int) (m g : Int) (pr : Int → Int) : Prop :=
  (V 11 0 = 0 ∨ V 11 0 = 1) ∧ (V 11 1 = 0 ∨ V 11 1 = 1) ∧ (V 11 0 = 1 → SwOk V 11 lr lt L f m g pr ∧ (V 11 1 = 1 → OpenOk V 11 lr lt L f m g pr (pr 0)))
def SawZ (V : Nat → Int → Int) : Prop := SwZ V 11 ∧ V 19 12 = 0 ∧ SwZ V 23 ∧ V 31 12 = 0
/-- the class's yard, its two saws -/
def CInv (n : Nat) (V : Nat → Int → Int) (R : Nat → Int → Option Nat) (lr lt L : Int) (f : Int → Int → Int) (m g : Int) (pr : Int → Int) : Prop := LogC n V R lr lt L f m g pr ∧ LiesC V lr lt L f m g pr ∧ SawZ V
section CV
variable {n : Nat} {V V1 : Nat → Int → Int} {R : Nat → Int → Option Nat} {lr lt L : Int} {f : Int → Int → Int} {m g : Int} {pr : Int → Int}
theorem LogC.rules (h : LogC n V R lr lt L f m g pr) : RulesOk (V 3) := by
  obtain ⟨-, -, -, hr, he, -⟩ := h
  obtain ⟨r0, r1, r2, r3⟩ := hr
  unfold RulesOk
  rw [he 0 (by decide) (by decide), he 1 (by decide) (by decide), he 6 (by decide) (by decide)]
  exact ⟨r0, r1, fun z a b => by rw [he z (by omega) (by omega)]; exact r2 z a b, r3⟩
theorem LogC.hurt (h : LogC n V R lr lt L f m g pr) : HurtEq (FR V R 2) m f m := hurtS_c h.2.2.2.2.2
theorem FR_fr {a : Nat} {c : Nat} {i : Int} (h : R a i = some c) (e : V1 c = V c) : FR V1 R a i = FR V R a i := by
  funext j
  unfold FR
  rw [h]
  show (if j = 0 then V1 c 3 else V1 c (j - 1)) = (if j = 0 then V c 3 else V c (j - 1))
  rw [e]
theorem LogC.fr (h : LogC n V R lr lt L f m g pr) (e : ∀ q, q = 1 ∨ q = 3 ∨ 67 ≤ q → V1 q = V q) : LogC n V1 R lr lt L f m g pr := by
  obtain ⟨h1, h2, h3, h4, h5, h6⟩ := h
  have e1 := e 1 (Or.inl rfl)
  have e3 := e 3 (Or.inr (Or.inl rfl))
  refine ⟨by rw [e1]; exact h1, h2, fun i a b => ?_, h4, by rw [e3]; exact h5, fun i a b => ?_⟩
  · obtain ⟨c, hc, hF⟩ := h3 i a b
    exact ⟨c, hc, hF.fr (e c (by have := hF.1; omega))⟩
  · obtain ⟨c, hc, hF⟩ := h3 i a b
    rw [FR_fr hc (e c (by have := hF.1; omega))]
    exact h6 i a b
theorem SwOk.cg {sv : Nat} {f' : Int → Int → Int} {m' : Int} {pr' : Int → Int} (ok : SwOk V sv lr lt L f m g pr) (h : HurtEq f m f' m') (hp : ∀ z, 0 ≤ z → z < 7 → pr z = pr' z) : SwOk V sv lr lt L f' m' g pr' := by
  obtain ⟨a1, a2, a3, a4, a5, a6, a7, a8⟩ := ok
  refine ⟨a1, a2, fun z x y => by rw [← hp z (by omega) (by omega)]; exact a3 z x y, a4, fun z x y => by rw [← hp z x y]; exact a5 z x y, a6, fun {s y x} c1 c2 c3 c4 c5 c6 => by rw [← h]; exact a7 c1 c2 c3 c4 c5 c6, ?_⟩
  have e : (fun i y c => hurtS f m c y i g) = (fun i y c => hurtS f' m' c y i g) := by funext i y c; exact h c y i g
  rw [← e]; exact @a8
theorem lies_ok (hI : CInv n V R lr lt L f m g pr) (h : SwOk V1 11 (V 1 0) (V 1 1) (V 1 2) (FR V R 2) (V 1 5) (V 1 3) (V 3)) : SwOk V1 11 lr lt L f m g pr := by
  obtain ⟨e0, e1, e2, e3, e5⟩ := hI.1.1
  rw [e0, e1, e2, e3, e5] at h
  exact h.cg hI.1.hurt hI.1.2.2.2.2.1
theorem thought_ok {t : Int} (hI : CInv n V R lr lt L f m g pr) (h : SwOk V1 23 (V 1 0) (V 1 1) (V 1 2) (FR V R 2) (V 1 5) t (V 3)) : SwOk V1 23 lr lt L f m t pr := by
  obtain ⟨e0, e1, e2, e3, e5⟩ := hI.1.1
  rw [e0, e1, e2, e5] at h
  exact h.cg hI.1.hurt hI.1.2.2.2.2.1
theorem lies_inv (hI : CInv n V R lr lt L f m g pr) (hf : ∀ q, q < 11 ∨ 16 < q → V1 q = V q) (ok : SwOk V1 11 lr lt L f m g pr) (h1 : V1 11 0 = 1 ∧ V1 11 1 = 0 ∧ V1 11 2 = V 11 2) (hz : SwZ V1 11) : CInv n V1 R lr lt L f m g pr := by
  refine ⟨hI.1.fr (fun q a => hf q (by omega)), ⟨Or.inr h1.1, Or.inl h1.2.1, fun _ => ⟨ok, fun a => by rw [h1.2.1] at a; exact absurd a (by decide)⟩⟩, hz, ?_, ?_, ?_⟩
  · rw [hf 19 (by omega)]; exact hI.2.2.2.1
  · exact hI.2.2.2.2.1.fr (hf _ (by omega)) (hf _ (by omega))
  · rw [hf 31 (by omega)]; exact hI.2.2.2.2.2
theorem thought_inv (hI : CInv n V R lr lt L f m g pr) (hf : ∀ q, q < 23 ∨ 34 < q → V1 q = V q) (hz : SwZ V1 23) (h12 : V1 31 12 = 0) : CInv n V1 R lr lt L f m g pr := by
  have h11 := hf 11 (by omega)
  refine ⟨hI.1.fr (fun q a => hf q (by omega)), ?_, hI.2.2.1.fr (hf _ (by omega)) (hf _ (by omega)), by rw [hf 19 (by omega)]; exact hI.2.2.2.1, hz, h12⟩
  obtain ⟨a1, a2, a3⟩ := hI.2.1
  unfold LiesC
  rw [h11]
  refine ⟨a1, a2, fun a => ⟨(a3 a).1.fr2 (fun z _ => by rw [h11]) (fun q b => hf q (by omega)), fun b => ?_⟩⟩
  have h := (a3 a).2 b
  unfold OpenOk at h ⊢
  rw [h11, hf (11 + 11) (by omega), hf (11 + 9) (by omega), hf (11 + 10) (by omega)]
  exact h
theorem opened_inv {V2 : Nat → Int → Int} (hI : CInv n V1 R lr lt L f m g pr) (ok : SwOk V1 11 lr lt L f m g pr) (h1 : V1 11 0 = 1) (hf : ∀ q, q ≠ 11 → q < 11 + 6 ∨ 11 + 11 < q → V2 q = V1 q) (hs : ∀ z, z ≠ 1 → z ≠ 2 → V2 11 z = V1 11 z) (h2 : V2 11 1 = 1) (h12 : V2 (11 + 8) 12 = 0) (ho : OpenOk V2 11 lr lt L f m g pr (pr 0)) : CInv n V2 R lr lt L f m g pr := by
  refine ⟨hI.1.fr (fun q a => hf q (by omega) (by omega)), ⟨Or.inr (by rw [hs 0 (by decide) (by decide)]; exact h1), Or.inr h2, fun _ => ⟨ok.fr2 (fun z a => hs z (by omega) (by omega)) (fun q a => hf q (by omega) (by omega)), fun _ => ho⟩⟩, hI.2.2.1.fr (hf _ (by omega) (by omega)) (hf _ (by omega) (by omega)), h12, hI.2.2.2.2.1.fr (hf _ (by omega) (by omega)) (hf _ (by omega) (by omega)), ?_⟩
  rw [hf 31 (by omega) (by omega)]; exact hI.2.2.2.2.2
end CV

