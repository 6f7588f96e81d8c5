/-! THE RELATION of the class's memory and the model's -/
def BoR (V : Nat → Int → Int) : Prop := V 1 8 = V 42 7 ∧ (0 ≤ V 42 7 ∧ V 42 7 ≤ 16) ∧ RowEq (V 4) (V 45) (V 42 7)
def OrR (V : Nat → Int → Int) : Prop := V 1 10 = V 42 9 ∧ (0 ≤ V 42 9 ∧ V 42 9 ≤ 6) ∧ OrdEq (V 5) (V 46) (V 42 9)
def TaR (V : Nat → Int → Int) : Prop := V 0 7 = V 42 12 ∧ (0 ≤ V 42 12 ∧ V 42 12 ≤ 40) ∧ (∀ z, V 36 z = V 47 z) ∧ ∀ z, 0 ≤ z → z < V 42 12 → 0 ≤ V 47 z ∧ V 47 z ≤ 255
/-- an image: the class's yard 6 against the model's row 48 -/
def ImOk (n : Nat) (V : Nat → Int → Int) (R : Nat → Int → Option Nat) : Prop :=
  ((V 48 2 ≠ 0 → V 6 0 = V 48 0 ∧ V 6 1 = V 48 1) ∧ V 6 2 = V 48 2 ∧ V 6 3 = V 48 3 ∧ V 6 5 = V 48 4 ∧ V 6 8 = V 48 5 ∧ V 6 10 = V 48 6) ∧
  ((0 ≤ V 6 0 ∧ V 6 0 ≤ 6) ∧ (0 ≤ V 6 1 ∧ V 6 1 ≤ 4) ∧ (0 ≤ V 48 0 ∧ V 48 0 ≤ 6) ∧ (0 ≤ V 48 1 ∧ V 48 1 ≤ 4) ∧ (0 ≤ V 48 2 ∧ V 48 2 ≤ 8) ∧ (0 ≤ V 48 3 ∧ V 48 3 ≤ 3) ∧ (0 ≤ V 48 4 ∧ V 48 4 ≤ 8) ∧ (0 ≤ V 48 5 ∧ V 48 5 ≤ 16) ∧ (0 ≤ V 48 6 ∧ V 48 6 ≤ 6)) ∧
  (V 48 2 = 0 → V 48 4 = 0) ∧ FsOk n V R 7 (V 48 4) ∧ FEq V R 7 (fun i j => V 48 (7 + (4 * i + j))) (V 48 4) ∧
  RulesOk (fun z => V 48 (39 + z)) ∧ (∀ z, 0 ≤ z → z < 7 → V 8 z = V 48 (39 + z)) ∧
  RowEq (V 9) (fun z => V 48 (46 + z)) (V 48 5) ∧ OrdEq (V 10) (fun z => V 48 (110 + z)) (V 48 6)
def ImR (n : Nat) (V : Nat → Int → Int) (R : Nat → Int → Option Nat) : Prop := V 0 2 = V 42 14 ∧ (V 42 14 = 0 ∨ V 42 14 = 1) ∧ (V 42 14 = 1 → ImOk n V R)
def ShR (V : Nat → Int → Int) : Prop := ∀ s, 0 ≤ s → s ≤ 3 → (-1 ≤ V 37 s ∧ V 37 s ≤ 1) ∧ V 64 s = V 37 s ∧ (0 ≤ V 38 s ∧ V 38 s ≤ 40) ∧ (0 ≤ V 65 s ∧ V 65 s ≤ 40) ∧ (0 ≤ V 37 s → V 38 s = V 65 s ∧ ∀ i, 0 ≤ i → i < V 65 s → V 39 (40 * s + i) = V (60 + s.toNat) i)
def RfR (n : Nat) (R : Nat → Int → Option Nat) : Prop := ∀ z d, 0 ≤ z → z < 8 → (R 2 z = some d ∨ R 7 z = some d) → d < n ∧ tb d = (99, 0)
def ClR (n : Nat) (V : Nat → Int → Int) (R : Nat → Int → Option Nat) : Prop := CInv n V R (V 1 0) (V 1 1) (V 42 2) (FM V) (V 42 4) (V 42 3) (V 44) ∧ (V 42 2 ≠ 0 → V 1 0 = V 42 0 ∧ V 1 1 = V 42 1) ∧ ((0 ≤ V 42 0 ∧ V 42 0 ≤ 6) ∧ (0 ≤ V 42 1 ∧ V 42 1 ≤ 4)) ∧ (V 42 2 = 0 → V 42 4 = 0)
def Rst (n : Nat) (V : Nat → Int → Int) (R : Nat → Int → Option Nat) : Prop := BoR V ∧ OrR V ∧ TaR V ∧ ImR n V R ∧ ShR V
def Rel (n : Nat) (V : Nat → Int → Int) (R : Nat → Int → Option Nat) : Prop := 67 ≤ n ∧ LR R ∧ RfR n R ∧ ClR n V R ∧ Rst n V R
section RL
variable {n n' : Nat} {V V' : Nat → Int → Int} {R R' : Nat → Int → Option Nat}
theorem Rel.h67 (h : Rel n V R) : 67 ≤ n := h.1
theorem Rel.lr (h : Rel n V R) : LR R := h.2.1
theorem Rel.c (h : Rel n V R) : CInv n V R (V 1 0) (V 1 1) (V 42 2) (FM V) (V 42 4) (V 42 3) (V 44) := h.2.2.2.1.1
theorem Rel.same (h : Rel n V R) : V 42 2 ≠ 0 → V 1 0 = V 42 0 ∧ V 1 1 = V 42 1 := h.2.2.2.1.2.1
theorem Rel.rg (h : Rel n V R) : (0 ≤ V 42 0 ∧ V 42 0 ≤ 6) ∧ (0 ≤ V 42 1 ∧ V 42 1 ≤ 4) := h.2.2.2.1.2.2.1
theorem Rel.z (h : Rel n V R) : V 42 2 = 0 → V 42 4 = 0 := h.2.2.2.1.2.2.2
theorem Rel.rst (h : Rel n V R) : Rst n V R := h.2.2.2.2
theorem Rel.bo (h : Rel n V R) : BoR V := h.rst.1
theorem Rel.or (h : Rel n V R) : OrR V := h.rst.2.1
theorem Rel.ta (h : Rel n V R) : TaR V := h.rst.2.2.1
theorem Rel.im (h : Rel n V R) : ImR n V R := h.rst.2.2.2.1
theorem Rel.sh (h : Rel n V R) : ShR V := h.rst.2.2.2.2
theorem Rel.rules (h : Rel n V R) : RulesOk (V 44) := h.c.1.2.2.2.1
theorem Rel.fs (h : Rel n V R) : FsOk n V R 2 (V 42 4) := h.c.1.2.2.1
theorem Rel.fe (h : Rel n V R) : FEq V R 2 (FM V) (V 42 4) := h.c.1.2.2.2.2.2
theorem Rel.e (h : Rel n V R) : V 1 2 = V 42 2 ∧ V 1 3 = V 42 3 ∧ V 1 5 = V 42 4 := ⟨h.c.1.1.2.2.1, h.c.1.1.2.2.2.1, h.c.1.1.2.2.2.2⟩
theorem Rel.b (h : Rel n V R) : (0 ≤ V 1 0 ∧ V 1 0 ≤ 6) ∧ (0 ≤ V 1 1 ∧ V 1 1 ≤ 4) ∧ (0 ≤ V 42 2 ∧ V 42 2 ≤ 8) ∧ (0 ≤ V 42 3 ∧ V 42 3 ≤ 3) ∧ (0 ≤ V 42 4 ∧ V 42 4 ≤ 8) := h.c.1.2.1
theorem FE_at {f : Int → Int → Int} {a : Nat} {m i : Int} (hF : FsOk n V R a m) (hE : FEq V R a f m) (h0 : 0 ≤ i) (h1 : i < m) : okF f i := by
  obtain ⟨c, hc, hO⟩ := hF i h0 h1
  obtain ⟨e0, e1, e2, e3⟩ := FR_e (V := V) hc
  have g := hE i h0 h1
  unfold okF
  rw [← g 0 (by decide) (by decide), ← g 1 (by decide) (by decide), ← g 2 (by decide) (by decide), ← g 3 (by decide) (by decide), e0, e1, e2, e3]
  exact hO.2.2
theorem okM_of {f : Int} (h : okF (FM V) f) : okM V f := by
  unfold okF at h
  rw [FM_0, FM_j, FM_j, FM_j] at h
  exact h
theorem Rel.okm (h : Rel n V R) : ∀ i, 0 ≤ i → i < V 42 4 → okM V i := fun i a b => okM_of (FE_at h.fs h.fe a b)
theorem Rel.log (h : Rel n V R) : LogOk V := ⟨h.rg.1, h.rg.2, h.b.2.2.1, h.b.2.2.2.1, h.b.2.2.2.2, h.okm⟩
theorem LR.fr (h : LR R) (e : ∀ q, q ≠ 2 → q ≠ 7 → q ≠ 35 → R' q = R q) : LR R' := fun q hq => by
  have k : ∀ q ∈ lrT, q.1 ≠ 2 ∧ q.1 ≠ 7 ∧ q.1 ≠ 35 := by decide
  have := k q hq
  rw [e q.1 this.1 this.2.1 this.2.2]
  exact h q hq
theorem FsOk.mv {a : Nat} {m : Int} (h : FsOk n V R a m) (hn : n ≤ n') (e : ∀ q z, 67 ≤ q → q < n → V' q z = V q z) (eR : ∀ i, 0 ≤ i → i < m → R' a i = R a i) : FsOk n' V' R' a m := fun i x y => by
  obtain ⟨c, hc, hO⟩ := h i x y
  have h2 := hO.fr (funext fun z => e c z hO.1 hO.2.1)
  exact ⟨c, by rw [eR i x y]; exact hc, h2.1, by have := h2.2.1; omega, h2.2.2⟩
theorem FEq.mv {a : Nat} {m : Int} {f : Int → Int → Int} (h : FEq V R a f m) (hF : FsOk n V R a m) (e : ∀ q z, 67 ≤ q → q < n → V' q z = V q z) (eR : ∀ i, 0 ≤ i → i < m → R' a i = R a i) : FEq V' R' a f m := fun i x y j c d => by
  obtain ⟨k, hk, hO⟩ := hF i x y
  rw [← h i x y j c d]
  have hk' : R' a i = some k := by rw [eR i x y]; exact hk
  rw [show FR V' R' a i j = FR V' R a i j by unfold FR; rw [hk', hk], FR_fr hk (funext fun z => e k z hO.1 hO.2.1)]
theorem BoR.fr (h : BoR V) (e : ∀ q z, (q = 1 ∧ z = 8) ∨ q = 4 ∨ (q = 42 ∧ z = 7) ∨ q = 45 → V' q z = V q z) : BoR V' := by
  have a := e 42 7 (by omega)
  refine ⟨by rw [e 1 8 (by omega), a]; exact h.1, by rw [a]; exact h.2.1, fun z x y => ?_⟩
  rw [e 4 z (by omega), e 45 z (by omega)]
  exact h.2.2 z x (by rw [a] at y; exact y)
theorem OrR.fr (h : OrR V) (e : ∀ q z, (q = 1 ∧ z = 10) ∨ q = 5 ∨ (q = 42 ∧ z = 9) ∨ q = 46 → V' q z = V q z) : OrR V' := by
  have a := e 42 9 (by omega)
  refine ⟨by rw [e 1 10 (by omega), a]; exact h.1, by rw [a]; exact h.2.1, ?_⟩
  rw [show V' 5 = V 5 from funext fun z => e 5 z (by omega), show V' 46 = V 46 from funext fun z => e 46 z (by omega), a]
  exact h.2.2
theorem TaR.fr (h : TaR V) (e : ∀ q z, (q = 0 ∧ z = 7) ∨ q = 36 ∨ (q = 42 ∧ z = 12) ∨ q = 47 → V' q z = V q z) : TaR V' := by
  have a := e 42 12 (by omega)
  refine ⟨by rw [e 0 7 (by omega), a]; exact h.1, by rw [a]; exact h.2.1, fun z => by rw [e 36 z (by omega), e 47 z (by omega)]; exact h.2.2.1 z, fun z x y => ?_⟩
  rw [e 47 z (by omega)]
  exact h.2.2.2 z x (by rw [a] at y; exact y)
theorem ImOk.fr (h : ImOk n V R) (hn : n ≤ n') (e : ∀ q z, (6 ≤ q ∧ q ≤ 10) ∨ q = 48 ∨ (67 ≤ q ∧ q < n) → V' q z = V q z) (eR : ∀ i, 0 ≤ i → i < 8 → R' 7 i = R 7 i) : ImOk n' V' R' := by
  have f : ∀ q, (6 ≤ q ∧ q ≤ 10) ∨ q = 48 → V' q = V q := fun q a => funext fun z => e q z (by omega)
  obtain ⟨a, b, c, d, g, k⟩ := h
  have hb := b.2.2.2.2.2.2.1
  unfold ImOk
  rw [f 6 (by omega), f 48 (by omega), f 8 (by omega), f 9 (by omega), f 10 (by omega)]
  exact ⟨a, b, c, d.mv hn (fun q z x y => e q z (by omega)) (fun i x y => eR i x (by omega)), g.mv d (fun q z x y => e q z (by omega)) (fun i x y => eR i x (by omega)), k⟩
theorem ImR.fr (h : ImR n V R) (hn : n ≤ n') (e : ∀ q z, (q = 0 ∧ z = 2) ∨ (6 ≤ q ∧ q ≤ 10) ∨ (q = 42 ∧ z = 14) ∨ q = 48 ∨ (67 ≤ q ∧ q < n) → V' q z = V q z) (eR : ∀ i, 0 ≤ i → i < 8 → R' 7 i = R 7 i) : ImR n' V' R' := by
  have a := e 42 14 (by omega)
  exact ⟨by rw [e 0 2 (by omega), a]; exact h.1, by rw [a]; exact h.2.1, fun x => (h.2.2 (by rw [← a]; exact x)).fr hn (fun q z y => e q z (by omega)) eR⟩
theorem ShR.fr (h : ShR V) (e : ∀ q z, (37 ≤ q ∧ q ≤ 39) ∨ (60 ≤ q ∧ q ≤ 65) → V' q z = V q z) : ShR V' := fun s a b => by
  obtain ⟨h1, h2, h3, h4, h5⟩ := h s a b
  rw [e 37 s (by omega), e 64 s (by omega), e 38 s (by omega), e 65 s (by omega)]
  refine ⟨h1, h2, h3, h4, fun c => ⟨(h5 c).1, fun i x y => ?_⟩⟩
  rw [e 39 _ (by omega), e (60 + s.toNat) _ (by omega)]
  exact (h5 c).2 i x y
/-- what the relation speaks of, the log aside -/
def KS (n q : Nat) (z : Int) : Prop := (q = 0 ∧ (z = 2 ∨ z = 7)) ∨ (q = 1 ∧ (z = 8 ∨ z = 10)) ∨ (4 ≤ q ∧ q ≤ 10) ∨ (36 ≤ q ∧ q ≤ 39) ∨ (q = 42 ∧ (z = 7 ∨ z = 9 ∨ z = 12 ∨ z = 14)) ∨ (45 ≤ q ∧ q ≤ 48) ∨ (60 ≤ q ∧ q ≤ 65) ∨ (67 ≤ q ∧ q < n)
theorem Rst.fr (h : Rst n V R) (hn : n ≤ n') (e : ∀ q z, KS n q z → V' q z = V q z) (eR : ∀ i, 0 ≤ i → i < 8 → R' 7 i = R 7 i) : Rst n' V' R' :=
  ⟨h.1.fr fun q z a => e q z (by unfold KS; omega), h.2.1.fr fun q z a => e q z (by unfold KS; omega), h.2.2.1.fr fun q z a => e q z (by unfold KS; omega), h.2.2.2.1.fr hn (fun q z a => e q z (by unfold KS; omega)) eR, h.2.2.2.2.fr fun q z a => e q z (by unfold KS; omega)⟩
theorem RfR.fr (h : RfR n R) (hn : n ≤ n') (e : ∀ i, 0 ≤ i → i < 8 → R' 2 i = R 2 i ∧ R' 7 i = R 7 i) : RfR n' R' := fun z d a b c => by
  rw [(e z a b).1, (e z a b).2] at c
  have := h z d a b c
  exact ⟨by omega, this.2⟩
/-- the same log in other words -/
theorem CInv.cg {lr lt L : Int} {f f' : Int → Int → Int} {m g : Int} {pr pr' : Int → Int} (h : CInv n V R lr lt L f m g pr) (hf : ∀ i, 0 ≤ i → i < m → ∀ j, 0 ≤ j → j ≤ 3 → f i j = f' i j) (hp : ∀ z, 0 ≤ z → z < 7 → pr z = pr' z) : CInv n V R lr lt L f' m g pr' := by
  have hu : HurtEq f m f' m := hurtS_c hf
  obtain ⟨⟨a1, a2, a3, a4, a5, a6⟩, ⟨b1, b2, b3⟩, c⟩ := h
  refine ⟨⟨a1, a2, a3, ?_, fun z x y => (a5 z x y).trans (hp z x y), fun i x y j u v => (a6 i x y j u v).trans (hf i x y j u v)⟩, ⟨b1, b2, fun x => ⟨(b3 x).1.cg hu hp, fun y => ?_⟩⟩, c⟩
  · obtain ⟨r0, r1, r2, r3⟩ := a4
    unfold RulesOk
    rw [← hp 0 (by decide) (by decide), ← hp 1 (by decide) (by decide), ← hp 6 (by decide) (by decide)]
    exact ⟨r0, r1, fun z x y => by rw [← hp z (by omega) (by omega)]; exact r2 z x y, r3⟩
  · have o := (b3 x).2 y
    have ew : wP f' m g pr = wP f' m g pr' := by
      funext y k a b s t
      unfold wP
      have hg : 0 ≤ grP f' m g y k a b s t ∧ grP f' m g y k a b s t ≤ 4 := gradeS_b _ _ _ _ _
      rw [hp _ (by omega) (by omega)]
    have eB : BestB lr lt L f m g pr = BestB lr lt L f' m g pr' := by
      rw [hu.B]
      funext y k W AR A B S T G
      unfold BestB
      rw [ew, hp 1 (by decide) (by decide)]
    have e1 : bwC lr lt L f m g pr = bwC lr lt L f' m g pr' := by
      funext y n
      unfold bwC bestW
      rw [eB]
    have e2 : bestG lr lt L f m g pr = bestG lr lt L f' m g pr' := by
      funext y n
      unfold bestG
      rw [eB]
    unfold OpenOk at o ⊢
    rw [← e1, ← e2, ← hp 6 (by decide) (by decide), ← hp 0 (by decide) (by decide)]
    exact o
theorem LogC.mv {lr lt L : Int} {f : Int → Int → Int} {m g : Int} {pr : Int → Int} (h : LogC n V R lr lt L f m g pr) (hn : n ≤ n') (e : ∀ q z, q = 1 ∧ z ≤ 5 ∨ q = 3 ∨ (67 ≤ q ∧ q < n) → V' q z = V q z) (eR : ∀ i, 0 ≤ i → i < m → R' 2 i = R 2 i) : LogC n' V' R' lr lt L f m g pr := by
  obtain ⟨a1, a2, a3, a4, a5, a6⟩ := h
  refine ⟨?_, a2, a3.mv hn (fun q z x y => e q z (by omega)) eR, a4, fun z x y => (e 3 z (by omega)).trans (a5 z x y), a6.mv a3 (fun q z x y => e q z (by omega)) eR⟩
  rw [e 1 0 (by omega), e 1 1 (by omega), e 1 2 (by omega), e 1 3 (by omega), e 1 5 (by omega)]
  exact a1
/-- the class's memory is the same where it matters -/
theorem CInv.mv {lr lt L : Int} {f : Int → Int → Int} {m g : Int} {pr : Int → Int} (h : CInv n V R lr lt L f m g pr) (hn : n ≤ n') (e : ∀ q z, q = 1 ∧ z ≤ 5 ∨ q = 3 ∨ (11 ≤ q ∧ q ≤ 34) ∨ (67 ≤ q ∧ q < n) → V' q z = V q z) (eR : ∀ i, 0 ≤ i → i < m → R' 2 i = R 2 i) : CInv n' V' R' lr lt L f m g pr := by
  have f : ∀ q, 11 ≤ q ∧ q ≤ 34 → V' q = V q := fun q a => funext fun z => e q z (by omega)
  refine ⟨h.1.mv hn (fun q z x => e q z (by omega)) eR, ?_, h.2.2.1.fr (f _ (by omega)) (f _ (by omega)), by rw [f 19 (by omega)]; exact h.2.2.2.1, h.2.2.2.2.1.fr (f _ (by omega)) (f _ (by omega)), by rw [f 31 (by omega)]; exact h.2.2.2.2.2⟩
  obtain ⟨b1, b2, b3⟩ := h.2.1
  unfold LiesC
  rw [f 11 (by omega)]
  refine ⟨b1, b2, fun a => ⟨(b3 a).1.fr2 (fun z _ => by rw [f 11 (by omega)]) (fun q b => f q (by omega)), fun b => ?_⟩⟩
  have o := (b3 a).2 b
  unfold OpenOk at o ⊢
  rw [f 11 (by omega), f (11 + 11) (by omega), f (11 + 9) (by omega), f (11 + 10) (by omega)]
  exact o
/-- a log that isn't sawn yet -/
theorem CInv.off {lr lt L : Int} {f : Int → Int → Int} {m g : Int} {pr : Int → Int} (h : LogC n V R lr lt L f m g pr) (h0 : V 11 0 = 0) (h1 : V 11 1 = 0 ∨ V 11 1 = 1) (hz : SawZ V) : CInv n V R lr lt L f m g pr := ⟨h, ⟨Or.inl h0, h1, fun e => by rw [h0] at e; exact absurd e (by decide)⟩, hz⟩
theorem SawZ.fr (h : SawZ V) (e : ∀ q z, q = 15 ∨ q = 16 ∨ q = 19 ∨ q = 27 ∨ q = 28 ∨ q = 31 → V' q z = V q z) : SawZ V' := by
  have f : ∀ q, q = 15 ∨ q = 16 ∨ q = 19 ∨ q = 27 ∨ q = 28 ∨ q = 31 → V' q = V q := fun q a => funext fun z => e q z a
  exact ⟨h.1.fr (f 15 (by omega)) (f 16 (by omega)), by rw [f 19 (by omega)]; exact h.2.1, h.2.2.1.fr (f 27 (by omega)) (f 28 (by omega)), by rw [f 31 (by omega)]; exact h.2.2.2⟩
/-- a call that leaves the log, on both sides, and the rest as they were: its class's part says that CInv holds -/
theorem Rel.mv {V1 : Nat → Int → Int} (h : Rel n V R) (hn : n ≤ n') (hC : CInv n' V1 R' (V 1 0) (V 1 1) (V 42 2) (FM V) (V 42 4) (V 42 3) (V 44)) (e1 : ∀ q z, q = 1 ∧ z ≤ 5 ∨ q = 3 ∨ (11 ≤ q ∧ q ≤ 34) ∨ (67 ≤ q ∧ q < n') → V' q z = V1 q z)
    (eM : ∀ q z, (q = 1 ∧ z ≤ 5) ∨ (q = 42 ∧ 0 ≤ z ∧ z ≤ 4) ∨ (q = 43 ∧ 0 ≤ z ∧ z < 32) ∨ (q = 44 ∧ 0 ≤ z ∧ z < 7) ∨ KS n q z → V' q z = V q z) (eR : ∀ q, q ≠ 35 → R' q = R q) : Rel n' V' R' := by
  have k : ∀ q z, KS n q z → V' q z = V q z := fun q z a => eM q z (Or.inr (Or.inr (Or.inr (Or.inr a))))
  have a0 := eM 42 0 (by omega)
  have a1 := eM 42 1 (by omega)
  have a2 := eM 42 2 (by omega)
  have a3 := eM 42 3 (by omega)
  have a4 := eM 42 4 (by omega)
  have y0 := eM 1 0 (by omega)
  have y1 := eM 1 1 (by omega)
  have hb := h.b
  refine ⟨by have := h.h67; omega, h.lr.fr (fun q a b c => eR q c), h.2.2.1.fr hn (fun i _ _ => by rw [eR 2 (by decide), eR 7 (by decide)]; exact ⟨rfl, rfl⟩), ⟨?_, ?_, ?_, ?_⟩, h.rst.fr hn k (fun i _ _ => by rw [eR 7 (by decide)])⟩
  · rw [a2, a3, a4, y0, y1]
    refine (hC.cg (f' := FM V') (pr' := V' 44) (fun i x y j u v => ?_) (fun z x y => (eM 44 z (by omega)).symm)).mv (Nat.le_refl _) e1 (fun _ _ _ => rfl)
    exact (eM 43 (4 * i + j) (by omega)).symm
  · rw [a0, a1, a2, y0, y1]; exact h.same
  · rw [a0, a1]; exact h.rg
  · rw [a2, a4]; exact h.z
end RL
