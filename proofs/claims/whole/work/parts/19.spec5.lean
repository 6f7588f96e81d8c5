/-! opening and best turn, as the model's memory has them -/
theorem zAnd_rg (a b : Int) : Rg (zAnd a b) := Rg_i _
theorem zOr_rg (a b : Int) : Rg (zOr a b) := Rg_i _
theorem zXor_rg (a b : Int) : Rg (zXor a b) := Rg_i _
theorem zShl_rg (a b : Int) : Rg (zShl a b) := Rg_i _
theorem zShr_rg (a b : Int) : Rg (zShr a b) := Rg_i _
theorem zUshr_rg (a b : Int) : Rg (zUshr a b) := Rg_i _
def RulesOk (p : Int → Int) : Prop := (0 ≤ p 0 ∧ p 0 ≤ 2) ∧ (0 ≤ p 1 ∧ p 1 ≤ 1) ∧ (∀ z, 2 ≤ z → z ≤ 5 → 0 ≤ p z ∧ p z ≤ 99) ∧ (0 ≤ p 6 ∧ p 6 ≤ 30 ∧ p 6 % 2 = 0)
/-- a best worth, cut to its range (which it never leaves) -/
noncomputable def bwC (r t L : Int) (f : Int → Int → Int) (m g : Int) (pr : Int → Int) (y k : Int) : Int := max 0 (min 38016 (bestW r t L f m g pr y k))
theorem bwC_b (r t L : Int) (f : Int → Int → Int) (m g : Int) (pr : Int → Int) (y k : Int) : 0 ≤ bwC r t L f m g pr y k ∧ bwC r t L f m g pr y k ≤ 38016 := by unfold bwC; omega
theorem BestB.c {r t L : Int} {f : Int → Int → Int} {m g : Int} {pr : Int → Int} {y k W AR A B S T G : Int} (h : BestB r t L f m g pr y k W AR A B S T G) (hpr : RulesOk pr) (hk : 1 ≤ k ∧ k ≤ 4) (hL : 1 ≤ L ∧ L ≤ 8) : W = bwC r t L f m g pr y k ∧ 0 ≤ W ∧ W ≤ 38016 := by
  have h1 := h.b hpr.2.2.1 hk hL
  have h2 := h.w
  unfold bwC; omega
/-- the opening's tables -/
noncomputable def opT (r t L : Int) (f : Int → Int → Int) (m : Int) (pr : Int → Int) (g y : Int) : (Int → Int) × (Int → Int) := dpR (bwC r t L f m g pr) (pr 6) (pr 0) y
theorem opT_0 {r t L : Int} {f : Int → Int → Int} {m : Int} {pr : Int → Int} {g : Int} : opT r t L f m pr g 11 = (fun _ => 0, fun _ => 0) := dpR_0
theorem opT_b {r t L : Int} {f : Int → Int → Int} {m : Int} {pr : Int → Int} {g y : Int} (hy : -1 ≤ y ∧ y ≤ 11) : (∀ z, 0 ≤ (opT r t L f m pr g y).1 z ∧ (opT r t L f m pr g y).1 z ≤ 456192) ∧ (∀ z, 0 ≤ (opT r t L f m pr g y).2 z ∧ (opT r t L f m pr g y).2 z ≤ 4 ∧ ((opT r t L f m pr g y).2 z = 0 ∨ (0 ≤ z ∧ z + (opT r t L f m pr g y).2 z ≤ 12))) ∧ (∀ z, 0 < (opT r t L f m pr g y).2 z → 0 < bwC r t L f m g pr z ((opT r t L f m pr g y).2 z)) ∧ (∀ z, 12 ≤ z → (opT r t L f m pr g y).1 z = 0) := by
  have h := dpTab_b (bw := bwC r t L f m g pr) (th := pr 6) (kf := pr 0) (fun y n _ _ _ _ => bwC_b _ _ _ _ _ _ _ _ _) (11 - y).toNat (by omega)
  unfold opT
  rw [dpR_e]
  refine ⟨fun z => ?_, h.2.1, h.2.2.1, h.2.2.2⟩
  have h1 := h.1 z
  have e : (38016 : Int) * ((11 - y).toNat : Int) ≤ 456192 := by rw [Int.toNat_of_nonneg (by omega)]; omega
  exact ⟨h1.1, Int.le_trans h1.2 e⟩
/-- what a board's search leaves -/
def FrB (V V2 : Nat → Int → Int) : Prop := ∀ q z, q ≠ 50 → q ≠ 51 → ¬ (q = 42 ∧ 22 ≤ z ∧ z ≤ 28) → V2 q z = V q z
def MB (V V2 : Nat → Int → Int) (g y k : Int) : Prop := BestB (V 42 0) (V 42 1) (V 42 2) (FM V) (V 42 4) g (V 44) y k (V2 42 22) (V2 42 23) (V2 42 24) (V2 42 25) (V2 42 26) (V2 42 27) (V2 42 28)
/-- what an opening's search leaves -/
def FrO (V V2 : Nat → Int → Int) : Prop := ∀ q z, q ≠ 50 → q ≠ 51 → q ≠ 52 → q ≠ 53 → ¬ (q = 42 ∧ 22 ≤ z ∧ z ≤ 28) → V2 q z = V q z
def FrL (V V2 : Nat → Int → Int) : Prop := ∀ q z, q ≠ 50 → q ≠ 51 → q ≠ 52 → q ≠ 53 → q ≠ 54 → q ≠ 55 → ¬ (q = 42 ∧ ((22 ≤ z ∧ z ≤ 28) ∨ z = 31)) → V2 q z = V q z
noncomputable def opM (V : Nat → Int → Int) (g y : Int) : (Int → Int) × (Int → Int) := opT (V 42 0) (V 42 1) (V 42 2) (FM V) (V 42 4) (V 44) g y
theorem opM_eq {V V2 : Nat → Int → Int} (h : LogEq V V2) (h4 : V2 44 = V 44) : opM V2 = opM V := by
  funext g y
  unfold opM
  rw [h.FM, h.1 0 (by decide) (by decide), h.1 1 (by decide) (by decide), h.1 2 (by decide) (by decide), h.1 4 (by decide) (by decide), h4]
theorem FrB.log {V V2 : Nat → Int → Int} (h : FrB V V2) : LogEq V V2 := ⟨fun z a b => h 42 z (by decide) (by decide) (by omega), funext fun z => h 43 z (by decide) (by decide) (by omega)⟩
theorem FrB.r {V V2 : Nat → Int → Int} (h : FrB V V2) : V2 44 = V 44 := funext fun z => h 44 z (by decide) (by decide) (by omega)
theorem FrO.log {V V2 : Nat → Int → Int} (h : FrO V V2) : LogEq V V2 := ⟨fun z a b => h 42 z (by decide) (by decide) (by decide) (by decide) (by omega), funext fun z => h 43 z (by decide) (by decide) (by decide) (by decide) (by omega)⟩
theorem FrO.r {V V2 : Nat → Int → Int} (h : FrO V V2) : V2 44 = V 44 := funext fun z => h 44 z (by decide) (by decide) (by decide) (by decide) (by omega)
theorem FrL.log {V V2 : Nat → Int → Int} (h : FrL V V2) : LogEq V V2 := ⟨fun z a b => h 42 z (by decide) (by decide) (by decide) (by decide) (by decide) (by decide) (by omega), funext fun z => h 43 z (by decide) (by decide) (by decide) (by decide) (by decide) (by decide) (by omega)⟩
theorem FrL.r {V V2 : Nat → Int → Int} (h : FrL V V2) : V2 44 = V 44 := funext fun z => h 44 z (by decide) (by decide) (by decide) (by decide) (by decide) (by decide) (by omega)
theorem FrB.rf {V : Nat → Int → Int} : FrB V V := fun _ _ _ _ _ => rfl
theorem FrO.rf {V : Nat → Int → Int} : FrO V V := fun _ _ _ _ _ _ _ => rfl
theorem FrL.rf {V : Nat → Int → Int} : FrL V V := fun _ _ _ _ _ _ _ _ _ => rfl
theorem FrO.tr {V V2 V3 : Nat → Int → Int} (h : FrO V V2) (h2 : FrO V2 V3) : FrO V V3 := fun q z a b c d e => by rw [h2 q z a b c d e, h q z a b c d e]
theorem FrL.tr {V V2 V3 : Nat → Int → Int} (h : FrL V V2) (h2 : FrL V2 V3) : FrL V V3 := fun q z a b c d e f g => by rw [h2 q z a b c d e f g, h q z a b c d e f g]
theorem FrO.L {V V2 : Nat → Int → Int} (h : FrO V V2) : FrL V V2 := fun q z a b c d _ _ e => h q z a b c d (fun x => e ⟨x.1, Or.inl x.2⟩)
theorem FrB.O {V V2 : Nat → Int → Int} (h : FrB V V2) : FrO V V2 := fun q z a b _ _ e => h q z a b e
theorem FrO.w {V V2 : Nat → Int → Int} (h : FrO V V2) {c : Nat} {z v : Int} (hc : c = 52 ∨ c = 53) : FrO V (u2 V2 c z v) := fun q x a b d e f => by
  rw [u2_n (by omega)]; exact h q x a b d e f
/-- after finds in a memory V1 that has V's log -/
theorem MB_of {V V1 V2 : Nat → Int → Int} {g y k : Int} (h : LogEq V V1) (h4 : V1 44 = V 44) (hB : BestOf (grP (FM V) (V 42 4) g y k) (wP (FM V) (V 42 4) g (V1 44) y k) (CandP (fun t => fcS (V1 42 0) (V1 42 1) y k t) (V1 42 2) (V1 44 1)) (V2 42 22) (V2 42 23) (V2 42 24) (V2 42 25) (V2 42 26) (V2 42 27) (V2 42 28)) : MB V V2 g y k := by
  rw [h.1 0 (by decide) (by decide), h.1 1 (by decide) (by decide), h.1 2 (by decide) (by decide), h4] at hB
  exact hB
noncomputable def boardP (r t L : Int) (f : Int → Int → Int) (m g : Int) (pr : Int → Int) (y k w res : Int) : Prop := ∃ W AR A B S T G, BestB r t L f m g pr y k W AR A B S T G ∧ ((W = 0 ∧ res = -1) ∨ (0 < W ∧ ((w = 0 ∧ res = A) ∨ (w = 1 ∧ res = B) ∨ (w = 2 ∧ res = S) ∨ (w = 3 ∧ res = T) ∨ (w = 4 ∧ res = G) ∨ (w = 5 ∧ res = faceH f m g y A B S T) ∨ (w = 6 ∧ res = faceH f m g (y + k - 1) A B S T))))
theorem boardP_u {r t L : Int} {f : Int → Int → Int} {m g : Int} {pr : Int → Int} {y k w a b : Int} (h : boardP r t L f m g pr y k w a) (h' : boardP r t L f m g pr y k w b) : a = b := by
  obtain ⟨W, AR, A, B, S, T, G, hB, h⟩ := h
  obtain ⟨W', AR', A', B', S', T', G', hB', h'⟩ := h'
  obtain ⟨e, e2⟩ := BestOf.u hB hB'
  rcases h with ⟨z, h⟩ | ⟨z, h⟩
  · rcases h' with ⟨z', h'⟩ | ⟨z', h'⟩
    · omega
    · omega
  · rcases h' with ⟨z', h'⟩ | ⟨z', h'⟩
    · omega
    · obtain ⟨e3, e4, e5, e6, e7, e8⟩ := e2 z
      subst e3 e4 e5 e6 e7 e8
      rcases h with ⟨q, h⟩ | ⟨q, h⟩ | ⟨q, h⟩ | ⟨q, h⟩ | ⟨q, h⟩ | ⟨q, h⟩ | ⟨q, h⟩ <;> rcases h' with ⟨q', h'⟩ | ⟨q', h'⟩ | ⟨q', h'⟩ | ⟨q', h'⟩ | ⟨q', h'⟩ | ⟨q', h'⟩ | ⟨q', h'⟩ <;> omega
/-- the turn of most worth, the least of them -/
def turnP (F : Int → Int) (res : Int) : Prop := (0 ≤ res ∧ res ≤ 3) ∧ (∀ u, 0 ≤ u → u ≤ 3 → F u ≤ F res) ∧ ∀ u, 0 ≤ u → u < res → F u < F res
theorem turnP_u {F : Int → Int} {a b : Int} (h : turnP F a) (h' : turnP F b) : a = b := by
  rcases Int.lt_trichotomy a b with q | q | q
  · have h1 := h'.2.2 a h.1.1 q
    have h2 := h.2.1 b h'.1.1 h'.1.2
    omega
  · exact q
  · have h1 := h.2.2 b h'.1.1 q
    have h2 := h'.2.1 a h.1.1 h.1.2
    omega
/-- the opening's rows in the memory -/
noncomputable def opL (r t L : Int) (f : Int → Int → Int) (m : Int) (pr : Int → Int) (g : Int) : List Int := bl (opT r t L f m pr g (-1)).2 (pr 0) 0
noncomputable def opG (r t L : Int) (f : Int → Int → Int) (m : Int) (pr : Int → Int) (g y : Int) : Int := bestG r t L f m g pr y ((opT r t L f m pr g (-1)).2 y)
noncomputable def opLM (V : Nat → Int → Int) (g : Int) : List Int := opL (V 42 0) (V 42 1) (V 42 2) (FM V) (V 42 4) (V 44) g
noncomputable def opGM (V : Nat → Int → Int) (g y : Int) : Int := opG (V 42 0) (V 42 1) (V 42 2) (FM V) (V 42 4) (V 44) g y
theorem opM_b {V : Nat → Int → Int} {g y : Int} (hy : -1 ≤ y ∧ y ≤ 11) : (∀ z, 0 ≤ (opM V g y).1 z ∧ (opM V g y).1 z ≤ 456192) ∧ (∀ z, 0 ≤ (opM V g y).2 z ∧ (opM V g y).2 z ≤ 4 ∧ ((opM V g y).2 z = 0 ∨ (0 ≤ z ∧ z + (opM V g y).2 z ≤ 12))) ∧ (∀ z, 0 < (opM V g y).2 z → 0 < bwC (V 42 0) (V 42 1) (V 42 2) (FM V) (V 42 4) g (V 44) z ((opM V g y).2 z)) ∧ (∀ z, 12 ≤ z → (opM V g y).1 z = 0) := opT_b hy
theorem opL_len {r t L : Int} {f : Int → Int → Int} {m : Int} {pr : Int → Int} {g : Int} (hk : 0 ≤ pr 0) : ((opL r t L f m pr g).length : Int) ≤ 12 := by
  have h := bl_len (T := (opT r t L f m pr g (-1)).2) hk (12 - (0 : Int)).toNat 0
  unfold opL
  rw [bl_d]
  exact Int.le_trans h (by decide)
theorem opL_mem {r t L : Int} {f : Int → Int → Int} {m : Int} {pr : Int → Int} {g z : Int} (hk : 0 ≤ pr 0) (h : z ∈ opL r t L f m pr g) : 0 ≤ z ∧ z < 12 ∧ 0 < (opT r t L f m pr g (-1)).2 z := by
  unfold opL at h
  rw [bl_d] at h
  exact bl_mem hk (fun z => ((opT_b (y := -1) (by decide)).2.1 z).1) (12 - (0 : Int)).toNat 0 z (by decide) h
theorem opLM_len {V : Nat → Int → Int} {g : Int} (hk : 0 ≤ V 44 0) : ((opLM V g).length : Int) ≤ 12 := opL_len hk
theorem opLM_mem {V : Nat → Int → Int} {g z : Int} (hk : 0 ≤ V 44 0) (h : z ∈ opLM V g) : 0 ≤ z ∧ z < 12 ∧ 0 < (opM V g (-1)).2 z := opL_mem hk h
theorem opM_0 {V : Nat → Int → Int} {g z : Int} : (opM V g 11).1 z = 0 := by
  unfold opM
  rw [opT_0]
