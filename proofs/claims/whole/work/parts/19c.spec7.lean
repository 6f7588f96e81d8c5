/-! rows taken out; boards given -/
noncomputable def leftK (w k : Int) : Int := sm (fun i => bI (zAnd (zShr w i) 1 = 0)) k
theorem leftK_b {w k : Int} (h : 0 ≤ k) : 0 ≤ leftK w k ∧ leftK w k ≤ k := by
  have := sm_b (f := fun i => bI (zAnd (zShr w i) 1 = 0)) (A := 1) h (fun i _ _ => bI_b _)
  unfold leftK; omega
theorem leftK_s {w k : Int} (h : 0 ≤ k) : leftK w (k + 1) = leftK w k + bI (zAnd (zShr w k) 1 = 0) := sm_s h
/-- of m rows of fours those stay that w doesn't tell -/
def tookP (w m : Int) (f f1 : Int → Int) : Prop := ∀ k, 0 ≤ k → k < m → zAnd (zShr w k) 1 = 0 → ∀ j, 0 ≤ j → j < 4 → f1 (4 * leftK w k + j) = f (4 * k + j)
theorem took_n {w k : Int} {f f1 : Int → Int} (h : tookP w k f f1) (hz : ¬ zAnd (zShr w k) 1 = 0) : tookP w (k + 1) f f1 := fun i a b c => by
  rcases (show i < k ∨ i = k by omega) with q | q
  · exact h i a q c
  · rw [q] at c; exact absurd c hz
theorem leftK_lt {w i k : Int} (h : 0 ≤ i) (hk : i < k) (hz : zAnd (zShr w i) 1 = 0) : leftK w i + 1 ≤ leftK w k := by
  have key : ∀ d : Nat, leftK w (i + 1) ≤ leftK w (i + 1 + d) := by
    intro d
    induction d with
    | zero => simp
    | succ d ih =>
      rw [show i + 1 + ((d + 1 : Nat) : Int) = i + 1 + d + 1 by omega, leftK_s (k := i + 1 + d) (by omega)]
      have := bI_b (zAnd (zShr w (i + 1 + d)) 1 = 0)
      omega
  have h1 := key (k - (i + 1)).toNat
  rw [show i + 1 + ((k - (i + 1)).toNat : Int) = k by omega, leftK_s h, bI_t hz] at h1
  exact h1
theorem took_y {w k : Int} {f f1 f2 : Int → Int} (hk : 0 ≤ k) (h : tookP w k f f1) (h2 : ∀ z, 0 ≤ z → z < 4 * leftK w k → f2 z = f1 z) (h3 : ∀ j, 0 ≤ j → j < 4 → f2 (4 * leftK w k + j) = f (4 * k + j)) : tookP w (k + 1) f f2 := fun i a b c j j0 j1 => by
  rcases (show i < k ∨ i = k by omega) with q | q
  · rw [h2 _ (by have := leftK_b (w := w) a; omega) (by have := leftK_lt a q c; omega)]
    exact h i a q c j j0 j1
  · rw [q]; exact h3 j j0 j1
/-- a board may be given to an order, others kept served -/
def giveP (N M : Int) (A : Int → Prop) (mt : Int → Int → Prop) (S : Int → Prop) (o b : Int) : Prop := A b ∧ mt b o ∧ CanP N M (fun c => A c ∧ c ≠ b) mt S
def FrT (V V2 : Nat → Int → Int) (c : Nat) : Prop := ∀ q, q ≠ c → V2 q = V q
/-- boards of a saw's cut in the stack, from place base on -/
def sawRow (r t L : Int) (f : Int → Int → Int) (m g : Int) (pr : Int → Int) (c : Int → Int) (j y k : Int) : Prop := ∃ W AR A B S T G, 0 < W ∧ BestB r t L f m g pr y k W AR A B S T G ∧ c (4 * j) = k ∧ c (4 * j + 1) = B - A + 1 ∧ c (4 * j + 2) = T - S + 1 ∧ c (4 * j + 3) = G
def sawRowM (V : Nat → Int → Int) (c : Int → Int) (j i : Int) : Prop := sawRow (V 42 0) (V 42 1) (V 42 2) (FM V) (V 42 4) (V 42 3) (V 44) c j (lat (opLM V (V 42 3)) i) ((opM V (V 42 3) (-1)).2 (lat (opLM V (V 42 3)) i))
def FrW (V V2 : Nat → Int → Int) : Prop := ∀ q z, q ≠ 50 → q ≠ 51 → q ≠ 52 → q ≠ 53 → q ≠ 54 → q ≠ 55 → q ≠ 45 → ¬ (q = 42 ∧ ((22 ≤ z ∧ z ≤ 28) ∨ z = 31 ∨ z = 7)) → V2 q z = V q z
theorem FrW.log {V V2 : Nat → Int → Int} (h : FrW V V2) : LogEq V V2 := ⟨fun z a b => h 42 z (by decide) (by decide) (by decide) (by decide) (by decide) (by decide) (by decide) (by omega), funext fun z => h 43 z (by decide) (by decide) (by decide) (by decide) (by decide) (by decide) (by decide) (by omega)⟩
theorem FrW.r {V V2 : Nat → Int → Int} (h : FrW V V2) : V2 44 = V 44 := funext fun z => h 44 z (by decide) (by decide) (by decide) (by decide) (by decide) (by decide) (by decide) (by omega)
theorem FrL.W {V V2 : Nat → Int → Int} (h : FrL V V2) : FrW V V2 := fun q z a b c d e f _ i => h q z a b c d e f (fun x => i ⟨x.1, by omega⟩)
theorem sawRow_c {r t L : Int} {f : Int → Int → Int} {m g : Int} {pr : Int → Int} {c c' : Int → Int} {j y k : Int} (h : sawRow r t L f m g pr c j y k) (e : ∀ z, 4 * j ≤ z → z ≤ 4 * j + 3 → c' z = c z) : sawRow r t L f m g pr c' j y k := by
  obtain ⟨W, AR, A, B, S, T, G, h0, h1, h2, h3, h4, h5⟩ := h
  exact ⟨W, AR, A, B, S, T, G, h0, h1, by rw [e _ (by omega) (by omega)]; exact h2, by rw [e _ (by omega) (by omega)]; exact h3, by rw [e _ (by omega) (by omega)]; exact h4, by rw [e _ (by omega) (by omega)]; exact h5⟩
