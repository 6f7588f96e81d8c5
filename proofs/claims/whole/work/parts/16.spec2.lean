/-! the model's faults; what a call may leave -/
def okM (V : Nat → Int → Int) (f : Int) : Prop := (0 ≤ V 43 (4 * f) ∧ V 43 (4 * f) ≤ 6) ∧ (0 ≤ V 43 (4 * f + 1) ∧ V 43 (4 * f + 1) ≤ 7) ∧ (0 ≤ V 43 (4 * f + 2) ∧ V 43 (4 * f + 2) ≤ 7) ∧ (1 ≤ V 43 (4 * f + 3) ∧ V 43 (4 * f + 3) ≤ 4)
def FM (V : Nat → Int → Int) : Int → Int → Int := fun i j => V 43 (4 * i + j)
theorem FM_0 (V : Nat → Int → Int) (f : Int) : FM V f 0 = V 43 (4 * f) := by unfold FM; rw [Int.add_zero]
theorem FM_j (V : Nat → Int → Int) (f j : Int) : FM V f j = V 43 (4 * f + j) := rfl
theorem okM_F {V : Nat → Int → Int} {f : Int} (h : okM V f) : okF (FM V) f := by
  unfold okF; rw [FM_0, FM_j, FM_j, FM_j]; exact h
theorem hitM {V : Nat → Int → Int} {f x y s : Int} : hitF (FM V) f x y s ↔ atF (V 43 (4 * f)) (V 43 (4 * f + 2)) (V 43 (4 * f + 3)) s ∧ inF (V 43 (4 * f)) (V 43 (4 * f + 1)) (V 43 (4 * f + 3)) x y := by
  unfold hitF; rw [FM_0, FM_j, FM_j, FM_j]
/-- the least fault of m in a cell, or -1 -/
def leastP (f : Int → Int → Int) (m x y s r : Int) : Prop := (r = -1 ∧ ∀ i, 0 ≤ i → i < m → ¬ hitF f i x y s) ∨ (0 ≤ r ∧ r < m ∧ hitF f r x y s ∧ ∀ i, 0 ≤ i → i < r → ¬ hitF f i x y s)
theorem leastP_u {f : Int → Int → Int} {m x y s r r' : Int} (h : leastP f m x y s r) (h' : leastP f m x y s r') : r = r' := by
  rcases h with ⟨e, h⟩ | ⟨h0, h1, h2, h3⟩ <;> rcases h' with ⟨e', h'⟩ | ⟨h0', h1', h2', h3'⟩
  · omega
  · exact absurd h2' (h r' h0' h1')
  · exact absurd h2 (h' r h0 h1)
  · rcases Int.lt_trichotomy r r' with q | q | q
    · exact absurd h2 (h3' r h0 q)
    · exact q
    · exact absurd h2' (h3 r' h0' q)
/-- how many cells of wood a fault is in -/
noncomputable def nWoodIn (r t L k a sl z : Int) : Int := sm (fun c => bI (atF k sl z (c / 144) ∧ inF k a z (c % 12) (c / 12 % 12) ∧ woodP r t (c % 12) (c / 12 % 12) (c / 144))) (144 * L)
/-- how many cells a fault is in, wood or not, of a slice -/
noncomputable def nIn (k a z : Int) : Int := sm (fun c => bI (inF k a z (c % 12) (c / 12))) 144
def underP (k q : Int) : Prop := (q < 3 ∧ q ≤ k ∧ k < 3) ∨ (3 ≤ q ∧ q < 5 ∧ q ≤ k ∧ k < 5) ∨ (5 ≤ q ∧ q ≤ k)
def argF (a b c d e k : Int) : Int := if k = 0 then a else if k = 1 then b else if k = 2 then c else if k = 3 then d else e
/-- k bytes came behind the tape of cell tc, whose length is oc's field oz -/
def fedP (tc oc : Nat) (oz : Int) (V V1 : Nat → Int → Int) (a b c d e k : Int) : Prop :=
  V1 oc oz = V oc oz + k ∧ (∀ j, 0 ≤ j → j < k → V1 tc (V oc oz + j) = argF a b c d e j) ∧ ∀ q z, ¬ (q = oc ∧ z = oz) → ¬ (q = tc ∧ V oc oz ≤ z ∧ z < V oc oz + k) → V1 q z = V q z
theorem fedP_0 {tc oc : Nat} {oz : Int} {V : Nat → Int → Int} {a b c d e : Int} : fedP tc oc oz V V a b c d e 0 := ⟨by omega, fun j h1 h2 => by omega, fun _ _ _ _ => rfl⟩
theorem fedP_s {tc oc : Nat} {oz : Int} {V V1 : Nat → Int → Int} {a b c d e k x : Int} (hne : tc ≠ oc) (hk : 0 ≤ k) (h : fedP tc oc oz V V1 a b c d e k) (hx : x = argF a b c d e k) : fedP tc oc oz V (u2 (u2 V1 tc (V1 oc oz) x) oc oz (V1 oc oz + 1)) a b c d e (k + 1) := by
  obtain ⟨h1, h2, h3⟩ := h
  refine ⟨?_, fun j j0 j1 => ?_, fun q z q1 q2 => ?_⟩
  · rw [u2_at, if_pos ⟨rfl, rfl⟩]; omega
  · rw [u2_at, if_neg (fun q => hne q.1), u2_at]
    by_cases e1 : V oc oz + j = V1 oc oz
    · rw [if_pos ⟨rfl, e1⟩, hx]; congr 1; omega
    · rw [if_neg (fun q => e1 q.2)]; exact h2 j j0 (by omega)
  · rw [u2_at, if_neg q1, u2_at, if_neg (fun e1 => q2 ⟨e1.1, by omega, by omega⟩)]
    exact h3 q z q1 (fun e1 => q2 ⟨e1.1, by omega, by omega⟩)
/-- fours above f in the row c come one place nearer -/
def goneP (V V1 : Nat → Int → Int) (f m : Int) : Prop := V1 42 4 = m - 1 ∧ (∀ z, 0 ≤ z → z < 4 * (m - 1) → V1 43 z = if z < 4 * f then V 43 z else V 43 (z + 4)) ∧ ∀ q z, ¬ (q = 42 ∧ z = 4) → ¬ (q = 43) → V1 q z = V q z
theorem sm_st {f : Int → Int} {z w b : Int} (h : 0 ≤ z) (hw : w = sm f z) (hb : b = f z) : w + b = sm f (z + 1) := by rw [sm_s h, hw, hb]
theorem hurtM_t {V : Nat → Int → Int} {f x y s t w : Int} (h0 : 0 ≤ f) (hw : w = hurtS (FM V) f x y s t) (h1 : atF (V 43 (4 * f)) (V 43 (4 * f + 2)) (V 43 (4 * f + 3)) s) (h2 : inF (V 43 (4 * f)) (V 43 (4 * f + 1)) (V 43 (4 * f + 3)) (oX x y t) (oY x y t)) : max w (hurtK (V 43 (4 * f))) = hurtS (FM V) (f + 1) x y s t := by
  rw [hurtS_s h0, cif_t (hitM.mpr ⟨h1, h2⟩), hw, FM_0]
theorem hurtM_f {V : Nat → Int → Int} {f x y s t w : Int} (h0 : 0 ≤ f) (hw : w = hurtS (FM V) f x y s t) (h1 : ¬ (atF (V 43 (4 * f)) (V 43 (4 * f + 2)) (V 43 (4 * f + 3)) s ∧ inF (V 43 (4 * f)) (V 43 (4 * f + 1)) (V 43 (4 * f + 3)) (oX x y t) (oY x y t))) : w = hurtS (FM V) (f + 1) x y s t := by
  rw [hurtS_s h0, cif_f (fun q => h1 (hitM.mp q)), hw]
theorem ext_lt {P : Int → Prop} {k : Int} (h : ∀ i, 0 ≤ i → i < k → P i) (hk : P k) : ∀ i, 0 ≤ i → i < k + 1 → P i := fun i a b => by
  rcases (show i < k ∨ i = k by omega) with q | q
  · exact h i a q
  · rw [q]; exact hk
