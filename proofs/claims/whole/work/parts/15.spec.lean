/-! THE MEANING: whole numbers alone, no machine -/
noncomputable def cif {α : Type} (p : Prop) (a b : α) : α := @ite α p (Classical.propDecidable p) a b
theorem cif_t {α : Type} {p : Prop} {a b : α} (h : p) : cif p a b = a := by unfold cif; exact if_pos h
theorem cif_f {α : Type} {p : Prop} {a b : α} (h : ¬ p) : cif p a b = b := by unfold cif; exact if_neg h
theorem cif_c {α : Type} {p q : Prop} {a b : α} (h : p ↔ q) : cif p a b = cif q a b := by rw [propext h]
theorem mul_bd {a b A B : Int} (ha : 0 ≤ a ∧ a ≤ A) (hb : 0 ≤ b ∧ b ≤ B) : 0 ≤ a * b ∧ a * b ≤ A * B :=
  ⟨Int.mul_nonneg ha.1 hb.1, Int.mul_le_mul ha.2 hb.2 hb.1 (Int.le_trans ha.1 ha.2)⟩
theorem sq_bd {a A : Int} (h : -A ≤ a ∧ a ≤ A) : 0 ≤ a * a ∧ a * a ≤ A * A := by
  rcases Int.le_total 0 a with q | q
  · exact ⟨Int.mul_nonneg q q, Int.mul_le_mul h.2 h.2 q (by omega)⟩
  · have e : a * a = (-a) * (-a) := by rw [Int.neg_mul_neg]
    rw [e]
    exact ⟨Int.mul_nonneg (by omega) (by omega), Int.mul_le_mul (by omega) (by omega) (by omega) (by omega)⟩
/-- f 0 + .. + f (z - 1) -/
def psum (f : Int → Int) : Nat → Int
  | 0 => 0
  | k + 1 => psum f k + f k
def sm (f : Int → Int) (z : Int) : Int := psum f z.toNat
theorem sm_0 (f : Int → Int) : sm f 0 = 0 := rfl
theorem sm_s {f : Int → Int} {z : Int} (h : 0 ≤ z) : sm f (z + 1) = sm f z + f z := by
  unfold sm
  have e : (z + 1).toNat = z.toNat + 1 := by omega
  rw [e]
  show psum f z.toNat + f (z.toNat : Int) = _
  rw [Int.toNat_of_nonneg h]
theorem psum_c {f g : Int → Int} : ∀ {k : Nat}, (∀ i : Int, 0 ≤ i → i < k → f i = g i) → psum f k = psum g k
  | 0, _ => rfl
  | k + 1, h => by
    show psum f k + f k = psum g k + g k
    rw [psum_c (fun i h1 h2 => h i h1 (by omega)), h k (by omega) (by omega)]
theorem sm_c {f g : Int → Int} {z : Int} (h : ∀ i : Int, 0 ≤ i → i < z → f i = g i) : sm f z = sm g z := psum_c (fun i h1 h2 => h i h1 (by omega))
theorem psum_b {f : Int → Int} {A : Int} : ∀ {k : Nat}, (∀ i : Int, 0 ≤ i → i < k → 0 ≤ f i ∧ f i ≤ A) → 0 ≤ psum f k ∧ psum f k ≤ A * k
  | 0, _ => ⟨Int.le_refl _, by show (0 : Int) ≤ A * 0; omega⟩
  | k + 1, h => by
    have h1 := psum_b (k := k) (fun i h1 h2 => h i h1 (by omega))
    have h2 := h k (by omega) (by omega)
    show 0 ≤ psum f k + f k ∧ psum f k + f k ≤ A * ((k + 1 : Nat) : Int)
    have e : A * ((k + 1 : Nat) : Int) = A * k + A := by rw [Int.natCast_add, Int.mul_add]; omega
    rw [e]
    omega
theorem sm_b {f : Int → Int} {A z : Int} (hz : 0 ≤ z) (h : ∀ i : Int, 0 ≤ i → i < z → 0 ≤ f i ∧ f i ≤ A) : 0 ≤ sm f z ∧ sm f z ≤ A * z := by
  have := psum_b (f := f) (A := A) (k := z.toNat) (fun i h1 h2 => h i h1 (by omega))
  rw [Int.toNat_of_nonneg hz] at this
  exact this
theorem bI_b (p : Prop) : 0 ≤ bI p ∧ bI p ≤ 1 := by rcases bI_01 p with h | h <;> omega
/-- wood -/
def woodP (r t x y s : Int) : Prop := (2 * x - 11) * (2 * x - 11) + (2 * y - 11) * (2 * y - 11) ≤ (2 * max 1 (r - t * s / 4)) * (2 * max 1 (r - t * s / 4))
noncomputable def nWood (r t L : Int) : Int := sm (fun c => bI (woodP r t (c % 12) (c / 12 % 12) (c / 144))) (144 * L)
/-- a fault in a cell, as the log grew -/
def inF (k a z x y : Int) : Prop :=
  (k = 0 ∧ 0 < tat tAU a * (2 * x - 11) + tat tAV a * (2 * y - 11) ∧ (tat tAU a * (2 * y - 11) - tat tAV a * (2 * x - 11)).natAbs ≤ z) ∨
  ((k = 1 ∨ k = 2) ∧ 0 < tat tAU a * (2 * x - 11) + tat tAV a * (2 * y - 11) ∧ (tat tAU a * (2 * y - 11) - tat tAV a * (2 * x - 11)).natAbs ≤ z + 2) ∨
  (k = 3 ∧ (tat tAU a * (2 * y - 11) - tat tAV a * (2 * x - 11)).natAbs ≤ (1 : Int)) ∨
  (k = 4 ∧ (2 * z - 1) * (2 * z - 1) ≤ (2 * x - 11) * (2 * x - 11) + (2 * y - 11) * (2 * y - 11) ∧ (2 * x - 11) * (2 * x - 11) + (2 * y - 11) * (2 * y - 11) ≤ (2 * z + 1) * (2 * z + 1)) ∨
  (k = 5 ∧ (2 * x - 11) * (2 * x - 11) + (2 * y - 11) * (2 * y - 11) ≤ 4 * z * z) ∨
  (k = 6 ∧ (2 * x - 11) * (2 * x - 11) + (2 * y - 11) * (2 * y - 11) ≤ 4 * z * z ∧ 0 < tat tAU a * (2 * x - 11) + tat tAV a * (2 * y - 11))
/-- how many slices it lasts (of a log of any length) -/
def lastF (k z : Int) : Int := if k = 0 ∨ k = 1 then z else if k = 2 then 2 * z else if k = 3 ∨ k = 4 then z + 2 else 8
def hurtK (k : Int) : Int := if k = 1 ∨ k = 2 then 2 else if k = 3 then 3 else if k = 4 then 4 else if k = 5 then 9 else 1
def atF (k sl z s : Int) : Prop := sl ≤ s ∧ s < sl + lastF k z
def oX (x y t : Int) : Int := if t = 0 then x else if t = 1 then y else if t = 2 then 11 - x else 11 - y
def oY (x y t : Int) : Int := if t = 0 then y else if t = 1 then 11 - x else if t = 2 then 11 - y else x
theorem hurtK_b (k : Int) : 1 ≤ hurtK k ∧ hurtK k ≤ 9 := by unfold hurtK; repeat' split <;> omega
theorem lastF_b {k z : Int} (h : 1 ≤ z ∧ z ≤ 4) : 1 ≤ lastF k z ∧ lastF k z ≤ 8 := by unfold lastF; repeat' split <;> omega
theorem o_b {x y t : Int} (hx : 0 ≤ x ∧ x ≤ 11) (hy : 0 ≤ y ∧ y ≤ 11) : (0 ≤ oX x y t ∧ oX x y t ≤ 11) ∧ (0 ≤ oY x y t ∧ oY x y t ≤ 11) := by unfold oX oY; repeat' split <;> omega
theorem tat_b (a : Int) : (-1 ≤ tat tAU a ∧ tat tAU a ≤ 1) ∧ (-1 ≤ tat tAV a ∧ tat tAV a ≤ 1) := by
  by_cases h : a.toNat < 8
  · have : ∀ i, i < 8 → ((-1 : Int) ≤ tAU.getD i 0 ∧ tAU.getD i 0 ≤ 1) ∧ ((-1 : Int) ≤ tAV.getD i 0 ∧ tAV.getD i 0 ≤ 1) := by decide
    exact this _ h
  · have e1 : tat tAU a = 0 := by unfold tat; rw [List.getD_eq_getElem?_getD, List.getElem?_eq_none (by show 8 ≤ a.toNat; omega)]; rfl
    have e2 : tat tAV a = 0 := by unfold tat; rw [List.getD_eq_getElem?_getD, List.getElem?_eq_none (by show 8 ≤ a.toNat; omega)]; rfl
    rw [e1, e2]; decide
/-- a fault (kind, angle, slice, size by f i 0 .. 3) that can be -/
def okF (f : Int → Int → Int) (i : Int) : Prop := (0 ≤ f i 0 ∧ f i 0 ≤ 6) ∧ (0 ≤ f i 1 ∧ f i 1 ≤ 7) ∧ (0 ≤ f i 2 ∧ f i 2 ≤ 7) ∧ (1 ≤ f i 3 ∧ f i 3 ≤ 4)
def hitF (f : Int → Int → Int) (i x y s : Int) : Prop := atF (f i 0) (f i 2) (f i 3) s ∧ inF (f i 0) (f i 1) (f i 3) x y
/-- the hurt of a cell (x, y as the log lies by turn t) by the first k faults -/
noncomputable def hurtN (f : Int → Int → Int) (x y s t : Int) : Nat → Int
  | 0 => 0
  | k + 1 => cif (hitF f k (oX x y t) (oY x y t) s) (max (hurtN f x y s t k) (hurtK (f k 0))) (hurtN f x y s t k)
noncomputable def hurtS (f : Int → Int → Int) (m x y s t : Int) : Int := hurtN f x y s t m.toNat
theorem hurtS_s {f : Int → Int → Int} {m x y s t : Int} (h : 0 ≤ m) : hurtS f (m + 1) x y s t = cif (hitF f m (oX x y t) (oY x y t) s) (max (hurtS f m x y s t) (hurtK (f m 0))) (hurtS f m x y s t) := by
  unfold hurtS
  have e : (m + 1).toNat = m.toNat + 1 := by omega
  rw [e]
  show cif (hitF f (m.toNat : Int) _ _ s) _ _ = _
  rw [Int.toNat_of_nonneg h]
theorem hurtN_b (f : Int → Int → Int) (x y s t : Int) : ∀ k : Nat, 0 ≤ hurtN f x y s t k ∧ hurtN f x y s t k ≤ 9
  | 0 => ⟨Int.le_refl _, by show (0 : Int) ≤ 9; decide⟩
  | k + 1 => by
    have h1 := hurtN_b f x y s t k
    have h2 := hurtK_b (f k 0)
    show 0 ≤ cif _ _ _ ∧ cif _ _ _ ≤ 9
    by_cases h : hitF f k (oX x y t) (oY x y t) s
    · rw [cif_t h]; omega
    · rw [cif_f h]; omega
theorem hurtS_b (f : Int → Int → Int) (m x y s t : Int) : 0 ≤ hurtS f m x y s t ∧ hurtS f m x y s t ≤ 9 := hurtN_b f x y s t _
