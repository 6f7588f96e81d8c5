/-! the wood with a fault: the same by every turn -/
theorem psum_add {f g : Int → Int} : ∀ k : Nat, psum (fun i => f i + g i) k = psum f k + psum g k
  | 0 => rfl
  | k + 1 => by
    show psum (fun i => f i + g i) k + (f k + g k) = (psum f k + f k) + (psum g k + g k)
    rw [psum_add k]; omega
theorem psum_swap {F : Int → Int → Int} (a : Nat) : ∀ b : Nat, psum (fun y => psum (fun x => F x y) a) b = psum (fun x => psum (fun y => F x y) b) a
  | 0 => by
    show (0 : Int) = psum (fun x => 0) a
    induction a with
    | zero => rfl
    | succ a ih => show (0 : Int) = psum (fun x => 0) a + 0; omega
  | b + 1 => by
    show psum (fun y => psum (fun x => F x y) a) b + psum (fun x => F x b) a = psum (fun x => psum (fun y => F x y) b + F x b) a
    rw [psum_swap a b, psum_add]
theorem psum_rev {h : Int → Int} : psum (fun x => h (11 - x)) 12 = psum h 12 := by
  have e : ∀ f : Int → Int, psum f 12 = 0 + f 0 + f 1 + f 2 + f 3 + f 4 + f 5 + f 6 + f 7 + f 8 + f 9 + f 10 + f 11 := fun _ => rfl
  rw [e, e]
  show 0 + h 11 + h 10 + h 9 + h 8 + h 7 + h 6 + h 5 + h 4 + h 3 + h 2 + h 1 + h 0 = _
  omega
/-- the sum over the cells of a slice -/
def sq (F : Int → Int → Int) : Int := psum (fun y => psum (fun x => F x y) 12) 12
theorem sq_swap {F : Int → Int → Int} : sq (fun x y => F y x) = sq F := psum_swap (F := fun x y => F y x) 12 12
theorem sq_fx {F : Int → Int → Int} : sq (fun x y => F (11 - x) y) = sq F := by
  unfold sq
  refine congrArg (fun f => psum f 12) (funext fun y => ?_)
  exact psum_rev (h := fun x => F x y)
theorem sq_fy {F : Int → Int → Int} : sq (fun x y => F x (11 - y)) = sq F := psum_rev (h := fun y => psum (fun x => F x y) 12)
theorem sq_c {F F' : Int → Int → Int} (h : ∀ x y, 0 ≤ x → x < 12 → 0 ≤ y → y < 12 → F x y = F' x y) : sq F = sq F' := psum_c (k := 12) fun y a b => psum_c (k := 12) fun x c d => h x y c (by omega) a (by omega)
theorem sq_o {F : Int → Int → Int} {g : Int} (hg : 0 ≤ g ∧ g ≤ 3) : sq (fun x y => F (oX x y g) (oY x y g)) = sq F := by
  rcases (show g = 0 ∨ g = 1 ∨ g = 2 ∨ g = 3 by omega) with e | e | e | e <;> subst e
  · rfl
  · show sq (fun x y => F y (11 - x)) = sq F
    rw [sq_fx (F := fun x y => F y x)]; exact sq_swap
  · show sq (fun x y => F (11 - x) (11 - y)) = sq F
    rw [sq_fx (F := fun x y => F x (11 - y))]; exact sq_fy
  · show sq (fun x y => F (11 - y) x) = sq F
    rw [sq_swap (F := fun x y => F (11 - x) y)]; exact sq_fx
theorem psum_blk {h : Int → Int} (a : Nat) : ∀ k : Nat, psum h (a + k) = psum h a + psum (fun i => h (a + i)) k
  | 0 => by show psum h a = psum h a + 0; omega
  | k + 1 => by
    show psum h (a + k) + h ((a + k : Nat) : Int) = psum h a + (psum (fun i => h (a + i)) k + h ((a : Int) + (k : Int)))
    rw [psum_blk a k, Int.natCast_add]; omega
theorem psum_rows {f : Int → Int} {w : Nat} : ∀ j : Nat, psum f (w * j) = psum (fun y => psum (fun x => f (w * y + x)) w) j
  | 0 => rfl
  | j + 1 => by
    rw [Nat.mul_succ, psum_blk, psum_rows j]
    show _ = psum (fun y => psum (fun x => f (w * y + x)) w) j + psum (fun x => f (w * (j : Int) + x)) w
    rw [Int.natCast_mul]
theorem cells_sm {h : Int → Int} {F : Int → Int → Int → Int} {L : Int} (hL : 0 ≤ L) (e : ∀ s x y : Int, 0 ≤ s → s < L → 0 ≤ x → x < 12 → 0 ≤ y → y < 12 → h (144 * s + (12 * y + x)) = F s x y) : sm h (144 * L) = psum (fun s => sq (F s)) L.toNat := by
  unfold sm
  rw [show (144 * L).toNat = 144 * L.toNat by omega, psum_rows (w := 144)]
  refine psum_c fun s a b => ?_
  have e1 := psum_rows (f := fun q => h (((144 : Nat) : Int) * s + q)) (w := 12) 12
  have e2 : psum (fun q => h (((144 : Nat) : Int) * s + q)) 144 = psum (fun q => h (((144 : Nat) : Int) * s + q)) (12 * 12) := rfl
  rw [e2, e1]
  exact sq_c fun x y c d c' d' => e s x y a (by omega) c d c' d'
theorem wood_o {r t x y s g : Int} : woodP r t (oX x y g) (oY x y g) s ↔ woodP r t x y s := by
  have n : ∀ q : Int, (2 * (11 - q) - 11) * (2 * (11 - q) - 11) = (2 * q - 11) * (2 * q - 11) := fun q => by
    rw [show 2 * (11 - q) - 11 = -(2 * q - 11) by omega, Int.neg_mul_neg]
  unfold woodP oX oY
  split
  · exact Iff.rfl
  · split
    · rw [n, Int.add_comm]
    · split
      · rw [n, n]
      · rw [n, Int.add_comm]
theorem hurt_o {f : Int → Int → Int} {m x y s g : Int} : hurtS f m x y s g = hurtS f m (oX x y g) (oY x y g) s 0 := by
  unfold hurtS
  induction m.toNat with
  | zero => rfl
  | succ k ih =>
    show cif (hitF f k (oX x y g) (oY x y g) s) (max (hurtN f x y s g k) (hurtK (f k 0))) (hurtN f x y s g k) = cif (hitF f k (oX x y g) (oY x y g) s) (max (hurtN f (oX x y g) (oY x y g) s 0 k) (hurtK (f k 0))) (hurtN f (oX x y g) (oY x y g) s 0 k)
    rw [ih]
theorem hurtT_W {lr lt L : Int} {f : Int → Int → Int} {m g : Int} (hL : 0 ≤ L) (hg : 0 ≤ g ∧ g ≤ 3) : hurtT lr lt L f m g = hurtW lr lt L f m := by
  have d : ∀ s x y : Int, 0 ≤ x → x < 12 → 0 ≤ y → y < 12 → (144 * s + (12 * y + x)) % 12 = x ∧ (144 * s + (12 * y + x)) / 12 % 12 = y ∧ (144 * s + (12 * y + x)) / 144 = s := fun s x y a b c e => by omega
  have e1 := cells_sm (h := gH lr lt f m g) (F := fun s x y => bI (woodP lr lt (oX x y g) (oY x y g) s ∧ 0 < hurtS f m (oX x y g) (oY x y g) s 0)) hL (fun s x y a b c e c' e' => by
    obtain ⟨d1, d2, d3⟩ := d s x y c e c' e'
    unfold gH
    rw [d1, d2, d3, ← hurt_o]
    exact bI_c ⟨fun q => ⟨wood_o.mpr q.1, q.2⟩, fun q => ⟨wood_o.mp q.1, q.2⟩⟩)
  have e2 := cells_sm (h := fun c => bI (woodP lr lt (c % 12) (c / 12 % 12) (c / 144) ∧ 0 < hurtS f m (c % 12) (c / 12 % 12) (c / 144) 0)) (F := fun s x y => bI (woodP lr lt x y s ∧ 0 < hurtS f m x y s 0)) hL (fun s x y a b c e c' e' => by
    obtain ⟨d1, d2, d3⟩ := d s x y c e c' e'
    show bI (woodP lr lt ((144 * s + (12 * y + x)) % 12) ((144 * s + (12 * y + x)) / 12 % 12) ((144 * s + (12 * y + x)) / 144) ∧ _) = _
    rw [d1, d2, d3])
  unfold hurtT hurtW
  rw [e1, e2]
  refine psum_c fun s _ _ => ?_
  exact sq_o (F := fun x y => bI (woodP lr lt x y s ∧ 0 < hurtS f m x y s 0)) hg
