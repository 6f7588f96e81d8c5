theorem sm_sub {f g : Int → Int} : ∀ z : Nat, sm (fun i => f i - g i) z = sm f z - sm g z
  | 0 => rfl
  | k + 1 => by
    have h := sm_sub (f := f) (g := g) k
    rw [show ((k + 1 : Nat) : Int) = (k : Int) + 1 by omega, sm_s (by omega), sm_s (by omega), sm_s (by omega), h]
    omega
theorem sm_subI {f g : Int → Int} {z : Int} (h : 0 ≤ z) : sm (fun i => f i - g i) z = sm f z - sm g z := by
  have := sm_sub (f := f) (g := g) z.toNat
  rw [Int.toNat_of_nonneg h] at this
  exact this
/-- four look-ups -/
def sumQ (c : Int → Int) (y a b s t : Int) : Int := c (y * 117 + (t + 1) * 13 + b + 1) - c (y * 117 + (t + 1) * 13 + a) - c (y * 117 + s * 13 + b + 1) + c (y * 117 + s * 13 + a)
def SwSum (V : Nat → Int → Int) (sv : Nat) (h : Int → Int → Int → Int) (L : Int) : Prop := ∀ {y s x : Int}, 0 ≤ y → y < 12 → 0 ≤ s → s ≤ L → 0 ≤ x → x ≤ 12 → V (sv + 4) (y * 117 + s * 13 + x) = sm (fun i => sm (h i y) x) s ∧ V (sv + 5) (y * 117 + s * 13 + x) = sm (fun i => sm (fun c => bI (h i y c = 9)) x) s
theorem sumQ_face {V : Nat → Int → Int} {sv : Nat} {f : Int → Int → Int} {m g L y a b s t : Int} (h : SwSum V sv (fun i y c => hurtS f m c y i g) L) (h1 : 0 ≤ y) (h2 : y < 12) (h3 : 0 ≤ a) (h4 : a ≤ 12) (h5 : -1 ≤ b ∧ b ≤ 11) (h6 : 0 ≤ s) (h7 : s ≤ t + 1) (h8 : t < L) : sumQ (V (sv + 4)) y a b s t = faceH f m g y a b s t ∧ sumQ (V (sv + 5)) y a b s t = face9 f m g y a b s t := by
  have e1 := h (y := y) (s := t + 1) (x := b + 1) h1 h2 (by omega) (by omega) (by omega) (by omega)
  have e2 := h (y := y) (s := t + 1) (x := a) h1 h2 (by omega) (by omega) h3 h4
  have e3 := h (y := y) (s := s) (x := b + 1) h1 h2 h6 (by omega) (by omega) (by omega)
  have e4 := h (y := y) (s := s) (x := a) h1 h2 h6 (by omega) h3 h4
  rw [show y * 117 + (t + 1) * 13 + (b + 1) = y * 117 + (t + 1) * 13 + b + 1 by omega] at e1
  rw [show y * 117 + s * 13 + (b + 1) = y * 117 + s * 13 + b + 1 by omega] at e3
  unfold sumQ faceH face9
  rw [sm_subI (by omega), sm_subI (by omega), sm_subI (by omega), sm_subI (by omega), e1.1, e1.2, e2.1, e2.2, e3.1, e3.2, e4.1, e4.2]
  unfold rowH row9
  dsimp only
  exact ⟨by omega, by omega⟩
/-- a saw that is laid: what it holds of a log (lr, lt, L), its faults f (m of them), turn g, rules pr -/
def SwOk (V : Nat → Int → Int) (sv : Nat) (lr lt L : Int) (f : Int → Int → Int) (m g : Int) (pr : Int → Int) : Prop :=
  (V sv 3 = L) ∧ (1 ≤ L ∧ L ≤ 8) ∧ (∀ z, 2 ≤ z → z ≤ 5 → (0 ≤ pr z ∧ pr z ≤ 99) ∧ pr z ≤ V sv 4) ∧ (0 ≤ V sv 4 ∧ V sv 4 ≤ 99) ∧ (∀ z, 0 ≤ z → z < 7 → V (sv + 1) z = pr z) ∧ (∀ {s y : Int}, 0 ≤ s → s < L → 0 ≤ y → y < 12 → V (sv + 2) (s * 12 + y) = fwS lr lt y s) ∧ (∀ {s y x : Int}, 0 ≤ s → s < L → 0 ≤ y → y < 12 → 0 ≤ x → x < 12 → V (sv + 3) (s * 144 + y * 12 + x) = hurtS f m x y s g) ∧ (SwSum V sv (fun i y c => hurtS f m c y i g) L)
theorem SwOk.l {V : Nat → Int → Int} {sv : Nat} {lr lt L : Int} {f : Int → Int → Int} {m g : Int} {pr : Int → Int} (ok : SwOk V sv lr lt L f m g pr) : V sv 3 = L := ok.1
theorem SwOk.L {V : Nat → Int → Int} {sv : Nat} {lr lt L : Int} {f : Int → Int → Int} {m g : Int} {pr : Int → Int} (ok : SwOk V sv lr lt L f m g pr) : 1 ≤ L ∧ L ≤ 8 := ok.2.1
theorem SwOk.p {V : Nat → Int → Int} {sv : Nat} {lr lt L : Int} {f : Int → Int → Int} {m g : Int} {pr : Int → Int} (ok : SwOk V sv lr lt L f m g pr) : ∀ z, 2 ≤ z → z ≤ 5 → (0 ≤ pr z ∧ pr z ≤ 99) ∧ pr z ≤ V sv 4 := ok.2.2.1
theorem SwOk.q {V : Nat → Int → Int} {sv : Nat} {lr lt L : Int} {f : Int → Int → Int} {m g : Int} {pr : Int → Int} (ok : SwOk V sv lr lt L f m g pr) : 0 ≤ V sv 4 ∧ V sv 4 ≤ 99 := ok.2.2.2.1
theorem SwOk.r {V : Nat → Int → Int} {sv : Nat} {lr lt L : Int} {f : Int → Int → Int} {m g : Int} {pr : Int → Int} (ok : SwOk V sv lr lt L f m g pr) : ∀ z, 0 ≤ z → z < 7 → V (sv + 1) z = pr z := ok.2.2.2.2.1
theorem SwOk.w {V : Nat → Int → Int} {sv : Nat} {lr lt L : Int} {f : Int → Int → Int} {m g : Int} {pr : Int → Int} (ok : SwOk V sv lr lt L f m g pr) : ∀ {s y : Int}, 0 ≤ s → s < L → 0 ≤ y → y < 12 → V (sv + 2) (s * 12 + y) = fwS lr lt y s := ok.2.2.2.2.2.1
theorem SwOk.h {V : Nat → Int → Int} {sv : Nat} {lr lt L : Int} {f : Int → Int → Int} {m g : Int} {pr : Int → Int} (ok : SwOk V sv lr lt L f m g pr) : ∀ {s y x : Int}, 0 ≤ s → s < L → 0 ≤ y → y < 12 → 0 ≤ x → x < 12 → V (sv + 3) (s * 144 + y * 12 + x) = hurtS f m x y s g := ok.2.2.2.2.2.2.1
theorem SwOk.s {V : Nat → Int → Int} {sv : Nat} {lr lt L : Int} {f : Int → Int → Int} {m g : Int} {pr : Int → Int} (ok : SwOk V sv lr lt L f m g pr) : SwSum V sv (fun i y c => hurtS f m c y i g) L := ok.2.2.2.2.2.2.2
theorem fw_mono {r t y y' s : Int} (h : (2 * y' - 11) * (2 * y' - 11) ≤ (2 * y - 11) * (2 * y - 11)) : fwS r t y' s ≤ fwS r t y s := by
  have h1 := fwS_sp r t y' s
  have h2 := fwS_sp r t y s
  refine Classical.byContradiction fun c => ?_
  have h3 := h2.2.2 (by omega)
  have h4 := h1.2.1 _ h2.1.1 (by omega)
  refine h4 ?_
  unfold woodP at h3 ⊢
  omega
theorem sqv (j : Int) (h : 0 ≤ j ∧ j ≤ 11) : (2 * j - 11) * (2 * j - 11) = if j = 0 ∨ j = 11 then 121 else if j = 1 ∨ j = 10 then 81 else if j = 2 ∨ j = 9 then 49 else if j = 3 ∨ j = 8 then 25 else if j = 4 ∨ j = 7 then 9 else 1 := by
  rcases (show j = 0 ∨ j = 1 ∨ j = 2 ∨ j = 3 ∨ j = 4 ∨ j = 5 ∨ j = 6 ∨ j = 7 ∨ j = 8 ∨ j = 9 ∨ j = 10 ∨ j = 11 by omega) with e | e | e | e | e | e | e | e | e | e | e | e <;> subst e <;> decide
theorem fw_btw {r t y k s j : Int} (hy : 0 ≤ y ∧ y + k ≤ 12) (h1 : y ≤ j) (h2 : j ≤ y + k - 1) : fwS r t j s ≤ max (fwS r t y s) (fwS r t (y + k - 1) s) := by
  have e1 := sqv j (by omega)
  have e2 := sqv y (by omega)
  have e3 := sqv (y + k - 1) (by omega)
  by_cases c : (2 * j - 11) * (2 * j - 11) ≤ (2 * y - 11) * (2 * y - 11)
  · have := fw_mono (r := r) (t := t) (s := s) c; omega
  · have := fw_mono (r := r) (t := t) (s := s) (y' := j) (y := y + k - 1) (by (repeat' split at e1) <;> (repeat' split at e2) <;> (repeat' split at e3) <;> omega)
    omega
theorem fc2 {r t y k s A B : Int} (hA : A = fwS r t y s) (hB : B = fwS r t (y + k - 1) s) (hy : 0 ≤ y ∧ y + k ≤ 12) (hk : 1 ≤ k ∧ k ≤ 4) : max A B = fcS r t y k s := by
  have c0 := (fwS_sp r t y s).1
  have b1 := fw_btw (r := r) (t := t) (s := s) (j := y + 1) hy (by omega)
  have b2 := fw_btw (r := r) (t := t) (s := s) (j := y + 2) hy (by omega)
  have z0 : fcS r t y 0 s = 0 := rfl
  have s1 := fcS_s (r := r) (t := t) (y := y) (s := s) (k := 0) (by omega)
  have s2 := fcS_s (r := r) (t := t) (y := y) (s := s) (k := 1) (by omega)
  have s3 := fcS_s (r := r) (t := t) (y := y) (s := s) (k := 2) (by omega)
  have s4 := fcS_s (r := r) (t := t) (y := y) (s := s) (k := 3) (by omega)
  rw [show (0 : Int) + 1 = 1 by rfl, Int.add_zero, z0] at s1
  rw [show (1 : Int) + 1 = 2 by rfl] at s2
  rw [show (2 : Int) + 1 = 3 by rfl] at s3
  rw [show (3 : Int) + 1 = 4 by rfl] at s4
  subst hA hB
  rcases (show k = 1 ∨ k = 2 ∨ k = 3 ∨ k = 4 by omega) with e | e | e | e <;> subst e
  · rw [s1, show y + 1 - 1 = y by omega]; omega
  · rw [s2, s1, show y + 2 - 1 = y + 1 by omega]; omega
  · rw [show y + 3 - 1 = y + 2 by omega] at *
    have := b1 (by omega)
    rw [s3, s2, s1]; omega
  · rw [show y + 4 - 1 = y + 3 by omega] at *
    have := b1 (by omega)
    have := b2 (by omega)
    rw [s4, s3, s2, s1]; omega

