/-! a count of the places below n -/
noncomputable def ct (P : Nat → Prop) : Nat → Nat
  | 0 => 0
  | n + 1 => ct P n + cif (P n) 1 0
theorem cifN_t {p : Prop} (h : p) : (cif p 1 0 : Nat) = 1 := by unfold cif; exact if_pos h
theorem cifN_f {p : Prop} (h : ¬ p) : (cif p 1 0 : Nat) = 0 := by unfold cif; exact if_neg h
theorem ct_mono {P Q : Nat → Prop} : ∀ n, (∀ i, i < n → P i → Q i) → ct P n ≤ ct Q n
  | 0, _ => Nat.le_refl _
  | n + 1, h => by
    have ih := ct_mono n (fun i a => h i (by omega))
    show ct P n + cif (P n) 1 0 ≤ ct Q n + cif (Q n) 1 0
    by_cases p : P n
    · rw [cifN_t p, cifN_t (h n (by omega) p)]; omega
    · rw [cifN_f p]; omega
theorem ct_or {P Q : Nat → Prop} : ∀ n, ct (fun i => P i ∨ Q i) n ≤ ct P n + ct Q n
  | 0 => Nat.le_refl _
  | n + 1 => by
    have ih := ct_or (P := P) (Q := Q) n
    show ct _ n + cif (P n ∨ Q n) 1 0 ≤ (ct P n + cif (P n) 1 0) + (ct Q n + cif (Q n) 1 0)
    by_cases p : P n
    · rw [cifN_t p, cifN_t (Or.inl p : P n ∨ Q n)]; omega
    · by_cases q : Q n
      · rw [cifN_t q, cifN_t (Or.inr q : P n ∨ Q n)]; omega
      · rw [cifN_f (fun h => h.elim p q : ¬ (P n ∨ Q n))]; omega
theorem ct_dis {P Q : Nat → Prop} : ∀ n, (∀ i, i < n → P i → ¬ Q i) → ct (fun i => P i ∨ Q i) n = ct P n + ct Q n
  | 0, _ => rfl
  | n + 1, h => by
    have ih := ct_dis (P := P) (Q := Q) n (fun i a => h i (by omega))
    show ct _ n + cif (P n ∨ Q n) 1 0 = (ct P n + cif (P n) 1 0) + (ct Q n + cif (Q n) 1 0)
    by_cases p : P n
    · rw [cifN_t p, cifN_t (Or.inl p : P n ∨ Q n), cifN_f (h n (by omega) p), ih]; omega
    · by_cases q : Q n
      · rw [cifN_t q, cifN_t (Or.inr q : P n ∨ Q n), cifN_f p, ih]; omega
      · rw [cifN_f (fun h => h.elim p q : ¬ (P n ∨ Q n)), cifN_f p, cifN_f q, ih]; rfl
theorem ct_0 {P : Nat → Prop} : ∀ n, (∀ i, i < n → ¬ P i) → ct P n = 0
  | 0, _ => rfl
  | n + 1, h => by
    show ct P n + cif (P n) 1 0 = 0
    rw [ct_0 n (fun i a => h i (by omega)), cifN_f (h n (by omega))]
theorem ct_ex {P : Nat → Prop} {n : Nat} (h : 0 < ct P n) : ∃ i, i < n ∧ P i := by
  by_cases q : ∃ i, i < n ∧ P i
  · exact q
  · rw [ct_0 n (fun i a p => q ⟨i, a, p⟩)] at h; omega
theorem ct_1 (a : Nat) : ∀ n, ct (fun i => i = a) n = if a < n then 1 else 0
  | 0 => by rw [if_neg (by omega)]; rfl
  | n + 1 => by
    show ct _ n + cif (n = a) 1 0 = _
    rw [ct_1 a n]
    by_cases e : n = a
    · rw [cifN_t e, if_neg (by omega), if_pos (by omega)]
    · rw [cifN_f e]
      by_cases w : a < n
      · rw [if_pos w, if_pos (by omega)]
      · rw [if_neg w, if_neg (by omega)]
