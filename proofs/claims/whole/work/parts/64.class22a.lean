theorem gcd_u {h k d : Int} (hh : 0 ≤ h ∧ h ≤ k) (hk : 1 ≤ k ∧ k ≤ 8) (hd : 1 ≤ d ∧ d ≤ k) (hn : ∀ e, d < e → e ≤ k → ¬ (h % e = 0 ∧ k % e = 0)) (h1 : h % d = 0) (h2 : k % d = 0) : d = (Nat.gcd h.toNat k.toNat : Int) := by
  obtain ⟨a, rfl⟩ : ∃ a : Nat, h = a := ⟨h.toNat, by omega⟩
  obtain ⟨b, rfl⟩ : ∃ b : Nat, k = b := ⟨k.toNat, by omega⟩
  obtain ⟨c, rfl⟩ : ∃ c : Nat, d = c := ⟨d.toNat, by omega⟩
  rw [Int.toNat_natCast, Int.toNat_natCast]
  have e1 : c ∣ a := Nat.dvd_of_mod_eq_zero (by omega)
  have e2 : c ∣ b := Nat.dvd_of_mod_eq_zero (by omega)
  have e3 : c ∣ Nat.gcd a b := Nat.dvd_gcd e1 e2
  have e4 : Nat.gcd a b ∣ a := Nat.gcd_dvd_left a b
  have e5 : Nat.gcd a b ∣ b := Nat.gcd_dvd_right a b
  have e6 : Nat.gcd a b ≤ b := Nat.le_of_dvd (by omega) e5
  have e7 : 0 < Nat.gcd a b := Nat.pos_of_ne_zero (fun z => by have := (Nat.gcd_eq_zero_iff.mp z).2; omega)
  have e8 : c ≤ Nat.gcd a b := Nat.le_of_dvd e7 e3
  have e9 : ¬ c < Nat.gcd a b := fun q => by
    refine hn (Nat.gcd a b) (by omega) (by omega) ⟨?_, ?_⟩
    · have := Nat.mod_eq_zero_of_dvd e4; omega
    · have := Nat.mod_eq_zero_of_dvd e5; omega
  omega
theorem gcd_pos {h k : Int} (hk : 1 ≤ k ∧ k ≤ 8) : 0 < (Nat.gcd h.toNat k.toNat : Int) ∧ (Nat.gcd h.toNat k.toNat : Int) ≤ 8 := by
  have e5 : Nat.gcd h.toNat k.toNat ∣ k.toNat := Nat.gcd_dvd_right _ _
  have e6 : Nat.gcd h.toNat k.toNat ≤ k.toNat := Nat.le_of_dvd (by omega) e5
  have e7 : 0 < Nat.gcd h.toNat k.toNat := Nat.pos_of_ne_zero (fun z => by have := (Nat.gcd_eq_zero_iff.mp z).2; omega)
  omega

