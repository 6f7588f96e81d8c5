/-! the orders met: the class's greed is the model's -/
theorem om_gs {M : Int → Int} {n m : Nat} {mt : Int → Int → Prop} (hM : MaskP M n m mt) (hn : n ≤ 16) (hm : m ≤ 6) : ∀ k : Nat, k ≤ m → omN M (zShl 1 n - 1) k = gsN (fun s => CanP n m (fun _ => True) mt (inS s)) k ∧ (0 ≤ omN M (zShl 1 n - 1) k ∧ omN M (zShl 1 n - 1) k ≤ 63) ∧ ∀ o : Nat, k ≤ o → o < 32 → ¬ inS (omN M (zShl 1 n - 1) k) (o : Int)
  | 0, _ => ⟨rfl, ⟨Int.le_refl _, by show (0 : Int) ≤ 63; decide⟩, fun o _ b => inS_0 ⟨by omega, by omega⟩⟩
  | k + 1, hk => by
    obtain ⟨i1, i2, i3⟩ := om_gs hM hn hm k (by omega)
    have b63 := zOr_63 i2 (k := (k : Int)) ⟨by omega, by omega⟩
    have hb : ∀ o : Nat, k + 1 ≤ o → o < 32 → ¬ inS (zOr (omN M (zShl 1 n - 1) k) (zShl 1 (k : Int))) (o : Int) := fun o a b c => by
      rw [inS_or ⟨by omega, by omega⟩, inS_shl ⟨by omega, by omega⟩ ⟨by omega, by omega⟩] at c
      rcases c with c | c
      · exact i3 o (by omega) b c
      · omega
    have eq : HallQ M (zOr (omN M (zShl 1 n - 1) k) (zShl 1 (k : Int))) (zShl 1 n - 1) ↔ CanP n m (fun _ => True) mt (inS (zOr (omN M (zShl 1 n - 1) k) (zShl 1 (k : Int)))) :=
      (hallQ_iff hM hn hm b63 (fun o a b => hb o (by omega) b)).trans ⟨fun h => h.c (fun _ _ _ _ => trivial) (fun _ _ q => q) (fun _ _ _ q => q), fun h => h.c (fun b b1 b2 _ => (inS_ones ⟨by omega, by omega⟩ ⟨b1, by omega⟩).mpr b2) (fun _ _ q => q) (fun _ _ _ q => q)⟩
    have e : omN M (zShl 1 n - 1) (k + 1) = cif (HallQ M (zOr (omN M (zShl 1 n - 1) k) (zShl 1 (k : Int))) (zShl 1 n - 1)) (zOr (omN M (zShl 1 n - 1) k) (zShl 1 (k : Int))) (omN M (zShl 1 n - 1) k) := rfl
    have e' : gsN (fun s => CanP n m (fun _ => True) mt (inS s)) (k + 1) = zOr (gsN (fun s => CanP n m (fun _ => True) mt (inS s)) k) (cif (CanP n m (fun _ => True) mt (inS (zOr (gsN (fun s => CanP n m (fun _ => True) mt (inS s)) k) (zShl 1 (k : Int))))) (zShl 1 (k : Int)) 0) := rfl
    rw [e, e', ← i1]
    by_cases h : HallQ M (zOr (omN M (zShl 1 n - 1) k) (zShl 1 (k : Int))) (zShl 1 n - 1)
    · rw [cif_t h, cif_t (eq.mp h)]
      exact ⟨rfl, b63, hb⟩
    · rw [cif_f h, cif_f (fun q => h (eq.mpr q)), zOr_0 ⟨by omega, by omega⟩]
      exact ⟨rfl, i2, fun o a b => i3 o (by omega) b⟩
theorem omS_gs {M : Int → Int} {N Mo : Int} {mt : Int → Int → Prop} (hM : MaskP M N Mo mt) (hN : 0 ≤ N ∧ N ≤ 16) (hMo : 0 ≤ Mo ∧ Mo ≤ 6) : omS M (zShl 1 N - 1) Mo = gsS (fun s => CanP N Mo (fun _ => True) mt (inS s)) Mo ∧ (0 ≤ omS M (zShl 1 N - 1) Mo ∧ omS M (zShl 1 N - 1) Mo ≤ 63) ∧ ∀ o : Nat, Mo ≤ o → o < 32 → ¬ inS (omS M (zShl 1 N - 1) Mo) (o : Int) := by
  obtain ⟨n, rfl⟩ : ∃ j : Nat, N = j := ⟨N.toNat, by omega⟩
  obtain ⟨m, rfl⟩ : ∃ j : Nat, Mo = j := ⟨Mo.toNat, by omega⟩
  obtain ⟨h1, h2, h3⟩ := om_gs hM (by omega) (by omega) m (Nat.le_refl m)
  exact ⟨h1, h2, fun o a b => h3 o (by omega) b⟩
/-- how many boards meet some order -/
theorem bm_met {M : Int → Int} {N Mo : Int} {mt : Int → Int → Prop} (hM : MaskP M N Mo mt) (hN : 0 ≤ N ∧ N ≤ 16) (hMo : 0 ≤ Mo ∧ Mo ≤ 6) : popc (bmS M (zShl 1 Mo - 1) 6) = sm (fun b => bI (∃ o, 0 ≤ o ∧ o < Mo ∧ mt b o)) N := by
  obtain ⟨n, rfl⟩ : ∃ j : Nat, N = j := ⟨N.toNat, by omega⟩
  obtain ⟨m, rfl⟩ : ∃ j : Nat, Mo = j := ⟨Mo.toNat, by omega⟩
  have hf : ∀ o : Nat, m ≤ o → o < 32 → ¬ inS (zShl 1 m - 1) (o : Int) := fun o a b c => by
    rw [inS_ones ⟨by omega, by omega⟩ ⟨by omega, by omega⟩] at c
    omega
  rw [popc_lim (x := bmS M (zShl 1 m - 1) 6) (n := n) (bm_rg 6) (by omega) (fun q a b c => by
    rw [bmS_m hM (by omega) hf (by omega) (by omega)] at c
    omega), sm_ct (fun b => ∃ o : Int, 0 ≤ o ∧ o < m ∧ mt b o) n]
  refine congrArg (fun k : Nat => (k : Int)) (ct_eq n fun i hi => ?_)
  rw [bmS_m hM (by omega) hf (by omega) (by omega)]
  constructor
  · rintro ⟨_, o, a, b, c⟩
    exact ⟨o, by omega, by omega, c⟩
  · rintro ⟨o, a, b, c⟩
    refine ⟨by omega, o.toNat, by omega, ?_, ?_⟩
    · rw [inS_ones ⟨by omega, by omega⟩ ⟨by omega, by omega⟩]; omega
    · rw [Int.toNat_of_nonneg a]; exact c
