/-! popc is the number of places of a set -/
theorem cntN_sm (x : Nat) : ∀ k : Nat, k ≤ 32 → ((cntN x k : Nat) : Int) = sm (fun o => bI (inS (x : Int) o)) (k : Int)
  | 0, _ => rfl
  | k + 1, h => by
    have e : (((k + 1 : Nat)) : Int) = (k : Int) + 1 := by omega
    rw [e, sm_s (by omega), ← cntN_sm x k (by omega)]
    have q := inS_n x k (by omega)
    show ((cntN x k + (x >>> k) % 2 : Nat) : Int) = _
    by_cases w : (x >>> k) % 2 = 1
    · have b : bI (inS (x : Int) (k : Int)) = 1 := bI_t (q.mpr w)
      rw [b, w]; omega
    · have b : bI (inS (x : Int) (k : Int)) = 0 := bI_f (fun z => w (q.mp z))
      rw [b]; omega
theorem popc_sm {x : Int} (h : 0 ≤ x ∧ x < 65536) : popc x = sm (fun o => bI (inS x o)) 16 := by
  obtain ⟨n, rfl⟩ := Int.eq_ofNat_of_zero_le h.1
  rw [popc_cnt n (by omega)]
  exact cntN_sm n 16 (by decide)
