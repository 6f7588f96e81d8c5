/-! counts of both kinds -/
theorem sm_ct (P : Int → Prop) : ∀ n : Nat, sm (fun o => bI (P o)) (n : Int) = ((ct (fun i => P (i : Int)) n : Nat) : Int)
  | 0 => rfl
  | n + 1 => by
    have e : (((n + 1 : Nat)) : Int) = (n : Int) + 1 := by omega
    rw [e, sm_s (by omega), sm_ct P n]
    show _ = ((ct (fun i => P (i : Int)) n + cif (P (n : Int)) 1 0 : Nat) : Int)
    by_cases w : P (n : Int)
    · rw [bI_t w, cifN_t w]; omega
    · rw [bI_f w, cifN_f w]; omega
theorem popc_ct {x : Int} (h : 0 ≤ x ∧ x < 65536) : popc x = ((ct (fun i => inS x (i : Int)) 16 : Nat) : Int) := by
  rw [popc_sm h]; exact sm_ct (inS x) 16
