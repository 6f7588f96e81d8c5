def iniV (c : Nat) (z : Int) : Int := if c = 3 ∨ c = 8 ∨ c = 44 then (if 0 ≤ z ∧ z < 7 then tat tRF z else 0) else if c = 37 ∨ c = 64 then (if 0 ≤ z ∧ z < 4 then -1 else 0) else 0

