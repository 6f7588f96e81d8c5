/-- the places of letters from p on, k of them looked at -/
def ltsN (T : Int → Int) (p : Int) : Nat → List Int
  | 0 => []
  | k + 1 => ltsN T p k ++ (if 0 ≤ kbT (T (p + k)) then [p + k] else [])
def lts (T : Int → Int) (a b : Int) : List Int := ltsN T a (b - a).toNat
theorem lts_s {T : Int → Int} {j : Int} (h : 0 ≤ j) : lts T 0 (j + 1) = lts T 0 j ++ (if 0 ≤ kbT (T j) then [j] else []) := by
  unfold lts
  rw [show (j + 1 - 0).toNat = (j - 0).toNat + 1 by omega]
  show ltsN T 0 (j - 0).toNat ++ (if 0 ≤ kbT (T (0 + ((j - 0).toNat : Int))) then [0 + ((j - 0).toNat : Int)] else []) = _
  rw [show 0 + ((j - 0).toNat : Int) = j by omega]
theorem lts_n {T : Int → Int} {j : Int} (h : 0 ≤ j) (hn : ¬ 0 ≤ kbT (T j)) : lts T 0 (j + 1) = lts T 0 j := by rw [lts_s h, if_neg hn, List.append_nil]
theorem ltsN_add {T : Int → Int} {p : Int} {a : Nat} : ∀ b : Nat, ltsN T p (a + b) = ltsN T p a ++ ltsN T (p + a) b
  | 0 => (List.append_nil _).symm
  | b + 1 => by
    show ltsN T p (a + b) ++ (if 0 ≤ kbT (T (p + ((a + b : Nat) : Int))) then [p + ((a + b : Nat) : Int)] else []) = ltsN T p a ++ (ltsN T (p + a) b ++ (if 0 ≤ kbT (T (p + a + b)) then [p + a + b] else []))
    rw [ltsN_add b, List.append_assoc, show p + ((a + b : Nat) : Int) = p + a + b by omega]
theorem lts_app {T : Int → Int} {a b c : Int} (h1 : a ≤ b) (h2 : b ≤ c) : lts T a c = lts T a b ++ lts T b c := by
  unfold lts
  rw [show (c - a).toNat = (b - a).toNat + (c - b).toNat by omega, ltsN_add, show a + ((b - a).toNat : Int) = b by omega]
theorem ltsN_none {T : Int → Int} {p : Int} : ∀ k : Nat, (∀ z, p ≤ z → z < p + k → ¬ 0 ≤ kbT (T z)) → ltsN T p k = []
  | 0, _ => rfl
  | k + 1, h => by
    show ltsN T p k ++ (if 0 ≤ kbT (T (p + k)) then [p + (k : Int)] else []) = []
    rw [ltsN_none k (fun z a b => h z a (by omega)), if_neg (h (p + k) (by omega) (by omega))]
    rfl
theorem lts_none {T : Int → Int} {a b : Int} (h : ∀ z, a ≤ z → z < b → ¬ 0 ≤ kbT (T z)) : lts T a b = [] := ltsN_none _ (fun z x y => h z x (by omega))
theorem lts_mono {T : Int → Int} {a b c : Int} (h1 : a ≤ b) (h2 : b ≤ c) : (lts T a b).length ≤ (lts T a c).length := by
  rw [lts_app h1 h2, List.length_append]; omega
theorem lts_end {T : Int → Int} {m b : Int} (h0 : 0 ≤ b ∧ b ≤ m) (hg : ∀ z, 0 ≤ z → z < m → 0 ≤ kbT (T z) → z + 3 < m ∧ (48 ≤ T (z + 1) ∧ T (z + 1) ≤ 55) ∧ (48 ≤ T (z + 2) ∧ T (z + 2) ≤ 55) ∧ (49 ≤ T (z + 3) ∧ T (z + 3) ≤ 52)) (hb : m ≤ b + 3) : lts T 0 m = lts T 0 b := by
  have e : lts T b m = [] := lts_none (fun z a c q => by have := (hg z (by omega) c q).1; omega)
  rw [lts_app h0.1 h0.2, e, List.append_nil]
theorem ri_st {n n2 : Nat} {V V2 V3 : Nat → Int → Int} {R R2 : Nat → Int → Option Nat} {j : Int} {D D' : List Int}
    (h : V2 1 5 = V 1 5 + (D.length : Int) ∧ ((∀ q, q < n → q ≠ 1 → V2 q = V q) ∧ (∀ z, z ≠ 5 → V2 1 z = V 1 z)) ∧ (∀ q, q ≠ 2 → R2 q = R q) ∧ (∀ x, x < V 1 5 ∨ V 1 5 + (D.length : Int) ≤ x → R2 2 x = R 2 x) ∧ ∀ q : Int, 0 ≤ q → q < (D.length : Int) → ∃ c, R2 2 (V 1 5 + q) = some c ∧ n ≤ c ∧ c < n2 ∧ V2 c 3 = kbT (V 36 (lat D q)) ∧ V2 c 0 = V 36 (lat D q + 1) - 48 ∧ V2 c 1 = V 36 (lat D q + 2) - 48 ∧ V2 c 2 = V 36 (lat D q + 3) - 48)
    (hn : NewF V2 V3 n2 (kbT (V 36 j)) (V 36 (j + 1) - 48) (V 36 (j + 2) - 48) (V 36 (j + 3) - 48)) (e1 : V3 1 = V2 1) (hD : D' = D ++ [j]) (hj : 0 ≤ j) {P : Prop} (_ : P) (hnn : n ≤ n2 ∧ 67 ≤ n) :
    u2 V3 1 5 (V3 1 5 + 1) 1 5 = V 1 5 + (D'.length : Int) ∧ ((∀ q, q < n → q ≠ 1 → u2 V3 1 5 (V3 1 5 + 1) q = V q) ∧ (∀ z, z ≠ 5 → u2 V3 1 5 (V3 1 5 + 1) 1 z = V 1 z)) ∧ (∀ q, q ≠ 2 → u2 R2 (1 + 1) (V3 1 5) (some n2) q = R q) ∧ (∀ x, x < V 1 5 ∨ V 1 5 + (D'.length : Int) ≤ x → u2 R2 (1 + 1) (V3 1 5) (some n2) 2 x = R 2 x) ∧ ∀ q : Int, 0 ≤ q → q < (D'.length : Int) → ∃ c, u2 R2 (1 + 1) (V3 1 5) (some n2) 2 (V 1 5 + q) = some c ∧ n ≤ c ∧ c < n2 + 1 ∧ u2 V3 1 5 (V3 1 5 + 1) c 3 = kbT (V 36 (lat D' q)) ∧ u2 V3 1 5 (V3 1 5 + 1) c 0 = V 36 (lat D' q + 1) - 48 ∧ u2 V3 1 5 (V3 1 5 + 1) c 1 = V 36 (lat D' q + 2) - 48 ∧ u2 V3 1 5 (V3 1 5 + 1) c 2 = V 36 (lat D' q + 3) - 48 := by
  obtain ⟨h1, ⟨h2, h3⟩, h4, h5, h6⟩ := h
  subst hD
  have hl : (((D ++ [j]).length : Nat) : Int) = (D.length : Int) + 1 := by rw [List.length_append]; rfl
  have e5 : V3 1 5 = V 1 5 + (D.length : Int) := by rw [e1, h1]
  refine ⟨?_, ⟨fun q a b => ?_, fun z a => ?_⟩, fun q a => ?_, fun x a => ?_, fun q a b => ?_⟩
  · rw [u2_s, u1_s, e5, hl]; omega
  · rw [u2_n b, hn.2.2.2.2 q (by omega)]; exact h2 q a b
  · rw [u2_at, if_neg (fun w => a w.2), e1]; exact h3 z a
  · rw [u2_n a]; exact h4 q a
  · rw [u2_at, if_neg (by omega)]; exact h5 x (by omega)
  · rw [hl] at b
    by_cases w : q = (D.length : Int)
    · refine ⟨n2, ?_, by omega, by omega, ?_⟩
      · rw [u2_at, if_pos ⟨rfl, by omega⟩]
      · rw [u2_n (by omega), w, lat_mid rfl]
        exact ⟨hn.1, hn.2.1, hn.2.2.1, hn.2.2.2.1⟩
    · obtain ⟨c, g1, g2, g3, g4⟩ := h6 q a (by omega)
      refine ⟨c, ?_, g2, by omega, ?_⟩
      · rw [u2_at, if_neg (by omega)]; exact g1
      · rw [u2_n (by omega), hn.2.2.2.2 c (by omega), lat_app a (by omega)]
        exact g4

