
set_option maxRecDepth 100000 in
set_option maxHeartbeats 4000000 in
theorem m_fillB (G : GS) (n : Nat) (V : Nat → Int → Int) (R : Nat → Int → Option Nat) (c : Nat) (N : Nat) (v : Int) (hc : c < n) (ht : tb c = (20, N)) (hN : N ≤ 2000) (gv : Rg v) : Cn G yJ7_fill_53178 cJ7_fill_53178 4 none (rmk 1 0 0 16) [.ref (aG G c), .int (iI v)] n V R 0 0 (fun vv uu => ∃ (V1 : Nat → Int → Int), vv = none ∧ uu = (n, V1, R) ∧ (∀ q, q ≠ c → V1 q = V q) ∧ (∀ z : Int, 0 ≤ z → z < N → V1 c z = v)) := by
  refine Cn.of (by decide) (Nat.le_of_ble_eq_true rfl) (fun K C hct => ?_)
  show Xw K G 0 0 _ n V R 0 [(0, .ref (aG G c)), (1, .int (iI v))] []
  refine x_iconst C dJ7_fill_53178_0 ?_
  refine x_istore_n C dJ7_fill_53178_1 rfl (by decide) (lv' := [(0, .ref (aG G c)), (1, .int (iI v)), (2, .int (iI 0))]) rfl ?_
  refine x_aload_n C 0 dJ7_fill_53178_2 rfl rfl ?_
  refine x_alen C c (w := (N : Int)) dJ7_fill_53178_3 hc ht (by decide) rfl ?_
  refine x_istore_n C dJ7_fill_53178_4 rfl (by decide) (lv' := [(0, .ref (aG G c)), (1, .int (iI v)), (2, .int (iI 0)), (3, .int (iI (N : Int)))]) rfl ?_
  have lp_5 : ∀ (fuel : Nat) (m : Int) (V2 : Nat → Int → Int), (0 ≤ m ∧ m ≤ N) → (∀ q, q ≠ c → V2 q = V q) → (∀ z, 0 ≤ z → z < m → V2 c z = v) → ((N : Int) + 1 - m) < (fuel : Int) → Xw K G 0 0 (EndQ K G 0 0 (fun vv uu => ∃ (V1 : Nat → Int → Int), vv = none ∧ uu = (n, V1, R) ∧ (∀ q, q ≠ c → V1 q = V q) ∧ (∀ z : Int, 0 ≤ z → z < N → V1 c z = v))) n V2 R 5 [(0, .ref (aG G c)), (1, .int (iI v)), (2, .int (iI m)), (3, .int (iI (N : Int)))] [] := by
    intro fuel5
    induction fuel5 with
    | zero => intro m V2 hm hF hD hfu5; exfalso; omega
    | succ fuel5 ih5 =>
      intro m V2 hm hF hD hfu5
      refine x_iload_n C 2 dJ7_fill_53178_5 rfl rfl ?_
      refine x_iload_n C 3 dJ7_fill_53178_6 rfl rfl ?_
      refine x_icmp_ge C dJ7_fill_53178_7 (tgt := 20) (by decide) (by first | assumption | (constructor <;> omega)) (by first | assumption | (constructor <;> omega)) (fun h7 => ?_) (fun h7 => ?_)
      · skip
        refine x_vret C dJ7_fill_53178_20 ⟨_, rfl, rfl, ?_, ?_⟩
        · exact hF
        · exact fun z a b => hD z a (by omega)
      · skip
        refine x_aload_n C 0 dJ7_fill_53178_10 rfl rfl ?_
        refine x_iload_n C 2 dJ7_fill_53178_11 rfl rfl ?_
        refine x_iload_n C 1 dJ7_fill_53178_12 rfl rfl ?_
        refine x_iast C c dJ7_fill_53178_13 hc ht (by refine ⟨?_, ?_⟩ <;> omega) (by first | assumption | (constructor <;> omega)) ?_
        refine x_iinc C 2 dJ7_fill_53178_14 rfl (by decide) (lv' := [(0, .ref (aG G c)), (1, .int (iI v)), (2, .int (iI (m + 1))), (3, .int (iI (N : Int)))]) rfl ?_
        refine x_goto C dJ7_fill_53178_17 (tgt := 5) (by decide) ?_
        exact ih5 ((m + 1)) ((u2 V2 c m v)) (by omega) (by exact fun q a => by rw [u2_n a]; exact hF q a) (by exact fun z a b => by (rw [u2_at]; by_cases e : z = m; (rw [if_pos ⟨rfl, e⟩]); (rw [if_neg (by omega)]; exact hD z a (by omega)))) (by omega)
  exact lp_5 (((N : Int) + 1 - 0).toNat + 1) (0) (V) (by omega) (by exact fun _ _ => rfl) (by exact fun z a b => by omega) (by omega)
