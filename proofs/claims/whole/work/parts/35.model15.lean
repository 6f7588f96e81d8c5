theorem tbr {c L : Nat} (h : (c = 43 ∧ L = 32) ∨ (c = 44 ∧ L = 7) ∨ (c = 45 ∧ L = 64) ∨ (c = 46 ∧ L = 24)) : tb c = (20, L) := by rcases h with ⟨h, e⟩ | ⟨h, e⟩ | ⟨h, e⟩ | ⟨h, e⟩ <;> subst h <;> subst e <;> rfl
theorem ps_x {V V2 V3 : Nat → Int → Int} {c L : Nat} {k : Int} (hc : (c = 43 ∧ L = 32) ∨ (c = 44 ∧ L = 7) ∨ (c = 45 ∧ L = 64) ∨ (c = 46 ∧ L = 24)) (h15 : V2 42 15 = V 42 15 + k) (hx : ∀ z, 0 ≤ z → z < k → V2 48 (V 42 15 + z) = (if V 42 16 = 0 then V 48 (V 42 15 + z) else V c z) ∧ V2 c z = (if V 42 16 = 0 then V 48 (V 42 15 + z) else V c z)) (hr : ∀ z, k ≤ z → V2 c z = V c z) (hi : ∀ p, ¬ (V 42 15 ≤ p ∧ p < V 42 15 + k) → V2 48 p = V 48 p) (hF : ∀ q z, q ≠ 48 → q ≠ c → ¬ (q = 42 ∧ z = 15) → V2 q z = V q z)
    (h2 : V3 48 = u1 (V2 48) (V2 42 15) (if V2 42 16 = 0 then V2 48 (V2 42 15) else V2 c k)) (h3 : ∀ q z, q ≠ 48 → ¬ (q = 42 ∧ z = 15) → V3 q z = V2 q z) : ∀ z, 0 ≤ z → z < k + 1 → u2 V3 c k (if V2 42 16 = 0 then V2 48 (V2 42 15) else V2 c k) 48 (V 42 15 + z) = (if V 42 16 = 0 then V 48 (V 42 15 + z) else V c z) ∧ u2 V3 c k (if V2 42 16 = 0 then V2 48 (V2 42 15) else V2 c k) c z = (if V 42 16 = 0 then V 48 (V 42 15 + z) else V c z) := fun z a b => by
  rw [u2_n (show 48 ≠ c by omega), u2_s, h2]
  by_cases e : z = k
  · subst e
    rw [h15, u1_s, u1_s, hF 42 16 (by decide) (by omega) (by omega), hi (V 42 15 + z) (by omega), hr z (Int.le_refl _)]
    exact ⟨rfl, rfl⟩
  · rw [h15, u1_n (by omega), u1_n e, h3 c z (by omega) (by omega)]
    exact hx z a (by omega)

set_option maxRecDepth 100000 in
set_option maxHeartbeats 4000000 in
theorem m_X12_passes (G : GS) (n : Nat) (V : Nat → Int → Int) (R : Nat → Int → Option Nat) (v : Int) (hn : 67 ≤ n) (hLR : LR R) (hp : 0 ≤ V 42 15 ∧ V 42 15 < 180) (gv : Rg v) : Cn G yX12_passes cX12_passes 3 (some .int) (rmk 1 0 0 16) [.ref (aG G 42), .int (iI v)] n V R 0 0 (fun vv uu => ∃ (V1 : Nat → Int → Int), vv = some (.int (iI (if V 42 16 = 0 then V 48 (V 42 15) else v))) ∧ uu = (n, V1, R) ∧ (V1 42 15 = V 42 15 + 1) ∧ (V1 48 = u1 (V 48) (V 42 15) (if V 42 16 = 0 then V 48 (V 42 15) else v)) ∧ (∀ q z, q ≠ 48 → ¬ (q = 42 ∧ z = 15) → V1 q z = V q z) ∧ (Rg (if V 42 16 = 0 then V 48 (V 42 15) else v))) := by
  refine Cn.of (by decide) (Nat.le_of_ble_eq_true rfl) (fun K C hct => ?_)
  show Xw K G 0 0 _ n V R 0 [(0, .ref (aG G 42)), (1, .int (iI v))] []
  refine x_aload_n C 0 dX12_passes_0 rfl rfl ?_
  refine x_geti C ok_Model 42 16 dX12_passes_1 (lt67 hn rfl) rfl (by decide) rfl q_49_16 rfl (kz := 16) rfl (fun rg1 => ?_)
  refine x_if_eq C dX12_passes_4 (tgt := 11) (by decide) (by first | assumption | (constructor <;> omega)) (fun h4 => ?_) (fun h4 => ?_)
  · skip
    refine x_aload_n C 0 dX12_passes_11 rfl rfl ?_
    refine x_getr C ok_Model 42 13 (d := 48) dX12_passes_12 (lt67 hn rfl) rfl (by decide) rfl q_4_6 rfl (kz := 13) rfl (lr_42_13 hLR) ?_
    refine x_aload_n C 0 dX12_passes_15 rfl rfl ?_
    refine x_geti C ok_Model 42 15 dX12_passes_16 (lt67 hn rfl) rfl (by decide) rfl q_49_17 rfl (kz := 15) rfl (fun rg16 => ?_)
    refine x_iald C 48 dX12_passes_19 (lt67 hn rfl) rfl (by refine ⟨?_, ?_⟩ <;> omega) (fun rg19 => ?_)
    refine x_nm (fun x h_x => ?_)
    refine x_istore_n C dX12_passes_20 rfl (by decide) (lv' := [(0, .ref (aG G 42)), (1, .int (iI v)), (2, .int (iI x))]) rfl ?_
    have hx : x = (if V 42 16 = 0 then V 48 (V 42 15) else v) := by rw [h_x]; first | rw [if_pos (by omega)] | rw [if_neg (by omega)]
    have gx : Rg x := by rw [h_x]; assumption
    refine x_aload_n C 0 dX12_passes_21 rfl rfl ?_
    refine x_getr C ok_Model 42 13 (d := 48) dX12_passes_22 (lt67 hn rfl) rfl (by decide) rfl q_4_6 rfl (kz := 13) rfl (lr_42_13 hLR) ?_
    refine x_aload_n C 0 dX12_passes_25 rfl rfl ?_
    refine x_geti C ok_Model 42 15 dX12_passes_26 (lt67 hn rfl) rfl (by decide) rfl q_49_17 rfl (kz := 15) rfl (fun rg26 => ?_)
    refine x_iload_n C 2 dX12_passes_29 rfl rfl ?_
    refine x_iast C 48 dX12_passes_30 (lt67 hn rfl) rfl (by refine ⟨?_, ?_⟩ <;> omega) (by first | assumption | (constructor <;> omega)) ?_
    refine x_aload_n C 0 dX12_passes_31 rfl rfl ?_
    refine x_dup C dX12_passes_32 rfl ?_
    refine x_geti C ok_Model 42 15 dX12_passes_33 (lt67 hn rfl) rfl (by decide) rfl q_49_17 rfl (kz := 15) rfl (fun rg33 => ?_)
    refine x_top (b := (V 42 15)) (by first | rfl | (simp only [u2_at]; simp) | (simp only [u2_at]; first | (rw [if_neg (by omega)]) | omega)) ?_
    refine x_iconst C dX12_passes_36 ?_
    refine x_iadd C dX12_passes_37 ?_
    refine x_puti C ok_Model 42 15 dX12_passes_38 (lt67 hn rfl) rfl (by decide) rfl q_49_17 rfl rfl (Or.inl rfl) (by first | assumption | (constructor <;> omega)) (kz := 15) rfl ?_
    refine x_iload_n C 2 dX12_passes_41 rfl rfl ?_
    refine x_iret C dX12_passes_42 ⟨_, congrArg (fun z => some (Value.int (iI z))) (by exact hx), rfl, ?_, ?_, ?_, ?_⟩
    · rw [u2_s, u1_s]
    · rw [u2_n (by decide), u2_s, hx]
    · exact fun q z a b => by rw [u2_at, if_neg b, u2_n a]
    · rw [← hx]; exact gx
  · skip
    refine x_iload_n C 1 dX12_passes_7 rfl rfl ?_
    refine x_goto C dX12_passes_8 (tgt := 20) (by decide) ?_
    refine x_nm (fun x h_x => ?_)
    refine x_istore_n C dX12_passes_20 rfl (by decide) (lv' := [(0, .ref (aG G 42)), (1, .int (iI v)), (2, .int (iI x))]) rfl ?_
    have hx : x = (if V 42 16 = 0 then V 48 (V 42 15) else v) := by rw [h_x]; first | rw [if_pos (by omega)] | rw [if_neg (by omega)]
    have gx : Rg x := by rw [h_x]; assumption
    refine x_aload_n C 0 dX12_passes_21 rfl rfl ?_
    refine x_getr C ok_Model 42 13 (d := 48) dX12_passes_22 (lt67 hn rfl) rfl (by decide) rfl q_4_6 rfl (kz := 13) rfl (lr_42_13 hLR) ?_
    refine x_aload_n C 0 dX12_passes_25 rfl rfl ?_
    refine x_geti C ok_Model 42 15 dX12_passes_26 (lt67 hn rfl) rfl (by decide) rfl q_49_17 rfl (kz := 15) rfl (fun rg26 => ?_)
    refine x_iload_n C 2 dX12_passes_29 rfl rfl ?_
    refine x_iast C 48 dX12_passes_30 (lt67 hn rfl) rfl (by refine ⟨?_, ?_⟩ <;> omega) (by first | assumption | (constructor <;> omega)) ?_
    refine x_aload_n C 0 dX12_passes_31 rfl rfl ?_
    refine x_dup C dX12_passes_32 rfl ?_
    refine x_geti C ok_Model 42 15 dX12_passes_33 (lt67 hn rfl) rfl (by decide) rfl q_49_17 rfl (kz := 15) rfl (fun rg33 => ?_)
    refine x_top (b := (V 42 15)) (by first | rfl | (simp only [u2_at]; simp) | (simp only [u2_at]; first | (rw [if_neg (by omega)]) | omega)) ?_
    refine x_iconst C dX12_passes_36 ?_
    refine x_iadd C dX12_passes_37 ?_
    refine x_puti C ok_Model 42 15 dX12_passes_38 (lt67 hn rfl) rfl (by decide) rfl q_49_17 rfl rfl (Or.inl rfl) (by first | assumption | (constructor <;> omega)) (kz := 15) rfl ?_
    refine x_iload_n C 2 dX12_passes_41 rfl rfl ?_
    refine x_iret C dX12_passes_42 ⟨_, congrArg (fun z => some (Value.int (iI z))) (by exact hx), rfl, ?_, ?_, ?_, ?_⟩
    · rw [u2_s, u1_s]
    · rw [u2_n (by decide), u2_s, hx]
    · exact fun q z a b => by rw [u2_at, if_neg b, u2_n a]
    · rw [← hx]; exact gx
set_option maxRecDepth 100000 in
set_option maxHeartbeats 4000000 in
theorem m_X12_passesRow (G : GS) (n : Nat) (V : Nat → Int → Int) (R : Nat → Int → Option Nat) (c : Nat) (L : Nat) (hn : 67 ≤ n) (hLR : LR R) (hc : (c = 43 ∧ L = 32) ∨ (c = 44 ∧ L = 7) ∨ (c = 45 ∧ L = 64) ∨ (c = 46 ∧ L = 24)) (hp : 0 ≤ V 42 15 ∧ V 42 15 + L ≤ 180) : Cn G yX12_passesRow cX12_passesRow 3 none (rmk 2 0 0 38) [.ref (aG G 42), .ref (aG G c)] n V R 0 0 (fun vv uu => ∃ (V1 : Nat → Int → Int), vv = none ∧ uu = (n, V1, R) ∧ (V1 42 15 = V 42 15 + L) ∧ (∀ z : Int, 0 ≤ z → z < L → V1 48 (V 42 15 + z) = (if V 42 16 = 0 then V 48 (V 42 15 + z) else V c z) ∧ V1 c z = (if V 42 16 = 0 then V 48 (V 42 15 + z) else V c z)) ∧ (∀ p, ¬ (V 42 15 ≤ p ∧ p < V 42 15 + L) → V1 48 p = V 48 p) ∧ (∀ q z, q ≠ 48 → q ≠ c → ¬ (q = 42 ∧ z = 15) → V1 q z = V q z)) := by
  refine Cn.of (by decide) (Nat.le_of_ble_eq_true rfl) (fun K C hct => ?_)
  show Xw K G 0 0 _ n V R 0 [(0, .ref (aG G 42)), (1, .ref (aG G c))] []
  refine x_iconst C dX12_passesRow_0 ?_
  refine x_istore_n C dX12_passesRow_1 rfl (by decide) (lv' := [(0, .ref (aG G 42)), (1, .ref (aG G c)), (2, .int (iI 0))]) rfl ?_
  have lp_2 : ∀ (fuel : Nat) (k : Int) (V2 : Nat → Int → Int), (0 ≤ k ∧ k ≤ L) → (V2 42 15 = V 42 15 + k) → (∀ z, 0 ≤ z → z < k → V2 48 (V 42 15 + z) = (if V 42 16 = 0 then V 48 (V 42 15 + z) else V c z) ∧ V2 c z = (if V 42 16 = 0 then V 48 (V 42 15 + z) else V c z)) → (∀ z, k ≤ z → V2 c z = V c z) → (∀ p, ¬ (V 42 15 ≤ p ∧ p < V 42 15 + k) → V2 48 p = V 48 p) → (∀ q z, q ≠ 48 → q ≠ c → ¬ (q = 42 ∧ z = 15) → V2 q z = V q z) → ((L : Int) - k) < (fuel : Int) → Xw K G 0 0 (EndQ K G 0 0 (fun vv uu => ∃ (V1 : Nat → Int → Int), vv = none ∧ uu = (n, V1, R) ∧ (V1 42 15 = V 42 15 + L) ∧ (∀ z : Int, 0 ≤ z → z < L → V1 48 (V 42 15 + z) = (if V 42 16 = 0 then V 48 (V 42 15 + z) else V c z) ∧ V1 c z = (if V 42 16 = 0 then V 48 (V 42 15 + z) else V c z)) ∧ (∀ p, ¬ (V 42 15 ≤ p ∧ p < V 42 15 + L) → V1 48 p = V 48 p) ∧ (∀ q z, q ≠ 48 → q ≠ c → ¬ (q = 42 ∧ z = 15) → V1 q z = V q z))) n V2 R 2 [(0, .ref (aG G 42)), (1, .ref (aG G c)), (2, .int (iI k))] [] := by
    intro fuel2
    induction fuel2 with
    | zero => intro k V2 hk h15 hx hr hi hF hfu2; exfalso; omega
    | succ fuel2 ih2 =>
      intro k V2 hk h15 hx hr hi hF hfu2
      refine x_iload_n C 2 dX12_passesRow_2 rfl rfl ?_
      refine x_aload_n C 1 dX12_passesRow_3 rfl rfl ?_
      refine x_alen C c (w := (L : Int)) dX12_passesRow_4 (by omega) (tbr hc) (by decide) rfl ?_
      refine x_icmp_ge C dX12_passesRow_5 (tgt := 24) (by decide) (by first | assumption | (constructor <;> omega)) (by first | assumption | (constructor <;> omega)) (fun h5 => ?_) (fun h5 => ?_)
      · skip
        refine x_vret C dX12_passesRow_24 ⟨_, rfl, rfl, ?_, ?_, ?_, ?_⟩
        · omega
        · exact fun z a b => hx z a (by omega)
        · exact fun p a => hi p (by omega)
        · exact hF
      · skip
        refine x_aload_n C 1 dX12_passesRow_8 rfl rfl ?_
        refine x_iload_n C 2 dX12_passesRow_9 rfl rfl ?_
        refine x_aload_n C 0 dX12_passesRow_10 rfl rfl ?_
        refine x_aload_n C 1 dX12_passesRow_11 rfl rfl ?_
        refine x_iload_n C 2 dX12_passesRow_12 rfl rfl ?_
        refine x_iald C c dX12_passesRow_13 (by omega) (tbr hc) (by refine ⟨?_, ?_⟩ <;> omega) (fun rg13 => ?_)
        refine x_runU (r_callV C ok_Model 42 (lt67 hn rfl) rfl (ce_X12_passes) (m_X12_passes G n V2 R (V2 c k) hn hLR (by rw [h15]; omega) (by first | assumption | omega | decide)) rfl dX12_passesRow_14 q_49_18 q_49_19 q_49_20 rfl rfl ⟨Nat.le_of_ble_eq_true rfl, Nat.le_of_ble_eq_true rfl⟩ ⟨rfl, rfl⟩ ⟨Nat.le_of_ble_eq_true rfl, Nat.le_of_ble_eq_true rfl⟩ (Nat.le_of_ble_eq_true rfl)) (fun v14 u14 hp14 => ?_)
        obtain ⟨V3, rfl, rfl, h1, h2, h3, hg3⟩ := hp14
        show Xw K G 0 0 _ n V3 R 17 [(0, .ref (aG G 42)), (1, .ref (aG G c)), (2, .int (iI k))] [.int (iI (if V2 42 16 = 0 then V2 48 (V2 42 15) else (V2 c k))), .int (iI k), .ref (aG G c)]
        refine x_iast C c dX12_passesRow_17 (by omega) (tbr hc) (by refine ⟨?_, ?_⟩ <;> omega) (by first | assumption | (constructor <;> omega)) ?_
        refine x_iinc C 2 dX12_passesRow_18 rfl (by decide) (lv' := [(0, .ref (aG G 42)), (1, .ref (aG G c)), (2, .int (iI (k + 1)))]) rfl ?_
        refine x_goto C dX12_passesRow_21 (tgt := 2) (by decide) ?_
        exact ih2 ((k + 1)) ((u2 V3 c k (if V2 42 16 = 0 then V2 48 (V2 42 15) else (V2 c k)))) (by omega) (by rw [u2_n (by omega), h1]; omega) (by exact fun z a b => ps_x hc h15 hx hr hi hF h2 h3 z a b) (by exact fun z a => by (rw [u2_s, u1_n (by omega), h3 c z (by omega) (by omega)]; exact hr z (by omega))) (by exact fun p a => by (rw [u2_n (by omega), h2, u1_n (by omega)]; exact hi p (by omega))) (by exact fun q z a b d => by (rw [u2_n b, h3 q z a d]; exact hF q z a b d)) (by omega)
  exact lp_2 (((L : Int) - 0).toNat + 1) (0) (V) (by omega) (by omega) (by exact fun z a b => by omega) (by exact fun _ _ => rfl) (by exact fun _ _ => rfl) (by exact fun _ _ _ _ _ => rfl) (by omega)
