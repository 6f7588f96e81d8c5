
set_option maxRecDepth 100000 in
set_option maxHeartbeats 4000000 in
theorem m_X11_rule (G : GS) (n : Nat) (V : Nat → Int → Int) (R : Nat → Int → Option Nat) (w : Int) (v : Int) (hn : 67 ≤ n) (hLR : LR R) (gw : Rg w) (gv : Rg v) : Cn G yX11_rule cX11_rule 4 (some .int) (rmk 2 0 0 38) [.ref (aG G 0), .int (iI w), .int (iI v)] n V R 0 0 (fun vv uu => ∃ (r : Int), ∃ (V1 : Nat → Int → Int), vv = some (.int (iI r)) ∧ uu = (n, V1, R) ∧ ((¬ ((w = 0 ∧ 0 ≤ v ∧ v ≤ 2) ∨ (w = 1 ∧ 0 ≤ v ∧ v ≤ 1) ∨ (w = 6 ∧ 0 ≤ v ∧ v ≤ 30 ∧ v % 2 = 0) ∨ (2 ≤ w ∧ w ≤ 5 ∧ 0 ≤ v ∧ v ≤ 99)) ∧ r = -2 ∧ V1 = V) ∨ (((w = 0 ∧ 0 ≤ v ∧ v ≤ 2) ∨ (w = 1 ∧ 0 ≤ v ∧ v ≤ 1) ∨ (w = 6 ∧ 0 ≤ v ∧ v ≤ 30 ∧ v % 2 = 0) ∨ (2 ≤ w ∧ w ≤ 5 ∧ 0 ≤ v ∧ v ≤ 99)) ∧ r = V 3 w ∧ V1 = u2 (u2 V 3 w v) 11 0 0))) := by
  refine Cn.of (by decide) (Nat.le_of_ble_eq_true rfl) (fun K C hct => ?_)
  show Xw K G 0 0 _ n V R 0 [(0, .ref (aG G 0)), (1, .int (iI w)), (2, .int (iI v))] []
  refine x_iload_n C 1 dX11_rule_0 rfl rfl ?_
  refine x_iconst C dX11_rule_1 ?_
  refine x_bipush C dX11_rule_2 (w := 6) (by decide) ?_
  refine x_runU (r_callS C (ce_X11_within) (m_X11_within G n V R (w) (0) (6) (by first | assumption | omega | decide) (by first | assumption | omega | decide) (by first | assumption | omega | decide)) dX11_rule_4 q_5_4 q_5_5 rfl rfl ⟨Nat.le_of_ble_eq_true rfl, Nat.le_of_ble_eq_true rfl⟩ ⟨rfl, rfl⟩ ⟨Nat.le_of_ble_eq_true rfl, Nat.le_of_ble_eq_true rfl⟩ (Nat.le_of_ble_eq_true rfl)) (fun v4 u4 hp4 => ?_)
  obtain ⟨rfl, rfl⟩ := hp4
  show Xw K G 0 0 _ n V R 7 [(0, .ref (aG G 0)), (1, .int (iI w)), (2, .int (iI v))] [.int (iI (bI (0 ≤ w ∧ w ≤ 6)))]
  refine x_ifeq_b C dX11_rule_7 (tgt := 23) (by decide) (fun h7 => ?_) (fun h7 => ?_)
  · skip
    refine x_bipush C dX11_rule_23 (w := -2) (by decide) ?_
    refine x_iret C dX11_rule_25 ⟨_, _, rfl, rfl, ?_⟩
    · first | exact Or.inl ⟨by omega, rfl, rfl⟩ | exact Or.inr ⟨by omega, rfl, rfl⟩
  · skip
    refine x_iload_n C 2 dX11_rule_10 rfl rfl ?_
    refine x_iconst C dX11_rule_11 ?_
    refine x_gets C 5 dX11_rule_12 (by decide) (Or.inl q_27_22) rfl ?_
    refine x_iload_n C 1 dX11_rule_15 rfl rfl ?_
    refine x_ti C 5 dX11_rule_16 (by decide) (by first | (refine ⟨?_, ?_⟩ <;> (try simp only [sTb, tRM, tRF, tAU, tAV, List.length]) <;> omega)) ?_
    refine x_top (b := (tat tRM w)) (by rfl) ?_
    have hm7 := rm_b (w := w) (by omega)
    refine x_runU (r_callS C (ce_X11_within) (m_X11_within G n V R (v) (0) (tat tRM w) (by first | assumption | omega | decide) (by first | assumption | omega | decide) (by first | assumption | omega | decide)) dX11_rule_17 q_5_4 q_5_5 rfl rfl ⟨Nat.le_of_ble_eq_true rfl, Nat.le_of_ble_eq_true rfl⟩ ⟨rfl, rfl⟩ ⟨Nat.le_of_ble_eq_true rfl, Nat.le_of_ble_eq_true rfl⟩ (Nat.le_of_ble_eq_true rfl)) (fun v17 u17 hp17 => ?_)
    obtain ⟨rfl, rfl⟩ := hp17
    show Xw K G 0 0 _ n V R 20 [(0, .ref (aG G 0)), (1, .int (iI w)), (2, .int (iI v))] [.int (iI (bI (0 ≤ v ∧ v ≤ (tat tRM w))))]
    refine x_ifne_b C dX11_rule_20 (tgt := 26) (by decide) (fun h20 => ?_) (fun h20 => ?_)
    · skip
      refine x_iload_n C 1 dX11_rule_26 rfl rfl ?_
      refine x_bipush C dX11_rule_27 (w := 6) (by decide) ?_
      refine x_icmp_ne C dX11_rule_29 (tgt := 41) (by decide) (by first | assumption | (constructor <;> omega)) (by first | assumption | (constructor <;> omega)) (fun h29 => ?_) (fun h29 => ?_)
      · skip
        refine x_aload_n C 0 dX11_rule_41 rfl rfl ?_
        refine x_getr C ok_Class 0 0 (d := 1) dX11_rule_42 (lt67 hn rfl) rfl (by decide) rfl q_0_16 rfl (kz := 0) rfl (lr_0_0 hLR) ?_
        refine x_getr C ok_Yard 1 6 (d := 3) dX11_rule_45 (lt67 hn rfl) rfl (by decide) rfl q_27_23 rfl (kz := 6) rfl (lr_1_6 hLR) ?_
        refine x_iload_n C 1 dX11_rule_48 rfl rfl ?_
        refine x_iald C 3 dX11_rule_49 (lt67 hn rfl) rfl (by refine ⟨?_, ?_⟩ <;> omega) (fun rg49 => ?_)
        refine x_istore_n C dX11_rule_50 rfl (by decide) (lv' := [(0, .ref (aG G 0)), (1, .int (iI w)), (2, .int (iI v)), (3, .int (iI (V 3 w)))]) rfl ?_
        refine x_aload_n C 0 dX11_rule_51 rfl rfl ?_
        refine x_getr C ok_Class 0 0 (d := 1) dX11_rule_52 (lt67 hn rfl) rfl (by decide) rfl q_0_16 rfl (kz := 0) rfl (lr_0_0 hLR) ?_
        refine x_getr C ok_Yard 1 6 (d := 3) dX11_rule_55 (lt67 hn rfl) rfl (by decide) rfl q_27_23 rfl (kz := 6) rfl (lr_1_6 hLR) ?_
        refine x_iload_n C 1 dX11_rule_58 rfl rfl ?_
        refine x_iload_n C 2 dX11_rule_59 rfl rfl ?_
        refine x_iast C 3 dX11_rule_60 (lt67 hn rfl) rfl (by refine ⟨?_, ?_⟩ <;> omega) (by first | assumption | (constructor <;> omega)) ?_
        refine x_aload_n C 0 dX11_rule_61 rfl rfl ?_
        refine x_getr C ok_Class 0 3 (d := 11) dX11_rule_62 (lt67 hn rfl) rfl (by decide) rfl q_0_22 rfl (kz := 3) rfl (lr_0_3 hLR) ?_
        refine x_iconst C dX11_rule_65 ?_
        refine x_puti C ok_Saw 11 0 dX11_rule_66 (lt67 hn rfl) rfl (by decide) rfl q_5_3 rfl rfl (Or.inr ⟨rfl, by first | exact Or.inl rfl | exact Or.inr rfl | omega⟩) (by first | assumption | (constructor <;> omega)) (kz := 0) rfl ?_
        refine x_iload_n C 3 dX11_rule_69 rfl rfl ?_
        refine x_iret C dX11_rule_70 ⟨_, _, rfl, rfl, ?_⟩
        · first | exact Or.inl ⟨by omega, rfl, rfl⟩ | exact Or.inr ⟨by omega, rfl, rfl⟩
      · skip
        refine x_iload_n C 2 dX11_rule_32 rfl rfl ?_
        refine x_iconst C dX11_rule_33 ?_
        refine x_irem C dX11_rule_34 (by first | assumption | (constructor <;> omega)) (by first | assumption | (constructor <;> omega)) (by omega) (by omega) ?_
        refine x_if_eq C dX11_rule_35 (tgt := 41) (by decide) (by first | assumption | (constructor <;> omega)) (fun h35 => ?_) (fun h35 => ?_)
        · skip
          refine x_aload_n C 0 dX11_rule_41 rfl rfl ?_
          refine x_getr C ok_Class 0 0 (d := 1) dX11_rule_42 (lt67 hn rfl) rfl (by decide) rfl q_0_16 rfl (kz := 0) rfl (lr_0_0 hLR) ?_
          refine x_getr C ok_Yard 1 6 (d := 3) dX11_rule_45 (lt67 hn rfl) rfl (by decide) rfl q_27_23 rfl (kz := 6) rfl (lr_1_6 hLR) ?_
          refine x_iload_n C 1 dX11_rule_48 rfl rfl ?_
          refine x_iald C 3 dX11_rule_49 (lt67 hn rfl) rfl (by refine ⟨?_, ?_⟩ <;> omega) (fun rg49 => ?_)
          refine x_istore_n C dX11_rule_50 rfl (by decide) (lv' := [(0, .ref (aG G 0)), (1, .int (iI w)), (2, .int (iI v)), (3, .int (iI (V 3 w)))]) rfl ?_
          refine x_aload_n C 0 dX11_rule_51 rfl rfl ?_
          refine x_getr C ok_Class 0 0 (d := 1) dX11_rule_52 (lt67 hn rfl) rfl (by decide) rfl q_0_16 rfl (kz := 0) rfl (lr_0_0 hLR) ?_
          refine x_getr C ok_Yard 1 6 (d := 3) dX11_rule_55 (lt67 hn rfl) rfl (by decide) rfl q_27_23 rfl (kz := 6) rfl (lr_1_6 hLR) ?_
          refine x_iload_n C 1 dX11_rule_58 rfl rfl ?_
          refine x_iload_n C 2 dX11_rule_59 rfl rfl ?_
          refine x_iast C 3 dX11_rule_60 (lt67 hn rfl) rfl (by refine ⟨?_, ?_⟩ <;> omega) (by first | assumption | (constructor <;> omega)) ?_
          refine x_aload_n C 0 dX11_rule_61 rfl rfl ?_
          refine x_getr C ok_Class 0 3 (d := 11) dX11_rule_62 (lt67 hn rfl) rfl (by decide) rfl q_0_22 rfl (kz := 3) rfl (lr_0_3 hLR) ?_
          refine x_iconst C dX11_rule_65 ?_
          refine x_puti C ok_Saw 11 0 dX11_rule_66 (lt67 hn rfl) rfl (by decide) rfl q_5_3 rfl rfl (Or.inr ⟨rfl, by first | exact Or.inl rfl | exact Or.inr rfl | omega⟩) (by first | assumption | (constructor <;> omega)) (kz := 0) rfl ?_
          refine x_iload_n C 3 dX11_rule_69 rfl rfl ?_
          refine x_iret C dX11_rule_70 ⟨_, _, rfl, rfl, ?_⟩
          · first | exact Or.inl ⟨by omega, rfl, rfl⟩ | exact Or.inr ⟨by omega, rfl, rfl⟩
        · skip
          refine x_bipush C dX11_rule_38 (w := -2) (by decide) ?_
          refine x_iret C dX11_rule_40 ⟨_, _, rfl, rfl, ?_⟩
          · first | exact Or.inl ⟨by omega, rfl, rfl⟩ | exact Or.inr ⟨by omega, rfl, rfl⟩
    · skip
      refine x_bipush C dX11_rule_23 (w := -2) (by decide) ?_
      refine x_iret C dX11_rule_25 ⟨_, _, rfl, rfl, ?_⟩
      · first | exact Or.inl ⟨by omega, rfl, rfl⟩ | exact Or.inr ⟨by omega, rfl, rfl⟩
set_option maxRecDepth 100000 in
set_option maxHeartbeats 4000000 in
theorem m_X11_stack (G : GS) (n : Nat) (V : Nat → Int → Int) (R : Nat → Int → Option Nat) (k : Int) (w : Int) (hn : 67 ≤ n) (hLR : LR R) (gk : Rg k) (gw : Rg w) (h8 : 0 ≤ V 1 8 ∧ V 1 8 ≤ 16) : Cn G yX11_stack cX11_stack 3 (some .int) (rmk 2 0 0 38) [.ref (aG G 0), .int (iI k), .int (iI w)] n V R 0 0 (fun vv uu => ∃ (r : Int), vv = some (.int (iI r)) ∧ uu = (n, V, R) ∧ ((¬ (0 ≤ w ∧ w ≤ 3) ∧ r = -2) ∨ ((0 ≤ w ∧ w ≤ 3) ∧ k = -1 ∧ r = V 1 8) ∨ ((0 ≤ w ∧ w ≤ 3) ∧ k ≠ -1 ∧ ¬ (0 ≤ k ∧ k ≤ V 1 8 - 1) ∧ r = -12) ∨ ((0 ≤ w ∧ w ≤ 3) ∧ (0 ≤ k ∧ k ≤ V 1 8 - 1) ∧ r = V 4 (4 * k + w)))) := by
  refine Cn.of (by decide) (Nat.le_of_ble_eq_true rfl) (fun K C hct => ?_)
  show Xw K G 0 0 _ n V R 0 [(0, .ref (aG G 0)), (1, .int (iI k)), (2, .int (iI w))] []
  refine x_iload_n C 2 dX11_stack_0 rfl rfl ?_
  refine x_iconst C dX11_stack_1 ?_
  refine x_iconst C dX11_stack_2 ?_
  refine x_runU (r_callS C (ce_X11_within) (m_X11_within G n V R (w) (0) (3) (by first | assumption | omega | decide) (by first | assumption | omega | decide) (by first | assumption | omega | decide)) dX11_stack_3 q_5_4 q_5_5 rfl rfl ⟨Nat.le_of_ble_eq_true rfl, Nat.le_of_ble_eq_true rfl⟩ ⟨rfl, rfl⟩ ⟨Nat.le_of_ble_eq_true rfl, Nat.le_of_ble_eq_true rfl⟩ (Nat.le_of_ble_eq_true rfl)) (fun v3 u3 hp3 => ?_)
  obtain ⟨rfl, rfl⟩ := hp3
  show Xw K G 0 0 _ n V R 6 [(0, .ref (aG G 0)), (1, .int (iI k)), (2, .int (iI w))] [.int (iI (bI (0 ≤ w ∧ w ≤ 3)))]
  refine x_ifne_b C dX11_stack_6 (tgt := 12) (by decide) (fun h6 => ?_) (fun h6 => ?_)
  · skip
    refine x_iload_n C 1 dX11_stack_12 rfl rfl ?_
    refine x_iconst C dX11_stack_13 ?_
    refine x_icmp_ne C dX11_stack_14 (tgt := 25) (by decide) (by first | assumption | (constructor <;> omega)) (by first | assumption | (constructor <;> omega)) (fun h14 => ?_) (fun h14 => ?_)
    · skip
      refine x_iload_n C 1 dX11_stack_25 rfl rfl ?_
      refine x_iconst C dX11_stack_26 ?_
      refine x_aload_n C 0 dX11_stack_27 rfl rfl ?_
      refine x_getr C ok_Class 0 0 (d := 1) dX11_stack_28 (lt67 hn rfl) rfl (by decide) rfl q_0_16 rfl (kz := 0) rfl (lr_0_0 hLR) ?_
      refine x_geti C ok_Yard 1 8 dX11_stack_31 (lt67 hn rfl) rfl (by decide) rfl q_39_11 rfl (kz := 8) rfl (fun rg31 => ?_)
      refine x_iconst C dX11_stack_34 ?_
      refine x_isub C dX11_stack_35 ?_
      refine x_runU (r_callS C (ce_X11_within) (m_X11_within G n V R (k) (0) ((V 1 8) - 1) (by first | assumption | omega | decide) (by first | assumption | omega | decide) (by first | assumption | omega | decide)) dX11_stack_36 q_5_4 q_5_5 rfl rfl ⟨Nat.le_of_ble_eq_true rfl, Nat.le_of_ble_eq_true rfl⟩ ⟨rfl, rfl⟩ ⟨Nat.le_of_ble_eq_true rfl, Nat.le_of_ble_eq_true rfl⟩ (Nat.le_of_ble_eq_true rfl)) (fun v36 u36 hp36 => ?_)
      obtain ⟨rfl, rfl⟩ := hp36
      show Xw K G 0 0 _ n V R 39 [(0, .ref (aG G 0)), (1, .int (iI k)), (2, .int (iI w))] [.int (iI (bI (0 ≤ k ∧ k ≤ ((V 1 8) - 1))))]
      refine x_ifeq_b C dX11_stack_39 (tgt := 58) (by decide) (fun h39 => ?_) (fun h39 => ?_)
      · skip
        refine x_bipush C dX11_stack_58 (w := -12) (by decide) ?_
        refine x_iret C dX11_stack_60 ⟨_, rfl, rfl, ?_⟩
        · first | exact Or.inl ⟨by omega, rfl⟩ | exact Or.inr (Or.inl ⟨by omega, by omega, rfl⟩) | exact Or.inr (Or.inr (Or.inl ⟨by omega, by omega, by omega, rfl⟩)) | exact Or.inr (Or.inr (Or.inr ⟨by omega, by omega, rfl⟩))
      · skip
        refine x_aload_n C 0 dX11_stack_42 rfl rfl ?_
        refine x_getr C ok_Class 0 0 (d := 1) dX11_stack_43 (lt67 hn rfl) rfl (by decide) rfl q_0_16 rfl (kz := 0) rfl (lr_0_0 hLR) ?_
        refine x_getr C ok_Yard 1 7 (d := 4) dX11_stack_46 (lt67 hn rfl) rfl (by decide) rfl q_40_9 rfl (kz := 7) rfl (lr_1_7 hLR) ?_
        refine x_iconst C dX11_stack_49 ?_
        refine x_iload_n C 1 dX11_stack_50 rfl rfl ?_
        refine x_imul C dX11_stack_51 ?_
        refine x_iload_n C 2 dX11_stack_52 rfl rfl ?_
        refine x_iadd C dX11_stack_53 ?_
        refine x_iald C 4 dX11_stack_54 (lt67 hn rfl) rfl (by refine ⟨?_, ?_⟩ <;> omega) (fun rg54 => ?_)
        refine x_goto C dX11_stack_55 (tgt := 60) (by decide) ?_
        refine x_iret C dX11_stack_60 ⟨_, rfl, rfl, ?_⟩
        · first | exact Or.inl ⟨by omega, rfl⟩ | exact Or.inr (Or.inl ⟨by omega, by omega, rfl⟩) | exact Or.inr (Or.inr (Or.inl ⟨by omega, by omega, by omega, rfl⟩)) | exact Or.inr (Or.inr (Or.inr ⟨by omega, by omega, rfl⟩))
    · skip
      refine x_aload_n C 0 dX11_stack_17 rfl rfl ?_
      refine x_getr C ok_Class 0 0 (d := 1) dX11_stack_18 (lt67 hn rfl) rfl (by decide) rfl q_0_16 rfl (kz := 0) rfl (lr_0_0 hLR) ?_
      refine x_geti C ok_Yard 1 8 dX11_stack_21 (lt67 hn rfl) rfl (by decide) rfl q_39_11 rfl (kz := 8) rfl (fun rg21 => ?_)
      refine x_iret C dX11_stack_24 ⟨_, rfl, rfl, ?_⟩
      · first | exact Or.inl ⟨by omega, rfl⟩ | exact Or.inr (Or.inl ⟨by omega, by omega, rfl⟩) | exact Or.inr (Or.inr (Or.inl ⟨by omega, by omega, by omega, rfl⟩)) | exact Or.inr (Or.inr (Or.inr ⟨by omega, by omega, rfl⟩))
  · skip
    refine x_bipush C dX11_stack_9 (w := -2) (by decide) ?_
    refine x_iret C dX11_stack_11 ⟨_, rfl, rfl, ?_⟩
    · first | exact Or.inl ⟨by omega, rfl⟩ | exact Or.inr (Or.inl ⟨by omega, by omega, rfl⟩) | exact Or.inr (Or.inr (Or.inl ⟨by omega, by omega, by omega, rfl⟩)) | exact Or.inr (Or.inr (Or.inr ⟨by omega, by omega, rfl⟩))
set_option maxRecDepth 100000 in
set_option maxHeartbeats 4000000 in
theorem m_X11_order (G : GS) (n : Nat) (V : Nat → Int → Int) (R : Nat → Int → Option Nat) (k : Int) (g : Int) (w : Int) (l : Int) (hn : 67 ≤ n) (hLR : LR R) (gk : Rg k) (gg : Rg g) (gw : Rg w) (gl : Rg l) (h10 : 0 ≤ V 1 10 ∧ V 1 10 ≤ 6) : Cn G yX11_order cX11_order 5 (some .int) (rmk 3 0 0 65) [.ref (aG G 0), .int (iI k), .int (iI g), .int (iI w), .int (iI l)] n V R 0 0 (fun vv uu => ∃ (r : Int), ∃ (V1 : Nat → Int → Int), vv = some (.int (iI r)) ∧ uu = (n, V1, R) ∧ ((¬ ((1 ≤ k ∧ k ≤ 4) ∧ (0 ≤ g ∧ g ≤ 3) ∧ (1 ≤ w ∧ w ≤ 12) ∧ (1 ≤ l ∧ l ≤ 8)) ∧ r = -2 ∧ V1 = V) ∨ (((1 ≤ k ∧ k ≤ 4) ∧ (0 ≤ g ∧ g ≤ 3) ∧ (1 ≤ w ∧ w ≤ 12) ∧ (1 ≤ l ∧ l ≤ 8)) ∧ V 1 10 = 6 ∧ r = -4 ∧ V1 = V) ∨ (((1 ≤ k ∧ k ≤ 4) ∧ (0 ≤ g ∧ g ≤ 3) ∧ (1 ≤ w ∧ w ≤ 12) ∧ (1 ≤ l ∧ l ≤ 8)) ∧ V 1 10 ≠ 6 ∧ r = V 1 10 ∧ V1 = u2 (u2 (u2 (u2 (u2 V 5 (4 * V 1 10) k) 5 (4 * V 1 10 + 1) w) 5 (4 * V 1 10 + 2) l) 5 (4 * V 1 10 + 3) g) 1 10 (V 1 10 + 1)))) := by
  refine Cn.of (by decide) (Nat.le_of_ble_eq_true rfl) (fun K C hct => ?_)
  show Xw K G 0 0 _ n V R 0 [(0, .ref (aG G 0)), (1, .int (iI k)), (2, .int (iI g)), (3, .int (iI w)), (4, .int (iI l))] []
  refine x_iload_n C 1 dX11_order_0 rfl rfl ?_
  refine x_iconst C dX11_order_1 ?_
  refine x_iconst C dX11_order_2 ?_
  refine x_runU (r_callS C (ce_X11_within) (m_X11_within G n V R (k) (1) (4) (by first | assumption | omega | decide) (by first | assumption | omega | decide) (by first | assumption | omega | decide)) dX11_order_3 q_5_4 q_5_5 rfl rfl ⟨Nat.le_of_ble_eq_true rfl, Nat.le_of_ble_eq_true rfl⟩ ⟨rfl, rfl⟩ ⟨Nat.le_of_ble_eq_true rfl, Nat.le_of_ble_eq_true rfl⟩ (Nat.le_of_ble_eq_true rfl)) (fun v3 u3 hp3 => ?_)
  obtain ⟨rfl, rfl⟩ := hp3
  show Xw K G 0 0 _ n V R 6 [(0, .ref (aG G 0)), (1, .int (iI k)), (2, .int (iI g)), (3, .int (iI w)), (4, .int (iI l))] [.int (iI (bI (1 ≤ k ∧ k ≤ 4)))]
  refine x_ifeq_b C dX11_order_6 (tgt := 39) (by decide) (fun h6 => ?_) (fun h6 => ?_)
  · skip
    refine x_bipush C dX11_order_39 (w := -2) (by decide) ?_
    refine x_iret C dX11_order_41 ⟨_, _, rfl, rfl, ?_⟩
    · first | exact Or.inl ⟨by omega, rfl, rfl⟩ | exact Or.inr (Or.inl ⟨by omega, by omega, rfl, rfl⟩) | exact Or.inr (Or.inr ⟨by omega, by omega, by omega, rfl⟩)
  · skip
    refine x_iload_n C 2 dX11_order_9 rfl rfl ?_
    refine x_iconst C dX11_order_10 ?_
    refine x_iconst C dX11_order_11 ?_
    refine x_runU (r_callS C (ce_X11_within) (m_X11_within G n V R (g) (0) (3) (by first | assumption | omega | decide) (by first | assumption | omega | decide) (by first | assumption | omega | decide)) dX11_order_12 q_5_4 q_5_5 rfl rfl ⟨Nat.le_of_ble_eq_true rfl, Nat.le_of_ble_eq_true rfl⟩ ⟨rfl, rfl⟩ ⟨Nat.le_of_ble_eq_true rfl, Nat.le_of_ble_eq_true rfl⟩ (Nat.le_of_ble_eq_true rfl)) (fun v12 u12 hp12 => ?_)
    obtain ⟨rfl, rfl⟩ := hp12
    show Xw K G 0 0 _ n V R 15 [(0, .ref (aG G 0)), (1, .int (iI k)), (2, .int (iI g)), (3, .int (iI w)), (4, .int (iI l))] [.int (iI (bI (0 ≤ g ∧ g ≤ 3)))]
    refine x_ifeq_b C dX11_order_15 (tgt := 39) (by decide) (fun h15 => ?_) (fun h15 => ?_)
    · skip
      refine x_bipush C dX11_order_39 (w := -2) (by decide) ?_
      refine x_iret C dX11_order_41 ⟨_, _, rfl, rfl, ?_⟩
      · first | exact Or.inl ⟨by omega, rfl, rfl⟩ | exact Or.inr (Or.inl ⟨by omega, by omega, rfl, rfl⟩) | exact Or.inr (Or.inr ⟨by omega, by omega, by omega, rfl⟩)
    · skip
      refine x_iload_n C 3 dX11_order_18 rfl rfl ?_
      refine x_iconst C dX11_order_19 ?_
      refine x_bipush C dX11_order_20 (w := 12) (by decide) ?_
      refine x_runU (r_callS C (ce_X11_within) (m_X11_within G n V R (w) (1) (12) (by first | assumption | omega | decide) (by first | assumption | omega | decide) (by first | assumption | omega | decide)) dX11_order_22 q_5_4 q_5_5 rfl rfl ⟨Nat.le_of_ble_eq_true rfl, Nat.le_of_ble_eq_true rfl⟩ ⟨rfl, rfl⟩ ⟨Nat.le_of_ble_eq_true rfl, Nat.le_of_ble_eq_true rfl⟩ (Nat.le_of_ble_eq_true rfl)) (fun v22 u22 hp22 => ?_)
      obtain ⟨rfl, rfl⟩ := hp22
      show Xw K G 0 0 _ n V R 25 [(0, .ref (aG G 0)), (1, .int (iI k)), (2, .int (iI g)), (3, .int (iI w)), (4, .int (iI l))] [.int (iI (bI (1 ≤ w ∧ w ≤ 12)))]
      refine x_ifeq_b C dX11_order_25 (tgt := 39) (by decide) (fun h25 => ?_) (fun h25 => ?_)
      · skip
        refine x_bipush C dX11_order_39 (w := -2) (by decide) ?_
        refine x_iret C dX11_order_41 ⟨_, _, rfl, rfl, ?_⟩
        · first | exact Or.inl ⟨by omega, rfl, rfl⟩ | exact Or.inr (Or.inl ⟨by omega, by omega, rfl, rfl⟩) | exact Or.inr (Or.inr ⟨by omega, by omega, by omega, rfl⟩)
      · skip
        refine x_iload C 4 dX11_order_28 rfl ?_
        refine x_iconst C dX11_order_30 ?_
        refine x_bipush C dX11_order_31 (w := 8) (by decide) ?_
        refine x_runU (r_callS C (ce_X11_within) (m_X11_within G n V R (l) (1) (8) (by first | assumption | omega | decide) (by first | assumption | omega | decide) (by first | assumption | omega | decide)) dX11_order_33 q_5_4 q_5_5 rfl rfl ⟨Nat.le_of_ble_eq_true rfl, Nat.le_of_ble_eq_true rfl⟩ ⟨rfl, rfl⟩ ⟨Nat.le_of_ble_eq_true rfl, Nat.le_of_ble_eq_true rfl⟩ (Nat.le_of_ble_eq_true rfl)) (fun v33 u33 hp33 => ?_)
        obtain ⟨rfl, rfl⟩ := hp33
        show Xw K G 0 0 _ n V R 36 [(0, .ref (aG G 0)), (1, .int (iI k)), (2, .int (iI g)), (3, .int (iI w)), (4, .int (iI l))] [.int (iI (bI (1 ≤ l ∧ l ≤ 8)))]
        refine x_ifne_b C dX11_order_36 (tgt := 42) (by decide) (fun h36 => ?_) (fun h36 => ?_)
        · skip
          refine x_aload_n C 0 dX11_order_42 rfl rfl ?_
          refine x_getr C ok_Class 0 0 (d := 1) dX11_order_43 (lt67 hn rfl) rfl (by decide) rfl q_0_16 rfl (kz := 0) rfl (lr_0_0 hLR) ?_
          refine x_geti C ok_Yard 1 10 dX11_order_46 (lt67 hn rfl) rfl (by decide) rfl q_40_18 rfl (kz := 10) rfl (fun rg46 => ?_)
          refine x_bipush C dX11_order_49 (w := 6) (by decide) ?_
          refine x_icmp_lt C dX11_order_51 (tgt := 57) (by decide) (by first | assumption | (constructor <;> omega)) (by first | assumption | (constructor <;> omega)) (fun h51 => ?_) (fun h51 => ?_)
          · skip
            refine x_aload_n C 0 dX11_order_57 rfl rfl ?_
            refine x_getr C ok_Class 0 0 (d := 1) dX11_order_58 (lt67 hn rfl) rfl (by decide) rfl q_0_16 rfl (kz := 0) rfl (lr_0_0 hLR) ?_
            refine x_iload_n C 1 dX11_order_61 rfl rfl ?_
            refine x_iload_n C 3 dX11_order_62 rfl rfl ?_
            refine x_iload C 4 dX11_order_63 rfl ?_
            refine x_iload_n C 2 dX11_order_65 rfl rfl ?_
            refine x_runU (r_callV C ok_Yard 1 (lt67 hn rfl) rfl (ce_X10_addOrder) (m_X10_addOrder G n V R (1) (k) (w) (l) (g) hn hLR (by first | assumption | omega | decide) (by first | assumption | omega | decide) (by first | assumption | omega | decide) (by first | assumption | omega | decide) (by first | assumption | omega | decide) (by first | assumption | omega | decide)) rfl dX11_order_66 q_40_19 q_40_20 q_40_21 rfl rfl ⟨Nat.le_of_ble_eq_true rfl, Nat.le_of_ble_eq_true rfl⟩ ⟨rfl, rfl⟩ ⟨Nat.le_of_ble_eq_true rfl, Nat.le_of_ble_eq_true rfl⟩ (Nat.le_of_ble_eq_true rfl)) (fun v66 u66 hp66 => ?_)
            obtain ⟨rfl, rfl⟩ := hp66
            show Xw K G 0 0 _ n (u2 (u2 (u2 (u2 (u2 V (1 + 4) (4 * V 1 10) k) (1 + 4) (4 * V 1 10 + 1) w) (1 + 4) (4 * V 1 10 + 2) l) (1 + 4) (4 * V 1 10 + 3) g) 1 10 (V 1 10 + 1)) R 69 [(0, .ref (aG G 0)), (1, .int (iI k)), (2, .int (iI g)), (3, .int (iI w)), (4, .int (iI l))] []
            refine x_aload_n C 0 dX11_order_69 rfl rfl ?_
            refine x_getr C ok_Class 0 0 (d := 1) dX11_order_70 (lt67 hn rfl) rfl (by decide) rfl q_0_16 rfl (kz := 0) rfl (lr_0_0 hLR) ?_
            refine x_geti C ok_Yard 1 10 dX11_order_73 (lt67 hn rfl) rfl (by decide) rfl q_40_18 rfl (kz := 10) rfl (fun rg73 => ?_)
            refine x_top (b := (V 1 10 + 1)) (by first | rfl | (simp only [u2_at]; simp) | (simp only [u2_at]; first | (rw [if_neg (by omega)]) | omega) | (repeat rw [u2_at, if_neg (by omega)])) ?_
            refine x_iconst C dX11_order_76 ?_
            refine x_isub C dX11_order_77 ?_
            refine x_iret C dX11_order_78 ⟨_, _, rfl, rfl, ?_⟩
            · first | exact Or.inl ⟨by omega, rfl, rfl⟩ | exact Or.inr (Or.inl ⟨by omega, by omega, rfl, rfl⟩) | exact Or.inr (Or.inr ⟨by omega, by omega, by omega, rfl⟩)
          · skip
            refine x_bipush C dX11_order_54 (w := -4) (by decide) ?_
            refine x_iret C dX11_order_56 ⟨_, _, rfl, rfl, ?_⟩
            · first | exact Or.inl ⟨by omega, rfl, rfl⟩ | exact Or.inr (Or.inl ⟨by omega, by omega, rfl, rfl⟩) | exact Or.inr (Or.inr ⟨by omega, by omega, by omega, rfl⟩)
        · skip
          refine x_bipush C dX11_order_39 (w := -2) (by decide) ?_
          refine x_iret C dX11_order_41 ⟨_, _, rfl, rfl, ?_⟩
          · first | exact Or.inl ⟨by omega, rfl, rfl⟩ | exact Or.inr (Or.inl ⟨by omega, by omega, rfl, rfl⟩) | exact Or.inr (Or.inr ⟨by omega, by omega, by omega, rfl⟩)
set_option maxRecDepth 100000 in
set_option maxHeartbeats 4000000 in
theorem m_X11_fault (G : GS) (n : Nat) (V : Nat → Int → Int) (R : Nat → Int → Option Nat) (q : Int) (a : Int) (s : Int) (z : Int) (hn : 67 ≤ n) (hLR : LR R) (gq : Rg q) (ga : Rg a) (gs : Rg s) (gz : Rg z) (h5 : 0 ≤ V 1 5 ∧ V 1 5 ≤ 8) (hF : FsOk n V R 2 (V 1 5)) (hr : 0 ≤ V 1 0 ∧ V 1 0 ≤ 6) (hta : 0 ≤ V 1 1 ∧ V 1 1 ≤ 4) (hL : 0 ≤ V 1 2 ∧ V 1 2 ≤ 8) : Cn G yX11_fault cX11_fault 5 (some .int) (rmk 6 1 3 131) [.ref (aG G 0), .int (iI q), .int (iI a), .int (iI s), .int (iI z)] n V R 1 3 (fun vv uu => ∃ (r : Int), ∃ (n1 : Nat), ∃ (V1 : Nat → Int → Int), ∃ (R1 : Nat → Int → Option Nat), vv = some (.int (iI r)) ∧ uu = (n1, V1, R1) ∧ ((V 1 2 = 0 ∧ r = -3 ∧ n1 = n ∧ V1 = V ∧ R1 = R) ∨ (V 1 2 ≠ 0 ∧ ¬ ((0 ≤ q ∧ q ≤ 6) ∧ (0 ≤ a ∧ a ≤ 7) ∧ (0 ≤ s ∧ s ≤ 7) ∧ (1 ≤ z ∧ z ≤ 4)) ∧ r = -2 ∧ n1 = n ∧ V1 = V ∧ R1 = R) ∨ (V 1 2 ≠ 0 ∧ ((0 ≤ q ∧ q ≤ 6) ∧ (0 ≤ a ∧ a ≤ 7) ∧ (0 ≤ s ∧ s ≤ 7) ∧ (1 ≤ z ∧ z ≤ 4)) ∧ V 1 5 = 8 ∧ r = -4 ∧ n1 = n ∧ V1 = V ∧ R1 = R) ∨ (V 1 2 ≠ 0 ∧ ((0 ≤ q ∧ q ≤ 6) ∧ (0 ≤ a ∧ a ≤ 7) ∧ (0 ≤ s ∧ s ≤ 7) ∧ (1 ≤ z ∧ z ≤ 4)) ∧ V 1 5 ≠ 8 ∧ r = V 1 5 ∧ n1 = n + 1 ∧ (∃ V2, NewF V V2 n q a s z ∧ V1 = u2 (u2 V2 1 5 (V 1 5 + 1)) 11 0 0) ∧ R1 = u2 R 2 (V 1 5) (some n)))) := by
  have htn := tb_dyn hn
  refine Cn.of (by decide) (Nat.le_of_ble_eq_true rfl) (fun K C hct => ?_)
  show Xw K G 0 0 _ n V R 0 [(0, .ref (aG G 0)), (1, .int (iI q)), (2, .int (iI a)), (3, .int (iI s)), (4, .int (iI z))] []
  refine x_aload_n C 0 dX11_fault_0 rfl rfl ?_
  refine x_getr C ok_Class 0 0 (d := 1) dX11_fault_1 (lt67 hn rfl) rfl (by decide) rfl q_0_16 rfl (kz := 0) rfl (lr_0_0 hLR) ?_
  refine x_runU (r_callV C ok_Yard 1 (lt67 hn rfl) rfl (ce_X10_hasLog) (m_X10_hasLog G n V R (1) hn hLR (by first | assumption | omega | decide)) rfl dX11_fault_4 q_8_6 q_8_7 q_8_8 rfl rfl ⟨Nat.le_of_ble_eq_true rfl, Nat.le_of_ble_eq_true rfl⟩ ⟨rfl, rfl⟩ ⟨Nat.le_of_ble_eq_true rfl, Nat.le_of_ble_eq_true rfl⟩ (Nat.le_of_ble_eq_true rfl)) (fun v4 u4 hp4 => ?_)
  obtain ⟨rfl, rfl⟩ := hp4
  show Xw K G 0 0 _ n V R 7 [(0, .ref (aG G 0)), (1, .int (iI q)), (2, .int (iI a)), (3, .int (iI s)), (4, .int (iI z))] [.int (iI (bI (0 < V 1 2)))]
  refine x_ifne_b C dX11_fault_7 (tgt := 13) (by decide) (fun h7 => ?_) (fun h7 => ?_)
  · skip
    refine x_iload_n C 1 dX11_fault_13 rfl rfl ?_
    refine x_iconst C dX11_fault_14 ?_
    refine x_bipush C dX11_fault_15 (w := 6) (by decide) ?_
    refine x_runU (r_callS C (ce_X11_within) (m_X11_within G n V R (q) (0) (6) (by first | assumption | omega | decide) (by first | assumption | omega | decide) (by first | assumption | omega | decide)) dX11_fault_17 q_5_4 q_5_5 rfl rfl ⟨Nat.le_of_ble_eq_true rfl, Nat.le_of_ble_eq_true rfl⟩ ⟨rfl, rfl⟩ ⟨Nat.le_of_ble_eq_true rfl, Nat.le_of_ble_eq_true rfl⟩ (Nat.le_of_ble_eq_true rfl)) (fun v17 u17 hp17 => ?_)
    obtain ⟨rfl, rfl⟩ := hp17
    show Xw K G 0 0 _ n V R 20 [(0, .ref (aG G 0)), (1, .int (iI q)), (2, .int (iI a)), (3, .int (iI s)), (4, .int (iI z))] [.int (iI (bI (0 ≤ q ∧ q ≤ 6)))]
    refine x_ifeq_b C dX11_fault_20 (tgt := 53) (by decide) (fun h20 => ?_) (fun h20 => ?_)
    · skip
      refine x_bipush C dX11_fault_53 (w := -2) (by decide) ?_
      refine x_wid (cells' := 1) (slots' := 3) (by first | decide | omega) (by first | decide | omega) ?_
      refine x_iret C dX11_fault_55 ⟨_, _, _, _, rfl, rfl, ?_⟩
      · first | exact Or.inl ⟨by omega, rfl, rfl, rfl, rfl⟩ | exact Or.inr (Or.inl ⟨by omega, by omega, rfl, rfl, rfl, rfl⟩) | exact Or.inr (Or.inr (Or.inl ⟨by omega, by omega, by omega, rfl, rfl, rfl, rfl⟩)) | exact Or.inr (Or.inr (Or.inr ⟨by omega, by omega, by omega, by rw [e1n]; omega, rfl, ⟨_, hq80_0, by rw [e1n]⟩, by rw [e1n]⟩))
    · skip
      refine x_iload_n C 2 dX11_fault_23 rfl rfl ?_
      refine x_iconst C dX11_fault_24 ?_
      refine x_bipush C dX11_fault_25 (w := 7) (by decide) ?_
      refine x_runU (r_callS C (ce_X11_within) (m_X11_within G n V R (a) (0) (7) (by first | assumption | omega | decide) (by first | assumption | omega | decide) (by first | assumption | omega | decide)) dX11_fault_27 q_5_4 q_5_5 rfl rfl ⟨Nat.le_of_ble_eq_true rfl, Nat.le_of_ble_eq_true rfl⟩ ⟨rfl, rfl⟩ ⟨Nat.le_of_ble_eq_true rfl, Nat.le_of_ble_eq_true rfl⟩ (Nat.le_of_ble_eq_true rfl)) (fun v27 u27 hp27 => ?_)
      obtain ⟨rfl, rfl⟩ := hp27
      show Xw K G 0 0 _ n V R 30 [(0, .ref (aG G 0)), (1, .int (iI q)), (2, .int (iI a)), (3, .int (iI s)), (4, .int (iI z))] [.int (iI (bI (0 ≤ a ∧ a ≤ 7)))]
      refine x_ifeq_b C dX11_fault_30 (tgt := 53) (by decide) (fun h30 => ?_) (fun h30 => ?_)
      · skip
        refine x_bipush C dX11_fault_53 (w := -2) (by decide) ?_
        refine x_wid (cells' := 1) (slots' := 3) (by first | decide | omega) (by first | decide | omega) ?_
        refine x_iret C dX11_fault_55 ⟨_, _, _, _, rfl, rfl, ?_⟩
        · first | exact Or.inl ⟨by omega, rfl, rfl, rfl, rfl⟩ | exact Or.inr (Or.inl ⟨by omega, by omega, rfl, rfl, rfl, rfl⟩) | exact Or.inr (Or.inr (Or.inl ⟨by omega, by omega, by omega, rfl, rfl, rfl, rfl⟩)) | exact Or.inr (Or.inr (Or.inr ⟨by omega, by omega, by omega, by rw [e1n]; omega, rfl, ⟨_, hq80_0, by rw [e1n]⟩, by rw [e1n]⟩))
      · skip
        refine x_iload_n C 3 dX11_fault_33 rfl rfl ?_
        refine x_iconst C dX11_fault_34 ?_
        refine x_bipush C dX11_fault_35 (w := 7) (by decide) ?_
        refine x_runU (r_callS C (ce_X11_within) (m_X11_within G n V R (s) (0) (7) (by first | assumption | omega | decide) (by first | assumption | omega | decide) (by first | assumption | omega | decide)) dX11_fault_37 q_5_4 q_5_5 rfl rfl ⟨Nat.le_of_ble_eq_true rfl, Nat.le_of_ble_eq_true rfl⟩ ⟨rfl, rfl⟩ ⟨Nat.le_of_ble_eq_true rfl, Nat.le_of_ble_eq_true rfl⟩ (Nat.le_of_ble_eq_true rfl)) (fun v37 u37 hp37 => ?_)
        obtain ⟨rfl, rfl⟩ := hp37
        show Xw K G 0 0 _ n V R 40 [(0, .ref (aG G 0)), (1, .int (iI q)), (2, .int (iI a)), (3, .int (iI s)), (4, .int (iI z))] [.int (iI (bI (0 ≤ s ∧ s ≤ 7)))]
        refine x_ifeq_b C dX11_fault_40 (tgt := 53) (by decide) (fun h40 => ?_) (fun h40 => ?_)
        · skip
          refine x_bipush C dX11_fault_53 (w := -2) (by decide) ?_
          refine x_wid (cells' := 1) (slots' := 3) (by first | decide | omega) (by first | decide | omega) ?_
          refine x_iret C dX11_fault_55 ⟨_, _, _, _, rfl, rfl, ?_⟩
          · first | exact Or.inl ⟨by omega, rfl, rfl, rfl, rfl⟩ | exact Or.inr (Or.inl ⟨by omega, by omega, rfl, rfl, rfl, rfl⟩) | exact Or.inr (Or.inr (Or.inl ⟨by omega, by omega, by omega, rfl, rfl, rfl, rfl⟩)) | exact Or.inr (Or.inr (Or.inr ⟨by omega, by omega, by omega, by rw [e1n]; omega, rfl, ⟨_, hq80_0, by rw [e1n]⟩, by rw [e1n]⟩))
        · skip
          refine x_iload C 4 dX11_fault_43 rfl ?_
          refine x_iconst C dX11_fault_45 ?_
          refine x_iconst C dX11_fault_46 ?_
          refine x_runU (r_callS C (ce_X11_within) (m_X11_within G n V R (z) (1) (4) (by first | assumption | omega | decide) (by first | assumption | omega | decide) (by first | assumption | omega | decide)) dX11_fault_47 q_5_4 q_5_5 rfl rfl ⟨Nat.le_of_ble_eq_true rfl, Nat.le_of_ble_eq_true rfl⟩ ⟨rfl, rfl⟩ ⟨Nat.le_of_ble_eq_true rfl, Nat.le_of_ble_eq_true rfl⟩ (Nat.le_of_ble_eq_true rfl)) (fun v47 u47 hp47 => ?_)
          obtain ⟨rfl, rfl⟩ := hp47
          show Xw K G 0 0 _ n V R 50 [(0, .ref (aG G 0)), (1, .int (iI q)), (2, .int (iI a)), (3, .int (iI s)), (4, .int (iI z))] [.int (iI (bI (1 ≤ z ∧ z ≤ 4)))]
          refine x_ifne_b C dX11_fault_50 (tgt := 56) (by decide) (fun h50 => ?_) (fun h50 => ?_)
          · skip
            refine x_aload_n C 0 dX11_fault_56 rfl rfl ?_
            refine x_getr C ok_Class 0 0 (d := 1) dX11_fault_57 (lt67 hn rfl) rfl (by decide) rfl q_0_16 rfl (kz := 0) rfl (lr_0_0 hLR) ?_
            refine x_geti C ok_Yard 1 5 dX11_fault_60 (lt67 hn rfl) rfl (by decide) rfl q_8_5 rfl (kz := 5) rfl (fun rg60 => ?_)
            refine x_bipush C dX11_fault_63 (w := 8) (by decide) ?_
            refine x_icmp_lt C dX11_fault_65 (tgt := 71) (by decide) (by first | assumption | (constructor <;> omega)) (by first | assumption | (constructor <;> omega)) (fun h65 => ?_) (fun h65 => ?_)
            · skip
              refine x_aload_n C 0 dX11_fault_71 rfl rfl ?_
              refine x_getr C ok_Class 0 0 (d := 1) dX11_fault_72 (lt67 hn rfl) rfl (by decide) rfl q_0_16 rfl (kz := 0) rfl (lr_0_0 hLR) ?_
              refine x_iload_n C 1 dX11_fault_75 rfl rfl ?_
              refine x_iload_n C 2 dX11_fault_76 rfl rfl ?_
              refine x_iload_n C 3 dX11_fault_77 rfl rfl ?_
              refine x_iload C 4 dX11_fault_78 rfl ?_
              refine x_runU (r_callS C (ce_X11_newFault) (m_X11_newFault G n V R (q) (a) (s) (z) hn hLR (by first | assumption | omega | decide) (by first | assumption | omega | decide) (by first | assumption | omega | decide) (by first | assumption | omega | decide)) dX11_fault_80 q_12_21 q_12_22 rfl rfl ⟨Nat.le_of_ble_eq_true rfl, Nat.le_of_ble_eq_true rfl⟩ ⟨rfl, rfl⟩ ⟨Nat.le_of_ble_eq_true rfl, Nat.le_of_ble_eq_true rfl⟩ (Nat.le_of_ble_eq_true rfl)) (fun v80 u80 hp80 => ?_)
              obtain ⟨V1_80, rfl, rfl, hq80_0⟩ := hp80
              show Xw K G (0 + 1) (0 + 3) _ (n + 1) V1_80 R 83 [(0, .ref (aG G 0)), (1, .int (iI q)), (2, .int (iI a)), (3, .int (iI s)), (4, .int (iI z))] [.ref (aG G n), .ref (aG G 1)]
              have e1n : V1_80 1 = V 1 := hq80_0.2.2.2.2 1 (by omega)
              have hLR2 : LR (u2 R (1 + 1) (V1_80 1 5) (some n)) := LR_fr (a := 1) (by omega) hLR (fun q a => u2_n a)
              refine x_runU (r_callV C ok_Yard 1 (by omega) rfl (ce_X10_addFault) (m_X10_addFault G (n + 1) V1_80 R (1) (n) (by omega) hLR (by first | assumption | omega | decide) (by first | assumption | omega | decide) (by first | assumption | omega | decide) (by rw [e1n]; omega)) rfl dX11_fault_83 q_15_8 q_15_9 q_15_10 rfl rfl ⟨Nat.le_of_ble_eq_true rfl, Nat.le_of_ble_eq_true rfl⟩ ⟨rfl, rfl⟩ ⟨Nat.le_of_ble_eq_true rfl, Nat.le_of_ble_eq_true rfl⟩ (Nat.le_of_ble_eq_true rfl)) (fun v83 u83 hp83 => ?_)
              obtain ⟨rfl, rfl⟩ := hp83
              show Xw K G (0 + 1) (0 + 3) _ (n + 1) (u2 V1_80 1 5 (V1_80 1 5 + 1)) (u2 R (1 + 1) (V1_80 1 5) (some n)) 86 [(0, .ref (aG G 0)), (1, .int (iI q)), (2, .int (iI a)), (3, .int (iI s)), (4, .int (iI z))] []
              refine x_aload_n C 0 dX11_fault_86 rfl rfl ?_
              refine x_getr C ok_Class 0 3 (d := 11) dX11_fault_87 (by omega) rfl (by decide) rfl q_0_22 rfl (kz := 3) rfl (by exact (lr_0_3 hLR2)) ?_
              refine x_iconst C dX11_fault_90 ?_
              refine x_puti C ok_Saw 11 0 dX11_fault_91 (by omega) rfl (by decide) rfl q_5_3 rfl rfl (Or.inr ⟨rfl, by first | exact Or.inl rfl | exact Or.inr rfl | omega⟩) (by first | assumption | (constructor <;> omega)) (kz := 0) rfl ?_
              refine x_aload_n C 0 dX11_fault_94 rfl rfl ?_
              refine x_getr C ok_Class 0 0 (d := 1) dX11_fault_95 (by omega) rfl (by decide) rfl q_0_16 rfl (kz := 0) rfl (by exact (lr_0_0 hLR2)) ?_
              refine x_geti C ok_Yard 1 5 dX11_fault_98 (by omega) rfl (by decide) rfl q_8_5 rfl (kz := 5) rfl (fun rg98 => ?_)
              refine x_top (b := (V1_80 1 5 + 1)) (by first | rfl | (simp only [u2_at]; simp) | (simp only [u2_at]; first | (rw [if_neg (by omega)]) | omega) | (repeat rw [u2_at, if_neg (by omega)])) ?_
              refine x_iconst C dX11_fault_101 ?_
              refine x_isub C dX11_fault_102 ?_
              refine x_wid (cells' := 1) (slots' := 3) (by first | decide | omega) (by first | decide | omega) ?_
              refine x_iret C dX11_fault_103 ⟨_, _, _, _, rfl, rfl, ?_⟩
              · first | exact Or.inl ⟨by omega, rfl, rfl, rfl, rfl⟩ | exact Or.inr (Or.inl ⟨by omega, by omega, rfl, rfl, rfl, rfl⟩) | exact Or.inr (Or.inr (Or.inl ⟨by omega, by omega, by omega, rfl, rfl, rfl, rfl⟩)) | exact Or.inr (Or.inr (Or.inr ⟨by omega, by omega, by omega, by rw [e1n]; omega, rfl, ⟨_, hq80_0, by rw [e1n]⟩, by rw [e1n]⟩))
            · skip
              refine x_bipush C dX11_fault_68 (w := -4) (by decide) ?_
              refine x_wid (cells' := 1) (slots' := 3) (by first | decide | omega) (by first | decide | omega) ?_
              refine x_iret C dX11_fault_70 ⟨_, _, _, _, rfl, rfl, ?_⟩
              · first | exact Or.inl ⟨by omega, rfl, rfl, rfl, rfl⟩ | exact Or.inr (Or.inl ⟨by omega, by omega, rfl, rfl, rfl, rfl⟩) | exact Or.inr (Or.inr (Or.inl ⟨by omega, by omega, by omega, rfl, rfl, rfl, rfl⟩)) | exact Or.inr (Or.inr (Or.inr ⟨by omega, by omega, by omega, by rw [e1n]; omega, rfl, ⟨_, hq80_0, by rw [e1n]⟩, by rw [e1n]⟩))
          · skip
            refine x_bipush C dX11_fault_53 (w := -2) (by decide) ?_
            refine x_wid (cells' := 1) (slots' := 3) (by first | decide | omega) (by first | decide | omega) ?_
            refine x_iret C dX11_fault_55 ⟨_, _, _, _, rfl, rfl, ?_⟩
            · first | exact Or.inl ⟨by omega, rfl, rfl, rfl, rfl⟩ | exact Or.inr (Or.inl ⟨by omega, by omega, rfl, rfl, rfl, rfl⟩) | exact Or.inr (Or.inr (Or.inl ⟨by omega, by omega, by omega, rfl, rfl, rfl, rfl⟩)) | exact Or.inr (Or.inr (Or.inr ⟨by omega, by omega, by omega, by rw [e1n]; omega, rfl, ⟨_, hq80_0, by rw [e1n]⟩, by rw [e1n]⟩))
  · skip
    refine x_bipush C dX11_fault_10 (w := -3) (by decide) ?_
    refine x_wid (cells' := 1) (slots' := 3) (by first | decide | omega) (by first | decide | omega) ?_
    refine x_iret C dX11_fault_12 ⟨_, _, _, _, rfl, rfl, ?_⟩
    · first | exact Or.inl ⟨by omega, rfl, rfl, rfl, rfl⟩ | exact Or.inr (Or.inl ⟨by omega, by omega, rfl, rfl, rfl, rfl⟩) | exact Or.inr (Or.inr (Or.inl ⟨by omega, by omega, by omega, rfl, rfl, rfl, rfl⟩)) | exact Or.inr (Or.inr (Or.inr ⟨by omega, by omega, by omega, by rw [e1n]; omega, rfl, ⟨_, hq80_0, by rw [e1n]⟩, by rw [e1n]⟩))
set_option maxRecDepth 100000 in
set_option maxHeartbeats 4000000 in
theorem m_X11_isSheet (G : GS) (n : Nat) (V : Nat → Int → Int) (R : Nat → Int → Option Nat) (s : Int) (gs : Rg s) : Cn G yX11_isSheet cX11_isSheet 1 (some .boolean) (rmk 2 0 0 38) [.int (iI s)] n V R 0 0 (fun vv uu => vv = some (.int (iI (bI (0 ≤ s ∧ s ≤ 3)))) ∧ uu = (n, V, R)) := by
  refine Cn.of (by decide) (Nat.le_of_ble_eq_true rfl) (fun K C hct => ?_)
  show Xw K G 0 0 _ n V R 0 [(0, .int (iI s))] []
  refine x_iload_n C 0 dX11_isSheet_0 rfl rfl ?_
  refine x_iconst C dX11_isSheet_1 ?_
  refine x_iconst C dX11_isSheet_2 ?_
  refine x_runU (r_callS C (ce_X11_within) (m_X11_within G n V R (s) (0) (3) (by first | assumption | omega | decide) (by first | assumption | omega | decide) (by first | assumption | omega | decide)) dX11_isSheet_3 q_5_4 q_5_5 rfl rfl ⟨Nat.le_of_ble_eq_true rfl, Nat.le_of_ble_eq_true rfl⟩ ⟨rfl, rfl⟩ ⟨Nat.le_of_ble_eq_true rfl, Nat.le_of_ble_eq_true rfl⟩ (Nat.le_of_ble_eq_true rfl)) (fun v3 u3 hp3 => ?_)
  obtain ⟨rfl, rfl⟩ := hp3
  show Xw K G 0 0 _ n V R 6 [(0, .int (iI s))] [.int (iI (bI (0 ≤ s ∧ s ≤ 3)))]
  refine x_zret C (bI_01 _) dX11_isSheet_6 ⟨rfl, rfl⟩
set_option maxRecDepth 100000 in
set_option maxHeartbeats 4000000 in
theorem m_X11_hasItems (G : GS) (n : Nat) (V : Nat → Int → Int) (R : Nat → Int → Option Nat) (s : Int) (j : Int) (k : Int) (hn : 67 ≤ n) (hLR : LR R) (gj : Rg j) (gk : Rg k) (hs : 0 ≤ s ∧ s ≤ 3) (hsz : ∀ z, 0 ≤ z → z ≤ 3 → (-1 ≤ V 37 z ∧ V 37 z ≤ 1) ∧ (0 ≤ V 38 z ∧ V 38 z ≤ 40)) : Cn G yX11_hasItems cX11_hasItems 4 (some .boolean) (rmk 2 0 0 38) [.ref (aG G 0), .int (iI s), .int (iI j), .int (iI k)] n V R 0 0 (fun vv uu => vv = some (.int (iI (bI ((0 ≤ k ∧ k ≤ V 38 s) ∧ (0 ≤ j ∧ j ≤ V 38 s - k))))) ∧ uu = (n, V, R)) := by
  have hz := (hsz s hs.1 hs.2).2
  refine Cn.of (by decide) (Nat.le_of_ble_eq_true rfl) (fun K C hct => ?_)
  show Xw K G 0 0 _ n V R 0 [(0, .ref (aG G 0)), (1, .int (iI s)), (2, .int (iI j)), (3, .int (iI k))] []
  refine x_iload_n C 3 dX11_hasItems_0 rfl rfl ?_
  refine x_iconst C dX11_hasItems_1 ?_
  refine x_aload_n C 0 dX11_hasItems_2 rfl rfl ?_
  refine x_getr C ok_Class 0 9 (d := 38) dX11_hasItems_3 (lt67 hn rfl) rfl (by decide) rfl q_1_6 rfl (kz := 9) rfl (lr_0_9 hLR) ?_
  refine x_iload_n C 1 dX11_hasItems_6 rfl rfl ?_
  refine x_iald C 38 dX11_hasItems_7 (lt67 hn rfl) rfl (by refine ⟨?_, ?_⟩ <;> omega) (fun rg7 => ?_)
  refine x_runU (r_callS C (ce_X11_within) (m_X11_within G n V R (k) (0) (V 38 s) (by first | assumption | omega | decide) (by first | assumption | omega | decide) (by first | assumption | omega | decide)) dX11_hasItems_8 q_5_4 q_5_5 rfl rfl ⟨Nat.le_of_ble_eq_true rfl, Nat.le_of_ble_eq_true rfl⟩ ⟨rfl, rfl⟩ ⟨Nat.le_of_ble_eq_true rfl, Nat.le_of_ble_eq_true rfl⟩ (Nat.le_of_ble_eq_true rfl)) (fun v8 u8 hp8 => ?_)
  obtain ⟨rfl, rfl⟩ := hp8
  show Xw K G 0 0 _ n V R 11 [(0, .ref (aG G 0)), (1, .int (iI s)), (2, .int (iI j)), (3, .int (iI k))] [.int (iI (bI (0 ≤ k ∧ k ≤ (V 38 s))))]
  refine x_ifeq_b C dX11_hasItems_11 (tgt := 34) (by decide) (fun h11 => ?_) (fun h11 => ?_)
  · skip
    refine x_iconst C dX11_hasItems_34 ?_
    refine x_zret C (Or.inl rfl) dX11_hasItems_35 ⟨bI_rf (by omega), rfl⟩
  · skip
    refine x_iload_n C 2 dX11_hasItems_14 rfl rfl ?_
    refine x_iconst C dX11_hasItems_15 ?_
    refine x_aload_n C 0 dX11_hasItems_16 rfl rfl ?_
    refine x_getr C ok_Class 0 9 (d := 38) dX11_hasItems_17 (lt67 hn rfl) rfl (by decide) rfl q_1_6 rfl (kz := 9) rfl (lr_0_9 hLR) ?_
    refine x_iload_n C 1 dX11_hasItems_20 rfl rfl ?_
    refine x_iald C 38 dX11_hasItems_21 (lt67 hn rfl) rfl (by refine ⟨?_, ?_⟩ <;> omega) (fun rg21 => ?_)
    refine x_iload_n C 3 dX11_hasItems_22 rfl rfl ?_
    refine x_isub C dX11_hasItems_23 ?_
    refine x_runU (r_callS C (ce_X11_within) (m_X11_within G n V R (j) (0) ((V 38 s) - k) (by first | assumption | omega | decide) (by first | assumption | omega | decide) (by first | assumption | omega | decide)) dX11_hasItems_24 q_5_4 q_5_5 rfl rfl ⟨Nat.le_of_ble_eq_true rfl, Nat.le_of_ble_eq_true rfl⟩ ⟨rfl, rfl⟩ ⟨Nat.le_of_ble_eq_true rfl, Nat.le_of_ble_eq_true rfl⟩ (Nat.le_of_ble_eq_true rfl)) (fun v24 u24 hp24 => ?_)
    obtain ⟨rfl, rfl⟩ := hp24
    show Xw K G 0 0 _ n V R 27 [(0, .ref (aG G 0)), (1, .int (iI s)), (2, .int (iI j)), (3, .int (iI k))] [.int (iI (bI (0 ≤ j ∧ j ≤ ((V 38 s) - k))))]
    refine x_ifeq_b C dX11_hasItems_27 (tgt := 34) (by decide) (fun h27 => ?_) (fun h27 => ?_)
    · skip
      refine x_iconst C dX11_hasItems_34 ?_
      refine x_zret C (Or.inl rfl) dX11_hasItems_35 ⟨bI_rf (by omega), rfl⟩
    · skip
      refine x_iconst C dX11_hasItems_30 ?_
      refine x_goto C dX11_hasItems_31 (tgt := 35) (by decide) ?_
      refine x_zret C (Or.inr rfl) dX11_hasItems_35 ⟨bI_rt (by omega), rfl⟩
set_option maxRecDepth 100000 in
set_option maxHeartbeats 4000000 in
theorem m_X11_sheet (G : GS) (n : Nat) (V : Nat → Int → Int) (R : Nat → Int → Option Nat) (s : Int) (w : Int) (m : Int) (hn : 67 ≤ n) (hLR : LR R) (gs : Rg s) (gw : Rg w) (gm : Rg m) : Cn G yX11_sheet cX11_sheet 5 (some .int) (rmk 3 0 0 58) [.ref (aG G 0), .int (iI s), .int (iI w), .int (iI m)] n V R 0 0 (fun vv uu => ∃ (r : Int), ∃ (V1 : Nat → Int → Int), vv = some (.int (iI r)) ∧ uu = (n, V1, R) ∧ (((¬ (0 ≤ s ∧ s ≤ 3) ∨ ¬ (-1 ≤ w ∧ w ≤ 1) ∨ (0 ≤ w ∧ 40 < m)) ∧ r = -2 ∧ V1 = V) ∨ (¬ (¬ (0 ≤ s ∧ s ≤ 3) ∨ ¬ (-1 ≤ w ∧ w ≤ 1) ∨ (0 ≤ w ∧ 40 < m)) ∧ 0 ≤ w ∧ m < 0 ∧ r = -14 ∧ V1 = V) ∨ (¬ (¬ (0 ≤ s ∧ s ≤ 3) ∨ ¬ (-1 ≤ w ∧ w ≤ 1) ∨ (0 ≤ w ∧ 40 < m)) ∧ w = -1 ∧ r = 1 ∧ V1 = u2 V 37 s (-1)) ∨ (¬ (¬ (0 ≤ s ∧ s ≤ 3) ∨ ¬ (-1 ≤ w ∧ w ≤ 1) ∨ (0 ≤ w ∧ 40 < m)) ∧ 0 ≤ w ∧ 0 ≤ m ∧ r = 1 ∧ V1 37 = u1 (V 37) s w ∧ V1 38 = u1 (V 38) s m ∧ (∀ z, V1 39 z = if 40 * s ≤ z ∧ z < 40 * s + m then 0 else V 39 z) ∧ ∀ c, c ≠ 37 → c ≠ 38 → c ≠ 39 → V1 c = V c))) := by
  refine Cn.of (by decide) (Nat.le_of_ble_eq_true rfl) (fun K C hct => ?_)
  show Xw K G 0 0 _ n V R 0 [(0, .ref (aG G 0)), (1, .int (iI s)), (2, .int (iI w)), (3, .int (iI m))] []
  refine x_iload_n C 1 dX11_sheet_0 rfl rfl ?_
  refine x_runU (r_callS C (ce_X11_isSheet) (m_X11_isSheet G n V R (s) (by first | assumption | omega | decide)) dX11_sheet_1 q_47_16 q_47_17 rfl rfl ⟨Nat.le_of_ble_eq_true rfl, Nat.le_of_ble_eq_true rfl⟩ ⟨rfl, rfl⟩ ⟨Nat.le_of_ble_eq_true rfl, Nat.le_of_ble_eq_true rfl⟩ (Nat.le_of_ble_eq_true rfl)) (fun v1 u1 hp1 => ?_)
  obtain ⟨rfl, rfl⟩ := hp1
  show Xw K G 0 0 _ n V R 4 [(0, .ref (aG G 0)), (1, .int (iI s)), (2, .int (iI w)), (3, .int (iI m))] [.int (iI (bI (0 ≤ s ∧ s ≤ 3)))]
  refine x_ifeq_b C dX11_sheet_4 (tgt := 16) (by decide) (fun h4 => ?_) (fun h4 => ?_)
  · skip
    refine x_bipush C dX11_sheet_16 (w := -2) (by decide) ?_
    refine x_iret C dX11_sheet_18 ⟨_, _, rfl, rfl, ?_⟩
    · first | exact Or.inl ⟨by omega, rfl, rfl⟩ | exact Or.inr (Or.inl ⟨by omega, by omega, by omega, rfl, rfl⟩) | exact Or.inr (Or.inr (Or.inl ⟨by omega, by omega, rfl, rfl⟩)) | exact Or.inr (Or.inr (Or.inr ⟨by omega, by omega, by omega, rfl, h37.1, h37.2, by rw [show m = j by omega]; exact h39, hFr⟩))
  · skip
    refine x_iload_n C 2 dX11_sheet_7 rfl rfl ?_
    refine x_iconst C dX11_sheet_8 ?_
    refine x_iconst C dX11_sheet_9 ?_
    refine x_runU (r_callS C (ce_X11_within) (m_X11_within G n V R (w) (-1) (1) (by first | assumption | omega | decide) (by first | assumption | omega | decide) (by first | assumption | omega | decide)) dX11_sheet_10 q_5_4 q_5_5 rfl rfl ⟨Nat.le_of_ble_eq_true rfl, Nat.le_of_ble_eq_true rfl⟩ ⟨rfl, rfl⟩ ⟨Nat.le_of_ble_eq_true rfl, Nat.le_of_ble_eq_true rfl⟩ (Nat.le_of_ble_eq_true rfl)) (fun v10 u10 hp10 => ?_)
    obtain ⟨rfl, rfl⟩ := hp10
    show Xw K G 0 0 _ n V R 13 [(0, .ref (aG G 0)), (1, .int (iI s)), (2, .int (iI w)), (3, .int (iI m))] [.int (iI (bI ((-1) ≤ w ∧ w ≤ 1)))]
    refine x_ifne_b C dX11_sheet_13 (tgt := 19) (by decide) (fun h13 => ?_) (fun h13 => ?_)
    · skip
      refine x_iload_n C 2 dX11_sheet_19 rfl rfl ?_
      refine x_iconst C dX11_sheet_20 ?_
      refine x_icmp_ne C dX11_sheet_21 (tgt := 33) (by decide) (by first | assumption | (constructor <;> omega)) (by first | assumption | (constructor <;> omega)) (fun h21 => ?_) (fun h21 => ?_)
      · skip
        refine x_iload_n C 3 dX11_sheet_33 rfl rfl ?_
        refine x_bipush C dX11_sheet_34 (w := 40) (by decide) ?_
        refine x_icmp_le C dX11_sheet_36 (tgt := 42) (by decide) (by first | assumption | (constructor <;> omega)) (by first | assumption | (constructor <;> omega)) (fun h36 => ?_) (fun h36 => ?_)
        · skip
          refine x_iload_n C 3 dX11_sheet_42 rfl rfl ?_
          refine x_if_ge C dX11_sheet_43 (tgt := 49) (by decide) (by first | assumption | (constructor <;> omega)) (fun h43 => ?_) (fun h43 => ?_)
          · skip
            refine x_aload_n C 0 dX11_sheet_49 rfl rfl ?_
            refine x_getr C ok_Class 0 8 (d := 37) dX11_sheet_50 (lt67 hn rfl) rfl (by decide) rfl q_1_5 rfl (kz := 8) rfl (lr_0_8 hLR) ?_
            refine x_iload_n C 1 dX11_sheet_53 rfl rfl ?_
            refine x_iload_n C 2 dX11_sheet_54 rfl rfl ?_
            refine x_iast C 37 dX11_sheet_55 (lt67 hn rfl) rfl (by refine ⟨?_, ?_⟩ <;> omega) (by first | assumption | (constructor <;> omega)) ?_
            refine x_aload_n C 0 dX11_sheet_56 rfl rfl ?_
            refine x_getr C ok_Class 0 9 (d := 38) dX11_sheet_57 (lt67 hn rfl) rfl (by decide) rfl q_1_6 rfl (kz := 9) rfl (lr_0_9 hLR) ?_
            refine x_iload_n C 1 dX11_sheet_60 rfl rfl ?_
            refine x_iload_n C 3 dX11_sheet_61 rfl rfl ?_
            refine x_iast C 38 dX11_sheet_62 (lt67 hn rfl) rfl (by refine ⟨?_, ?_⟩ <;> omega) (by first | assumption | (constructor <;> omega)) ?_
            refine x_iconst C dX11_sheet_63 ?_
            refine x_istore C dX11_sheet_64 (by decide) (lv' := [(0, .ref (aG G 0)), (1, .int (iI s)), (2, .int (iI w)), (3, .int (iI m)), (4, .int (iI 0))]) rfl ?_
            have lp_66 : ∀ (fuel : Nat) (j : Int) (V2 : Nat → Int → Int), (0 ≤ j ∧ j ≤ m) → (V2 37 = u1 (V 37) s w ∧ V2 38 = u1 (V 38) s m) → (∀ z, V2 39 z = if 40 * s ≤ z ∧ z < 40 * s + j then 0 else V 39 z) → (∀ c, c ≠ 37 → c ≠ 38 → c ≠ 39 → V2 c = V c) → ((42 : Int) - j) < (fuel : Int) → Xw K G 0 0 (EndQ K G 0 0 (fun vv uu => ∃ (r : Int), ∃ (V1 : Nat → Int → Int), vv = some (.int (iI r)) ∧ uu = (n, V1, R) ∧ (((¬ (0 ≤ s ∧ s ≤ 3) ∨ ¬ (-1 ≤ w ∧ w ≤ 1) ∨ (0 ≤ w ∧ 40 < m)) ∧ r = -2 ∧ V1 = V) ∨ (¬ (¬ (0 ≤ s ∧ s ≤ 3) ∨ ¬ (-1 ≤ w ∧ w ≤ 1) ∨ (0 ≤ w ∧ 40 < m)) ∧ 0 ≤ w ∧ m < 0 ∧ r = -14 ∧ V1 = V) ∨ (¬ (¬ (0 ≤ s ∧ s ≤ 3) ∨ ¬ (-1 ≤ w ∧ w ≤ 1) ∨ (0 ≤ w ∧ 40 < m)) ∧ w = -1 ∧ r = 1 ∧ V1 = u2 V 37 s (-1)) ∨ (¬ (¬ (0 ≤ s ∧ s ≤ 3) ∨ ¬ (-1 ≤ w ∧ w ≤ 1) ∨ (0 ≤ w ∧ 40 < m)) ∧ 0 ≤ w ∧ 0 ≤ m ∧ r = 1 ∧ V1 37 = u1 (V 37) s w ∧ V1 38 = u1 (V 38) s m ∧ (∀ z, V1 39 z = if 40 * s ≤ z ∧ z < 40 * s + m then 0 else V 39 z) ∧ ∀ c, c ≠ 37 → c ≠ 38 → c ≠ 39 → V1 c = V c)))) n V2 R 66 [(0, .ref (aG G 0)), (1, .int (iI s)), (2, .int (iI w)), (3, .int (iI m)), (4, .int (iI j))] [] := by
              intro fuel66
              induction fuel66 with
              | zero => intro j V2 hj h37 h39 hFr hfu66; exfalso; omega
              | succ fuel66 ih66 =>
                intro j V2 hj h37 h39 hFr hfu66
                refine x_iload C 4 dX11_sheet_66 rfl ?_
                refine x_iload_n C 3 dX11_sheet_68 rfl rfl ?_
                refine x_icmp_ge C dX11_sheet_69 (tgt := 91) (by decide) (by first | assumption | (constructor <;> omega)) (by first | assumption | (constructor <;> omega)) (fun h69 => ?_) (fun h69 => ?_)
                · skip
                  refine x_iconst C dX11_sheet_91 ?_
                  refine x_iret C dX11_sheet_92 ⟨_, _, rfl, rfl, ?_⟩
                  · first | exact Or.inl ⟨by omega, rfl, rfl⟩ | exact Or.inr (Or.inl ⟨by omega, by omega, by omega, rfl, rfl⟩) | exact Or.inr (Or.inr (Or.inl ⟨by omega, by omega, rfl, rfl⟩)) | exact Or.inr (Or.inr (Or.inr ⟨by omega, by omega, by omega, rfl, h37.1, h37.2, by rw [show m = j by omega]; exact h39, hFr⟩))
                · skip
                  refine x_aload_n C 0 dX11_sheet_72 rfl rfl ?_
                  refine x_getr C ok_Class 0 10 (d := 39) dX11_sheet_73 (lt67 hn rfl) rfl (by decide) rfl q_1_8 rfl (kz := 10) rfl (lr_0_10 hLR) ?_
                  refine x_bipush C dX11_sheet_76 (w := 40) (by decide) ?_
                  refine x_iload_n C 1 dX11_sheet_78 rfl rfl ?_
                  refine x_imul C dX11_sheet_79 ?_
                  refine x_iload C 4 dX11_sheet_80 rfl ?_
                  refine x_iadd C dX11_sheet_82 ?_
                  refine x_lconst C dX11_sheet_83 (w := 0) (by decide) ?_
                  refine x_last C 39 dX11_sheet_84 (lt67 hn rfl) rfl (by refine ⟨?_, ?_⟩ <;> omega) (by first | assumption | (constructor <;> omega)) ?_
                  refine x_iinc C 4 dX11_sheet_85 rfl (by decide) (lv' := [(0, .ref (aG G 0)), (1, .int (iI s)), (2, .int (iI w)), (3, .int (iI m)), (4, .int (iI (j + 1)))]) rfl ?_
                  refine x_goto C dX11_sheet_88 (tgt := 66) (by decide) ?_
                  exact ih66 ((j + 1)) ((u2 V2 39 ((40 * s) + j) 0)) (by omega) (by rw [u2_n (by decide), u2_n (by decide)]; exact h37) (by exact fun z => by (rw [u2_at]; by_cases e : z = 40 * s + j; (rw [if_pos ⟨rfl, e⟩, if_pos (by omega)]); (rw [if_neg (fun x => e x.2), h39 z]; by_cases e2 : 40 * s ≤ z ∧ z < 40 * s + j; (rw [if_pos e2, if_pos (by omega)]); (rw [if_neg e2, if_neg (by omega)])))) (by exact fun c a b d => by rw [u2_n d]; exact hFr c a b d) (by omega)
            exact lp_66 (((42 : Int) - 0).toNat + 1) (0) ((u2 (u2 V 37 s w) 38 s m)) (by omega) (by exact ⟨by rw [u2_n (by decide), u2_s], by rw [u2_s, u2_n (by decide)]⟩) (by exact fun z => by rw [u2_n (by decide), u2_n (by decide), if_neg (by omega)]) (by exact fun c a b _ => by rw [u2_n b, u2_n a]) (by omega)
          · skip
            refine x_bipush C dX11_sheet_46 (w := -14) (by decide) ?_
            refine x_iret C dX11_sheet_48 ⟨_, _, rfl, rfl, ?_⟩
            · first | exact Or.inl ⟨by omega, rfl, rfl⟩ | exact Or.inr (Or.inl ⟨by omega, by omega, by omega, rfl, rfl⟩) | exact Or.inr (Or.inr (Or.inl ⟨by omega, by omega, rfl, rfl⟩)) | exact Or.inr (Or.inr (Or.inr ⟨by omega, by omega, by omega, rfl, h37.1, h37.2, by rw [show m = j by omega]; exact h39, hFr⟩))
        · skip
          refine x_bipush C dX11_sheet_39 (w := -2) (by decide) ?_
          refine x_iret C dX11_sheet_41 ⟨_, _, rfl, rfl, ?_⟩
          · first | exact Or.inl ⟨by omega, rfl, rfl⟩ | exact Or.inr (Or.inl ⟨by omega, by omega, by omega, rfl, rfl⟩) | exact Or.inr (Or.inr (Or.inl ⟨by omega, by omega, rfl, rfl⟩)) | exact Or.inr (Or.inr (Or.inr ⟨by omega, by omega, by omega, rfl, h37.1, h37.2, by rw [show m = j by omega]; exact h39, hFr⟩))
      · skip
        refine x_aload_n C 0 dX11_sheet_24 rfl rfl ?_
        refine x_getr C ok_Class 0 8 (d := 37) dX11_sheet_25 (lt67 hn rfl) rfl (by decide) rfl q_1_5 rfl (kz := 8) rfl (lr_0_8 hLR) ?_
        refine x_iload_n C 1 dX11_sheet_28 rfl rfl ?_
        refine x_iconst C dX11_sheet_29 ?_
        refine x_iast C 37 dX11_sheet_30 (lt67 hn rfl) rfl (by refine ⟨?_, ?_⟩ <;> omega) (by first | assumption | (constructor <;> omega)) ?_
        refine x_iconst C dX11_sheet_31 ?_
        refine x_iret C dX11_sheet_32 ⟨_, _, rfl, rfl, ?_⟩
        · first | exact Or.inl ⟨by omega, rfl, rfl⟩ | exact Or.inr (Or.inl ⟨by omega, by omega, by omega, rfl, rfl⟩) | exact Or.inr (Or.inr (Or.inl ⟨by omega, by omega, rfl, rfl⟩)) | exact Or.inr (Or.inr (Or.inr ⟨by omega, by omega, by omega, rfl, h37.1, h37.2, by rw [show m = j by omega]; exact h39, hFr⟩))
    · skip
      refine x_bipush C dX11_sheet_16 (w := -2) (by decide) ?_
      refine x_iret C dX11_sheet_18 ⟨_, _, rfl, rfl, ?_⟩
      · first | exact Or.inl ⟨by omega, rfl, rfl⟩ | exact Or.inr (Or.inl ⟨by omega, by omega, by omega, rfl, rfl⟩) | exact Or.inr (Or.inr (Or.inl ⟨by omega, by omega, rfl, rfl⟩)) | exact Or.inr (Or.inr (Or.inr ⟨by omega, by omega, by omega, rfl, h37.1, h37.2, by rw [show m = j by omega]; exact h39, hFr⟩))
set_option maxRecDepth 100000 in
set_option maxHeartbeats 4000000 in
theorem m_X11_put (G : GS) (n : Nat) (V : Nat → Int → Int) (R : Nat → Int → Option Nat) (s : Int) (j : Int) (v : Int) (hn : 67 ≤ n) (hLR : LR R) (gs : Rg s) (gj : Rg j) (gv : Rl v) (hsz : ∀ z, 0 ≤ z → z ≤ 3 → (-1 ≤ V 37 z ∧ V 37 z ≤ 1) ∧ (0 ≤ V 38 z ∧ V 38 z ≤ 40)) : Cn G yX11_put cX11_put 5 (some .int) (rmk 3 0 0 58) [.ref (aG G 0), .int (iI s), .int (iI j), .long (jI v)] n V R 0 0 (fun vv uu => ∃ (r : Int), ∃ (V1 : Nat → Int → Int), vv = some (.int (iI r)) ∧ uu = (n, V1, R) ∧ ((¬ (0 ≤ s ∧ s ≤ 3) ∧ r = -2 ∧ V1 = V) ∨ ((0 ≤ s ∧ s ≤ 3) ∧ V 37 s = -1 ∧ r = -11 ∧ V1 = V) ∨ ((0 ≤ s ∧ s ≤ 3) ∧ V 37 s ≠ -1 ∧ ¬ (0 ≤ j ∧ j ≤ V 38 s - 1) ∧ r = -12 ∧ V1 = V) ∨ ((0 ≤ s ∧ s ≤ 3) ∧ V 37 s ≠ -1 ∧ (0 ≤ j ∧ j ≤ V 38 s - 1) ∧ r = 1 ∧ V1 = u2 V 39 (40 * s + j) (if V 37 s = 0 then v else wr v)))) := by
  refine Cn.of (by decide) (Nat.le_of_ble_eq_true rfl) (fun K C hct => ?_)
  show Xw K G 0 0 _ n V R 0 [(0, .ref (aG G 0)), (1, .int (iI s)), (2, .int (iI j)), (3, .long (jI v))] []
  refine x_iload_n C 1 dX11_put_0 rfl rfl ?_
  refine x_runU (r_callS C (ce_X11_isSheet) (m_X11_isSheet G n V R (s) (by first | assumption | omega | decide)) dX11_put_1 q_47_16 q_47_17 rfl rfl ⟨Nat.le_of_ble_eq_true rfl, Nat.le_of_ble_eq_true rfl⟩ ⟨rfl, rfl⟩ ⟨Nat.le_of_ble_eq_true rfl, Nat.le_of_ble_eq_true rfl⟩ (Nat.le_of_ble_eq_true rfl)) (fun v1 u1 hp1 => ?_)
  obtain ⟨rfl, rfl⟩ := hp1
  show Xw K G 0 0 _ n V R 4 [(0, .ref (aG G 0)), (1, .int (iI s)), (2, .int (iI j)), (3, .long (jI v))] [.int (iI (bI (0 ≤ s ∧ s ≤ 3)))]
  refine x_ifne_b C dX11_put_4 (tgt := 10) (by decide) (fun h4 => ?_) (fun h4 => ?_)
  · skip
    have hz := hsz s (by omega) (by omega)
    refine x_aload_n C 0 dX11_put_10 rfl rfl ?_
    refine x_getr C ok_Class 0 8 (d := 37) dX11_put_11 (lt67 hn rfl) rfl (by decide) rfl q_1_5 rfl (kz := 8) rfl (lr_0_8 hLR) ?_
    refine x_iload_n C 1 dX11_put_14 rfl rfl ?_
    refine x_iald C 37 dX11_put_15 (lt67 hn rfl) rfl (by refine ⟨?_, ?_⟩ <;> omega) (fun rg15 => ?_)
    refine x_iconst C dX11_put_16 ?_
    refine x_icmp_ne C dX11_put_17 (tgt := 23) (by decide) (by first | assumption | (constructor <;> omega)) (by first | assumption | (constructor <;> omega)) (fun h17 => ?_) (fun h17 => ?_)
    · skip
      refine x_iload_n C 2 dX11_put_23 rfl rfl ?_
      refine x_iconst C dX11_put_24 ?_
      refine x_aload_n C 0 dX11_put_25 rfl rfl ?_
      refine x_getr C ok_Class 0 9 (d := 38) dX11_put_26 (lt67 hn rfl) rfl (by decide) rfl q_1_6 rfl (kz := 9) rfl (lr_0_9 hLR) ?_
      refine x_iload_n C 1 dX11_put_29 rfl rfl ?_
      refine x_iald C 38 dX11_put_30 (lt67 hn rfl) rfl (by refine ⟨?_, ?_⟩ <;> omega) (fun rg30 => ?_)
      refine x_iconst C dX11_put_31 ?_
      refine x_isub C dX11_put_32 ?_
      refine x_runU (r_callS C (ce_X11_within) (m_X11_within G n V R (j) (0) ((V 38 s) - 1) (by first | assumption | omega | decide) (by first | assumption | omega | decide) (by first | assumption | omega | decide)) dX11_put_33 q_5_4 q_5_5 rfl rfl ⟨Nat.le_of_ble_eq_true rfl, Nat.le_of_ble_eq_true rfl⟩ ⟨rfl, rfl⟩ ⟨Nat.le_of_ble_eq_true rfl, Nat.le_of_ble_eq_true rfl⟩ (Nat.le_of_ble_eq_true rfl)) (fun v33 u33 hp33 => ?_)
      obtain ⟨rfl, rfl⟩ := hp33
      show Xw K G 0 0 _ n V R 36 [(0, .ref (aG G 0)), (1, .int (iI s)), (2, .int (iI j)), (3, .long (jI v))] [.int (iI (bI (0 ≤ j ∧ j ≤ ((V 38 s) - 1))))]
      refine x_ifne_b C dX11_put_36 (tgt := 42) (by decide) (fun h36 => ?_) (fun h36 => ?_)
      · skip
        refine x_aload_n C 0 dX11_put_42 rfl rfl ?_
        refine x_getr C ok_Class 0 10 (d := 39) dX11_put_43 (lt67 hn rfl) rfl (by decide) rfl q_1_8 rfl (kz := 10) rfl (lr_0_10 hLR) ?_
        refine x_bipush C dX11_put_46 (w := 40) (by decide) ?_
        refine x_iload_n C 1 dX11_put_48 rfl rfl ?_
        refine x_imul C dX11_put_49 ?_
        refine x_iload_n C 2 dX11_put_50 rfl rfl ?_
        refine x_iadd C dX11_put_51 ?_
        refine x_aload_n C 0 dX11_put_52 rfl rfl ?_
        refine x_getr C ok_Class 0 8 (d := 37) dX11_put_53 (lt67 hn rfl) rfl (by decide) rfl q_1_5 rfl (kz := 8) rfl (lr_0_8 hLR) ?_
        refine x_iload_n C 1 dX11_put_56 rfl rfl ?_
        refine x_iald C 37 dX11_put_57 (lt67 hn rfl) rfl (by refine ⟨?_, ?_⟩ <;> omega) (fun rg57 => ?_)
        refine x_if_ne C dX11_put_58 (tgt := 65) (by decide) (by first | assumption | (constructor <;> omega)) (fun h58 => ?_) (fun h58 => ?_)
        · skip
          have gw := (wr_Rg v).l
          have gw2 := wr_Rg v
          refine x_lload_n C 3 dX11_put_65 rfl rfl ?_
          refine x_l2i C dX11_put_66 (by first | assumption | (constructor <;> omega)) ?_
          refine x_i2l C dX11_put_67 (by first | assumption | (constructor <;> omega)) ?_
          refine x_last C 39 dX11_put_68 (lt67 hn rfl) rfl (by refine ⟨?_, ?_⟩ <;> omega) (by first | assumption | (constructor <;> omega)) ?_
          refine x_iconst C dX11_put_69 ?_
          refine x_iret C dX11_put_70 ⟨_, _, rfl, rfl, ?_⟩
          · first | exact Or.inl ⟨by omega, rfl, rfl⟩ | exact Or.inr (Or.inl ⟨by omega, by omega, rfl, rfl⟩) | exact Or.inr (Or.inr (Or.inl ⟨by omega, by omega, by omega, rfl, rfl⟩)) | exact Or.inr (Or.inr (Or.inr ⟨by omega, by omega, by omega, rfl, by first | (rw [if_pos (by omega)]; done) | (rw [if_neg (by omega)]; done)⟩))
        · skip
          have gv2 := gv
          refine x_lload_n C 3 dX11_put_61 rfl rfl ?_
          refine x_goto C dX11_put_62 (tgt := 68) (by decide) ?_
          refine x_last C 39 dX11_put_68 (lt67 hn rfl) rfl (by refine ⟨?_, ?_⟩ <;> omega) (by first | assumption | (constructor <;> omega)) ?_
          refine x_iconst C dX11_put_69 ?_
          refine x_iret C dX11_put_70 ⟨_, _, rfl, rfl, ?_⟩
          · first | exact Or.inl ⟨by omega, rfl, rfl⟩ | exact Or.inr (Or.inl ⟨by omega, by omega, rfl, rfl⟩) | exact Or.inr (Or.inr (Or.inl ⟨by omega, by omega, by omega, rfl, rfl⟩)) | exact Or.inr (Or.inr (Or.inr ⟨by omega, by omega, by omega, rfl, by first | (rw [if_pos (by omega)]; done) | (rw [if_neg (by omega)]; done)⟩))
      · skip
        refine x_bipush C dX11_put_39 (w := -12) (by decide) ?_
        refine x_iret C dX11_put_41 ⟨_, _, rfl, rfl, ?_⟩
        · first | exact Or.inl ⟨by omega, rfl, rfl⟩ | exact Or.inr (Or.inl ⟨by omega, by omega, rfl, rfl⟩) | exact Or.inr (Or.inr (Or.inl ⟨by omega, by omega, by omega, rfl, rfl⟩)) | exact Or.inr (Or.inr (Or.inr ⟨by omega, by omega, by omega, rfl, by first | (rw [if_pos (by omega)]; done) | (rw [if_neg (by omega)]; done)⟩))
    · skip
      refine x_bipush C dX11_put_20 (w := -11) (by decide) ?_
      refine x_iret C dX11_put_22 ⟨_, _, rfl, rfl, ?_⟩
      · first | exact Or.inl ⟨by omega, rfl, rfl⟩ | exact Or.inr (Or.inl ⟨by omega, by omega, rfl, rfl⟩) | exact Or.inr (Or.inr (Or.inl ⟨by omega, by omega, by omega, rfl, rfl⟩)) | exact Or.inr (Or.inr (Or.inr ⟨by omega, by omega, by omega, rfl, by first | (rw [if_pos (by omega)]; done) | (rw [if_neg (by omega)]; done)⟩))
  · skip
    refine x_bipush C dX11_put_7 (w := -2) (by decide) ?_
    refine x_iret C dX11_put_9 ⟨_, _, rfl, rfl, ?_⟩
    · first | exact Or.inl ⟨by omega, rfl, rfl⟩ | exact Or.inr (Or.inl ⟨by omega, by omega, rfl, rfl⟩) | exact Or.inr (Or.inr (Or.inl ⟨by omega, by omega, by omega, rfl, rfl⟩)) | exact Or.inr (Or.inr (Or.inr ⟨by omega, by omega, by omega, rfl, by first | (rw [if_pos (by omega)]; done) | (rw [if_neg (by omega)]; done)⟩))
set_option maxRecDepth 100000 in
set_option maxHeartbeats 4000000 in
theorem m_X11_copy (G : GS) (n : Nat) (V : Nat → Int → Int) (R : Nat → Int → Option Nat) (s : Int) (a : Int) (t : Int) (b : Int) (m : Int) (hn : 67 ≤ n) (hLR : LR R) (gs : Rg s) (ga : Rg a) (gt : Rg t) (gb : Rg b) (gm : Rg m) (hsz : ∀ z, 0 ≤ z → z ≤ 3 → (-1 ≤ V 37 z ∧ V 37 z ≤ 1) ∧ (0 ≤ V 38 z ∧ V 38 z ≤ 40)) : Cn G yX11_copy cX11_copy 6 (some .int) (rmk 3 0 0 64) [.ref (aG G 0), .int (iI s), .int (iI a), .int (iI t), .int (iI b), .int (iI m)] n V R 0 0 (fun vv uu => ∃ (r : Int), ∃ (V1 : Nat → Int → Int), vv = some (.int (iI r)) ∧ uu = (n, V1, R) ∧ ((¬ ((0 ≤ s ∧ s ≤ 3) ∧ (0 ≤ t ∧ t ≤ 3)) ∧ r = -2 ∧ V1 = V) ∨ (((0 ≤ s ∧ s ≤ 3) ∧ (0 ≤ t ∧ t ≤ 3)) ∧ (V 37 s = -1 ∨ V 37 t = -1) ∧ r = -11 ∧ V1 = V) ∨ (((0 ≤ s ∧ s ≤ 3) ∧ (0 ≤ t ∧ t ≤ 3)) ∧ V 37 s ≠ -1 ∧ V 37 t ≠ -1 ∧ V 37 s ≠ V 37 t ∧ r = -13 ∧ V1 = V) ∨ (((0 ≤ s ∧ s ≤ 3) ∧ (0 ≤ t ∧ t ≤ 3)) ∧ V 37 s ≠ -1 ∧ V 37 s = V 37 t ∧ ¬ (0 ≤ m ∧ 0 ≤ a ∧ 0 ≤ b ∧ m ≤ V 38 s ∧ m ≤ V 38 t ∧ a ≤ V 38 s - m ∧ b ≤ V 38 t - m) ∧ r = -12 ∧ V1 = V) ∨ (((0 ≤ s ∧ s ≤ 3) ∧ (0 ≤ t ∧ t ≤ 3)) ∧ V 37 s ≠ -1 ∧ V 37 s = V 37 t ∧ (0 ≤ m ∧ 0 ≤ a ∧ 0 ≤ b ∧ m ≤ V 38 s ∧ m ≤ V 38 t ∧ a ≤ V 38 s - m ∧ b ≤ V 38 t - m) ∧ r = m ∧ V1 = cpy V 39 39 (40 * s + a) (40 * t + b) m))) := by
  refine Cn.of (by decide) (Nat.le_of_ble_eq_true rfl) (fun K C hct => ?_)
  show Xw K G 0 0 _ n V R 0 [(0, .ref (aG G 0)), (1, .int (iI s)), (2, .int (iI a)), (3, .int (iI t)), (4, .int (iI b)), (5, .int (iI m))] []
  refine x_iload_n C 1 dX11_copy_0 rfl rfl ?_
  refine x_runU (r_callS C (ce_X11_isSheet) (m_X11_isSheet G n V R (s) (by first | assumption | omega | decide)) dX11_copy_1 q_47_16 q_47_17 rfl rfl ⟨Nat.le_of_ble_eq_true rfl, Nat.le_of_ble_eq_true rfl⟩ ⟨rfl, rfl⟩ ⟨Nat.le_of_ble_eq_true rfl, Nat.le_of_ble_eq_true rfl⟩ (Nat.le_of_ble_eq_true rfl)) (fun v1 u1 hp1 => ?_)
  obtain ⟨rfl, rfl⟩ := hp1
  show Xw K G 0 0 _ n V R 4 [(0, .ref (aG G 0)), (1, .int (iI s)), (2, .int (iI a)), (3, .int (iI t)), (4, .int (iI b)), (5, .int (iI m))] [.int (iI (bI (0 ≤ s ∧ s ≤ 3)))]
  refine x_ifeq_b C dX11_copy_4 (tgt := 14) (by decide) (fun h4 => ?_) (fun h4 => ?_)
  · skip
    refine x_bipush C dX11_copy_14 (w := -2) (by decide) ?_
    refine x_iret C dX11_copy_16 ⟨_, _, rfl, rfl, ?_⟩
    · first | exact Or.inl ⟨by omega, rfl, rfl⟩ | exact Or.inr (Or.inl ⟨by omega, by omega, rfl, rfl⟩) | exact Or.inr (Or.inr (Or.inl ⟨by omega, by omega, by omega, by omega, rfl, rfl⟩)) | exact Or.inr (Or.inr (Or.inr (Or.inl ⟨by omega, by omega, by omega, by omega, rfl, rfl⟩))) | exact Or.inr (Or.inr (Or.inr (Or.inr ⟨by omega, by omega, by omega, by omega, rfl, rfl⟩)))
  · skip
    refine x_iload_n C 3 dX11_copy_7 rfl rfl ?_
    refine x_runU (r_callS C (ce_X11_isSheet) (m_X11_isSheet G n V R (t) (by first | assumption | omega | decide)) dX11_copy_8 q_47_16 q_47_17 rfl rfl ⟨Nat.le_of_ble_eq_true rfl, Nat.le_of_ble_eq_true rfl⟩ ⟨rfl, rfl⟩ ⟨Nat.le_of_ble_eq_true rfl, Nat.le_of_ble_eq_true rfl⟩ (Nat.le_of_ble_eq_true rfl)) (fun v8 u8 hp8 => ?_)
    obtain ⟨rfl, rfl⟩ := hp8
    show Xw K G 0 0 _ n V R 11 [(0, .ref (aG G 0)), (1, .int (iI s)), (2, .int (iI a)), (3, .int (iI t)), (4, .int (iI b)), (5, .int (iI m))] [.int (iI (bI (0 ≤ t ∧ t ≤ 3)))]
    refine x_ifne_b C dX11_copy_11 (tgt := 17) (by decide) (fun h11 => ?_) (fun h11 => ?_)
    · skip
      have hz := hsz s (by omega) (by omega)
      have hz2 := hsz t (by omega) (by omega)
      refine x_aload_n C 0 dX11_copy_17 rfl rfl ?_
      refine x_getr C ok_Class 0 8 (d := 37) dX11_copy_18 (lt67 hn rfl) rfl (by decide) rfl q_1_5 rfl (kz := 8) rfl (lr_0_8 hLR) ?_
      refine x_iload_n C 1 dX11_copy_21 rfl rfl ?_
      refine x_iald C 37 dX11_copy_22 (lt67 hn rfl) rfl (by refine ⟨?_, ?_⟩ <;> omega) (fun rg22 => ?_)
      refine x_iconst C dX11_copy_23 ?_
      refine x_icmp_eq C dX11_copy_24 (tgt := 37) (by decide) (by first | assumption | (constructor <;> omega)) (by first | assumption | (constructor <;> omega)) (fun h24 => ?_) (fun h24 => ?_)
      · skip
        refine x_bipush C dX11_copy_37 (w := -11) (by decide) ?_
        refine x_iret C dX11_copy_39 ⟨_, _, rfl, rfl, ?_⟩
        · first | exact Or.inl ⟨by omega, rfl, rfl⟩ | exact Or.inr (Or.inl ⟨by omega, by omega, rfl, rfl⟩) | exact Or.inr (Or.inr (Or.inl ⟨by omega, by omega, by omega, by omega, rfl, rfl⟩)) | exact Or.inr (Or.inr (Or.inr (Or.inl ⟨by omega, by omega, by omega, by omega, rfl, rfl⟩))) | exact Or.inr (Or.inr (Or.inr (Or.inr ⟨by omega, by omega, by omega, by omega, rfl, rfl⟩)))
      · skip
        refine x_aload_n C 0 dX11_copy_27 rfl rfl ?_
        refine x_getr C ok_Class 0 8 (d := 37) dX11_copy_28 (lt67 hn rfl) rfl (by decide) rfl q_1_5 rfl (kz := 8) rfl (lr_0_8 hLR) ?_
        refine x_iload_n C 3 dX11_copy_31 rfl rfl ?_
        refine x_iald C 37 dX11_copy_32 (lt67 hn rfl) rfl (by refine ⟨?_, ?_⟩ <;> omega) (fun rg32 => ?_)
        refine x_iconst C dX11_copy_33 ?_
        refine x_icmp_ne C dX11_copy_34 (tgt := 40) (by decide) (by first | assumption | (constructor <;> omega)) (by first | assumption | (constructor <;> omega)) (fun h34 => ?_) (fun h34 => ?_)
        · skip
          refine x_aload_n C 0 dX11_copy_40 rfl rfl ?_
          refine x_getr C ok_Class 0 8 (d := 37) dX11_copy_41 (lt67 hn rfl) rfl (by decide) rfl q_1_5 rfl (kz := 8) rfl (lr_0_8 hLR) ?_
          refine x_iload_n C 1 dX11_copy_44 rfl rfl ?_
          refine x_iald C 37 dX11_copy_45 (lt67 hn rfl) rfl (by refine ⟨?_, ?_⟩ <;> omega) (fun rg45 => ?_)
          refine x_aload_n C 0 dX11_copy_46 rfl rfl ?_
          refine x_getr C ok_Class 0 8 (d := 37) dX11_copy_47 (lt67 hn rfl) rfl (by decide) rfl q_1_5 rfl (kz := 8) rfl (lr_0_8 hLR) ?_
          refine x_iload_n C 3 dX11_copy_50 rfl rfl ?_
          refine x_iald C 37 dX11_copy_51 (lt67 hn rfl) rfl (by refine ⟨?_, ?_⟩ <;> omega) (fun rg51 => ?_)
          refine x_icmp_eq C dX11_copy_52 (tgt := 58) (by decide) (by first | assumption | (constructor <;> omega)) (by first | assumption | (constructor <;> omega)) (fun h52 => ?_) (fun h52 => ?_)
          · skip
            refine x_aload_n C 0 dX11_copy_58 rfl rfl ?_
            refine x_iload_n C 1 dX11_copy_59 rfl rfl ?_
            refine x_iload_n C 2 dX11_copy_60 rfl rfl ?_
            refine x_iload C 5 dX11_copy_61 rfl ?_
            refine x_runU (r_callV C ok_Class 0 (lt67 hn rfl) rfl (ce_X11_hasItems) (m_X11_hasItems G n V R (s) (a) (m) hn hLR (by first | assumption | omega | decide) (by first | assumption | omega | decide) (by first | assumption | omega | decide) (by exact hsz)) rfl dX11_copy_63 q_51_23 q_52_0 q_52_1 rfl rfl ⟨Nat.le_of_ble_eq_true rfl, Nat.le_of_ble_eq_true rfl⟩ ⟨rfl, rfl⟩ ⟨Nat.le_of_ble_eq_true rfl, Nat.le_of_ble_eq_true rfl⟩ (Nat.le_of_ble_eq_true rfl)) (fun v63 u63 hp63 => ?_)
            obtain ⟨rfl, rfl⟩ := hp63
            show Xw K G 0 0 _ n V R 66 [(0, .ref (aG G 0)), (1, .int (iI s)), (2, .int (iI a)), (3, .int (iI t)), (4, .int (iI b)), (5, .int (iI m))] [.int (iI (bI ((0 ≤ m ∧ m ≤ V 38 s) ∧ (0 ≤ a ∧ a ≤ V 38 s - m))))]
            refine x_ifeq_b C dX11_copy_66 (tgt := 81) (by decide) (fun h66 => ?_) (fun h66 => ?_)
            · skip
              refine x_bipush C dX11_copy_81 (w := -12) (by decide) ?_
              refine x_iret C dX11_copy_83 ⟨_, _, rfl, rfl, ?_⟩
              · first | exact Or.inl ⟨by omega, rfl, rfl⟩ | exact Or.inr (Or.inl ⟨by omega, by omega, rfl, rfl⟩) | exact Or.inr (Or.inr (Or.inl ⟨by omega, by omega, by omega, by omega, rfl, rfl⟩)) | exact Or.inr (Or.inr (Or.inr (Or.inl ⟨by omega, by omega, by omega, by omega, rfl, rfl⟩))) | exact Or.inr (Or.inr (Or.inr (Or.inr ⟨by omega, by omega, by omega, by omega, rfl, rfl⟩)))
            · skip
              refine x_aload_n C 0 dX11_copy_69 rfl rfl ?_
              refine x_iload_n C 3 dX11_copy_70 rfl rfl ?_
              refine x_iload C 4 dX11_copy_71 rfl ?_
              refine x_iload C 5 dX11_copy_73 rfl ?_
              refine x_runU (r_callV C ok_Class 0 (lt67 hn rfl) rfl (ce_X11_hasItems) (m_X11_hasItems G n V R (t) (b) (m) hn hLR (by first | assumption | omega | decide) (by first | assumption | omega | decide) (by first | assumption | omega | decide) (by exact hsz)) rfl dX11_copy_75 q_51_23 q_52_0 q_52_1 rfl rfl ⟨Nat.le_of_ble_eq_true rfl, Nat.le_of_ble_eq_true rfl⟩ ⟨rfl, rfl⟩ ⟨Nat.le_of_ble_eq_true rfl, Nat.le_of_ble_eq_true rfl⟩ (Nat.le_of_ble_eq_true rfl)) (fun v75 u75 hp75 => ?_)
              obtain ⟨rfl, rfl⟩ := hp75
              show Xw K G 0 0 _ n V R 78 [(0, .ref (aG G 0)), (1, .int (iI s)), (2, .int (iI a)), (3, .int (iI t)), (4, .int (iI b)), (5, .int (iI m))] [.int (iI (bI ((0 ≤ m ∧ m ≤ V 38 t) ∧ (0 ≤ b ∧ b ≤ V 38 t - m))))]
              refine x_ifne_b C dX11_copy_78 (tgt := 84) (by decide) (fun h78 => ?_) (fun h78 => ?_)
              · skip
                refine x_aload_n C 0 dX11_copy_84 rfl rfl ?_
                refine x_getr C ok_Class 0 10 (d := 39) dX11_copy_85 (lt67 hn rfl) rfl (by decide) rfl q_1_8 rfl (kz := 10) rfl (lr_0_10 hLR) ?_
                refine x_bipush C dX11_copy_88 (w := 40) (by decide) ?_
                refine x_iload_n C 1 dX11_copy_90 rfl rfl ?_
                refine x_imul C dX11_copy_91 ?_
                refine x_iload_n C 2 dX11_copy_92 rfl rfl ?_
                refine x_iadd C dX11_copy_93 ?_
                refine x_aload_n C 0 dX11_copy_94 rfl rfl ?_
                refine x_getr C ok_Class 0 10 (d := 39) dX11_copy_95 (lt67 hn rfl) rfl (by decide) rfl q_1_8 rfl (kz := 10) rfl (lr_0_10 hLR) ?_
                refine x_bipush C dX11_copy_98 (w := 40) (by decide) ?_
                refine x_iload_n C 3 dX11_copy_100 rfl rfl ?_
                refine x_imul C dX11_copy_101 ?_
                refine x_iload C 4 dX11_copy_102 rfl ?_
                refine x_iadd C dX11_copy_104 ?_
                refine x_iload C 5 dX11_copy_105 rfl ?_
                refine x_acpl C 39 39 dX11_copy_107 (lt67 hn rfl) (lt67 hn rfl) rfl rfl (by refine ⟨?_, ?_, ?_, ?_, ?_⟩ <;> omega) q_51_22 q_2_4 q_2_5 q_2_6 (Nat.le_of_ble_eq_true rfl) (Nat.le_of_ble_eq_true rfl) ?_
                refine x_iload C 5 dX11_copy_110 rfl ?_
                refine x_iret C dX11_copy_112 ⟨_, _, rfl, rfl, ?_⟩
                · first | exact Or.inl ⟨by omega, rfl, rfl⟩ | exact Or.inr (Or.inl ⟨by omega, by omega, rfl, rfl⟩) | exact Or.inr (Or.inr (Or.inl ⟨by omega, by omega, by omega, by omega, rfl, rfl⟩)) | exact Or.inr (Or.inr (Or.inr (Or.inl ⟨by omega, by omega, by omega, by omega, rfl, rfl⟩))) | exact Or.inr (Or.inr (Or.inr (Or.inr ⟨by omega, by omega, by omega, by omega, rfl, rfl⟩)))
              · skip
                refine x_bipush C dX11_copy_81 (w := -12) (by decide) ?_
                refine x_iret C dX11_copy_83 ⟨_, _, rfl, rfl, ?_⟩
                · first | exact Or.inl ⟨by omega, rfl, rfl⟩ | exact Or.inr (Or.inl ⟨by omega, by omega, rfl, rfl⟩) | exact Or.inr (Or.inr (Or.inl ⟨by omega, by omega, by omega, by omega, rfl, rfl⟩)) | exact Or.inr (Or.inr (Or.inr (Or.inl ⟨by omega, by omega, by omega, by omega, rfl, rfl⟩))) | exact Or.inr (Or.inr (Or.inr (Or.inr ⟨by omega, by omega, by omega, by omega, rfl, rfl⟩)))
          · skip
            refine x_bipush C dX11_copy_55 (w := -13) (by decide) ?_
            refine x_iret C dX11_copy_57 ⟨_, _, rfl, rfl, ?_⟩
            · first | exact Or.inl ⟨by omega, rfl, rfl⟩ | exact Or.inr (Or.inl ⟨by omega, by omega, rfl, rfl⟩) | exact Or.inr (Or.inr (Or.inl ⟨by omega, by omega, by omega, by omega, rfl, rfl⟩)) | exact Or.inr (Or.inr (Or.inr (Or.inl ⟨by omega, by omega, by omega, by omega, rfl, rfl⟩))) | exact Or.inr (Or.inr (Or.inr (Or.inr ⟨by omega, by omega, by omega, by omega, rfl, rfl⟩)))
        · skip
          refine x_bipush C dX11_copy_37 (w := -11) (by decide) ?_
          refine x_iret C dX11_copy_39 ⟨_, _, rfl, rfl, ?_⟩
          · first | exact Or.inl ⟨by omega, rfl, rfl⟩ | exact Or.inr (Or.inl ⟨by omega, by omega, rfl, rfl⟩) | exact Or.inr (Or.inr (Or.inl ⟨by omega, by omega, by omega, by omega, rfl, rfl⟩)) | exact Or.inr (Or.inr (Or.inr (Or.inl ⟨by omega, by omega, by omega, by omega, rfl, rfl⟩))) | exact Or.inr (Or.inr (Or.inr (Or.inr ⟨by omega, by omega, by omega, by omega, rfl, rfl⟩)))
    · skip
      refine x_bipush C dX11_copy_14 (w := -2) (by decide) ?_
      refine x_iret C dX11_copy_16 ⟨_, _, rfl, rfl, ?_⟩
      · first | exact Or.inl ⟨by omega, rfl, rfl⟩ | exact Or.inr (Or.inl ⟨by omega, by omega, rfl, rfl⟩) | exact Or.inr (Or.inr (Or.inl ⟨by omega, by omega, by omega, by omega, rfl, rfl⟩)) | exact Or.inr (Or.inr (Or.inr (Or.inl ⟨by omega, by omega, by omega, by omega, rfl, rfl⟩))) | exact Or.inr (Or.inr (Or.inr (Or.inr ⟨by omega, by omega, by omega, by omega, rfl, rfl⟩)))
