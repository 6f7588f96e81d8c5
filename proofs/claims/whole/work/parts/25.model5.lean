
set_option maxRecDepth 100000 in
set_option maxHeartbeats 4000000 in
theorem m_X12_board (G : GS) (n : Nat) (V : Nat → Int → Int) (R : Nat → Int → Option Nat) (y : Int) (k : Int) (w : Int) (hn : 67 ≤ n) (hLR : LR R) (gy : Rg y) (gk : Rg k) (gw : Rg w) (hl : LogOk V) (hru : RulesOk (V 44)) : Cn G yX12_board cX12_board 4 (some .int) (rmk 5 0 0 131) [.ref (aG G 42), .int (iI y), .int (iI k), .int (iI w)] n V R 0 0 (fun vv uu => ∃ (r : Int), ∃ (V1 : Nat → Int → Int), vv = some (.int (iI r)) ∧ uu = (n, V1, R) ∧ (FrB V V1) ∧ ((V 42 2 = 0 ∧ r = -3) ∨ (V 42 2 ≠ 0 ∧ ¬ (((1 ≤ k ∧ k ≤ 4) ∧ (0 ≤ y ∧ y ≤ 12 - k)) ∧ (0 ≤ w ∧ w ≤ 6)) ∧ r = -2) ∨ (V 42 2 ≠ 0 ∧ (((1 ≤ k ∧ k ≤ 4) ∧ (0 ≤ y ∧ y ≤ 12 - k)) ∧ (0 ≤ w ∧ w ≤ 6)) ∧ boardP (V 42 0) (V 42 1) (V 42 2) (FM V) (V 42 4) (V 42 3) (V 44) y k w r))) := by
  refine Cn.of (by decide) (Nat.le_of_ble_eq_true rfl) (fun K C hct => ?_)
  show Xw K G 0 0 _ n V R 0 [(0, .ref (aG G 42)), (1, .int (iI y)), (2, .int (iI k)), (3, .int (iI w))] []
  obtain ⟨h1, h2, h3, h5, h4, hF⟩ := id hl
  obtain ⟨hkf, hsv, hpr, hth⟩ := id hru
  refine x_aload_n C 0 dX12_board_0 rfl rfl ?_
  refine x_geti C ok_Model 42 2 dX12_board_1 (lt67 hn rfl) rfl (by decide) rfl q_6_12 rfl (kz := 2) rfl (fun rg1 => ?_)
  refine x_if_ne C dX12_board_4 (tgt := 10) (by decide) (by first | assumption | (constructor <;> omega)) (fun h4 => ?_) (fun h4 => ?_)
  · skip
    refine x_iload_n C 1 dX12_board_10 rfl rfl ?_
    refine x_iload_n C 2 dX12_board_11 rfl rfl ?_
    refine x_runU (r_callS C (ce_X12_isBoard) (m_X12_isBoard G n V R (y) (k) (by first | assumption | omega | decide) (by first | assumption | omega | decide)) dX12_board_12 q_33_20 q_33_21 rfl rfl ⟨Nat.le_of_ble_eq_true rfl, Nat.le_of_ble_eq_true rfl⟩ ⟨rfl, rfl⟩ ⟨Nat.le_of_ble_eq_true rfl, Nat.le_of_ble_eq_true rfl⟩ (Nat.le_of_ble_eq_true rfl)) (fun v12 u12 hp12 => ?_)
    obtain ⟨rfl, rfl⟩ := hp12
    show Xw K G 0 0 _ n V R 15 [(0, .ref (aG G 42)), (1, .int (iI y)), (2, .int (iI k)), (3, .int (iI w))] [.int (iI (bI ((1 ≤ k ∧ k ≤ 4) ∧ (0 ≤ y ∧ y ≤ 12 - k))))]
    refine x_ifeq_b C dX12_board_15 (tgt := 30) (by decide) (fun h15 => ?_) (fun h15 => ?_)
    · skip
      refine x_bipush C dX12_board_30 (w := -2) (by decide) ?_
      refine x_iret C dX12_board_32 ⟨_, _, rfl, rfl, ?_, ?_⟩
      · first | exact Or.inl ⟨by omega, rfl⟩ | exact Or.inr (Or.inl ⟨by omega, by omega, rfl⟩) | exact FrB.rf
      · first | exact Or.inl ⟨by omega, rfl⟩ | exact Or.inr (Or.inl ⟨by omega, by omega, rfl⟩) | exact FrB.rf
    · skip
      refine x_iload_n C 3 dX12_board_18 rfl rfl ?_
      refine x_i2l C dX12_board_19 (by first | assumption | (constructor <;> omega)) ?_
      refine x_lconst C dX12_board_20 (w := 0) (by decide) ?_
      refine x_ldc2 C dX12_board_21 q_6_7 (w := 6) (by decide) ?_
      refine x_runU (r_callS C (ce_X12_in) (m_X12_in G n V R (w) (0) (6) (by first | assumption | omega | decide) (by first | assumption | omega | decide) (by first | assumption | omega | decide)) dX12_board_24 q_6_15 q_6_16 rfl rfl ⟨Nat.le_of_ble_eq_true rfl, Nat.le_of_ble_eq_true rfl⟩ ⟨rfl, rfl⟩ ⟨Nat.le_of_ble_eq_true rfl, Nat.le_of_ble_eq_true rfl⟩ (Nat.le_of_ble_eq_true rfl)) (fun v24 u24 hp24 => ?_)
      obtain ⟨rfl, rfl⟩ := hp24
      show Xw K G 0 0 _ n V R 27 [(0, .ref (aG G 42)), (1, .int (iI y)), (2, .int (iI k)), (3, .int (iI w))] [.int (iI (bI (0 ≤ w ∧ w ≤ 6)))]
      refine x_ifne_b C dX12_board_27 (tgt := 33) (by decide) (fun h27 => ?_) (fun h27 => ?_)
      · skip
        refine x_aload_n C 0 dX12_board_33 rfl rfl ?_
        refine x_aload_n C 0 dX12_board_34 rfl rfl ?_
        refine x_geti C ok_Model 42 3 dX12_board_35 (lt67 hn rfl) rfl (by decide) rfl q_6_13 rfl (kz := 3) rfl (fun rg35 => ?_)
        refine x_runU (r_callV C ok_Model 42 (lt67 hn rfl) rfl (ce_X12_sums) (m_X12_sums G n V R (V 42 3) hn hLR (by first | assumption | omega | decide) (by first | assumption | omega | decide)) rfl dX12_board_38 q_33_23 q_34_0 q_34_1 rfl rfl ⟨Nat.le_of_ble_eq_true rfl, Nat.le_of_ble_eq_true rfl⟩ ⟨rfl, rfl⟩ ⟨Nat.le_of_ble_eq_true rfl, Nat.le_of_ble_eq_true rfl⟩ (Nat.le_of_ble_eq_true rfl)) (fun v38 u38 hp38 => ?_)
        obtain ⟨Va, rfl, rfl, hSVa, hfsVa⟩ := hp38
        show Xw K G 0 0 _ n Va R 41 [(0, .ref (aG G 42)), (1, .int (iI y)), (2, .int (iI k)), (3, .int (iI w))] []
        have e42Va : Va 42 = V 42 := hfsVa 42 (by decide) (by decide)
        have e44Va : Va 44 = V 44 := hfsVa 44 (by decide) (by decide)
        have hBVa : FrB V Va := fun q z a b _ => by rw [hfsVa q a b]
        refine x_aload_n C 0 dX12_board_41 rfl rfl ?_
        refine x_iload_n C 1 dX12_board_42 rfl rfl ?_
        refine x_iload_n C 2 dX12_board_43 rfl rfl ?_
        refine x_runU (r_callV C ok_Model 42 (lt67 hn rfl) rfl (ce_X12_finds) (m_X12_finds G n Va R (FM V) (V 42 4) (V 42 3) (y) (k) hn hLR (by first | assumption | omega | decide) (by first | assumption | omega | decide) (by rw [hBVa.log.1 0 (by decide) (by decide)]; exact h1) (by rw [hBVa.log.1 1 (by decide) (by decide)]; exact h2) (by rw [hBVa.log.1 2 (by decide) (by decide)]; omega) (by rw [hBVa.log.1 2 (by decide) (by decide)]; exact hSVa) (by rw [hBVa.r]; exact hpr) (by rw [hBVa.r]; exact hsv)) rfl dX12_board_44 q_34_3 q_34_4 q_34_5 rfl rfl ⟨Nat.le_of_ble_eq_true rfl, Nat.le_of_ble_eq_true rfl⟩ ⟨rfl, rfl⟩ ⟨Nat.le_of_ble_eq_true rfl, Nat.le_of_ble_eq_true rfl⟩ (Nat.le_of_ble_eq_true rfl)) (fun v44 u44 hp44 => ?_)
        obtain ⟨V2, rfl, rfl, hffV2, hbbV2⟩ := hp44
        show Xw K G 0 0 _ n V2 R 47 [(0, .ref (aG G 42)), (1, .int (iI y)), (2, .int (iI k)), (3, .int (iI w))] []
        have hMBV2 : MB V V2 (V 42 3) (y) (k) := MB_of hBVa.log hBVa.r hbbV2
        have hBV2 : FrB V V2 := fun q z a b  e => by rw [hffV2 q z e]; exact hBVa q z a b  e
        have hSV2 : sumsR V2 (FM V) (V 42 4) (V 42 3) (12 * V 42 2) := sumsR_k hSVa (fun i _ => hffV2 50 i (by omega)) (fun i _ => hffV2 51 i (by omega))
        refine x_aload_n C 0 dX12_board_47 rfl rfl ?_
        refine x_geti C ok_Model 42 22 dX12_board_48 (lt67 hn rfl) rfl (by decide) rfl q_33_14 rfl (kz := 22) rfl (fun rg48 => ?_)
        refine x_if_ne C dX12_board_51 (tgt := 56) (by decide) (by first | assumption | (constructor <;> omega)) (fun h51 => ?_) (fun h51 => ?_)
        · skip
          obtain ⟨hw1, hw2⟩ := hMBV2.b hpr ⟨by omega, by omega⟩ (by omega)
          obtain ⟨r1, r2, r3, r4, r5⟩ := hMBV2.r (by omega) (by omega)
          refine x_iload_n C 3 dX12_board_56 rfl rfl ?_
          rcases (show w = 0 ∨ w = 1 ∨ w = 2 ∨ w = 3 ∨ w = 4 ∨ (w < 0 ∨ 4 < w) by omega) with h57 | h57 | h57 | h57 | h57 | h57
          · skip
            refine x_tin C 0 h57 dX12_board_57 (by constructor <;> decide) (by decide) (by decide) (off := 35) rfl (tgt := 92) (by decide) ?_
            refine x_aload_n C 0 dX12_board_92 rfl rfl ?_
            refine x_geti C ok_Model 42 24 dX12_board_93 (lt67 hn rfl) rfl (by decide) rfl q_33_15 rfl (kz := 24) rfl (fun rg93 => ?_)
            refine x_iret C dX12_board_96 ⟨_, _, rfl, rfl, ?_, ?_⟩
            · exact hBV2
            · refine Or.inr (Or.inr ⟨by omega, by omega, _, _, _, _, _, _, _, hMBV2, ?_⟩); exact Or.inr ⟨by omega, Or.inl ⟨by omega, rfl⟩⟩
          · skip
            refine x_tin C 1 h57 dX12_board_57 (by constructor <;> decide) (by decide) (by decide) (off := 40) rfl (tgt := 97) (by decide) ?_
            refine x_aload_n C 0 dX12_board_97 rfl rfl ?_
            refine x_geti C ok_Model 42 25 dX12_board_98 (lt67 hn rfl) rfl (by decide) rfl q_33_16 rfl (kz := 25) rfl (fun rg98 => ?_)
            refine x_iret C dX12_board_101 ⟨_, _, rfl, rfl, ?_, ?_⟩
            · exact hBV2
            · refine Or.inr (Or.inr ⟨by omega, by omega, _, _, _, _, _, _, _, hMBV2, ?_⟩); exact Or.inr ⟨by omega, Or.inr (Or.inl ⟨by omega, rfl⟩)⟩
          · skip
            refine x_tin C 2 h57 dX12_board_57 (by constructor <;> decide) (by decide) (by decide) (off := 45) rfl (tgt := 102) (by decide) ?_
            refine x_aload_n C 0 dX12_board_102 rfl rfl ?_
            refine x_geti C ok_Model 42 26 dX12_board_103 (lt67 hn rfl) rfl (by decide) rfl q_33_17 rfl (kz := 26) rfl (fun rg103 => ?_)
            refine x_iret C dX12_board_106 ⟨_, _, rfl, rfl, ?_, ?_⟩
            · exact hBV2
            · refine Or.inr (Or.inr ⟨by omega, by omega, _, _, _, _, _, _, _, hMBV2, ?_⟩); exact Or.inr ⟨by omega, Or.inr (Or.inr (Or.inl ⟨by omega, rfl⟩))⟩
          · skip
            refine x_tin C 3 h57 dX12_board_57 (by constructor <;> decide) (by decide) (by decide) (off := 50) rfl (tgt := 107) (by decide) ?_
            refine x_aload_n C 0 dX12_board_107 rfl rfl ?_
            refine x_geti C ok_Model 42 27 dX12_board_108 (lt67 hn rfl) rfl (by decide) rfl q_33_18 rfl (kz := 27) rfl (fun rg108 => ?_)
            refine x_iret C dX12_board_111 ⟨_, _, rfl, rfl, ?_, ?_⟩
            · exact hBV2
            · refine Or.inr (Or.inr ⟨by omega, by omega, _, _, _, _, _, _, _, hMBV2, ?_⟩); exact Or.inr ⟨by omega, Or.inr (Or.inr (Or.inr (Or.inl ⟨by omega, rfl⟩)))⟩
          · skip
            refine x_tin C 4 h57 dX12_board_57 (by constructor <;> decide) (by decide) (by decide) (off := 55) rfl (tgt := 112) (by decide) ?_
            refine x_aload_n C 0 dX12_board_112 rfl rfl ?_
            refine x_geti C ok_Model 42 28 dX12_board_113 (lt67 hn rfl) rfl (by decide) rfl q_33_19 rfl (kz := 28) rfl (fun rg113 => ?_)
            refine x_iret C dX12_board_116 ⟨_, _, rfl, rfl, ?_, ?_⟩
            · exact hBV2
            · refine Or.inr (Or.inr ⟨by omega, by omega, _, _, _, _, _, _, _, hMBV2, ?_⟩); exact Or.inr ⟨by omega, Or.inr (Or.inr (Or.inr (Or.inr (Or.inl ⟨by omega, rfl⟩))))⟩
          · skip
            refine x_tout C dX12_board_57 (tgt := 117) (by decide) (by first | assumption | (constructor <;> omega)) h57 ?_
            refine x_aload_n C 0 dX12_board_117 rfl rfl ?_
            refine x_getr C ok_Model 42 20 (d := 50) dX12_board_118 (lt67 hn rfl) rfl (by decide) rfl q_4_8 rfl (kz := 20) rfl (lr_42_20 hLR) ?_
            refine x_iload_n C 3 dX12_board_121 rfl rfl ?_
            refine x_iconst C dX12_board_122 ?_
            refine x_icmp_ne C dX12_board_123 (tgt := 130) (by decide) (by first | assumption | (constructor <;> omega)) (by first | assumption | (constructor <;> omega)) (fun h123 => ?_) (fun h123 => ?_)
            · skip
              refine x_iload_n C 1 dX12_board_130 rfl rfl ?_
              refine x_iload_n C 2 dX12_board_131 rfl rfl ?_
              refine x_iadd C dX12_board_132 ?_
              refine x_iconst C dX12_board_133 ?_
              refine x_isub C dX12_board_134 ?_
              refine x_aload_n C 0 dX12_board_135 rfl rfl ?_
              refine x_geti C ok_Model 42 24 dX12_board_136 (lt67 hn rfl) rfl (by decide) rfl q_33_15 rfl (kz := 24) rfl (fun rg136 => ?_)
              refine x_aload_n C 0 dX12_board_139 rfl rfl ?_
              refine x_geti C ok_Model 42 25 dX12_board_140 (lt67 hn rfl) rfl (by decide) rfl q_33_16 rfl (kz := 25) rfl (fun rg140 => ?_)
              refine x_aload_n C 0 dX12_board_143 rfl rfl ?_
              refine x_geti C ok_Model 42 26 dX12_board_144 (lt67 hn rfl) rfl (by decide) rfl q_33_17 rfl (kz := 26) rfl (fun rg144 => ?_)
              refine x_aload_n C 0 dX12_board_147 rfl rfl ?_
              refine x_geti C ok_Model 42 27 dX12_board_148 (lt67 hn rfl) rfl (by decide) rfl q_33_18 rfl (kz := 27) rfl (fun rg148 => ?_)
              refine x_runU (r_callS C (ce_X12_within) (m_X12_within G n V2 R (50) ((y + k) - 1) (V2 42 24) (V2 42 25) (V2 42 26) (V2 42 27) hn hLR (by first | assumption | omega | decide) (by first | assumption | omega | decide) (by first | assumption | omega | decide) (by first | assumption | omega | decide) (by first | assumption | omega | decide) (by first | assumption | omega | decide)) dX12_board_151 q_34_20 q_34_21 rfl rfl ⟨Nat.le_of_ble_eq_true rfl, Nat.le_of_ble_eq_true rfl⟩ ⟨rfl, rfl⟩ ⟨Nat.le_of_ble_eq_true rfl, Nat.le_of_ble_eq_true rfl⟩ (Nat.le_of_ble_eq_true rfl)) (fun v151 u151 hp151 => ?_)
              obtain ⟨rfl, rfl⟩ := hp151
              show Xw K G 0 0 _ n V2 R 154 [(0, .ref (aG G 42)), (1, .int (iI y)), (2, .int (iI k)), (3, .int (iI w))] [.int (iI (wsum (V2 50) ((y + k) - 1) (V2 42 24) (V2 42 25) (V2 42 26) (V2 42 27)))]
              refine x_iret C dX12_board_154 ⟨_, _, rfl, rfl, ?_, ?_⟩
              · exact hBV2
              · refine Or.inr (Or.inr ⟨by omega, by omega, _, _, _, _, _, _, _, hMBV2, ?_⟩); first | (have hws := hSV2.ws (y := y) (a := V2 42 24) (b := V2 42 25) (s := V2 42 26) (t := V2 42 27) (by omega) (by omega) (by omega) (by omega) (by omega) (by omega) (by omega) (by omega); exact Or.inr ⟨by omega, Or.inr (Or.inr (Or.inr (Or.inr (Or.inr (Or.inl ⟨by omega, hws.1⟩)))))⟩) | (have hws := hSV2.ws (y := y + k - 1) (a := V2 42 24) (b := V2 42 25) (s := V2 42 26) (t := V2 42 27) (by omega) (by omega) (by omega) (by omega) (by omega) (by omega) (by omega) (by omega); exact Or.inr ⟨by omega, Or.inr (Or.inr (Or.inr (Or.inr (Or.inr (Or.inr ⟨by omega, hws.1⟩)))))⟩)
            · skip
              refine x_iload_n C 1 dX12_board_126 rfl rfl ?_
              refine x_goto C dX12_board_127 (tgt := 135) (by decide) ?_
              refine x_aload_n C 0 dX12_board_135 rfl rfl ?_
              refine x_geti C ok_Model 42 24 dX12_board_136 (lt67 hn rfl) rfl (by decide) rfl q_33_15 rfl (kz := 24) rfl (fun rg136 => ?_)
              refine x_aload_n C 0 dX12_board_139 rfl rfl ?_
              refine x_geti C ok_Model 42 25 dX12_board_140 (lt67 hn rfl) rfl (by decide) rfl q_33_16 rfl (kz := 25) rfl (fun rg140 => ?_)
              refine x_aload_n C 0 dX12_board_143 rfl rfl ?_
              refine x_geti C ok_Model 42 26 dX12_board_144 (lt67 hn rfl) rfl (by decide) rfl q_33_17 rfl (kz := 26) rfl (fun rg144 => ?_)
              refine x_aload_n C 0 dX12_board_147 rfl rfl ?_
              refine x_geti C ok_Model 42 27 dX12_board_148 (lt67 hn rfl) rfl (by decide) rfl q_33_18 rfl (kz := 27) rfl (fun rg148 => ?_)
              refine x_runU (r_callS C (ce_X12_within) (m_X12_within G n V2 R (50) (y) (V2 42 24) (V2 42 25) (V2 42 26) (V2 42 27) hn hLR (by first | assumption | omega | decide) (by first | assumption | omega | decide) (by first | assumption | omega | decide) (by first | assumption | omega | decide) (by first | assumption | omega | decide) (by first | assumption | omega | decide)) dX12_board_151 q_34_20 q_34_21 rfl rfl ⟨Nat.le_of_ble_eq_true rfl, Nat.le_of_ble_eq_true rfl⟩ ⟨rfl, rfl⟩ ⟨Nat.le_of_ble_eq_true rfl, Nat.le_of_ble_eq_true rfl⟩ (Nat.le_of_ble_eq_true rfl)) (fun v151 u151 hp151 => ?_)
              obtain ⟨rfl, rfl⟩ := hp151
              show Xw K G 0 0 _ n V2 R 154 [(0, .ref (aG G 42)), (1, .int (iI y)), (2, .int (iI k)), (3, .int (iI w))] [.int (iI (wsum (V2 50) y (V2 42 24) (V2 42 25) (V2 42 26) (V2 42 27)))]
              refine x_iret C dX12_board_154 ⟨_, _, rfl, rfl, ?_, ?_⟩
              · exact hBV2
              · refine Or.inr (Or.inr ⟨by omega, by omega, _, _, _, _, _, _, _, hMBV2, ?_⟩); first | (have hws := hSV2.ws (y := y) (a := V2 42 24) (b := V2 42 25) (s := V2 42 26) (t := V2 42 27) (by omega) (by omega) (by omega) (by omega) (by omega) (by omega) (by omega) (by omega); exact Or.inr ⟨by omega, Or.inr (Or.inr (Or.inr (Or.inr (Or.inr (Or.inl ⟨by omega, hws.1⟩)))))⟩) | (have hws := hSV2.ws (y := y + k - 1) (a := V2 42 24) (b := V2 42 25) (s := V2 42 26) (t := V2 42 27) (by omega) (by omega) (by omega) (by omega) (by omega) (by omega) (by omega) (by omega); exact Or.inr ⟨by omega, Or.inr (Or.inr (Or.inr (Or.inr (Or.inr (Or.inr ⟨by omega, hws.1⟩)))))⟩)
        · skip
          refine x_iconst C dX12_board_54 ?_
          refine x_iret C dX12_board_55 ⟨_, _, rfl, rfl, ?_, ?_⟩
          · exact hBV2
          · refine Or.inr (Or.inr ⟨by omega, by omega, _, _, _, _, _, _, _, hMBV2, ?_⟩); exact Or.inl ⟨by omega, rfl⟩
      · skip
        refine x_bipush C dX12_board_30 (w := -2) (by decide) ?_
        refine x_iret C dX12_board_32 ⟨_, _, rfl, rfl, ?_, ?_⟩
        · first | exact Or.inl ⟨by omega, rfl⟩ | exact Or.inr (Or.inl ⟨by omega, by omega, rfl⟩) | exact FrB.rf
        · first | exact Or.inl ⟨by omega, rfl⟩ | exact Or.inr (Or.inl ⟨by omega, by omega, rfl⟩) | exact FrB.rf
  · skip
    refine x_bipush C dX12_board_7 (w := -3) (by decide) ?_
    refine x_iret C dX12_board_9 ⟨_, _, rfl, rfl, ?_, ?_⟩
    · first | exact Or.inl ⟨by omega, rfl⟩ | exact Or.inr (Or.inl ⟨by omega, by omega, rfl⟩) | exact FrB.rf
    · first | exact Or.inl ⟨by omega, rfl⟩ | exact Or.inr (Or.inl ⟨by omega, by omega, rfl⟩) | exact FrB.rf
