
set_option maxRecDepth 100000 in
set_option maxHeartbeats 4000000 in
theorem m_X11_isBoard (G : GS) (n : Nat) (V : Nat → Int → Int) (R : Nat → Int → Option Nat) (y : Int) (k : Int) (gy : Rg y) (gk : Rg k) : Cn G yX11_isBoard cX11_isBoard 2 (some .boolean) (rmk 2 0 0 38) [.int (iI y), .int (iI k)] n V R 0 0 (fun vv uu => vv = some (.int (iI (bI ((1 ≤ k ∧ k ≤ 4) ∧ (0 ≤ y ∧ y ≤ 12 - k))))) ∧ uu = (n, V, R)) := by
  refine Cn.of (by decide) (Nat.le_of_ble_eq_true rfl) (fun K C hct => ?_)
  show Xw K G 0 0 _ n V R 0 [(0, .int (iI y)), (1, .int (iI k))] []
  refine x_iload_n C 1 dX11_isBoard_0 rfl rfl ?_
  refine x_iconst C dX11_isBoard_1 ?_
  refine x_iconst C dX11_isBoard_2 ?_
  refine x_runU (r_callS C (ce_X11_within) (m_X11_within G n V R (k) (1) (4) (by first | assumption | omega | decide) (by first | assumption | omega | decide) (by first | assumption | omega | decide)) dX11_isBoard_3 q_5_4 q_5_5 rfl rfl ⟨Nat.le_of_ble_eq_true rfl, Nat.le_of_ble_eq_true rfl⟩ ⟨rfl, rfl⟩ ⟨Nat.le_of_ble_eq_true rfl, Nat.le_of_ble_eq_true rfl⟩ (Nat.le_of_ble_eq_true rfl)) (fun v3 u3 hp3 => ?_)
  obtain ⟨rfl, rfl⟩ := hp3
  show Xw K G 0 0 _ n V R 6 [(0, .int (iI y)), (1, .int (iI k))] [.int (iI (bI (1 ≤ k ∧ k ≤ 4)))]
  refine x_ifeq_b C dX11_isBoard_6 (tgt := 25) (by decide) (fun h6 => ?_) (fun h6 => ?_)
  · skip
    refine x_iconst C dX11_isBoard_25 ?_
    refine x_zret C (Or.inl rfl) dX11_isBoard_26 ⟨bI_rf (by omega), rfl⟩
  · skip
    refine x_iload_n C 0 dX11_isBoard_9 rfl rfl ?_
    refine x_iconst C dX11_isBoard_10 ?_
    refine x_bipush C dX11_isBoard_11 (w := 12) (by decide) ?_
    refine x_iload_n C 1 dX11_isBoard_13 rfl rfl ?_
    refine x_isub C dX11_isBoard_14 ?_
    refine x_runU (r_callS C (ce_X11_within) (m_X11_within G n V R (y) (0) (12 - k) (by first | assumption | omega | decide) (by first | assumption | omega | decide) (by first | assumption | omega | decide)) dX11_isBoard_15 q_5_4 q_5_5 rfl rfl ⟨Nat.le_of_ble_eq_true rfl, Nat.le_of_ble_eq_true rfl⟩ ⟨rfl, rfl⟩ ⟨Nat.le_of_ble_eq_true rfl, Nat.le_of_ble_eq_true rfl⟩ (Nat.le_of_ble_eq_true rfl)) (fun v15 u15 hp15 => ?_)
    obtain ⟨rfl, rfl⟩ := hp15
    show Xw K G 0 0 _ n V R 18 [(0, .int (iI y)), (1, .int (iI k))] [.int (iI (bI (0 ≤ y ∧ y ≤ (12 - k))))]
    refine x_ifeq_b C dX11_isBoard_18 (tgt := 25) (by decide) (fun h18 => ?_) (fun h18 => ?_)
    · skip
      refine x_iconst C dX11_isBoard_25 ?_
      refine x_zret C (Or.inl rfl) dX11_isBoard_26 ⟨bI_rf (by omega), rfl⟩
    · skip
      refine x_iconst C dX11_isBoard_21 ?_
      refine x_goto C dX11_isBoard_22 (tgt := 26) (by decide) ?_
      refine x_zret C (Or.inr rfl) dX11_isBoard_26 ⟨bI_rt (by omega), rfl⟩
set_option maxRecDepth 100000 in
set_option maxHeartbeats 4000000 in
theorem m_X11_board (G : GS) (n : Nat) (V : Nat → Int → Int) (R : Nat → Int → Option Nat) (lr : Int) (lt : Int) (L : Int) (f : Int → Int → Int) (m : Int) (g : Int) (pr : Int → Int) (y : Int) (k : Int) (w : Int) (hn : 67 ≤ n) (hLR : LR R) (hI : CInv n V R lr lt L f m g pr) (gy : Rg y) (gk : Rg k) (gw : Rg w) : Cn G yX11_board cX11_board 5 (some .int) (rmk 7 0 0 154) [.ref (aG G 0), .int (iI y), .int (iI k), .int (iI w)] n V R 0 0 (fun vv uu => ∃ (r : Int), ∃ (V1 : Nat → Int → Int), vv = some (.int (iI r)) ∧ uu = (n, V1, R) ∧ (∀ q, q < 11 ∨ 22 < q → V1 q = V q) ∧ (CInv n V1 R lr lt L f m g pr) ∧ ((L = 0 ∧ r = -3) ∨ (L ≠ 0 ∧ ¬ (((1 ≤ k ∧ k ≤ 4) ∧ (0 ≤ y ∧ y ≤ 12 - k)) ∧ (0 ≤ w ∧ w ≤ 6)) ∧ r = -2) ∨ (L ≠ 0 ∧ (((1 ≤ k ∧ k ≤ 4) ∧ (0 ≤ y ∧ y ≤ 12 - k)) ∧ (0 ≤ w ∧ w ≤ 6)) ∧ boardP lr lt L f m g pr y k w r))) := by
  obtain ⟨ea0, ea1, ea2, ea3, ea5⟩ := hI.1.1
  obtain ⟨eb0, eb1, eb2, eb3, eb5⟩ := hI.1.2.1
  refine Cn.of (by decide) (Nat.le_of_ble_eq_true rfl) (fun K C hct => ?_)
  show Xw K G 0 0 _ n V R 0 [(0, .ref (aG G 0)), (1, .int (iI y)), (2, .int (iI k)), (3, .int (iI w))] []
  refine x_aload_n C 0 dX11_board_0 rfl rfl ?_
  refine x_getr C ok_Class 0 0 (d := 1) dX11_board_1 (lt67 hn rfl) rfl (by decide) rfl q_0_16 rfl (kz := 0) rfl (lr_0_0 hLR) ?_
  refine x_runU (r_callV C ok_Yard 1 (lt67 hn rfl) rfl (ce_X10_hasLog) (m_X10_hasLog G n V R (1) hn hLR (by first | assumption | omega | decide)) rfl dX11_board_4 q_8_6 q_8_7 q_8_8 rfl rfl ⟨Nat.le_of_ble_eq_true rfl, Nat.le_of_ble_eq_true rfl⟩ ⟨rfl, rfl⟩ ⟨Nat.le_of_ble_eq_true rfl, Nat.le_of_ble_eq_true rfl⟩ (Nat.le_of_ble_eq_true rfl)) (fun v4 u4 hp4 => ?_)
  obtain ⟨rfl, rfl⟩ := hp4
  show Xw K G 0 0 _ n V R 7 [(0, .ref (aG G 0)), (1, .int (iI y)), (2, .int (iI k)), (3, .int (iI w))] [.int (iI (bI (0 < V 1 2)))]
  refine x_ifne_b C dX11_board_7 (tgt := 13) (by decide) (fun h7 => ?_) (fun h7 => ?_)
  · skip
    refine x_iload_n C 1 dX11_board_13 rfl rfl ?_
    refine x_iload_n C 2 dX11_board_14 rfl rfl ?_
    refine x_runU (r_callS C (ce_X11_isBoard) (m_X11_isBoard G n V R (y) (k) (by first | assumption | omega | decide) (by first | assumption | omega | decide)) dX11_board_15 q_32_3 q_32_4 rfl rfl ⟨Nat.le_of_ble_eq_true rfl, Nat.le_of_ble_eq_true rfl⟩ ⟨rfl, rfl⟩ ⟨Nat.le_of_ble_eq_true rfl, Nat.le_of_ble_eq_true rfl⟩ (Nat.le_of_ble_eq_true rfl)) (fun v15 u15 hp15 => ?_)
    obtain ⟨rfl, rfl⟩ := hp15
    show Xw K G 0 0 _ n V R 18 [(0, .ref (aG G 0)), (1, .int (iI y)), (2, .int (iI k)), (3, .int (iI w))] [.int (iI (bI ((1 ≤ k ∧ k ≤ 4) ∧ (0 ≤ y ∧ y ≤ 12 - k))))]
    refine x_ifeq_b C dX11_board_18 (tgt := 31) (by decide) (fun h18 => ?_) (fun h18 => ?_)
    · skip
      refine x_bipush C dX11_board_31 (w := -2) (by decide) ?_
      refine x_iret C dX11_board_33 ⟨_, _, rfl, rfl, ?_, ?_, ?_⟩
      · first | exact fun _ _ => rfl | exact hfr | exact hI | exact hci | exact Or.inl ⟨by omega, rfl⟩ | exact Or.inr (Or.inl ⟨by omega, by omega, rfl⟩) | exact Or.inr (Or.inr ⟨by omega, by omega, ⟨_, _, _, _, _, _, _, hq40_1, Or.inl ⟨by omega, rfl⟩⟩⟩) | exact Or.inr (Or.inr ⟨by omega, by omega, ⟨_, _, _, _, _, _, _, hq40_1, Or.inr ⟨by omega, by omega⟩⟩⟩)
      · first | exact fun _ _ => rfl | exact hfr | exact hI | exact hci | exact Or.inl ⟨by omega, rfl⟩ | exact Or.inr (Or.inl ⟨by omega, by omega, rfl⟩) | exact Or.inr (Or.inr ⟨by omega, by omega, ⟨_, _, _, _, _, _, _, hq40_1, Or.inl ⟨by omega, rfl⟩⟩⟩) | exact Or.inr (Or.inr ⟨by omega, by omega, ⟨_, _, _, _, _, _, _, hq40_1, Or.inr ⟨by omega, by omega⟩⟩⟩)
      · first | exact fun _ _ => rfl | exact hfr | exact hI | exact hci | exact Or.inl ⟨by omega, rfl⟩ | exact Or.inr (Or.inl ⟨by omega, by omega, rfl⟩) | exact Or.inr (Or.inr ⟨by omega, by omega, ⟨_, _, _, _, _, _, _, hq40_1, Or.inl ⟨by omega, rfl⟩⟩⟩) | exact Or.inr (Or.inr ⟨by omega, by omega, ⟨_, _, _, _, _, _, _, hq40_1, Or.inr ⟨by omega, by omega⟩⟩⟩)
    · skip
      refine x_iload_n C 3 dX11_board_21 rfl rfl ?_
      refine x_iconst C dX11_board_22 ?_
      refine x_bipush C dX11_board_23 (w := 6) (by decide) ?_
      refine x_runU (r_callS C (ce_X11_within) (m_X11_within G n V R (w) (0) (6) (by first | assumption | omega | decide) (by first | assumption | omega | decide) (by first | assumption | omega | decide)) dX11_board_25 q_5_4 q_5_5 rfl rfl ⟨Nat.le_of_ble_eq_true rfl, Nat.le_of_ble_eq_true rfl⟩ ⟨rfl, rfl⟩ ⟨Nat.le_of_ble_eq_true rfl, Nat.le_of_ble_eq_true rfl⟩ (Nat.le_of_ble_eq_true rfl)) (fun v25 u25 hp25 => ?_)
      obtain ⟨rfl, rfl⟩ := hp25
      show Xw K G 0 0 _ n V R 28 [(0, .ref (aG G 0)), (1, .int (iI y)), (2, .int (iI k)), (3, .int (iI w))] [.int (iI (bI (0 ≤ w ∧ w ≤ 6)))]
      refine x_ifne_b C dX11_board_28 (tgt := 34) (by decide) (fun h28 => ?_) (fun h28 => ?_)
      · skip
        refine x_aload_n C 0 dX11_board_34 rfl rfl ?_
        refine x_runU (r_callV C ok_Class 0 (lt67 hn rfl) rfl (ce_X11_asItLies) (m_X11_asItLies G n V R (lr) (lt) (L) (f) (m) (g) (pr) hn hLR (by first | assumption | omega | decide) (by first | assumption | omega | decide)) rfl dX11_board_35 q_28_13 q_28_14 q_28_15 rfl rfl ⟨Nat.le_of_ble_eq_true rfl, Nat.le_of_ble_eq_true rfl⟩ ⟨rfl, rfl⟩ ⟨Nat.le_of_ble_eq_true rfl, Nat.le_of_ble_eq_true rfl⟩ (Nat.le_of_ble_eq_true rfl)) (fun v35 u35 hp35 => ?_)
        obtain ⟨V1_35, rfl, rfl, hq35_0, hq35_1, hq35_2, hq35_3⟩ := hp35
        show Xw K G 0 0 _ n V1_35 R 38 [(0, .ref (aG G 0)), (1, .int (iI y)), (2, .int (iI k)), (3, .int (iI w))] [.ref (aG G 11)]
        refine x_iload_n C 1 dX11_board_38 rfl rfl ?_
        refine x_iload_n C 2 dX11_board_39 rfl rfl ?_
        refine x_runU (r_callV C ok_Saw 11 (lt67 hn rfl) rfl (ce_X6_bestPiece) (m_X6_bestPiece G n V1_35 R (11) (lr) (lt) (L) (f) (m) (g) (pr) (y) (k) hn hLR (by first | assumption | omega | decide) (by exact hq35_2) (by first | assumption | omega | decide) (by first | assumption | omega | decide) (by exact hI.1.2.2.2.1.2.1)) rfl dX11_board_40 q_32_6 q_32_7 q_32_8 rfl rfl ⟨Nat.le_of_ble_eq_true rfl, Nat.le_of_ble_eq_true rfl⟩ ⟨rfl, rfl⟩ ⟨Nat.le_of_ble_eq_true rfl, Nat.le_of_ble_eq_true rfl⟩ (Nat.le_of_ble_eq_true rfl)) (fun v40 u40 hp40 => ?_)
        obtain ⟨V1_40, rfl, rfl, hq40_0, hq40_1, hq40_2, hq40_3⟩ := hp40
        show Xw K G 0 0 _ n V1_40 R 43 [(0, .ref (aG G 0)), (1, .int (iI y)), (2, .int (iI k)), (3, .int (iI w))] [.ref (aG G 18)]
        have hci : CInv n V1_40 R lr lt L f m g pr := hq35_3.fr78 hq40_0
        have hfr : ∀ q, q < 11 ∨ 22 < q → V1_40 q = V q := fun q a => (hq40_0 q (by omega) (by omega)).trans (hq35_0 q a)
        simp only [Nat.reduceAdd] at hq40_1 hq40_2 hq40_3
        refine x_astore C dX11_board_43 (by decide) (lv' := [(0, .ref (aG G 0)), (1, .int (iI y)), (2, .int (iI k)), (3, .int (iI w)), (4, .ref (aG G 18))]) rfl ?_
        refine x_aload C 4 dX11_board_45 rfl ?_
        refine x_geti C ok_Piece 18 8 dX11_board_47 (lt67 hn rfl) rfl (by decide) rfl q_31_19 rfl (kz := 8) rfl (fun rg47 => ?_)
        refine x_if_ne C dX11_board_50 (tgt := 55) (by decide) (by first | assumption | (constructor <;> omega)) (fun h50 => ?_) (fun h50 => ?_)
        · skip
          have hff := hq40_3 (by omega)
          refine x_iload_n C 3 dX11_board_55 rfl rfl ?_
          rcases (show w = 0 ∨ w = 1 ∨ w = 2 ∨ w = 3 ∨ w = 4 ∨ w = 5 ∨ (w < 0 ∨ 5 < w) by omega) with h56 | h56 | h56 | h56 | h56 | h56 | h56
          · skip
            refine x_tin C 0 h56 dX11_board_56 (by constructor <;> decide) (by decide) (by decide) (off := 40) rfl (tgt := 96) (by decide) ?_
            refine x_aload C 4 dX11_board_96 rfl ?_
            refine x_geti C ok_Piece 18 0 dX11_board_98 (lt67 hn rfl) rfl (by decide) rfl q_31_20 rfl (kz := 0) rfl (fun rg98 => ?_)
            refine x_iret C dX11_board_101 ⟨_, _, rfl, rfl, ?_, ?_, ?_⟩
            · first | exact fun _ _ => rfl | exact hfr | exact hI | exact hci | exact Or.inl ⟨by omega, rfl⟩ | exact Or.inr (Or.inl ⟨by omega, by omega, rfl⟩) | exact Or.inr (Or.inr ⟨by omega, by omega, ⟨_, _, _, _, _, _, _, hq40_1, Or.inl ⟨by omega, rfl⟩⟩⟩) | exact Or.inr (Or.inr ⟨by omega, by omega, ⟨_, _, _, _, _, _, _, hq40_1, Or.inr ⟨by omega, by omega⟩⟩⟩)
            · first | exact fun _ _ => rfl | exact hfr | exact hI | exact hci | exact Or.inl ⟨by omega, rfl⟩ | exact Or.inr (Or.inl ⟨by omega, by omega, rfl⟩) | exact Or.inr (Or.inr ⟨by omega, by omega, ⟨_, _, _, _, _, _, _, hq40_1, Or.inl ⟨by omega, rfl⟩⟩⟩) | exact Or.inr (Or.inr ⟨by omega, by omega, ⟨_, _, _, _, _, _, _, hq40_1, Or.inr ⟨by omega, by omega⟩⟩⟩)
            · first | exact fun _ _ => rfl | exact hfr | exact hI | exact hci | exact Or.inl ⟨by omega, rfl⟩ | exact Or.inr (Or.inl ⟨by omega, by omega, rfl⟩) | exact Or.inr (Or.inr ⟨by omega, by omega, ⟨_, _, _, _, _, _, _, hq40_1, Or.inl ⟨by omega, rfl⟩⟩⟩) | exact Or.inr (Or.inr ⟨by omega, by omega, ⟨_, _, _, _, _, _, _, hq40_1, Or.inr ⟨by omega, by omega⟩⟩⟩)
          · skip
            refine x_tin C 1 h56 dX11_board_56 (by constructor <;> decide) (by decide) (by decide) (off := 46) rfl (tgt := 102) (by decide) ?_
            refine x_aload C 4 dX11_board_102 rfl ?_
            refine x_geti C ok_Piece 18 1 dX11_board_104 (lt67 hn rfl) rfl (by decide) rfl q_31_21 rfl (kz := 1) rfl (fun rg104 => ?_)
            refine x_iret C dX11_board_107 ⟨_, _, rfl, rfl, ?_, ?_, ?_⟩
            · first | exact fun _ _ => rfl | exact hfr | exact hI | exact hci | exact Or.inl ⟨by omega, rfl⟩ | exact Or.inr (Or.inl ⟨by omega, by omega, rfl⟩) | exact Or.inr (Or.inr ⟨by omega, by omega, ⟨_, _, _, _, _, _, _, hq40_1, Or.inl ⟨by omega, rfl⟩⟩⟩) | exact Or.inr (Or.inr ⟨by omega, by omega, ⟨_, _, _, _, _, _, _, hq40_1, Or.inr ⟨by omega, by omega⟩⟩⟩)
            · first | exact fun _ _ => rfl | exact hfr | exact hI | exact hci | exact Or.inl ⟨by omega, rfl⟩ | exact Or.inr (Or.inl ⟨by omega, by omega, rfl⟩) | exact Or.inr (Or.inr ⟨by omega, by omega, ⟨_, _, _, _, _, _, _, hq40_1, Or.inl ⟨by omega, rfl⟩⟩⟩) | exact Or.inr (Or.inr ⟨by omega, by omega, ⟨_, _, _, _, _, _, _, hq40_1, Or.inr ⟨by omega, by omega⟩⟩⟩)
            · first | exact fun _ _ => rfl | exact hfr | exact hI | exact hci | exact Or.inl ⟨by omega, rfl⟩ | exact Or.inr (Or.inl ⟨by omega, by omega, rfl⟩) | exact Or.inr (Or.inr ⟨by omega, by omega, ⟨_, _, _, _, _, _, _, hq40_1, Or.inl ⟨by omega, rfl⟩⟩⟩) | exact Or.inr (Or.inr ⟨by omega, by omega, ⟨_, _, _, _, _, _, _, hq40_1, Or.inr ⟨by omega, by omega⟩⟩⟩)
          · skip
            refine x_tin C 2 h56 dX11_board_56 (by constructor <;> decide) (by decide) (by decide) (off := 52) rfl (tgt := 108) (by decide) ?_
            refine x_aload C 4 dX11_board_108 rfl ?_
            refine x_geti C ok_Piece 18 2 dX11_board_110 (lt67 hn rfl) rfl (by decide) rfl q_31_22 rfl (kz := 2) rfl (fun rg110 => ?_)
            refine x_iret C dX11_board_113 ⟨_, _, rfl, rfl, ?_, ?_, ?_⟩
            · first | exact fun _ _ => rfl | exact hfr | exact hI | exact hci | exact Or.inl ⟨by omega, rfl⟩ | exact Or.inr (Or.inl ⟨by omega, by omega, rfl⟩) | exact Or.inr (Or.inr ⟨by omega, by omega, ⟨_, _, _, _, _, _, _, hq40_1, Or.inl ⟨by omega, rfl⟩⟩⟩) | exact Or.inr (Or.inr ⟨by omega, by omega, ⟨_, _, _, _, _, _, _, hq40_1, Or.inr ⟨by omega, by omega⟩⟩⟩)
            · first | exact fun _ _ => rfl | exact hfr | exact hI | exact hci | exact Or.inl ⟨by omega, rfl⟩ | exact Or.inr (Or.inl ⟨by omega, by omega, rfl⟩) | exact Or.inr (Or.inr ⟨by omega, by omega, ⟨_, _, _, _, _, _, _, hq40_1, Or.inl ⟨by omega, rfl⟩⟩⟩) | exact Or.inr (Or.inr ⟨by omega, by omega, ⟨_, _, _, _, _, _, _, hq40_1, Or.inr ⟨by omega, by omega⟩⟩⟩)
            · first | exact fun _ _ => rfl | exact hfr | exact hI | exact hci | exact Or.inl ⟨by omega, rfl⟩ | exact Or.inr (Or.inl ⟨by omega, by omega, rfl⟩) | exact Or.inr (Or.inr ⟨by omega, by omega, ⟨_, _, _, _, _, _, _, hq40_1, Or.inl ⟨by omega, rfl⟩⟩⟩) | exact Or.inr (Or.inr ⟨by omega, by omega, ⟨_, _, _, _, _, _, _, hq40_1, Or.inr ⟨by omega, by omega⟩⟩⟩)
          · skip
            refine x_tin C 3 h56 dX11_board_56 (by constructor <;> decide) (by decide) (by decide) (off := 58) rfl (tgt := 114) (by decide) ?_
            refine x_aload C 4 dX11_board_114 rfl ?_
            refine x_geti C ok_Piece 18 3 dX11_board_116 (lt67 hn rfl) rfl (by decide) rfl q_31_23 rfl (kz := 3) rfl (fun rg116 => ?_)
            refine x_iret C dX11_board_119 ⟨_, _, rfl, rfl, ?_, ?_, ?_⟩
            · first | exact fun _ _ => rfl | exact hfr | exact hI | exact hci | exact Or.inl ⟨by omega, rfl⟩ | exact Or.inr (Or.inl ⟨by omega, by omega, rfl⟩) | exact Or.inr (Or.inr ⟨by omega, by omega, ⟨_, _, _, _, _, _, _, hq40_1, Or.inl ⟨by omega, rfl⟩⟩⟩) | exact Or.inr (Or.inr ⟨by omega, by omega, ⟨_, _, _, _, _, _, _, hq40_1, Or.inr ⟨by omega, by omega⟩⟩⟩)
            · first | exact fun _ _ => rfl | exact hfr | exact hI | exact hci | exact Or.inl ⟨by omega, rfl⟩ | exact Or.inr (Or.inl ⟨by omega, by omega, rfl⟩) | exact Or.inr (Or.inr ⟨by omega, by omega, ⟨_, _, _, _, _, _, _, hq40_1, Or.inl ⟨by omega, rfl⟩⟩⟩) | exact Or.inr (Or.inr ⟨by omega, by omega, ⟨_, _, _, _, _, _, _, hq40_1, Or.inr ⟨by omega, by omega⟩⟩⟩)
            · first | exact fun _ _ => rfl | exact hfr | exact hI | exact hci | exact Or.inl ⟨by omega, rfl⟩ | exact Or.inr (Or.inl ⟨by omega, by omega, rfl⟩) | exact Or.inr (Or.inr ⟨by omega, by omega, ⟨_, _, _, _, _, _, _, hq40_1, Or.inl ⟨by omega, rfl⟩⟩⟩) | exact Or.inr (Or.inr ⟨by omega, by omega, ⟨_, _, _, _, _, _, _, hq40_1, Or.inr ⟨by omega, by omega⟩⟩⟩)
          · skip
            refine x_tin C 4 h56 dX11_board_56 (by constructor <;> decide) (by decide) (by decide) (off := 64) rfl (tgt := 120) (by decide) ?_
            refine x_aload C 4 dX11_board_120 rfl ?_
            refine x_geti C ok_Piece 18 4 dX11_board_122 (lt67 hn rfl) rfl (by decide) rfl q_32_0 rfl (kz := 4) rfl (fun rg122 => ?_)
            refine x_iret C dX11_board_125 ⟨_, _, rfl, rfl, ?_, ?_, ?_⟩
            · first | exact fun _ _ => rfl | exact hfr | exact hI | exact hci | exact Or.inl ⟨by omega, rfl⟩ | exact Or.inr (Or.inl ⟨by omega, by omega, rfl⟩) | exact Or.inr (Or.inr ⟨by omega, by omega, ⟨_, _, _, _, _, _, _, hq40_1, Or.inl ⟨by omega, rfl⟩⟩⟩) | exact Or.inr (Or.inr ⟨by omega, by omega, ⟨_, _, _, _, _, _, _, hq40_1, Or.inr ⟨by omega, by omega⟩⟩⟩)
            · first | exact fun _ _ => rfl | exact hfr | exact hI | exact hci | exact Or.inl ⟨by omega, rfl⟩ | exact Or.inr (Or.inl ⟨by omega, by omega, rfl⟩) | exact Or.inr (Or.inr ⟨by omega, by omega, ⟨_, _, _, _, _, _, _, hq40_1, Or.inl ⟨by omega, rfl⟩⟩⟩) | exact Or.inr (Or.inr ⟨by omega, by omega, ⟨_, _, _, _, _, _, _, hq40_1, Or.inr ⟨by omega, by omega⟩⟩⟩)
            · first | exact fun _ _ => rfl | exact hfr | exact hI | exact hci | exact Or.inl ⟨by omega, rfl⟩ | exact Or.inr (Or.inl ⟨by omega, by omega, rfl⟩) | exact Or.inr (Or.inr ⟨by omega, by omega, ⟨_, _, _, _, _, _, _, hq40_1, Or.inl ⟨by omega, rfl⟩⟩⟩) | exact Or.inr (Or.inr ⟨by omega, by omega, ⟨_, _, _, _, _, _, _, hq40_1, Or.inr ⟨by omega, by omega⟩⟩⟩)
          · skip
            refine x_tin C 5 h56 dX11_board_56 (by constructor <;> decide) (by decide) (by decide) (off := 70) rfl (tgt := 126) (by decide) ?_
            refine x_aload C 4 dX11_board_126 rfl ?_
            refine x_geti C ok_Piece 18 5 dX11_board_128 (lt67 hn rfl) rfl (by decide) rfl q_32_1 rfl (kz := 5) rfl (fun rg128 => ?_)
            refine x_iret C dX11_board_131 ⟨_, _, rfl, rfl, ?_, ?_, ?_⟩
            · first | exact fun _ _ => rfl | exact hfr | exact hI | exact hci | exact Or.inl ⟨by omega, rfl⟩ | exact Or.inr (Or.inl ⟨by omega, by omega, rfl⟩) | exact Or.inr (Or.inr ⟨by omega, by omega, ⟨_, _, _, _, _, _, _, hq40_1, Or.inl ⟨by omega, rfl⟩⟩⟩) | exact Or.inr (Or.inr ⟨by omega, by omega, ⟨_, _, _, _, _, _, _, hq40_1, Or.inr ⟨by omega, by omega⟩⟩⟩)
            · first | exact fun _ _ => rfl | exact hfr | exact hI | exact hci | exact Or.inl ⟨by omega, rfl⟩ | exact Or.inr (Or.inl ⟨by omega, by omega, rfl⟩) | exact Or.inr (Or.inr ⟨by omega, by omega, ⟨_, _, _, _, _, _, _, hq40_1, Or.inl ⟨by omega, rfl⟩⟩⟩) | exact Or.inr (Or.inr ⟨by omega, by omega, ⟨_, _, _, _, _, _, _, hq40_1, Or.inr ⟨by omega, by omega⟩⟩⟩)
            · first | exact fun _ _ => rfl | exact hfr | exact hI | exact hci | exact Or.inl ⟨by omega, rfl⟩ | exact Or.inr (Or.inl ⟨by omega, by omega, rfl⟩) | exact Or.inr (Or.inr ⟨by omega, by omega, ⟨_, _, _, _, _, _, _, hq40_1, Or.inl ⟨by omega, rfl⟩⟩⟩) | exact Or.inr (Or.inr ⟨by omega, by omega, ⟨_, _, _, _, _, _, _, hq40_1, Or.inr ⟨by omega, by omega⟩⟩⟩)
          · skip
            refine x_tout C dX11_board_56 (tgt := 132) (by decide) (by first | assumption | (constructor <;> omega)) h56 ?_
            refine x_aload C 4 dX11_board_132 rfl ?_
            refine x_geti C ok_Piece 18 6 dX11_board_134 (lt67 hn rfl) rfl (by decide) rfl q_32_2 rfl (kz := 6) rfl (fun rg134 => ?_)
            refine x_iret C dX11_board_137 ⟨_, _, rfl, rfl, ?_, ?_, ?_⟩
            · first | exact fun _ _ => rfl | exact hfr | exact hI | exact hci | exact Or.inl ⟨by omega, rfl⟩ | exact Or.inr (Or.inl ⟨by omega, by omega, rfl⟩) | exact Or.inr (Or.inr ⟨by omega, by omega, ⟨_, _, _, _, _, _, _, hq40_1, Or.inl ⟨by omega, rfl⟩⟩⟩) | exact Or.inr (Or.inr ⟨by omega, by omega, ⟨_, _, _, _, _, _, _, hq40_1, Or.inr ⟨by omega, by omega⟩⟩⟩)
            · first | exact fun _ _ => rfl | exact hfr | exact hI | exact hci | exact Or.inl ⟨by omega, rfl⟩ | exact Or.inr (Or.inl ⟨by omega, by omega, rfl⟩) | exact Or.inr (Or.inr ⟨by omega, by omega, ⟨_, _, _, _, _, _, _, hq40_1, Or.inl ⟨by omega, rfl⟩⟩⟩) | exact Or.inr (Or.inr ⟨by omega, by omega, ⟨_, _, _, _, _, _, _, hq40_1, Or.inr ⟨by omega, by omega⟩⟩⟩)
            · first | exact fun _ _ => rfl | exact hfr | exact hI | exact hci | exact Or.inl ⟨by omega, rfl⟩ | exact Or.inr (Or.inl ⟨by omega, by omega, rfl⟩) | exact Or.inr (Or.inr ⟨by omega, by omega, ⟨_, _, _, _, _, _, _, hq40_1, Or.inl ⟨by omega, rfl⟩⟩⟩) | exact Or.inr (Or.inr ⟨by omega, by omega, ⟨_, _, _, _, _, _, _, hq40_1, Or.inr ⟨by omega, by omega⟩⟩⟩)
        · skip
          refine x_iconst C dX11_board_53 ?_
          refine x_iret C dX11_board_54 ⟨_, _, rfl, rfl, ?_, ?_, ?_⟩
          · first | exact fun _ _ => rfl | exact hfr | exact hI | exact hci | exact Or.inl ⟨by omega, rfl⟩ | exact Or.inr (Or.inl ⟨by omega, by omega, rfl⟩) | exact Or.inr (Or.inr ⟨by omega, by omega, ⟨_, _, _, _, _, _, _, hq40_1, Or.inl ⟨by omega, rfl⟩⟩⟩) | exact Or.inr (Or.inr ⟨by omega, by omega, ⟨_, _, _, _, _, _, _, hq40_1, Or.inr ⟨by omega, by omega⟩⟩⟩)
          · first | exact fun _ _ => rfl | exact hfr | exact hI | exact hci | exact Or.inl ⟨by omega, rfl⟩ | exact Or.inr (Or.inl ⟨by omega, by omega, rfl⟩) | exact Or.inr (Or.inr ⟨by omega, by omega, ⟨_, _, _, _, _, _, _, hq40_1, Or.inl ⟨by omega, rfl⟩⟩⟩) | exact Or.inr (Or.inr ⟨by omega, by omega, ⟨_, _, _, _, _, _, _, hq40_1, Or.inr ⟨by omega, by omega⟩⟩⟩)
          · first | exact fun _ _ => rfl | exact hfr | exact hI | exact hci | exact Or.inl ⟨by omega, rfl⟩ | exact Or.inr (Or.inl ⟨by omega, by omega, rfl⟩) | exact Or.inr (Or.inr ⟨by omega, by omega, ⟨_, _, _, _, _, _, _, hq40_1, Or.inl ⟨by omega, rfl⟩⟩⟩) | exact Or.inr (Or.inr ⟨by omega, by omega, ⟨_, _, _, _, _, _, _, hq40_1, Or.inr ⟨by omega, by omega⟩⟩⟩)
      · skip
        refine x_bipush C dX11_board_31 (w := -2) (by decide) ?_
        refine x_iret C dX11_board_33 ⟨_, _, rfl, rfl, ?_, ?_, ?_⟩
        · first | exact fun _ _ => rfl | exact hfr | exact hI | exact hci | exact Or.inl ⟨by omega, rfl⟩ | exact Or.inr (Or.inl ⟨by omega, by omega, rfl⟩) | exact Or.inr (Or.inr ⟨by omega, by omega, ⟨_, _, _, _, _, _, _, hq40_1, Or.inl ⟨by omega, rfl⟩⟩⟩) | exact Or.inr (Or.inr ⟨by omega, by omega, ⟨_, _, _, _, _, _, _, hq40_1, Or.inr ⟨by omega, by omega⟩⟩⟩)
        · first | exact fun _ _ => rfl | exact hfr | exact hI | exact hci | exact Or.inl ⟨by omega, rfl⟩ | exact Or.inr (Or.inl ⟨by omega, by omega, rfl⟩) | exact Or.inr (Or.inr ⟨by omega, by omega, ⟨_, _, _, _, _, _, _, hq40_1, Or.inl ⟨by omega, rfl⟩⟩⟩) | exact Or.inr (Or.inr ⟨by omega, by omega, ⟨_, _, _, _, _, _, _, hq40_1, Or.inr ⟨by omega, by omega⟩⟩⟩)
        · first | exact fun _ _ => rfl | exact hfr | exact hI | exact hci | exact Or.inl ⟨by omega, rfl⟩ | exact Or.inr (Or.inl ⟨by omega, by omega, rfl⟩) | exact Or.inr (Or.inr ⟨by omega, by omega, ⟨_, _, _, _, _, _, _, hq40_1, Or.inl ⟨by omega, rfl⟩⟩⟩) | exact Or.inr (Or.inr ⟨by omega, by omega, ⟨_, _, _, _, _, _, _, hq40_1, Or.inr ⟨by omega, by omega⟩⟩⟩)
  · skip
    refine x_bipush C dX11_board_10 (w := -3) (by decide) ?_
    refine x_iret C dX11_board_12 ⟨_, _, rfl, rfl, ?_, ?_, ?_⟩
    · first | exact fun _ _ => rfl | exact hfr | exact hI | exact hci | exact Or.inl ⟨by omega, rfl⟩ | exact Or.inr (Or.inl ⟨by omega, by omega, rfl⟩) | exact Or.inr (Or.inr ⟨by omega, by omega, ⟨_, _, _, _, _, _, _, hq40_1, Or.inl ⟨by omega, rfl⟩⟩⟩) | exact Or.inr (Or.inr ⟨by omega, by omega, ⟨_, _, _, _, _, _, _, hq40_1, Or.inr ⟨by omega, by omega⟩⟩⟩)
    · first | exact fun _ _ => rfl | exact hfr | exact hI | exact hci | exact Or.inl ⟨by omega, rfl⟩ | exact Or.inr (Or.inl ⟨by omega, by omega, rfl⟩) | exact Or.inr (Or.inr ⟨by omega, by omega, ⟨_, _, _, _, _, _, _, hq40_1, Or.inl ⟨by omega, rfl⟩⟩⟩) | exact Or.inr (Or.inr ⟨by omega, by omega, ⟨_, _, _, _, _, _, _, hq40_1, Or.inr ⟨by omega, by omega⟩⟩⟩)
    · first | exact fun _ _ => rfl | exact hfr | exact hI | exact hci | exact Or.inl ⟨by omega, rfl⟩ | exact Or.inr (Or.inl ⟨by omega, by omega, rfl⟩) | exact Or.inr (Or.inr ⟨by omega, by omega, ⟨_, _, _, _, _, _, _, hq40_1, Or.inl ⟨by omega, rfl⟩⟩⟩) | exact Or.inr (Or.inr ⟨by omega, by omega, ⟨_, _, _, _, _, _, _, hq40_1, Or.inr ⟨by omega, by omega⟩⟩⟩)
set_option maxRecDepth 100000 in
set_option maxHeartbeats 4000000 in
theorem m_X11_worth (G : GS) (n : Nat) (V : Nat → Int → Int) (R : Nat → Int → Option Nat) (lr : Int) (lt : Int) (L : Int) (f : Int → Int → Int) (m : Int) (g : Int) (pr : Int → Int) (y : Int) (k : Int) (hn : 67 ≤ n) (hLR : LR R) (hI : CInv n V R lr lt L f m g pr) (gy : Rg y) (gk : Rg k) : Cn G yX11_worth cX11_worth 3 (some .long) (rmk 7 0 0 154) [.ref (aG G 0), .int (iI y), .int (iI k)] n V R 0 0 (fun vv uu => ∃ (r : Int), ∃ (V1 : Nat → Int → Int), vv = some (.long (jI r)) ∧ uu = (n, V1, R) ∧ (∀ q, q < 11 ∨ 22 < q → V1 q = V q) ∧ (CInv n V1 R lr lt L f m g pr) ∧ (((L = 0 ∨ ¬ ((1 ≤ k ∧ k ≤ 4) ∧ (0 ≤ y ∧ y ≤ 12 - k))) ∧ r = (-4611686018427387904)) ∨ (L ≠ 0 ∧ ((1 ≤ k ∧ k ≤ 4) ∧ (0 ≤ y ∧ y ≤ 12 - k)) ∧ r = bwC lr lt L f m g pr y k))) := by
  obtain ⟨ea0, ea1, ea2, ea3, ea5⟩ := hI.1.1
  obtain ⟨eb0, eb1, eb2, eb3, eb5⟩ := hI.1.2.1
  refine Cn.of (by decide) (Nat.le_of_ble_eq_true rfl) (fun K C hct => ?_)
  show Xw K G 0 0 _ n V R 0 [(0, .ref (aG G 0)), (1, .int (iI y)), (2, .int (iI k))] []
  refine x_aload_n C 0 dX11_worth_0 rfl rfl ?_
  refine x_getr C ok_Class 0 0 (d := 1) dX11_worth_1 (lt67 hn rfl) rfl (by decide) rfl q_0_16 rfl (kz := 0) rfl (lr_0_0 hLR) ?_
  refine x_runU (r_callV C ok_Yard 1 (lt67 hn rfl) rfl (ce_X10_hasLog) (m_X10_hasLog G n V R (1) hn hLR (by first | assumption | omega | decide)) rfl dX11_worth_4 q_8_6 q_8_7 q_8_8 rfl rfl ⟨Nat.le_of_ble_eq_true rfl, Nat.le_of_ble_eq_true rfl⟩ ⟨rfl, rfl⟩ ⟨Nat.le_of_ble_eq_true rfl, Nat.le_of_ble_eq_true rfl⟩ (Nat.le_of_ble_eq_true rfl)) (fun v4 u4 hp4 => ?_)
  obtain ⟨rfl, rfl⟩ := hp4
  show Xw K G 0 0 _ n V R 7 [(0, .ref (aG G 0)), (1, .int (iI y)), (2, .int (iI k))] [.int (iI (bI (0 < V 1 2)))]
  refine x_ifeq_b C dX11_worth_7 (tgt := 18) (by decide) (fun h7 => ?_) (fun h7 => ?_)
  · skip
    refine x_ldc2 C dX11_worth_18 q_35_21 (w := -4611686018427387904) (by decide) ?_
    refine x_lret C dX11_worth_21 ⟨_, _, rfl, rfl, ?_, ?_, ?_⟩
    · first | exact fun _ _ => rfl | exact hfr | exact hI | exact hci | exact Or.inl ⟨by omega, rfl⟩ | exact Or.inr ⟨by omega, by omega, hwc⟩
    · first | exact fun _ _ => rfl | exact hfr | exact hI | exact hci | exact Or.inl ⟨by omega, rfl⟩ | exact Or.inr ⟨by omega, by omega, hwc⟩
    · first | exact fun _ _ => rfl | exact hfr | exact hI | exact hci | exact Or.inl ⟨by omega, rfl⟩ | exact Or.inr ⟨by omega, by omega, hwc⟩
  · skip
    refine x_iload_n C 1 dX11_worth_10 rfl rfl ?_
    refine x_iload_n C 2 dX11_worth_11 rfl rfl ?_
    refine x_runU (r_callS C (ce_X11_isBoard) (m_X11_isBoard G n V R (y) (k) (by first | assumption | omega | decide) (by first | assumption | omega | decide)) dX11_worth_12 q_32_3 q_32_4 rfl rfl ⟨Nat.le_of_ble_eq_true rfl, Nat.le_of_ble_eq_true rfl⟩ ⟨rfl, rfl⟩ ⟨Nat.le_of_ble_eq_true rfl, Nat.le_of_ble_eq_true rfl⟩ (Nat.le_of_ble_eq_true rfl)) (fun v12 u12 hp12 => ?_)
    obtain ⟨rfl, rfl⟩ := hp12
    show Xw K G 0 0 _ n V R 15 [(0, .ref (aG G 0)), (1, .int (iI y)), (2, .int (iI k))] [.int (iI (bI ((1 ≤ k ∧ k ≤ 4) ∧ (0 ≤ y ∧ y ≤ 12 - k))))]
    refine x_ifne_b C dX11_worth_15 (tgt := 22) (by decide) (fun h15 => ?_) (fun h15 => ?_)
    · skip
      refine x_aload_n C 0 dX11_worth_22 rfl rfl ?_
      refine x_runU (r_callV C ok_Class 0 (lt67 hn rfl) rfl (ce_X11_asItLies) (m_X11_asItLies G n V R (lr) (lt) (L) (f) (m) (g) (pr) hn hLR (by first | assumption | omega | decide) (by first | assumption | omega | decide)) rfl dX11_worth_23 q_28_13 q_28_14 q_28_15 rfl rfl ⟨Nat.le_of_ble_eq_true rfl, Nat.le_of_ble_eq_true rfl⟩ ⟨rfl, rfl⟩ ⟨Nat.le_of_ble_eq_true rfl, Nat.le_of_ble_eq_true rfl⟩ (Nat.le_of_ble_eq_true rfl)) (fun v23 u23 hp23 => ?_)
      obtain ⟨V1_23, rfl, rfl, hq23_0, hq23_1, hq23_2, hq23_3⟩ := hp23
      show Xw K G 0 0 _ n V1_23 R 26 [(0, .ref (aG G 0)), (1, .int (iI y)), (2, .int (iI k))] [.ref (aG G 11)]
      refine x_iload_n C 1 dX11_worth_26 rfl rfl ?_
      refine x_iload_n C 2 dX11_worth_27 rfl rfl ?_
      refine x_runU (r_callV C ok_Saw 11 (lt67 hn rfl) rfl (ce_X6_bestPiece) (m_X6_bestPiece G n V1_23 R (11) (lr) (lt) (L) (f) (m) (g) (pr) (y) (k) hn hLR (by first | assumption | omega | decide) (by exact hq23_2) (by first | assumption | omega | decide) (by first | assumption | omega | decide) (by exact hI.1.2.2.2.1.2.1)) rfl dX11_worth_28 q_32_6 q_32_7 q_32_8 rfl rfl ⟨Nat.le_of_ble_eq_true rfl, Nat.le_of_ble_eq_true rfl⟩ ⟨rfl, rfl⟩ ⟨Nat.le_of_ble_eq_true rfl, Nat.le_of_ble_eq_true rfl⟩ (Nat.le_of_ble_eq_true rfl)) (fun v28 u28 hp28 => ?_)
      obtain ⟨V1_28, rfl, rfl, hq28_0, hq28_1, hq28_2, hq28_3⟩ := hp28
      show Xw K G 0 0 _ n V1_28 R 31 [(0, .ref (aG G 0)), (1, .int (iI y)), (2, .int (iI k))] [.ref (aG G 18)]
      have hci : CInv n V1_28 R lr lt L f m g pr := hq23_3.fr78 hq28_0
      have hfr : ∀ q, q < 11 ∨ 22 < q → V1_28 q = V q := fun q a => (hq28_0 q (by omega) (by omega)).trans (hq23_0 q a)
      have hwc := (hq28_1.c hI.1.2.2.2.1 ⟨by omega, by omega⟩ (by omega)).1
      simp only [Nat.reduceAdd] at hq28_1 hq28_2 hq28_3 hwc
      refine x_geti C ok_Piece 18 8 dX11_worth_31 (lt67 hn rfl) rfl (by decide) rfl q_31_19 rfl (kz := 8) rfl (fun rg31 => ?_)
      refine x_i2l C dX11_worth_34 (by first | assumption | (constructor <;> omega)) ?_
      refine x_lret C dX11_worth_35 ⟨_, _, rfl, rfl, ?_, ?_, ?_⟩
      · first | exact fun _ _ => rfl | exact hfr | exact hI | exact hci | exact Or.inl ⟨by omega, rfl⟩ | exact Or.inr ⟨by omega, by omega, hwc⟩
      · first | exact fun _ _ => rfl | exact hfr | exact hI | exact hci | exact Or.inl ⟨by omega, rfl⟩ | exact Or.inr ⟨by omega, by omega, hwc⟩
      · first | exact fun _ _ => rfl | exact hfr | exact hI | exact hci | exact Or.inl ⟨by omega, rfl⟩ | exact Or.inr ⟨by omega, by omega, hwc⟩
    · skip
      refine x_ldc2 C dX11_worth_18 q_35_21 (w := -4611686018427387904) (by decide) ?_
      refine x_lret C dX11_worth_21 ⟨_, _, rfl, rfl, ?_, ?_, ?_⟩
      · first | exact fun _ _ => rfl | exact hfr | exact hI | exact hci | exact Or.inl ⟨by omega, rfl⟩ | exact Or.inr ⟨by omega, by omega, hwc⟩
      · first | exact fun _ _ => rfl | exact hfr | exact hI | exact hci | exact Or.inl ⟨by omega, rfl⟩ | exact Or.inr ⟨by omega, by omega, hwc⟩
      · first | exact fun _ _ => rfl | exact hfr | exact hI | exact hci | exact Or.inl ⟨by omega, rfl⟩ | exact Or.inr ⟨by omega, by omega, hwc⟩
set_option maxRecDepth 100000 in
set_option maxHeartbeats 4000000 in
theorem m_X11_graded (G : GS) (n : Nat) (V : Nat → Int → Int) (R : Nat → Int → Option Nat) (lr : Int) (lt : Int) (L : Int) (f : Int → Int → Int) (m : Int) (g : Int) (pr : Int → Int) (y : Int) (k : Int) (a : Int) (b : Int) (s : Int) (hn : 67 ≤ n) (hLR : LR R) (hI : CInv n V R lr lt L f m g pr) (gy : Rg y) (gk : Rg k) (ga : Rg a) (gb : Rg b) (gs : Rg s) : Cn G yX11_graded cX11_graded 9 (some .int) (rmk 7 0 0 154) [.ref (aG G 0), .int (iI y), .int (iI k), .int (iI a), .int (iI b), .int (iI s)] n V R 0 0 (fun vv uu => ∃ (r : Int), ∃ (V1 : Nat → Int → Int), vv = some (.int (iI r)) ∧ uu = (n, V1, R) ∧ (∀ q, q < 11 ∨ 22 < q → V1 q = V q) ∧ (CInv n V1 R lr lt L f m g pr) ∧ ((L = 0 ∧ r = -3) ∨ (L ≠ 0 ∧ ¬ ((1 ≤ k ∧ k ≤ 4) ∧ (0 ≤ y ∧ y ≤ 12 - k) ∧ (0 ≤ a ∧ a ≤ b) ∧ b ≤ 11 ∧ (0 ≤ s ∧ s ≤ 63) ∧ s.tdiv 8 ≤ s.tmod 8 ∧ s.tmod 8 ≤ L - 1) ∧ r = -2) ∨ (L ≠ 0 ∧ ((1 ≤ k ∧ k ≤ 4) ∧ (0 ≤ y ∧ y ≤ 12 - k) ∧ (0 ≤ a ∧ a ≤ b) ∧ b ≤ 11 ∧ (0 ≤ s ∧ s ≤ 63) ∧ s.tdiv 8 ≤ s.tmod 8 ∧ s.tmod 8 ≤ L - 1) ∧ (a < fcS lr lt y k (s.tmod 8) ∨ 11 - fcS lr lt y k (s.tmod 8) < b) ∧ r = -1) ∨ (L ≠ 0 ∧ ((1 ≤ k ∧ k ≤ 4) ∧ (0 ≤ y ∧ y ≤ 12 - k) ∧ (0 ≤ a ∧ a ≤ b) ∧ b ≤ 11 ∧ (0 ≤ s ∧ s ≤ 63) ∧ s.tdiv 8 ≤ s.tmod 8 ∧ s.tmod 8 ≤ L - 1) ∧ ¬ (a < fcS lr lt y k (s.tmod 8) ∨ 11 - fcS lr lt y k (s.tmod 8) < b) ∧ r = grP f m g y k a b (s.tdiv 8) (s.tmod 8)))) := by
  obtain ⟨ea0, ea1, ea2, ea3, ea5⟩ := hI.1.1
  obtain ⟨eb0, eb1, eb2, eb3, eb5⟩ := hI.1.2.1
  refine Cn.of (by decide) (Nat.le_of_ble_eq_true rfl) (fun K C hct => ?_)
  show Xw K G 0 0 _ n V R 0 [(0, .ref (aG G 0)), (1, .int (iI y)), (2, .int (iI k)), (3, .int (iI a)), (4, .int (iI b)), (5, .int (iI s))] []
  have hd8 : Rg (s.tdiv 8) ∧ Rg (s.tmod 8) := tdm_rg gs
  have hd9 : 0 ≤ s → 0 ≤ s.tdiv 8 ∧ 0 ≤ s.tmod 8 := fun h => ⟨Int.tdiv_nonneg h (by decide), Int.tmod_nonneg _ h⟩
  obtain ⟨hd8a, hd8b⟩ := hd8
  refine x_aload_n C 0 dX11_graded_0 rfl rfl ?_
  refine x_getr C ok_Class 0 0 (d := 1) dX11_graded_1 (lt67 hn rfl) rfl (by decide) rfl q_0_16 rfl (kz := 0) rfl (lr_0_0 hLR) ?_
  refine x_runU (r_callV C ok_Yard 1 (lt67 hn rfl) rfl (ce_X10_hasLog) (m_X10_hasLog G n V R (1) hn hLR (by first | assumption | omega | decide)) rfl dX11_graded_4 q_8_6 q_8_7 q_8_8 rfl rfl ⟨Nat.le_of_ble_eq_true rfl, Nat.le_of_ble_eq_true rfl⟩ ⟨rfl, rfl⟩ ⟨Nat.le_of_ble_eq_true rfl, Nat.le_of_ble_eq_true rfl⟩ (Nat.le_of_ble_eq_true rfl)) (fun v4 u4 hp4 => ?_)
  obtain ⟨rfl, rfl⟩ := hp4
  show Xw K G 0 0 _ n V R 7 [(0, .ref (aG G 0)), (1, .int (iI y)), (2, .int (iI k)), (3, .int (iI a)), (4, .int (iI b)), (5, .int (iI s))] [.int (iI (bI (0 < V 1 2)))]
  refine x_ifne_b C dX11_graded_7 (tgt := 13) (by decide) (fun h7 => ?_) (fun h7 => ?_)
  · skip
    refine x_iload_n C 1 dX11_graded_13 rfl rfl ?_
    refine x_iload_n C 2 dX11_graded_14 rfl rfl ?_
    refine x_runU (r_callS C (ce_X11_isBoard) (m_X11_isBoard G n V R (y) (k) (by first | assumption | omega | decide) (by first | assumption | omega | decide)) dX11_graded_15 q_32_3 q_32_4 rfl rfl ⟨Nat.le_of_ble_eq_true rfl, Nat.le_of_ble_eq_true rfl⟩ ⟨rfl, rfl⟩ ⟨Nat.le_of_ble_eq_true rfl, Nat.le_of_ble_eq_true rfl⟩ (Nat.le_of_ble_eq_true rfl)) (fun v15 u15 hp15 => ?_)
    obtain ⟨rfl, rfl⟩ := hp15
    show Xw K G 0 0 _ n V R 18 [(0, .ref (aG G 0)), (1, .int (iI y)), (2, .int (iI k)), (3, .int (iI a)), (4, .int (iI b)), (5, .int (iI s))] [.int (iI (bI ((1 ≤ k ∧ k ≤ 4) ∧ (0 ≤ y ∧ y ≤ 12 - k))))]
    refine x_ifeq_b C dX11_graded_18 (tgt := 32) (by decide) (fun h18 => ?_) (fun h18 => ?_)
    · skip
      refine x_bipush C dX11_graded_32 (w := -2) (by decide) ?_
      refine x_iret C dX11_graded_34 ⟨_, _, rfl, rfl, ?_, ?_, ?_⟩
      · first | exact fun _ _ => rfl | exact hq93_0 | exact hI | exact hq93_3 | exact Or.inl ⟨by omega, rfl⟩ | exact Or.inr (Or.inl ⟨by omega, by omega, rfl⟩) | exact Or.inr (Or.inr (Or.inl ⟨by omega, by omega, by omega, rfl⟩)) | exact Or.inr (Or.inr (Or.inr ⟨by omega, by omega, by omega, rfl⟩))
      · first | exact fun _ _ => rfl | exact hq93_0 | exact hI | exact hq93_3 | exact Or.inl ⟨by omega, rfl⟩ | exact Or.inr (Or.inl ⟨by omega, by omega, rfl⟩) | exact Or.inr (Or.inr (Or.inl ⟨by omega, by omega, by omega, rfl⟩)) | exact Or.inr (Or.inr (Or.inr ⟨by omega, by omega, by omega, rfl⟩))
      · first | exact fun _ _ => rfl | exact hq93_0 | exact hI | exact hq93_3 | exact Or.inl ⟨by omega, rfl⟩ | exact Or.inr (Or.inl ⟨by omega, by omega, rfl⟩) | exact Or.inr (Or.inr (Or.inl ⟨by omega, by omega, by omega, rfl⟩)) | exact Or.inr (Or.inr (Or.inr ⟨by omega, by omega, by omega, rfl⟩))
    · skip
      refine x_iload C 5 dX11_graded_21 rfl ?_
      refine x_iconst C dX11_graded_23 ?_
      refine x_bipush C dX11_graded_24 (w := 63) (by decide) ?_
      refine x_runU (r_callS C (ce_X11_within) (m_X11_within G n V R (s) (0) (63) (by first | assumption | omega | decide) (by first | assumption | omega | decide) (by first | assumption | omega | decide)) dX11_graded_26 q_5_4 q_5_5 rfl rfl ⟨Nat.le_of_ble_eq_true rfl, Nat.le_of_ble_eq_true rfl⟩ ⟨rfl, rfl⟩ ⟨Nat.le_of_ble_eq_true rfl, Nat.le_of_ble_eq_true rfl⟩ (Nat.le_of_ble_eq_true rfl)) (fun v26 u26 hp26 => ?_)
      obtain ⟨rfl, rfl⟩ := hp26
      show Xw K G 0 0 _ n V R 29 [(0, .ref (aG G 0)), (1, .int (iI y)), (2, .int (iI k)), (3, .int (iI a)), (4, .int (iI b)), (5, .int (iI s))] [.int (iI (bI (0 ≤ s ∧ s ≤ 63)))]
      refine x_ifne_b C dX11_graded_29 (tgt := 35) (by decide) (fun h29 => ?_) (fun h29 => ?_)
      · skip
        refine x_iload C 5 dX11_graded_35 rfl ?_
        refine x_bipush C dX11_graded_37 (w := 8) (by decide) ?_
        refine x_itdiv C dX11_graded_39 (by first | assumption | (constructor <;> omega)) (by first | assumption | (constructor <;> omega)) (by omega) ?_
        refine x_istore C dX11_graded_40 (by decide) (lv' := [(0, .ref (aG G 0)), (1, .int (iI y)), (2, .int (iI k)), (3, .int (iI a)), (4, .int (iI b)), (5, .int (iI s)), (6, .int (iI (s.tdiv 8)))]) rfl ?_
        obtain ⟨hd9a, hd9b⟩ := hd9 (by omega)
        refine x_iload C 5 dX11_graded_42 rfl ?_
        refine x_bipush C dX11_graded_44 (w := 8) (by decide) ?_
        refine x_itrem C dX11_graded_46 (by first | assumption | (constructor <;> omega)) (by first | assumption | (constructor <;> omega)) (by omega) ?_
        refine x_istore C dX11_graded_47 (by decide) (lv' := [(0, .ref (aG G 0)), (1, .int (iI y)), (2, .int (iI k)), (3, .int (iI a)), (4, .int (iI b)), (5, .int (iI s)), (6, .int (iI (s.tdiv 8))), (7, .int (iI (s.tmod 8)))]) rfl ?_
        refine x_iload C 4 dX11_graded_49 rfl ?_
        refine x_iconst C dX11_graded_51 ?_
        refine x_bipush C dX11_graded_52 (w := 11) (by decide) ?_
        refine x_runU (r_callS C (ce_X11_within) (m_X11_within G n V R (b) (0) (11) (by first | assumption | omega | decide) (by first | assumption | omega | decide) (by first | assumption | omega | decide)) dX11_graded_54 q_5_4 q_5_5 rfl rfl ⟨Nat.le_of_ble_eq_true rfl, Nat.le_of_ble_eq_true rfl⟩ ⟨rfl, rfl⟩ ⟨Nat.le_of_ble_eq_true rfl, Nat.le_of_ble_eq_true rfl⟩ (Nat.le_of_ble_eq_true rfl)) (fun v54 u54 hp54 => ?_)
        obtain ⟨rfl, rfl⟩ := hp54
        show Xw K G 0 0 _ n V R 57 [(0, .ref (aG G 0)), (1, .int (iI y)), (2, .int (iI k)), (3, .int (iI a)), (4, .int (iI b)), (5, .int (iI s)), (6, .int (iI (s.tdiv 8))), (7, .int (iI (s.tmod 8)))] [.int (iI (bI (0 ≤ b ∧ b ≤ 11)))]
        refine x_ifeq_b C dX11_graded_57 (tgt := 89) (by decide) (fun h57 => ?_) (fun h57 => ?_)
        · skip
          refine x_bipush C dX11_graded_89 (w := -2) (by decide) ?_
          refine x_iret C dX11_graded_91 ⟨_, _, rfl, rfl, ?_, ?_, ?_⟩
          · first | exact fun _ _ => rfl | exact hq93_0 | exact hI | exact hq93_3 | exact Or.inl ⟨by omega, rfl⟩ | exact Or.inr (Or.inl ⟨by omega, by omega, rfl⟩) | exact Or.inr (Or.inr (Or.inl ⟨by omega, by omega, by omega, rfl⟩)) | exact Or.inr (Or.inr (Or.inr ⟨by omega, by omega, by omega, rfl⟩))
          · first | exact fun _ _ => rfl | exact hq93_0 | exact hI | exact hq93_3 | exact Or.inl ⟨by omega, rfl⟩ | exact Or.inr (Or.inl ⟨by omega, by omega, rfl⟩) | exact Or.inr (Or.inr (Or.inl ⟨by omega, by omega, by omega, rfl⟩)) | exact Or.inr (Or.inr (Or.inr ⟨by omega, by omega, by omega, rfl⟩))
          · first | exact fun _ _ => rfl | exact hq93_0 | exact hI | exact hq93_3 | exact Or.inl ⟨by omega, rfl⟩ | exact Or.inr (Or.inl ⟨by omega, by omega, rfl⟩) | exact Or.inr (Or.inr (Or.inl ⟨by omega, by omega, by omega, rfl⟩)) | exact Or.inr (Or.inr (Or.inr ⟨by omega, by omega, by omega, rfl⟩))
        · skip
          refine x_iload_n C 3 dX11_graded_60 rfl rfl ?_
          refine x_iconst C dX11_graded_61 ?_
          refine x_iload C 4 dX11_graded_62 rfl ?_
          refine x_runU (r_callS C (ce_X11_within) (m_X11_within G n V R (a) (0) (b) (by first | assumption | omega | decide) (by first | assumption | omega | decide) (by first | assumption | omega | decide)) dX11_graded_64 q_5_4 q_5_5 rfl rfl ⟨Nat.le_of_ble_eq_true rfl, Nat.le_of_ble_eq_true rfl⟩ ⟨rfl, rfl⟩ ⟨Nat.le_of_ble_eq_true rfl, Nat.le_of_ble_eq_true rfl⟩ (Nat.le_of_ble_eq_true rfl)) (fun v64 u64 hp64 => ?_)
          obtain ⟨rfl, rfl⟩ := hp64
          show Xw K G 0 0 _ n V R 67 [(0, .ref (aG G 0)), (1, .int (iI y)), (2, .int (iI k)), (3, .int (iI a)), (4, .int (iI b)), (5, .int (iI s)), (6, .int (iI (s.tdiv 8))), (7, .int (iI (s.tmod 8)))] [.int (iI (bI (0 ≤ a ∧ a ≤ b)))]
          refine x_ifeq_b C dX11_graded_67 (tgt := 89) (by decide) (fun h67 => ?_) (fun h67 => ?_)
          · skip
            refine x_bipush C dX11_graded_89 (w := -2) (by decide) ?_
            refine x_iret C dX11_graded_91 ⟨_, _, rfl, rfl, ?_, ?_, ?_⟩
            · first | exact fun _ _ => rfl | exact hq93_0 | exact hI | exact hq93_3 | exact Or.inl ⟨by omega, rfl⟩ | exact Or.inr (Or.inl ⟨by omega, by omega, rfl⟩) | exact Or.inr (Or.inr (Or.inl ⟨by omega, by omega, by omega, rfl⟩)) | exact Or.inr (Or.inr (Or.inr ⟨by omega, by omega, by omega, rfl⟩))
            · first | exact fun _ _ => rfl | exact hq93_0 | exact hI | exact hq93_3 | exact Or.inl ⟨by omega, rfl⟩ | exact Or.inr (Or.inl ⟨by omega, by omega, rfl⟩) | exact Or.inr (Or.inr (Or.inl ⟨by omega, by omega, by omega, rfl⟩)) | exact Or.inr (Or.inr (Or.inr ⟨by omega, by omega, by omega, rfl⟩))
            · first | exact fun _ _ => rfl | exact hq93_0 | exact hI | exact hq93_3 | exact Or.inl ⟨by omega, rfl⟩ | exact Or.inr (Or.inl ⟨by omega, by omega, rfl⟩) | exact Or.inr (Or.inr (Or.inl ⟨by omega, by omega, by omega, rfl⟩)) | exact Or.inr (Or.inr (Or.inr ⟨by omega, by omega, by omega, rfl⟩))
          · skip
            refine x_iload C 7 dX11_graded_70 rfl ?_
            refine x_aload_n C 0 dX11_graded_72 rfl rfl ?_
            refine x_getr C ok_Class 0 0 (d := 1) dX11_graded_73 (lt67 hn rfl) rfl (by decide) rfl q_0_16 rfl (kz := 0) rfl (lr_0_0 hLR) ?_
            refine x_geti C ok_Yard 1 2 dX11_graded_76 (lt67 hn rfl) rfl (by decide) rfl q_5_15 rfl (kz := 2) rfl (fun rg76 => ?_)
            refine x_icmp_ge C dX11_graded_79 (tgt := 89) (by decide) (by first | assumption | (constructor <;> omega)) (by first | assumption | (constructor <;> omega)) (fun h79 => ?_) (fun h79 => ?_)
            · skip
              refine x_bipush C dX11_graded_89 (w := -2) (by decide) ?_
              refine x_iret C dX11_graded_91 ⟨_, _, rfl, rfl, ?_, ?_, ?_⟩
              · first | exact fun _ _ => rfl | exact hq93_0 | exact hI | exact hq93_3 | exact Or.inl ⟨by omega, rfl⟩ | exact Or.inr (Or.inl ⟨by omega, by omega, rfl⟩) | exact Or.inr (Or.inr (Or.inl ⟨by omega, by omega, by omega, rfl⟩)) | exact Or.inr (Or.inr (Or.inr ⟨by omega, by omega, by omega, rfl⟩))
              · first | exact fun _ _ => rfl | exact hq93_0 | exact hI | exact hq93_3 | exact Or.inl ⟨by omega, rfl⟩ | exact Or.inr (Or.inl ⟨by omega, by omega, rfl⟩) | exact Or.inr (Or.inr (Or.inl ⟨by omega, by omega, by omega, rfl⟩)) | exact Or.inr (Or.inr (Or.inr ⟨by omega, by omega, by omega, rfl⟩))
              · first | exact fun _ _ => rfl | exact hq93_0 | exact hI | exact hq93_3 | exact Or.inl ⟨by omega, rfl⟩ | exact Or.inr (Or.inl ⟨by omega, by omega, rfl⟩) | exact Or.inr (Or.inr (Or.inl ⟨by omega, by omega, by omega, rfl⟩)) | exact Or.inr (Or.inr (Or.inr ⟨by omega, by omega, by omega, rfl⟩))
            · skip
              refine x_iload C 6 dX11_graded_82 rfl ?_
              refine x_iload C 7 dX11_graded_84 rfl ?_
              refine x_icmp_le C dX11_graded_86 (tgt := 92) (by decide) (by first | assumption | (constructor <;> omega)) (by first | assumption | (constructor <;> omega)) (fun h86 => ?_) (fun h86 => ?_)
              · skip
                have hfb := fcS_b lr lt y k (s.tmod 8)
                refine x_aload_n C 0 dX11_graded_92 rfl rfl ?_
                refine x_runU (r_callV C ok_Class 0 (lt67 hn rfl) rfl (ce_X11_asItLies) (m_X11_asItLies G n V R (lr) (lt) (L) (f) (m) (g) (pr) hn hLR (by first | assumption | omega | decide) (by first | assumption | omega | decide)) rfl dX11_graded_93 q_28_13 q_28_14 q_28_15 rfl rfl ⟨Nat.le_of_ble_eq_true rfl, Nat.le_of_ble_eq_true rfl⟩ ⟨rfl, rfl⟩ ⟨Nat.le_of_ble_eq_true rfl, Nat.le_of_ble_eq_true rfl⟩ (Nat.le_of_ble_eq_true rfl)) (fun v93 u93 hp93 => ?_)
                obtain ⟨V1_93, rfl, rfl, hq93_0, hq93_1, hq93_2, hq93_3⟩ := hp93
                show Xw K G 0 0 _ n V1_93 R 96 [(0, .ref (aG G 0)), (1, .int (iI y)), (2, .int (iI k)), (3, .int (iI a)), (4, .int (iI b)), (5, .int (iI s)), (6, .int (iI (s.tdiv 8))), (7, .int (iI (s.tmod 8)))] [.ref (aG G 11)]
                refine x_astore C dX11_graded_96 (by decide) (lv' := [(0, .ref (aG G 0)), (1, .int (iI y)), (2, .int (iI k)), (3, .int (iI a)), (4, .int (iI b)), (5, .int (iI s)), (6, .int (iI (s.tdiv 8))), (7, .int (iI (s.tmod 8))), (8, .ref (aG G 11))]) rfl ?_
                refine x_aload C 8 dX11_graded_98 rfl ?_
                refine x_iload_n C 1 dX11_graded_100 rfl rfl ?_
                refine x_iload_n C 2 dX11_graded_101 rfl rfl ?_
                refine x_iload_n C 3 dX11_graded_102 rfl rfl ?_
                refine x_iload C 4 dX11_graded_103 rfl ?_
                refine x_iload C 7 dX11_graded_105 rfl ?_
                refine x_runU (r_callV C ok_Saw 11 (lt67 hn rfl) rfl (ce_X6_isAllWood) (m_X6_isAllWood G n V1_93 R (11) (lr) (lt) (L) (f) (m) (g) (pr) (y) (k) (a) (b) (s.tmod 8) hn hLR (by first | assumption | omega | decide) (by exact hq93_2) (by first | assumption | omega | decide) (by first | assumption | omega | decide) (by first | assumption | omega | decide) (by first | assumption | omega | decide) (by first | assumption | omega | decide)) rfl dX11_graded_107 q_35_7 q_35_8 q_35_9 rfl rfl ⟨Nat.le_of_ble_eq_true rfl, Nat.le_of_ble_eq_true rfl⟩ ⟨rfl, rfl⟩ ⟨Nat.le_of_ble_eq_true rfl, Nat.le_of_ble_eq_true rfl⟩ (Nat.le_of_ble_eq_true rfl)) (fun v107 u107 hp107 => ?_)
                obtain ⟨rfl, rfl⟩ := hp107
                show Xw K G 0 0 _ n V1_93 R 110 [(0, .ref (aG G 0)), (1, .int (iI y)), (2, .int (iI k)), (3, .int (iI a)), (4, .int (iI b)), (5, .int (iI s)), (6, .int (iI (s.tdiv 8))), (7, .int (iI (s.tmod 8))), (8, .ref (aG G 11))] [.int (iI (bI (fcS lr lt y k (s.tmod 8) ≤ a ∧ b ≤ 11 - fcS lr lt y k (s.tmod 8))))]
                refine x_ifeq_b C dX11_graded_110 (tgt := 130) (by decide) (fun h110 => ?_) (fun h110 => ?_)
                · skip
                  refine x_iconst C dX11_graded_130 ?_
                  refine x_iret C dX11_graded_131 ⟨_, _, rfl, rfl, ?_, ?_, ?_⟩
                  · first | exact fun _ _ => rfl | exact hq93_0 | exact hI | exact hq93_3 | exact Or.inl ⟨by omega, rfl⟩ | exact Or.inr (Or.inl ⟨by omega, by omega, rfl⟩) | exact Or.inr (Or.inr (Or.inl ⟨by omega, by omega, by omega, rfl⟩)) | exact Or.inr (Or.inr (Or.inr ⟨by omega, by omega, by omega, rfl⟩))
                  · first | exact fun _ _ => rfl | exact hq93_0 | exact hI | exact hq93_3 | exact Or.inl ⟨by omega, rfl⟩ | exact Or.inr (Or.inl ⟨by omega, by omega, rfl⟩) | exact Or.inr (Or.inr (Or.inl ⟨by omega, by omega, by omega, rfl⟩)) | exact Or.inr (Or.inr (Or.inr ⟨by omega, by omega, by omega, rfl⟩))
                  · first | exact fun _ _ => rfl | exact hq93_0 | exact hI | exact hq93_3 | exact Or.inl ⟨by omega, rfl⟩ | exact Or.inr (Or.inl ⟨by omega, by omega, rfl⟩) | exact Or.inr (Or.inr (Or.inl ⟨by omega, by omega, by omega, rfl⟩)) | exact Or.inr (Or.inr (Or.inr ⟨by omega, by omega, by omega, rfl⟩))
                · skip
                  refine x_aload C 8 dX11_graded_113 rfl ?_
                  refine x_iload_n C 1 dX11_graded_115 rfl rfl ?_
                  refine x_iload_n C 2 dX11_graded_116 rfl rfl ?_
                  refine x_iload_n C 3 dX11_graded_117 rfl rfl ?_
                  refine x_iload C 4 dX11_graded_118 rfl ?_
                  refine x_iload C 6 dX11_graded_120 rfl ?_
                  refine x_iload C 7 dX11_graded_122 rfl ?_
                  refine x_runU (r_callV C ok_Saw 11 (lt67 hn rfl) rfl (ce_X6_gradeOf) (m_X6_gradeOf G n V1_93 R (11) (lr) (lt) (L) (f) (m) (g) (pr) (y) (k) (a) (b) (s.tdiv 8) (s.tmod 8) hn hLR (by first | assumption | omega | decide) (by exact hq93_2) (by first | assumption | omega | decide) (by first | assumption | omega | decide) (by first | assumption | omega | decide) (by first | assumption | omega | decide) (by first | assumption | omega | decide) (by first | assumption | omega | decide)) rfl dX11_graded_124 q_35_11 q_33_4 q_33_5 rfl rfl ⟨Nat.le_of_ble_eq_true rfl, Nat.le_of_ble_eq_true rfl⟩ ⟨rfl, rfl⟩ ⟨Nat.le_of_ble_eq_true rfl, Nat.le_of_ble_eq_true rfl⟩ (Nat.le_of_ble_eq_true rfl)) (fun v124 u124 hp124 => ?_)
                  obtain ⟨rfl, rfl⟩ := hp124
                  show Xw K G 0 0 _ n V1_93 R 127 [(0, .ref (aG G 0)), (1, .int (iI y)), (2, .int (iI k)), (3, .int (iI a)), (4, .int (iI b)), (5, .int (iI s)), (6, .int (iI (s.tdiv 8))), (7, .int (iI (s.tmod 8))), (8, .ref (aG G 11))] [.int (iI (grP f m g y k a b (s.tdiv 8) (s.tmod 8)))]
                  refine x_goto C dX11_graded_127 (tgt := 131) (by decide) ?_
                  refine x_iret C dX11_graded_131 ⟨_, _, rfl, rfl, ?_, ?_, ?_⟩
                  · first | exact fun _ _ => rfl | exact hq93_0 | exact hI | exact hq93_3 | exact Or.inl ⟨by omega, rfl⟩ | exact Or.inr (Or.inl ⟨by omega, by omega, rfl⟩) | exact Or.inr (Or.inr (Or.inl ⟨by omega, by omega, by omega, rfl⟩)) | exact Or.inr (Or.inr (Or.inr ⟨by omega, by omega, by omega, rfl⟩))
                  · first | exact fun _ _ => rfl | exact hq93_0 | exact hI | exact hq93_3 | exact Or.inl ⟨by omega, rfl⟩ | exact Or.inr (Or.inl ⟨by omega, by omega, rfl⟩) | exact Or.inr (Or.inr (Or.inl ⟨by omega, by omega, by omega, rfl⟩)) | exact Or.inr (Or.inr (Or.inr ⟨by omega, by omega, by omega, rfl⟩))
                  · first | exact fun _ _ => rfl | exact hq93_0 | exact hI | exact hq93_3 | exact Or.inl ⟨by omega, rfl⟩ | exact Or.inr (Or.inl ⟨by omega, by omega, rfl⟩) | exact Or.inr (Or.inr (Or.inl ⟨by omega, by omega, by omega, rfl⟩)) | exact Or.inr (Or.inr (Or.inr ⟨by omega, by omega, by omega, rfl⟩))
              · skip
                refine x_bipush C dX11_graded_89 (w := -2) (by decide) ?_
                refine x_iret C dX11_graded_91 ⟨_, _, rfl, rfl, ?_, ?_, ?_⟩
                · first | exact fun _ _ => rfl | exact hq93_0 | exact hI | exact hq93_3 | exact Or.inl ⟨by omega, rfl⟩ | exact Or.inr (Or.inl ⟨by omega, by omega, rfl⟩) | exact Or.inr (Or.inr (Or.inl ⟨by omega, by omega, by omega, rfl⟩)) | exact Or.inr (Or.inr (Or.inr ⟨by omega, by omega, by omega, rfl⟩))
                · first | exact fun _ _ => rfl | exact hq93_0 | exact hI | exact hq93_3 | exact Or.inl ⟨by omega, rfl⟩ | exact Or.inr (Or.inl ⟨by omega, by omega, rfl⟩) | exact Or.inr (Or.inr (Or.inl ⟨by omega, by omega, by omega, rfl⟩)) | exact Or.inr (Or.inr (Or.inr ⟨by omega, by omega, by omega, rfl⟩))
                · first | exact fun _ _ => rfl | exact hq93_0 | exact hI | exact hq93_3 | exact Or.inl ⟨by omega, rfl⟩ | exact Or.inr (Or.inl ⟨by omega, by omega, rfl⟩) | exact Or.inr (Or.inr (Or.inl ⟨by omega, by omega, by omega, rfl⟩)) | exact Or.inr (Or.inr (Or.inr ⟨by omega, by omega, by omega, rfl⟩))
      · skip
        refine x_bipush C dX11_graded_32 (w := -2) (by decide) ?_
        refine x_iret C dX11_graded_34 ⟨_, _, rfl, rfl, ?_, ?_, ?_⟩
        · first | exact fun _ _ => rfl | exact hq93_0 | exact hI | exact hq93_3 | exact Or.inl ⟨by omega, rfl⟩ | exact Or.inr (Or.inl ⟨by omega, by omega, rfl⟩) | exact Or.inr (Or.inr (Or.inl ⟨by omega, by omega, by omega, rfl⟩)) | exact Or.inr (Or.inr (Or.inr ⟨by omega, by omega, by omega, rfl⟩))
        · first | exact fun _ _ => rfl | exact hq93_0 | exact hI | exact hq93_3 | exact Or.inl ⟨by omega, rfl⟩ | exact Or.inr (Or.inl ⟨by omega, by omega, rfl⟩) | exact Or.inr (Or.inr (Or.inl ⟨by omega, by omega, by omega, rfl⟩)) | exact Or.inr (Or.inr (Or.inr ⟨by omega, by omega, by omega, rfl⟩))
        · first | exact fun _ _ => rfl | exact hq93_0 | exact hI | exact hq93_3 | exact Or.inl ⟨by omega, rfl⟩ | exact Or.inr (Or.inl ⟨by omega, by omega, rfl⟩) | exact Or.inr (Or.inr (Or.inl ⟨by omega, by omega, by omega, rfl⟩)) | exact Or.inr (Or.inr (Or.inr ⟨by omega, by omega, by omega, rfl⟩))
  · skip
    refine x_bipush C dX11_graded_10 (w := -3) (by decide) ?_
    refine x_iret C dX11_graded_12 ⟨_, _, rfl, rfl, ?_, ?_, ?_⟩
    · first | exact fun _ _ => rfl | exact hq93_0 | exact hI | exact hq93_3 | exact Or.inl ⟨by omega, rfl⟩ | exact Or.inr (Or.inl ⟨by omega, by omega, rfl⟩) | exact Or.inr (Or.inr (Or.inl ⟨by omega, by omega, by omega, rfl⟩)) | exact Or.inr (Or.inr (Or.inr ⟨by omega, by omega, by omega, rfl⟩))
    · first | exact fun _ _ => rfl | exact hq93_0 | exact hI | exact hq93_3 | exact Or.inl ⟨by omega, rfl⟩ | exact Or.inr (Or.inl ⟨by omega, by omega, rfl⟩) | exact Or.inr (Or.inr (Or.inl ⟨by omega, by omega, by omega, rfl⟩)) | exact Or.inr (Or.inr (Or.inr ⟨by omega, by omega, by omega, rfl⟩))
    · first | exact fun _ _ => rfl | exact hq93_0 | exact hI | exact hq93_3 | exact Or.inl ⟨by omega, rfl⟩ | exact Or.inr (Or.inl ⟨by omega, by omega, rfl⟩) | exact Or.inr (Or.inr (Or.inl ⟨by omega, by omega, by omega, rfl⟩)) | exact Or.inr (Or.inr (Or.inr ⟨by omega, by omega, by omega, rfl⟩))
set_option maxRecDepth 100000 in
set_option maxHeartbeats 4000000 in
theorem m_X11_opening (G : GS) (n : Nat) (V : Nat → Int → Int) (R : Nat → Int → Option Nat) (lr : Int) (lt : Int) (L : Int) (f : Int → Int → Int) (m : Int) (g : Int) (pr : Int → Int) (k : Int) (w : Int) (hn : 67 ≤ n) (hLR : LR R) (hI : CInv n V R lr lt L f m g pr) (gk : Rg k) (gw : Rg w) : Cn G yX11_opening cX11_opening 4 (some .int) (rmk 8 0 0 181) [.ref (aG G 0), .int (iI k), .int (iI w)] n V R 0 0 (fun vv uu => ∃ (r : Int), ∃ (V1 : Nat → Int → Int), vv = some (.int (iI r)) ∧ uu = (n, V1, R) ∧ (∀ q, q < 11 ∨ 22 < q → V1 q = V q) ∧ (CInv n V1 R lr lt L f m g pr) ∧ ((L = 0 ∧ r = -3) ∨ (L ≠ 0 ∧ ¬ (0 ≤ w ∧ w ≤ 2) ∧ r = -2) ∨ (L ≠ 0 ∧ (0 ≤ w ∧ w ≤ 2) ∧ k = -1 ∧ r = (opL lr lt L f m pr g).length) ∨ (L ≠ 0 ∧ (0 ≤ w ∧ w ≤ 2) ∧ k ≠ -1 ∧ ¬ (0 ≤ k ∧ k < (opL lr lt L f m pr g).length) ∧ r = -12) ∨ (L ≠ 0 ∧ (0 ≤ k ∧ k < (opL lr lt L f m pr g).length) ∧ ((w = 0 ∧ r = lat (opL lr lt L f m pr g) k) ∨ (w = 1 ∧ r = (opT lr lt L f m pr g (-1)).2 (lat (opL lr lt L f m pr g) k)) ∨ (w = 2 ∧ r = opG lr lt L f m pr g (lat (opL lr lt L f m pr g) k)))))) := by
  obtain ⟨ea0, ea1, ea2, ea3, ea5⟩ := hI.1.1
  obtain ⟨eb0, eb1, eb2, eb3, eb5⟩ := hI.1.2.1
  refine Cn.of (by decide) (Nat.le_of_ble_eq_true rfl) (fun K C hct => ?_)
  show Xw K G 0 0 _ n V R 0 [(0, .ref (aG G 0)), (1, .int (iI k)), (2, .int (iI w))] []
  refine x_aload_n C 0 dX11_opening_0 rfl rfl ?_
  refine x_getr C ok_Class 0 0 (d := 1) dX11_opening_1 (lt67 hn rfl) rfl (by decide) rfl q_0_16 rfl (kz := 0) rfl (lr_0_0 hLR) ?_
  refine x_runU (r_callV C ok_Yard 1 (lt67 hn rfl) rfl (ce_X10_hasLog) (m_X10_hasLog G n V R (1) hn hLR (by first | assumption | omega | decide)) rfl dX11_opening_4 q_8_6 q_8_7 q_8_8 rfl rfl ⟨Nat.le_of_ble_eq_true rfl, Nat.le_of_ble_eq_true rfl⟩ ⟨rfl, rfl⟩ ⟨Nat.le_of_ble_eq_true rfl, Nat.le_of_ble_eq_true rfl⟩ (Nat.le_of_ble_eq_true rfl)) (fun v4 u4 hp4 => ?_)
  obtain ⟨rfl, rfl⟩ := hp4
  show Xw K G 0 0 _ n V R 7 [(0, .ref (aG G 0)), (1, .int (iI k)), (2, .int (iI w))] [.int (iI (bI (0 < V 1 2)))]
  refine x_ifne_b C dX11_opening_7 (tgt := 13) (by decide) (fun h7 => ?_) (fun h7 => ?_)
  · skip
    refine x_iload_n C 2 dX11_opening_13 rfl rfl ?_
    refine x_iconst C dX11_opening_14 ?_
    refine x_iconst C dX11_opening_15 ?_
    refine x_runU (r_callS C (ce_X11_within) (m_X11_within G n V R (w) (0) (2) (by first | assumption | omega | decide) (by first | assumption | omega | decide) (by first | assumption | omega | decide)) dX11_opening_16 q_5_4 q_5_5 rfl rfl ⟨Nat.le_of_ble_eq_true rfl, Nat.le_of_ble_eq_true rfl⟩ ⟨rfl, rfl⟩ ⟨Nat.le_of_ble_eq_true rfl, Nat.le_of_ble_eq_true rfl⟩ (Nat.le_of_ble_eq_true rfl)) (fun v16 u16 hp16 => ?_)
    obtain ⟨rfl, rfl⟩ := hp16
    show Xw K G 0 0 _ n V R 19 [(0, .ref (aG G 0)), (1, .int (iI k)), (2, .int (iI w))] [.int (iI (bI (0 ≤ w ∧ w ≤ 2)))]
    refine x_ifne_b C dX11_opening_19 (tgt := 25) (by decide) (fun h19 => ?_) (fun h19 => ?_)
    · skip
      refine x_aload_n C 0 dX11_opening_25 rfl rfl ?_
      refine x_runU (r_callV C ok_Class 0 (lt67 hn rfl) rfl (ce_X11_openedAsItLies) (m_X11_openedAsItLies G n V R (lr) (lt) (L) (f) (m) (g) (pr) hn hLR (by first | assumption | omega | decide) (by first | assumption | omega | decide)) rfl dX11_opening_26 q_36_8 q_36_9 q_36_10 rfl rfl ⟨Nat.le_of_ble_eq_true rfl, Nat.le_of_ble_eq_true rfl⟩ ⟨rfl, rfl⟩ ⟨Nat.le_of_ble_eq_true rfl, Nat.le_of_ble_eq_true rfl⟩ (Nat.le_of_ble_eq_true rfl)) (fun v26 u26 hp26 => ?_)
      obtain ⟨V1_26, rfl, rfl, hq26_0, hq26_1, hq26_2, hq26_3⟩ := hp26
      show Xw K G 0 0 _ n V1_26 R 29 [(0, .ref (aG G 0)), (1, .int (iI k)), (2, .int (iI w))] [.ref (aG G 11)]
      obtain ⟨⟨c1, c2⟩, c3⟩ := hq26_2
      change V1_26 11 2 = (opL lr lt L f m pr g).length at c1
      change ∀ q : Int, 0 ≤ q → q < (opL lr lt L f m pr g).length → V1_26 (11 + 11) q = lat (opL lr lt L f m pr g) q at c2
      change ∀ z, 0 ≤ z → z ≤ 11 → V1_26 (11 + 9) z = (opT lr lt L f m pr g (-1)).2 z ∧ _ at c3
      have hk0 := hI.1.2.2.2.1.1.1
      have hlen := opL_len (r := lr) (t := lt) (L := L) (f := f) (m := m) (pr := pr) (g := g) hk0
      refine x_astore_n C dX11_opening_29 rfl (by decide) (lv' := [(0, .ref (aG G 0)), (1, .int (iI k)), (2, .int (iI w)), (3, .ref (aG G 11))]) rfl ?_
      refine x_iload_n C 1 dX11_opening_30 rfl rfl ?_
      refine x_iconst C dX11_opening_31 ?_
      refine x_icmp_ne C dX11_opening_32 (tgt := 40) (by decide) (by first | assumption | (constructor <;> omega)) (by first | assumption | (constructor <;> omega)) (fun h32 => ?_) (fun h32 => ?_)
      · skip
        refine x_iload_n C 1 dX11_opening_40 rfl rfl ?_
        refine x_iconst C dX11_opening_41 ?_
        refine x_aload_n C 3 dX11_opening_42 rfl rfl ?_
        refine x_geti C ok_Saw 11 2 dX11_opening_43 (lt67 hn rfl) rfl (by decide) rfl q_36_7 rfl (kz := 2) rfl (fun rg43 => ?_)
        refine x_iconst C dX11_opening_46 ?_
        refine x_isub C dX11_opening_47 ?_
        refine x_runU (r_callS C (ce_X11_within) (m_X11_within G n V1_26 R (k) (0) ((V1_26 11 2) - 1) (by first | assumption | omega | decide) (by first | assumption | omega | decide) (by first | assumption | omega | decide)) dX11_opening_48 q_5_4 q_5_5 rfl rfl ⟨Nat.le_of_ble_eq_true rfl, Nat.le_of_ble_eq_true rfl⟩ ⟨rfl, rfl⟩ ⟨Nat.le_of_ble_eq_true rfl, Nat.le_of_ble_eq_true rfl⟩ (Nat.le_of_ble_eq_true rfl)) (fun v48 u48 hp48 => ?_)
        obtain ⟨rfl, rfl⟩ := hp48
        show Xw K G 0 0 _ n V1_26 R 51 [(0, .ref (aG G 0)), (1, .int (iI k)), (2, .int (iI w)), (3, .ref (aG G 11))] [.int (iI (bI (0 ≤ k ∧ k ≤ ((V1_26 11 2) - 1))))]
        refine x_ifne_b C dX11_opening_51 (tgt := 57) (by decide) (fun h51 => ?_) (fun h51 => ?_)
        · skip
          have hl1 := c2 k (by omega) (by omega)
          have hlm := opL_mem (r := lr) (t := lt) (L := L) (f := f) (m := m) (pr := pr) (g := g) hk0 (lat_mem (l := opL lr lt L f m pr g) (i := k) (by omega) (by omega))
          obtain ⟨hl3, hl4⟩ := c3 (lat (opL lr lt L f m pr g) k) (by omega) (by omega)
          have hl5 := hl4 (by rw [hl3]; exact hlm.2.2)
          have hl6 : 0 ≤ V1_26 (11 + 11) k ∧ V1_26 (11 + 11) k ≤ 11 := by omega
          refine x_iload_n C 2 dX11_opening_57 rfl rfl ?_
          rcases (show w = 0 ∨ w = 1 ∨ (w ≠ 0 ∧ w ≠ 1) by omega) with h58 | h58 | h58
          · skip
            refine x_look C dX11_opening_58 (by decide) (by first | assumption | (constructor <;> omega)) (off := 26) (by rw [h58]; decide) (tgt := 84) (by decide) ?_
            refine x_aload_n C 3 dX11_opening_84 rfl rfl ?_
            refine x_iload_n C 1 dX11_opening_85 rfl rfl ?_
            refine x_runU (r_callV C ok_Saw 11 (lt67 hn rfl) rfl (ce_X6_rowAt) (m_X6_rowAt G n V1_26 R (11) (k) hn hLR (by first | assumption | omega | decide) (by first | assumption | omega | decide)) rfl dX11_opening_86 q_37_0 q_37_1 q_37_2 rfl rfl ⟨Nat.le_of_ble_eq_true rfl, Nat.le_of_ble_eq_true rfl⟩ ⟨rfl, rfl⟩ ⟨Nat.le_of_ble_eq_true rfl, Nat.le_of_ble_eq_true rfl⟩ (Nat.le_of_ble_eq_true rfl)) (fun v86 u86 hp86 => ?_)
            obtain ⟨rfl, rfl⟩ := hp86
            show Xw K G 0 0 _ n V1_26 R 89 [(0, .ref (aG G 0)), (1, .int (iI k)), (2, .int (iI w)), (3, .ref (aG G 11))] [.int (iI (V1_26 (11 + 11) k))]
            refine x_top (b := (lat (opL lr lt L f m pr g) k)) (by exact hl1) ?_
            refine x_iret C dX11_opening_89 ⟨_, _, rfl, rfl, ?_, ?_, ?_⟩
            · first | exact fun _ _ => rfl | exact hq26_0 | exact hI | exact hq26_3 | exact Or.inl ⟨by omega, rfl⟩ | exact Or.inr (Or.inl ⟨by omega, by omega, rfl⟩) | exact Or.inr (Or.inr (Or.inl ⟨by omega, by omega, by omega, c1⟩)) | exact Or.inr (Or.inr (Or.inr (Or.inl ⟨by omega, by omega, by omega, by omega, rfl⟩))) | exact Or.inr (Or.inr (Or.inr (Or.inr ⟨by omega, by omega, Or.inl ⟨by omega, rfl⟩⟩))) | exact Or.inr (Or.inr (Or.inr (Or.inr ⟨by omega, by omega, Or.inr (Or.inl ⟨by omega, rfl⟩)⟩))) | exact Or.inr (Or.inr (Or.inr (Or.inr ⟨by omega, by omega, Or.inr (Or.inr ⟨by omega, rfl⟩)⟩)))
            · first | exact fun _ _ => rfl | exact hq26_0 | exact hI | exact hq26_3 | exact Or.inl ⟨by omega, rfl⟩ | exact Or.inr (Or.inl ⟨by omega, by omega, rfl⟩) | exact Or.inr (Or.inr (Or.inl ⟨by omega, by omega, by omega, c1⟩)) | exact Or.inr (Or.inr (Or.inr (Or.inl ⟨by omega, by omega, by omega, by omega, rfl⟩))) | exact Or.inr (Or.inr (Or.inr (Or.inr ⟨by omega, by omega, Or.inl ⟨by omega, rfl⟩⟩))) | exact Or.inr (Or.inr (Or.inr (Or.inr ⟨by omega, by omega, Or.inr (Or.inl ⟨by omega, rfl⟩)⟩))) | exact Or.inr (Or.inr (Or.inr (Or.inr ⟨by omega, by omega, Or.inr (Or.inr ⟨by omega, rfl⟩)⟩)))
            · first | exact fun _ _ => rfl | exact hq26_0 | exact hI | exact hq26_3 | exact Or.inl ⟨by omega, rfl⟩ | exact Or.inr (Or.inl ⟨by omega, by omega, rfl⟩) | exact Or.inr (Or.inr (Or.inl ⟨by omega, by omega, by omega, c1⟩)) | exact Or.inr (Or.inr (Or.inr (Or.inl ⟨by omega, by omega, by omega, by omega, rfl⟩))) | exact Or.inr (Or.inr (Or.inr (Or.inr ⟨by omega, by omega, Or.inl ⟨by omega, rfl⟩⟩))) | exact Or.inr (Or.inr (Or.inr (Or.inr ⟨by omega, by omega, Or.inr (Or.inl ⟨by omega, rfl⟩)⟩))) | exact Or.inr (Or.inr (Or.inr (Or.inr ⟨by omega, by omega, Or.inr (Or.inr ⟨by omega, rfl⟩)⟩)))
          · skip
            refine x_look C dX11_opening_58 (by decide) (by first | assumption | (constructor <;> omega)) (off := 32) (by rw [h58]; decide) (tgt := 90) (by decide) ?_
            refine x_aload_n C 3 dX11_opening_90 rfl rfl ?_
            refine x_iload_n C 1 dX11_opening_91 rfl rfl ?_
            refine x_runU (r_callV C ok_Saw 11 (lt67 hn rfl) rfl (ce_X6_thicknessAt) (m_X6_thicknessAt G n V1_26 R (11) (k) hn hLR (by first | assumption | omega | decide) (by first | assumption | omega | decide) (by first | assumption | omega | decide)) rfl dX11_opening_92 q_37_4 q_37_5 q_37_6 rfl rfl ⟨Nat.le_of_ble_eq_true rfl, Nat.le_of_ble_eq_true rfl⟩ ⟨rfl, rfl⟩ ⟨Nat.le_of_ble_eq_true rfl, Nat.le_of_ble_eq_true rfl⟩ (Nat.le_of_ble_eq_true rfl)) (fun v92 u92 hp92 => ?_)
            obtain ⟨rfl, rfl⟩ := hp92
            show Xw K G 0 0 _ n V1_26 R 95 [(0, .ref (aG G 0)), (1, .int (iI k)), (2, .int (iI w)), (3, .ref (aG G 11))] [.int (iI (V1_26 (11 + 9) (V1_26 (11 + 11) k)))]
            refine x_top (b := ((opT lr lt L f m pr g (-1)).2 (lat (opL lr lt L f m pr g) k))) (by rw [hl1]; exact hl3) ?_
            refine x_iret C dX11_opening_95 ⟨_, _, rfl, rfl, ?_, ?_, ?_⟩
            · first | exact fun _ _ => rfl | exact hq26_0 | exact hI | exact hq26_3 | exact Or.inl ⟨by omega, rfl⟩ | exact Or.inr (Or.inl ⟨by omega, by omega, rfl⟩) | exact Or.inr (Or.inr (Or.inl ⟨by omega, by omega, by omega, c1⟩)) | exact Or.inr (Or.inr (Or.inr (Or.inl ⟨by omega, by omega, by omega, by omega, rfl⟩))) | exact Or.inr (Or.inr (Or.inr (Or.inr ⟨by omega, by omega, Or.inl ⟨by omega, rfl⟩⟩))) | exact Or.inr (Or.inr (Or.inr (Or.inr ⟨by omega, by omega, Or.inr (Or.inl ⟨by omega, rfl⟩)⟩))) | exact Or.inr (Or.inr (Or.inr (Or.inr ⟨by omega, by omega, Or.inr (Or.inr ⟨by omega, rfl⟩)⟩)))
            · first | exact fun _ _ => rfl | exact hq26_0 | exact hI | exact hq26_3 | exact Or.inl ⟨by omega, rfl⟩ | exact Or.inr (Or.inl ⟨by omega, by omega, rfl⟩) | exact Or.inr (Or.inr (Or.inl ⟨by omega, by omega, by omega, c1⟩)) | exact Or.inr (Or.inr (Or.inr (Or.inl ⟨by omega, by omega, by omega, by omega, rfl⟩))) | exact Or.inr (Or.inr (Or.inr (Or.inr ⟨by omega, by omega, Or.inl ⟨by omega, rfl⟩⟩))) | exact Or.inr (Or.inr (Or.inr (Or.inr ⟨by omega, by omega, Or.inr (Or.inl ⟨by omega, rfl⟩)⟩))) | exact Or.inr (Or.inr (Or.inr (Or.inr ⟨by omega, by omega, Or.inr (Or.inr ⟨by omega, rfl⟩)⟩)))
            · first | exact fun _ _ => rfl | exact hq26_0 | exact hI | exact hq26_3 | exact Or.inl ⟨by omega, rfl⟩ | exact Or.inr (Or.inl ⟨by omega, by omega, rfl⟩) | exact Or.inr (Or.inr (Or.inl ⟨by omega, by omega, by omega, c1⟩)) | exact Or.inr (Or.inr (Or.inr (Or.inl ⟨by omega, by omega, by omega, by omega, rfl⟩))) | exact Or.inr (Or.inr (Or.inr (Or.inr ⟨by omega, by omega, Or.inl ⟨by omega, rfl⟩⟩))) | exact Or.inr (Or.inr (Or.inr (Or.inr ⟨by omega, by omega, Or.inr (Or.inl ⟨by omega, rfl⟩)⟩))) | exact Or.inr (Or.inr (Or.inr (Or.inr ⟨by omega, by omega, Or.inr (Or.inr ⟨by omega, rfl⟩)⟩)))
          · skip
            refine x_look C dX11_opening_58 (by decide) (by first | assumption | (constructor <;> omega)) (off := 38) (by simp [Op.lookupswitch.offset, h58]; try omega) (tgt := 96) (by decide) ?_
            refine x_aload_n C 3 dX11_opening_96 rfl rfl ?_
            refine x_iload_n C 1 dX11_opening_97 rfl rfl ?_
            refine x_runU (r_callV C ok_Saw 11 (lt67 hn rfl) rfl (ce_X6_gradeAt) (m_X6_gradeAt G n V1_26 R (11) (k) hn hLR (by first | assumption | omega | decide) (by first | assumption | omega | decide) (by first | assumption | omega | decide)) rfl dX11_opening_98 q_37_9 q_37_10 q_37_11 rfl rfl ⟨Nat.le_of_ble_eq_true rfl, Nat.le_of_ble_eq_true rfl⟩ ⟨rfl, rfl⟩ ⟨Nat.le_of_ble_eq_true rfl, Nat.le_of_ble_eq_true rfl⟩ (Nat.le_of_ble_eq_true rfl)) (fun v98 u98 hp98 => ?_)
            obtain ⟨rfl, rfl⟩ := hp98
            show Xw K G 0 0 _ n V1_26 R 101 [(0, .ref (aG G 0)), (1, .int (iI k)), (2, .int (iI w)), (3, .ref (aG G 11))] [.int (iI (V1_26 (11 + 10) (V1_26 (11 + 11) k)))]
            refine x_top (b := (opG lr lt L f m pr g (lat (opL lr lt L f m pr g) k))) (by rw [hl1, hl5, hl3]; rfl) ?_
            refine x_iret C dX11_opening_101 ⟨_, _, rfl, rfl, ?_, ?_, ?_⟩
            · first | exact fun _ _ => rfl | exact hq26_0 | exact hI | exact hq26_3 | exact Or.inl ⟨by omega, rfl⟩ | exact Or.inr (Or.inl ⟨by omega, by omega, rfl⟩) | exact Or.inr (Or.inr (Or.inl ⟨by omega, by omega, by omega, c1⟩)) | exact Or.inr (Or.inr (Or.inr (Or.inl ⟨by omega, by omega, by omega, by omega, rfl⟩))) | exact Or.inr (Or.inr (Or.inr (Or.inr ⟨by omega, by omega, Or.inl ⟨by omega, rfl⟩⟩))) | exact Or.inr (Or.inr (Or.inr (Or.inr ⟨by omega, by omega, Or.inr (Or.inl ⟨by omega, rfl⟩)⟩))) | exact Or.inr (Or.inr (Or.inr (Or.inr ⟨by omega, by omega, Or.inr (Or.inr ⟨by omega, rfl⟩)⟩)))
            · first | exact fun _ _ => rfl | exact hq26_0 | exact hI | exact hq26_3 | exact Or.inl ⟨by omega, rfl⟩ | exact Or.inr (Or.inl ⟨by omega, by omega, rfl⟩) | exact Or.inr (Or.inr (Or.inl ⟨by omega, by omega, by omega, c1⟩)) | exact Or.inr (Or.inr (Or.inr (Or.inl ⟨by omega, by omega, by omega, by omega, rfl⟩))) | exact Or.inr (Or.inr (Or.inr (Or.inr ⟨by omega, by omega, Or.inl ⟨by omega, rfl⟩⟩))) | exact Or.inr (Or.inr (Or.inr (Or.inr ⟨by omega, by omega, Or.inr (Or.inl ⟨by omega, rfl⟩)⟩))) | exact Or.inr (Or.inr (Or.inr (Or.inr ⟨by omega, by omega, Or.inr (Or.inr ⟨by omega, rfl⟩)⟩)))
            · first | exact fun _ _ => rfl | exact hq26_0 | exact hI | exact hq26_3 | exact Or.inl ⟨by omega, rfl⟩ | exact Or.inr (Or.inl ⟨by omega, by omega, rfl⟩) | exact Or.inr (Or.inr (Or.inl ⟨by omega, by omega, by omega, c1⟩)) | exact Or.inr (Or.inr (Or.inr (Or.inl ⟨by omega, by omega, by omega, by omega, rfl⟩))) | exact Or.inr (Or.inr (Or.inr (Or.inr ⟨by omega, by omega, Or.inl ⟨by omega, rfl⟩⟩))) | exact Or.inr (Or.inr (Or.inr (Or.inr ⟨by omega, by omega, Or.inr (Or.inl ⟨by omega, rfl⟩)⟩))) | exact Or.inr (Or.inr (Or.inr (Or.inr ⟨by omega, by omega, Or.inr (Or.inr ⟨by omega, rfl⟩)⟩)))
        · skip
          refine x_bipush C dX11_opening_54 (w := -12) (by decide) ?_
          refine x_iret C dX11_opening_56 ⟨_, _, rfl, rfl, ?_, ?_, ?_⟩
          · first | exact fun _ _ => rfl | exact hq26_0 | exact hI | exact hq26_3 | exact Or.inl ⟨by omega, rfl⟩ | exact Or.inr (Or.inl ⟨by omega, by omega, rfl⟩) | exact Or.inr (Or.inr (Or.inl ⟨by omega, by omega, by omega, c1⟩)) | exact Or.inr (Or.inr (Or.inr (Or.inl ⟨by omega, by omega, by omega, by omega, rfl⟩))) | exact Or.inr (Or.inr (Or.inr (Or.inr ⟨by omega, by omega, Or.inl ⟨by omega, rfl⟩⟩))) | exact Or.inr (Or.inr (Or.inr (Or.inr ⟨by omega, by omega, Or.inr (Or.inl ⟨by omega, rfl⟩)⟩))) | exact Or.inr (Or.inr (Or.inr (Or.inr ⟨by omega, by omega, Or.inr (Or.inr ⟨by omega, rfl⟩)⟩)))
          · first | exact fun _ _ => rfl | exact hq26_0 | exact hI | exact hq26_3 | exact Or.inl ⟨by omega, rfl⟩ | exact Or.inr (Or.inl ⟨by omega, by omega, rfl⟩) | exact Or.inr (Or.inr (Or.inl ⟨by omega, by omega, by omega, c1⟩)) | exact Or.inr (Or.inr (Or.inr (Or.inl ⟨by omega, by omega, by omega, by omega, rfl⟩))) | exact Or.inr (Or.inr (Or.inr (Or.inr ⟨by omega, by omega, Or.inl ⟨by omega, rfl⟩⟩))) | exact Or.inr (Or.inr (Or.inr (Or.inr ⟨by omega, by omega, Or.inr (Or.inl ⟨by omega, rfl⟩)⟩))) | exact Or.inr (Or.inr (Or.inr (Or.inr ⟨by omega, by omega, Or.inr (Or.inr ⟨by omega, rfl⟩)⟩)))
          · first | exact fun _ _ => rfl | exact hq26_0 | exact hI | exact hq26_3 | exact Or.inl ⟨by omega, rfl⟩ | exact Or.inr (Or.inl ⟨by omega, by omega, rfl⟩) | exact Or.inr (Or.inr (Or.inl ⟨by omega, by omega, by omega, c1⟩)) | exact Or.inr (Or.inr (Or.inr (Or.inl ⟨by omega, by omega, by omega, by omega, rfl⟩))) | exact Or.inr (Or.inr (Or.inr (Or.inr ⟨by omega, by omega, Or.inl ⟨by omega, rfl⟩⟩))) | exact Or.inr (Or.inr (Or.inr (Or.inr ⟨by omega, by omega, Or.inr (Or.inl ⟨by omega, rfl⟩)⟩))) | exact Or.inr (Or.inr (Or.inr (Or.inr ⟨by omega, by omega, Or.inr (Or.inr ⟨by omega, rfl⟩)⟩)))
      · skip
        refine x_aload_n C 3 dX11_opening_35 rfl rfl ?_
        refine x_geti C ok_Saw 11 2 dX11_opening_36 (lt67 hn rfl) rfl (by decide) rfl q_36_7 rfl (kz := 2) rfl (fun rg36 => ?_)
        refine x_iret C dX11_opening_39 ⟨_, _, rfl, rfl, ?_, ?_, ?_⟩
        · first | exact fun _ _ => rfl | exact hq26_0 | exact hI | exact hq26_3 | exact Or.inl ⟨by omega, rfl⟩ | exact Or.inr (Or.inl ⟨by omega, by omega, rfl⟩) | exact Or.inr (Or.inr (Or.inl ⟨by omega, by omega, by omega, c1⟩)) | exact Or.inr (Or.inr (Or.inr (Or.inl ⟨by omega, by omega, by omega, by omega, rfl⟩))) | exact Or.inr (Or.inr (Or.inr (Or.inr ⟨by omega, by omega, Or.inl ⟨by omega, rfl⟩⟩))) | exact Or.inr (Or.inr (Or.inr (Or.inr ⟨by omega, by omega, Or.inr (Or.inl ⟨by omega, rfl⟩)⟩))) | exact Or.inr (Or.inr (Or.inr (Or.inr ⟨by omega, by omega, Or.inr (Or.inr ⟨by omega, rfl⟩)⟩)))
        · first | exact fun _ _ => rfl | exact hq26_0 | exact hI | exact hq26_3 | exact Or.inl ⟨by omega, rfl⟩ | exact Or.inr (Or.inl ⟨by omega, by omega, rfl⟩) | exact Or.inr (Or.inr (Or.inl ⟨by omega, by omega, by omega, c1⟩)) | exact Or.inr (Or.inr (Or.inr (Or.inl ⟨by omega, by omega, by omega, by omega, rfl⟩))) | exact Or.inr (Or.inr (Or.inr (Or.inr ⟨by omega, by omega, Or.inl ⟨by omega, rfl⟩⟩))) | exact Or.inr (Or.inr (Or.inr (Or.inr ⟨by omega, by omega, Or.inr (Or.inl ⟨by omega, rfl⟩)⟩))) | exact Or.inr (Or.inr (Or.inr (Or.inr ⟨by omega, by omega, Or.inr (Or.inr ⟨by omega, rfl⟩)⟩)))
        · first | exact fun _ _ => rfl | exact hq26_0 | exact hI | exact hq26_3 | exact Or.inl ⟨by omega, rfl⟩ | exact Or.inr (Or.inl ⟨by omega, by omega, rfl⟩) | exact Or.inr (Or.inr (Or.inl ⟨by omega, by omega, by omega, c1⟩)) | exact Or.inr (Or.inr (Or.inr (Or.inl ⟨by omega, by omega, by omega, by omega, rfl⟩))) | exact Or.inr (Or.inr (Or.inr (Or.inr ⟨by omega, by omega, Or.inl ⟨by omega, rfl⟩⟩))) | exact Or.inr (Or.inr (Or.inr (Or.inr ⟨by omega, by omega, Or.inr (Or.inl ⟨by omega, rfl⟩)⟩))) | exact Or.inr (Or.inr (Or.inr (Or.inr ⟨by omega, by omega, Or.inr (Or.inr ⟨by omega, rfl⟩)⟩)))
    · skip
      refine x_bipush C dX11_opening_22 (w := -2) (by decide) ?_
      refine x_iret C dX11_opening_24 ⟨_, _, rfl, rfl, ?_, ?_, ?_⟩
      · first | exact fun _ _ => rfl | exact hq26_0 | exact hI | exact hq26_3 | exact Or.inl ⟨by omega, rfl⟩ | exact Or.inr (Or.inl ⟨by omega, by omega, rfl⟩) | exact Or.inr (Or.inr (Or.inl ⟨by omega, by omega, by omega, c1⟩)) | exact Or.inr (Or.inr (Or.inr (Or.inl ⟨by omega, by omega, by omega, by omega, rfl⟩))) | exact Or.inr (Or.inr (Or.inr (Or.inr ⟨by omega, by omega, Or.inl ⟨by omega, rfl⟩⟩))) | exact Or.inr (Or.inr (Or.inr (Or.inr ⟨by omega, by omega, Or.inr (Or.inl ⟨by omega, rfl⟩)⟩))) | exact Or.inr (Or.inr (Or.inr (Or.inr ⟨by omega, by omega, Or.inr (Or.inr ⟨by omega, rfl⟩)⟩)))
      · first | exact fun _ _ => rfl | exact hq26_0 | exact hI | exact hq26_3 | exact Or.inl ⟨by omega, rfl⟩ | exact Or.inr (Or.inl ⟨by omega, by omega, rfl⟩) | exact Or.inr (Or.inr (Or.inl ⟨by omega, by omega, by omega, c1⟩)) | exact Or.inr (Or.inr (Or.inr (Or.inl ⟨by omega, by omega, by omega, by omega, rfl⟩))) | exact Or.inr (Or.inr (Or.inr (Or.inr ⟨by omega, by omega, Or.inl ⟨by omega, rfl⟩⟩))) | exact Or.inr (Or.inr (Or.inr (Or.inr ⟨by omega, by omega, Or.inr (Or.inl ⟨by omega, rfl⟩)⟩))) | exact Or.inr (Or.inr (Or.inr (Or.inr ⟨by omega, by omega, Or.inr (Or.inr ⟨by omega, rfl⟩)⟩)))
      · first | exact fun _ _ => rfl | exact hq26_0 | exact hI | exact hq26_3 | exact Or.inl ⟨by omega, rfl⟩ | exact Or.inr (Or.inl ⟨by omega, by omega, rfl⟩) | exact Or.inr (Or.inr (Or.inl ⟨by omega, by omega, by omega, c1⟩)) | exact Or.inr (Or.inr (Or.inr (Or.inl ⟨by omega, by omega, by omega, by omega, rfl⟩))) | exact Or.inr (Or.inr (Or.inr (Or.inr ⟨by omega, by omega, Or.inl ⟨by omega, rfl⟩⟩))) | exact Or.inr (Or.inr (Or.inr (Or.inr ⟨by omega, by omega, Or.inr (Or.inl ⟨by omega, rfl⟩)⟩))) | exact Or.inr (Or.inr (Or.inr (Or.inr ⟨by omega, by omega, Or.inr (Or.inr ⟨by omega, rfl⟩)⟩)))
  · skip
    refine x_bipush C dX11_opening_10 (w := -3) (by decide) ?_
    refine x_iret C dX11_opening_12 ⟨_, _, rfl, rfl, ?_, ?_, ?_⟩
    · first | exact fun _ _ => rfl | exact hq26_0 | exact hI | exact hq26_3 | exact Or.inl ⟨by omega, rfl⟩ | exact Or.inr (Or.inl ⟨by omega, by omega, rfl⟩) | exact Or.inr (Or.inr (Or.inl ⟨by omega, by omega, by omega, c1⟩)) | exact Or.inr (Or.inr (Or.inr (Or.inl ⟨by omega, by omega, by omega, by omega, rfl⟩))) | exact Or.inr (Or.inr (Or.inr (Or.inr ⟨by omega, by omega, Or.inl ⟨by omega, rfl⟩⟩))) | exact Or.inr (Or.inr (Or.inr (Or.inr ⟨by omega, by omega, Or.inr (Or.inl ⟨by omega, rfl⟩)⟩))) | exact Or.inr (Or.inr (Or.inr (Or.inr ⟨by omega, by omega, Or.inr (Or.inr ⟨by omega, rfl⟩)⟩)))
    · first | exact fun _ _ => rfl | exact hq26_0 | exact hI | exact hq26_3 | exact Or.inl ⟨by omega, rfl⟩ | exact Or.inr (Or.inl ⟨by omega, by omega, rfl⟩) | exact Or.inr (Or.inr (Or.inl ⟨by omega, by omega, by omega, c1⟩)) | exact Or.inr (Or.inr (Or.inr (Or.inl ⟨by omega, by omega, by omega, by omega, rfl⟩))) | exact Or.inr (Or.inr (Or.inr (Or.inr ⟨by omega, by omega, Or.inl ⟨by omega, rfl⟩⟩))) | exact Or.inr (Or.inr (Or.inr (Or.inr ⟨by omega, by omega, Or.inr (Or.inl ⟨by omega, rfl⟩)⟩))) | exact Or.inr (Or.inr (Or.inr (Or.inr ⟨by omega, by omega, Or.inr (Or.inr ⟨by omega, rfl⟩)⟩)))
    · first | exact fun _ _ => rfl | exact hq26_0 | exact hI | exact hq26_3 | exact Or.inl ⟨by omega, rfl⟩ | exact Or.inr (Or.inl ⟨by omega, by omega, rfl⟩) | exact Or.inr (Or.inr (Or.inl ⟨by omega, by omega, by omega, c1⟩)) | exact Or.inr (Or.inr (Or.inr (Or.inl ⟨by omega, by omega, by omega, by omega, rfl⟩))) | exact Or.inr (Or.inr (Or.inr (Or.inr ⟨by omega, by omega, Or.inl ⟨by omega, rfl⟩⟩))) | exact Or.inr (Or.inr (Or.inr (Or.inr ⟨by omega, by omega, Or.inr (Or.inl ⟨by omega, rfl⟩)⟩))) | exact Or.inr (Or.inr (Or.inr (Or.inr ⟨by omega, by omega, Or.inr (Or.inr ⟨by omega, rfl⟩)⟩)))
