
set_option maxRecDepth 100000 in
set_option maxHeartbeats 4000000 in
theorem m_X11_asItLies (G : GS) (n : Nat) (V : Nat → Int → Int) (R : Nat → Int → Option Nat) (lr : Int) (lt : Int) (L : Int) (f : Int → Int → Int) (m : Int) (g : Int) (pr : Int → Int) (hn : 67 ≤ n) (hLR : LR R) (hI : CInv n V R lr lt L f m g pr) (hL1 : 1 ≤ L) : Cn G yX11_asItLies cX11_asItLies 1 (some (.object "LogSawyer$Saw")) (rmk 6 0 0 134) [.ref (aG G 0)] n V R 0 0 (fun vv uu => ∃ (V1 : Nat → Int → Int), vv = some (.ref (aG G 11)) ∧ uu = (n, V1, R) ∧ (∀ q, q < 11 ∨ 22 < q → V1 q = V q) ∧ (V1 11 0 = 1) ∧ (SwOk V1 11 lr lt L f m g pr) ∧ (CInv n V1 R lr lt L f m g pr)) := by
  obtain ⟨ea0, ea1, ea2, ea3, ea5⟩ := hI.1.1
  obtain ⟨eb0, eb1, eb2, eb3, eb5⟩ := hI.1.2.1
  have hl01 := hI.2.1.1
  refine Cn.of (by decide) (Nat.le_of_ble_eq_true rfl) (fun K C hct => ?_)
  show Xw K G 0 0 _ n V R 0 [(0, .ref (aG G 0))] []
  refine x_aload_n C 0 dX11_asItLies_0 rfl rfl ?_
  refine x_getr C ok_Class 0 3 (d := 11) dX11_asItLies_1 (lt67 hn rfl) rfl (by decide) rfl q_0_22 rfl (kz := 3) rfl (lr_0_3 hLR) ?_
  refine x_geti C ok_Saw 11 0 dX11_asItLies_4 (lt67 hn rfl) rfl (by decide) rfl q_5_3 rfl (kz := 0) rfl (fun rg4 => ?_)
  refine x_if_ne C dX11_asItLies_7 (tgt := 42) (by decide) (by first | assumption | (constructor <;> omega)) (fun h7 => ?_) (fun h7 => ?_)
  · skip
    refine x_aload_n C 0 dX11_asItLies_42 rfl rfl ?_
    refine x_getr C ok_Class 0 3 (d := 11) dX11_asItLies_43 (lt67 hn rfl) rfl (by decide) rfl q_0_22 rfl (kz := 3) rfl (lr_0_3 hLR) ?_
    refine x_aret C dX11_asItLies_46 ⟨_, rfl, rfl, ?_, ?_, ?_, ?_⟩
    · first | exact fun _ _ => rfl | exact fun q a => hq39_0 q (by omega) (by omega) (by omega) (by omega) (by omega) (by omega)
    · first | exact hq39_1.1 | omega
    · first | exact lies_ok hI hq39_2 | exact (hI.2.1.2.2 (by omega)).1
    · first | exact lies_inv hI (fun q a => hq39_0 q (by omega) (by omega) (by omega) (by omega) (by omega) (by omega)) (lies_ok hI hq39_2) hq39_1 hq39_3 | exact hI
  · skip
    refine x_aload_n C 0 dX11_asItLies_10 rfl rfl ?_
    refine x_getr C ok_Class 0 3 (d := 11) dX11_asItLies_11 (lt67 hn rfl) rfl (by decide) rfl q_0_22 rfl (kz := 3) rfl (lr_0_3 hLR) ?_
    refine x_aload_n C 0 dX11_asItLies_14 rfl rfl ?_
    refine x_getr C ok_Class 0 0 (d := 1) dX11_asItLies_15 (lt67 hn rfl) rfl (by decide) rfl q_0_16 rfl (kz := 0) rfl (lr_0_0 hLR) ?_
    refine x_aload_n C 0 dX11_asItLies_18 rfl rfl ?_
    refine x_getr C ok_Class 0 0 (d := 1) dX11_asItLies_19 (lt67 hn rfl) rfl (by decide) rfl q_0_16 rfl (kz := 0) rfl (lr_0_0 hLR) ?_
    refine x_geti C ok_Yard 1 3 dX11_asItLies_22 (lt67 hn rfl) rfl (by decide) rfl q_27_12 rfl (kz := 3) rfl (fun rg22 => ?_)
    refine x_aload_n C 0 dX11_asItLies_25 rfl rfl ?_
    refine x_getr C ok_Class 0 0 (d := 1) dX11_asItLies_26 (lt67 hn rfl) rfl (by decide) rfl q_0_16 rfl (kz := 0) rfl (lr_0_0 hLR) ?_
    refine x_getr C ok_Yard 1 4 (d := 2) dX11_asItLies_29 (lt67 hn rfl) rfl (by decide) rfl q_28_17 rfl (kz := 4) rfl (lr_1_4 hLR) ?_
    refine x_aload_n C 0 dX11_asItLies_32 rfl rfl ?_
    refine x_getr C ok_Class 0 0 (d := 1) dX11_asItLies_33 (lt67 hn rfl) rfl (by decide) rfl q_0_16 rfl (kz := 0) rfl (lr_0_0 hLR) ?_
    refine x_geti C ok_Yard 1 5 dX11_asItLies_36 (lt67 hn rfl) rfl (by decide) rfl q_8_5 rfl (kz := 5) rfl (fun rg36 => ?_)
    refine x_runU (r_callV C ok_Saw 11 (lt67 hn rfl) rfl (ce_X6_lay) (m_X6_lay G n V R (11) (V 1 3) (2) (V 1 5) hn hLR (by first | assumption | omega | decide) (by exact ⟨by decide, by decide⟩) (by rfl) (by omega) (by omega) (by omega) (by omega) (by omega) (by exact hI.1.rules) (by rw [hI.1.1.2.2.2.2]; exact hI.1.2.2.1) (by exact hI.2.2.1)) rfl dX11_asItLies_39 q_28_18 q_28_19 q_28_20 rfl rfl ⟨Nat.le_of_ble_eq_true rfl, Nat.le_of_ble_eq_true rfl⟩ ⟨rfl, rfl⟩ ⟨Nat.le_of_ble_eq_true rfl, Nat.le_of_ble_eq_true rfl⟩ (Nat.le_of_ble_eq_true rfl)) (fun v39 u39 hp39 => ?_)
    obtain ⟨V1_39, rfl, rfl, hq39_0, hq39_1, hq39_2, hq39_3⟩ := hp39
    show Xw K G 0 0 _ n V1_39 R 42 [(0, .ref (aG G 0))] []
    refine x_aload_n C 0 dX11_asItLies_42 rfl rfl ?_
    refine x_getr C ok_Class 0 3 (d := 11) dX11_asItLies_43 (lt67 hn rfl) rfl (by decide) rfl q_0_22 rfl (kz := 3) rfl (lr_0_3 hLR) ?_
    refine x_aret C dX11_asItLies_46 ⟨_, rfl, rfl, ?_, ?_, ?_, ?_⟩
    · first | exact fun _ _ => rfl | exact fun q a => hq39_0 q (by omega) (by omega) (by omega) (by omega) (by omega) (by omega)
    · first | exact hq39_1.1 | omega
    · first | exact lies_ok hI hq39_2 | exact (hI.2.1.2.2 (by omega)).1
    · first | exact lies_inv hI (fun q a => hq39_0 q (by omega) (by omega) (by omega) (by omega) (by omega) (by omega)) (lies_ok hI hq39_2) hq39_1 hq39_3 | exact hI
set_option maxRecDepth 100000 in
set_option maxHeartbeats 4000000 in
theorem m_X11_openedAsItLies (G : GS) (n : Nat) (V : Nat → Int → Int) (R : Nat → Int → Option Nat) (lr : Int) (lt : Int) (L : Int) (f : Int → Int → Int) (m : Int) (g : Int) (pr : Int → Int) (hn : 67 ≤ n) (hLR : LR R) (hI : CInv n V R lr lt L f m g pr) (hL1 : 1 ≤ L) : Cn G yX11_openedAsItLies cX11_openedAsItLies 2 (some (.object "LogSawyer$Saw")) (rmk 7 0 0 160) [.ref (aG G 0)] n V R 0 0 (fun vv uu => ∃ (V1 : Nat → Int → Int), vv = some (.ref (aG G 11)) ∧ uu = (n, V1, R) ∧ (∀ q, q < 11 ∨ 22 < q → V1 q = V q) ∧ (SwOk V1 11 lr lt L f m g pr) ∧ (OpenOk V1 11 lr lt L f m g pr (pr 0)) ∧ (CInv n V1 R lr lt L f m g pr)) := by
  refine Cn.of (by decide) (Nat.le_of_ble_eq_true rfl) (fun K C hct => ?_)
  show Xw K G 0 0 _ n V R 0 [(0, .ref (aG G 0))] []
  refine x_aload_n C 0 dX11_openedAsItLies_0 rfl rfl ?_
  refine x_runU (r_callV C ok_Class 0 (lt67 hn rfl) rfl (ce_X11_asItLies) (m_X11_asItLies G n V R (lr) (lt) (L) (f) (m) (g) (pr) hn hLR (by first | assumption | omega | decide) (by first | assumption | omega | decide)) rfl dX11_openedAsItLies_1 q_28_13 q_28_14 q_28_15 rfl rfl ⟨Nat.le_of_ble_eq_true rfl, Nat.le_of_ble_eq_true rfl⟩ ⟨rfl, rfl⟩ ⟨Nat.le_of_ble_eq_true rfl, Nat.le_of_ble_eq_true rfl⟩ (Nat.le_of_ble_eq_true rfl)) (fun v1 u1 hp1 => ?_)
  obtain ⟨V1_1, rfl, rfl, hq1_0, hq1_1, hq1_2, hq1_3⟩ := hp1
  show Xw K G 0 0 _ n V1_1 R 4 [(0, .ref (aG G 0))] [.ref (aG G 11)]
  refine x_astore_n C dX11_openedAsItLies_4 rfl (by decide) (lv' := [(0, .ref (aG G 0)), (1, .ref (aG G 11))]) rfl ?_
  refine x_aload_n C 1 dX11_openedAsItLies_5 rfl rfl ?_
  have hl02 := hq1_3.2.1.2.1
  have hru := hI.1.2.2.2.1
  refine x_geti C ok_Saw 11 1 dX11_openedAsItLies_6 (lt67 hn rfl) rfl (by decide) rfl q_36_12 rfl (kz := 1) rfl (fun rg6 => ?_)
  refine x_if_ne C dX11_openedAsItLies_9 (tgt := 26) (by decide) (by first | assumption | (constructor <;> omega)) (fun h9 => ?_) (fun h9 => ?_)
  · skip
    refine x_aload_n C 1 dX11_openedAsItLies_26 rfl rfl ?_
    refine x_aret C dX11_openedAsItLies_27 ⟨_, rfl, rfl, ?_, ?_, ?_, ?_⟩
    · first | exact hq1_0 | exact fun q a => (hq22_0 q (by omega) (by omega)).trans (hq1_0 q a)
    · first | exact hq1_2 | exact hq1_2.fr2 (fun z a => hq22_1 z (by omega) (by omega)) (fun q a => hq22_0 q (by omega) (by omega))
    · first | exact hq22_4 | exact (hq1_3.2.1.2.2 hq1_1).2 (by omega)
    · first | exact opened_inv hq1_3 hq1_2 hq1_1 hq22_0 hq22_1 hq22_2 hq22_3 hq22_4 | exact hq1_3
  · skip
    refine x_aload_n C 1 dX11_openedAsItLies_12 rfl rfl ?_
    refine x_aload_n C 0 dX11_openedAsItLies_13 rfl rfl ?_
    refine x_getr C ok_Class 0 0 (d := 1) dX11_openedAsItLies_14 (lt67 hn rfl) rfl (by decide) rfl q_0_16 rfl (kz := 0) rfl (lr_0_0 hLR) ?_
    refine x_getr C ok_Yard 1 6 (d := 3) dX11_openedAsItLies_17 (lt67 hn rfl) rfl (by decide) rfl q_27_23 rfl (kz := 6) rfl (lr_1_6 hLR) ?_
    refine x_iconst C dX11_openedAsItLies_20 ?_
    refine x_iald C 3 dX11_openedAsItLies_21 (lt67 hn rfl) rfl (by refine ⟨?_, ?_⟩ <;> omega) (fun rg21 => ?_)
    refine x_top (b := (pr 0)) (by rw [hq1_0 3 (by omega)]; exact hI.1.2.2.2.2.1 0 (by decide) (by decide)) ?_
    refine x_runU (r_callV C ok_Saw 11 (lt67 hn rfl) rfl (ce_X6_open) (m_X6_open G n V1_1 R (11) (lr) (lt) (L) (f) (m) (g) (pr) (pr 0) hn hLR (by first | assumption | omega | decide) (by exact hq1_2) (by first | assumption | omega | decide) (by exact hru.1) (by exact hq1_3.2.2.2.1)) rfl dX11_openedAsItLies_22 q_36_13 q_36_14 q_36_15 rfl rfl ⟨Nat.le_of_ble_eq_true rfl, Nat.le_of_ble_eq_true rfl⟩ ⟨rfl, rfl⟩ ⟨Nat.le_of_ble_eq_true rfl, Nat.le_of_ble_eq_true rfl⟩ (Nat.le_of_ble_eq_true rfl)) (fun v22 u22 hp22 => ?_)
    obtain ⟨V1_22, rfl, rfl, hq22_0, hq22_1, hq22_2, hq22_3, hq22_4⟩ := hp22
    show Xw K G 0 0 _ n V1_22 R 25 [(0, .ref (aG G 0)), (1, .ref (aG G 11))] [.int (iI ((dpR (bwC lr lt L f m g pr) (pr 6) (pr 0) (-1)).1 0))]
    refine x_pop C dX11_openedAsItLies_25 rfl ?_
    refine x_aload_n C 1 dX11_openedAsItLies_26 rfl rfl ?_
    refine x_aret C dX11_openedAsItLies_27 ⟨_, rfl, rfl, ?_, ?_, ?_, ?_⟩
    · first | exact hq1_0 | exact fun q a => (hq22_0 q (by omega) (by omega)).trans (hq1_0 q a)
    · first | exact hq1_2 | exact hq1_2.fr2 (fun z a => hq22_1 z (by omega) (by omega)) (fun q a => hq22_0 q (by omega) (by omega))
    · first | exact hq22_4 | exact (hq1_3.2.1.2.2 hq1_1).2 (by omega)
    · first | exact opened_inv hq1_3 hq1_2 hq1_1 hq22_0 hq22_1 hq22_2 hq22_3 hq22_4 | exact hq1_3
set_option maxRecDepth 100000 in
set_option maxHeartbeats 4000000 in
theorem m_X11_openByTurn (G : GS) (n : Nat) (V : Nat → Int → Int) (R : Nat → Int → Option Nat) (lr : Int) (lt : Int) (L : Int) (f : Int → Int → Int) (m : Int) (g : Int) (pr : Int → Int) (t : Int) (hn : 67 ≤ n) (hLR : LR R) (hI : CInv n V R lr lt L f m g pr) (hL1 : 1 ≤ L) (ht : 0 ≤ t ∧ t ≤ 3) : Cn G yX11_openByTurn cX11_openByTurn 2 (some .int) (rmk 6 0 0 160) [.ref (aG G 0), .int (iI t)] n V R 0 0 (fun vv uu => ∃ (V1 : Nat → Int → Int), vv = some (.int (iI ((opT lr lt L f m pr t (-1)).1 0))) ∧ uu = (n, V1, R) ∧ (∀ q, q < 23 ∨ 34 < q → V1 q = V q) ∧ (SwOk V1 23 lr lt L f m t pr) ∧ (OpenOk V1 23 lr lt L f m t pr (pr 0)) ∧ (CInv n V1 R lr lt L f m g pr)) := by
  obtain ⟨ea0, ea1, ea2, ea3, ea5⟩ := hI.1.1
  obtain ⟨eb0, eb1, eb2, eb3, eb5⟩ := hI.1.2.1
  refine Cn.of (by decide) (Nat.le_of_ble_eq_true rfl) (fun K C hct => ?_)
  show Xw K G 0 0 _ n V R 0 [(0, .ref (aG G 0)), (1, .int (iI t))] []
  refine x_aload_n C 0 dX11_openByTurn_0 rfl rfl ?_
  refine x_getr C ok_Class 0 4 (d := 23) dX11_openByTurn_1 (lt67 hn rfl) rfl (by decide) rfl q_0_23 rfl (kz := 4) rfl (lr_0_4 hLR) ?_
  refine x_aload_n C 0 dX11_openByTurn_4 rfl rfl ?_
  refine x_getr C ok_Class 0 0 (d := 1) dX11_openByTurn_5 (lt67 hn rfl) rfl (by decide) rfl q_0_16 rfl (kz := 0) rfl (lr_0_0 hLR) ?_
  refine x_iload_n C 1 dX11_openByTurn_8 rfl rfl ?_
  refine x_aload_n C 0 dX11_openByTurn_9 rfl rfl ?_
  refine x_getr C ok_Class 0 0 (d := 1) dX11_openByTurn_10 (lt67 hn rfl) rfl (by decide) rfl q_0_16 rfl (kz := 0) rfl (lr_0_0 hLR) ?_
  refine x_getr C ok_Yard 1 4 (d := 2) dX11_openByTurn_13 (lt67 hn rfl) rfl (by decide) rfl q_28_17 rfl (kz := 4) rfl (lr_1_4 hLR) ?_
  refine x_aload_n C 0 dX11_openByTurn_16 rfl rfl ?_
  refine x_getr C ok_Class 0 0 (d := 1) dX11_openByTurn_17 (lt67 hn rfl) rfl (by decide) rfl q_0_16 rfl (kz := 0) rfl (lr_0_0 hLR) ?_
  refine x_geti C ok_Yard 1 5 dX11_openByTurn_20 (lt67 hn rfl) rfl (by decide) rfl q_8_5 rfl (kz := 5) rfl (fun rg20 => ?_)
  refine x_runU (r_callV C ok_Saw 23 (lt67 hn rfl) rfl (ce_X6_lay) (m_X6_lay G n V R (23) (t) (2) (V 1 5) hn hLR (by first | assumption | omega | decide) (by exact ⟨by decide, by decide⟩) (by rfl) (by omega) (by omega) (by omega) (by omega) (by omega) (by exact hI.1.rules) (by rw [hI.1.1.2.2.2.2]; exact hI.1.2.2.1) (by exact hI.2.2.2.2.1)) rfl dX11_openByTurn_23 q_28_18 q_28_19 q_28_20 rfl rfl ⟨Nat.le_of_ble_eq_true rfl, Nat.le_of_ble_eq_true rfl⟩ ⟨rfl, rfl⟩ ⟨Nat.le_of_ble_eq_true rfl, Nat.le_of_ble_eq_true rfl⟩ (Nat.le_of_ble_eq_true rfl)) (fun v23 u23 hp23 => ?_)
  obtain ⟨V1_23, rfl, rfl, hq23_0, hq23_1, hq23_2, hq23_3⟩ := hp23
  show Xw K G 0 0 _ n V1_23 R 26 [(0, .ref (aG G 0)), (1, .int (iI t))] []
  have ok2 : SwOk V1_23 23 lr lt L f m t pr := thought_ok hI hq23_2
  have hru := hI.1.2.2.2.1
  have h12 : V1_23 (23 + 8) 12 = 0 := (congrFun (hq23_0 31 (by omega) (by omega) (by omega) (by omega) (by omega) (by omega)) 12).trans hI.2.2.2.2.2
  refine x_aload_n C 0 dX11_openByTurn_26 rfl rfl ?_
  refine x_getr C ok_Class 0 4 (d := 23) dX11_openByTurn_27 (lt67 hn rfl) rfl (by decide) rfl q_0_23 rfl (kz := 4) rfl (lr_0_4 hLR) ?_
  refine x_aload_n C 0 dX11_openByTurn_30 rfl rfl ?_
  refine x_getr C ok_Class 0 0 (d := 1) dX11_openByTurn_31 (lt67 hn rfl) rfl (by decide) rfl q_0_16 rfl (kz := 0) rfl (lr_0_0 hLR) ?_
  refine x_getr C ok_Yard 1 6 (d := 3) dX11_openByTurn_34 (lt67 hn rfl) rfl (by decide) rfl q_27_23 rfl (kz := 6) rfl (lr_1_6 hLR) ?_
  refine x_iconst C dX11_openByTurn_37 ?_
  refine x_iald C 3 dX11_openByTurn_38 (lt67 hn rfl) rfl (by refine ⟨?_, ?_⟩ <;> omega) (fun rg38 => ?_)
  refine x_top (b := (pr 0)) (by rw [hq23_0 3 (by omega) (by omega) (by omega) (by omega) (by omega) (by omega)]; exact hI.1.2.2.2.2.1 0 (by decide) (by decide)) ?_
  refine x_runU (r_callV C ok_Saw 23 (lt67 hn rfl) rfl (ce_X6_open) (m_X6_open G n V1_23 R (23) (lr) (lt) (L) (f) (m) (t) (pr) (pr 0) hn hLR (by first | assumption | omega | decide) (by exact ok2) (by first | assumption | omega | decide) (by exact hru.1) (by first | assumption | omega | decide)) rfl dX11_openByTurn_39 q_36_13 q_36_14 q_36_15 rfl rfl ⟨Nat.le_of_ble_eq_true rfl, Nat.le_of_ble_eq_true rfl⟩ ⟨rfl, rfl⟩ ⟨Nat.le_of_ble_eq_true rfl, Nat.le_of_ble_eq_true rfl⟩ (Nat.le_of_ble_eq_true rfl)) (fun v39 u39 hp39 => ?_)
  obtain ⟨V1_39, rfl, rfl, hq39_0, hq39_1, hq39_2, hq39_3, hq39_4⟩ := hp39
  show Xw K G 0 0 _ n V1_39 R 42 [(0, .ref (aG G 0)), (1, .int (iI t))] [.int (iI ((dpR (bwC lr lt L f m t pr) (pr 6) (pr 0) (-1)).1 0))]
  refine x_iret C dX11_openByTurn_42 ⟨_, rfl, rfl, ?_, ?_, ?_, ?_⟩
  · exact fun q a => (hq39_0 q (by omega) (by omega)).trans (hq23_0 q (by omega) (by omega) (by omega) (by omega) (by omega) (by omega))
  · exact ok2.fr2 (fun z a => hq39_1 z (by omega) (by omega)) (fun q a => hq39_0 q (by omega) (by omega))
  · exact hq39_4
  · exact thought_inv hI (fun q a => (hq39_0 q (by omega) (by omega)).trans (hq23_0 q (by omega) (by omega) (by omega) (by omega) (by omega) (by omega))) (hq23_3.fr (hq39_0 _ (by decide) (by decide)) (hq39_0 _ (by decide) (by decide))) hq39_3
