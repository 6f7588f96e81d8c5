
set_option maxRecDepth 100000 in
set_option maxHeartbeats 4000000 in
theorem m_X11_saw (G : GS) (n : Nat) (V : Nat → Int → Int) (R : Nat → Int → Option Nat) (lr : Int) (lt : Int) (L : Int) (f : Int → Int → Int) (m : Int) (g : Int) (pr : Int → Int) (hn : 67 ≤ n) (hLR : LR R) (hI : CInv n V R lr lt L f m g pr) (h8 : 0 ≤ V 1 8 ∧ V 1 8 ≤ 16) : Cn G yX11_saw cX11_saw 4 (some .int) (rmk 8 0 0 181) [.ref (aG G 0)] n V R 0 0 (fun vv uu => ∃ (r : Int), ∃ (V1 : Nat → Int → Int), ∃ (R1 : Nat → Int → Option Nat), vv = some (.int (iI r)) ∧ uu = (n, V1, R1) ∧ ((L = 0 ∧ r = -3 ∧ V1 = V ∧ R1 = R) ∨ (L ≠ 0 ∧ 16 < V 1 8 + ((opL lr lt L f m pr g).length : Int) ∧ r = -4 ∧ R1 = R ∧ (∀ q, q < 11 ∨ 22 < q → V1 q = V q) ∧ CInv n V1 R lr lt L f m g pr) ∨ (L ≠ 0 ∧ V 1 8 + ((opL lr lt L f m pr g).length : Int) ≤ 16 ∧ r = ((opL lr lt L f m pr g).length : Int) ∧ (∀ q : Int, 0 ≤ q → q < ((opL lr lt L f m pr g).length : Int) → sawRow lr lt L f m g pr (V1 4) (V 1 8 + q) (lat (opL lr lt L f m pr g) q) ((opT lr lt L f m pr g (-1)).2 (lat (opL lr lt L f m pr g) q))) ∧ V1 1 8 = V 1 8 + r ∧ (V1 1 0 = 0 ∧ V1 1 1 = 0 ∧ V1 1 2 = 0 ∧ V1 1 3 = 0 ∧ V1 1 5 = 0 ∧ V1 1 10 = V 1 10) ∧ V1 11 0 = 0 ∧ (∀ z, z < 4 * V 1 8 → V1 4 z = V 4 z) ∧ (∀ q, q ≠ 1 → q ≠ 4 → q < 11 ∨ 22 < q → V1 q = V q) ∧ (∀ q, q ≠ 2 → R1 q = R q) ∧ (∀ z, 0 ≤ z → z < 8 → R1 2 z = none) ∧ SawZ V1 ∧ (V1 11 1 = 0 ∨ V1 11 1 = 1)))) := by
  obtain ⟨ea0, ea1, ea2, ea3, ea5⟩ := hI.1.1
  obtain ⟨eb0, eb1, eb2, eb3, eb5⟩ := hI.1.2.1
  refine Cn.of (by decide) (Nat.le_of_ble_eq_true rfl) (fun K C hct => ?_)
  show Xw K G 0 0 _ n V R 0 [(0, .ref (aG G 0))] []
  refine x_aload_n C 0 dX11_saw_0 rfl rfl ?_
  refine x_getr C ok_Class 0 0 (d := 1) dX11_saw_1 (lt67 hn rfl) rfl (by decide) rfl q_0_16 rfl (kz := 0) rfl (lr_0_0 hLR) ?_
  refine x_runU (r_callV C ok_Yard 1 (lt67 hn rfl) rfl (ce_X10_hasLog) (m_X10_hasLog G n V R (1) hn hLR (by first | assumption | omega | decide)) rfl dX11_saw_4 q_8_6 q_8_7 q_8_8 rfl rfl ⟨Nat.le_of_ble_eq_true rfl, Nat.le_of_ble_eq_true rfl⟩ ⟨rfl, rfl⟩ ⟨Nat.le_of_ble_eq_true rfl, Nat.le_of_ble_eq_true rfl⟩ (Nat.le_of_ble_eq_true rfl)) (fun v4 u4 hp4 => ?_)
  obtain ⟨rfl, rfl⟩ := hp4
  show Xw K G 0 0 _ n V R 7 [(0, .ref (aG G 0))] [.int (iI (bI (0 < V 1 2)))]
  refine x_ifne_b C dX11_saw_7 (tgt := 13) (by decide) (fun h7 => ?_) (fun h7 => ?_)
  · skip
    refine x_aload_n C 0 dX11_saw_13 rfl rfl ?_
    refine x_runU (r_callV C ok_Class 0 (lt67 hn rfl) rfl (ce_X11_openedAsItLies) (m_X11_openedAsItLies G n V R (lr) (lt) (L) (f) (m) (g) (pr) hn hLR (by first | assumption | omega | decide) (by first | assumption | omega | decide)) rfl dX11_saw_14 q_36_8 q_36_9 q_36_10 rfl rfl ⟨Nat.le_of_ble_eq_true rfl, Nat.le_of_ble_eq_true rfl⟩ ⟨rfl, rfl⟩ ⟨Nat.le_of_ble_eq_true rfl, Nat.le_of_ble_eq_true rfl⟩ (Nat.le_of_ble_eq_true rfl)) (fun v14 u14 hp14 => ?_)
    obtain ⟨V1_14, rfl, rfl, hq14_0, hq14_1, hq14_2, hq14_3⟩ := hp14
    show Xw K G 0 0 _ n V1_14 R 17 [(0, .ref (aG G 0))] [.ref (aG G 11)]
    obtain ⟨⟨c1, c2⟩, c3⟩ := hq14_2
    change V1_14 11 2 = (opL lr lt L f m pr g).length at c1
    change ∀ q : Int, 0 ≤ q → q < (opL lr lt L f m pr g).length → V1_14 (11 + 11) q = lat (opL lr lt L f m pr g) q at c2
    change ∀ z, 0 ≤ z → z ≤ 11 → V1_14 (11 + 9) z = (opT lr lt L f m pr g (-1)).2 z ∧ _ at c3
    have hk0 := hI.1.2.2.2.1.1.1
    have hlen := opL_len (r := lr) (t := lt) (L := L) (f := f) (m := m) (pr := pr) (g := g) hk0
    have ew : ∀ z, V1_14 1 z = V 1 z := fun z => congrFun (hq14_0 1 (by omega)) z
    have ew8 := ew 8
    have hob := opT_b (r := lr) (t := lt) (L := L) (f := f) (m := m) (pr := pr) (g := g) (y := -1) (by decide)
    refine x_astore_n C dX11_saw_17 rfl (by decide) (lv' := [(0, .ref (aG G 0)), (1, .ref (aG G 11))]) rfl ?_
    refine x_aload_n C 0 dX11_saw_18 rfl rfl ?_
    refine x_getr C ok_Class 0 0 (d := 1) dX11_saw_19 (lt67 hn rfl) rfl (by decide) rfl q_0_16 rfl (kz := 0) rfl (lr_0_0 hLR) ?_
    refine x_geti C ok_Yard 1 8 dX11_saw_22 (lt67 hn rfl) rfl (by decide) rfl q_39_11 rfl (kz := 8) rfl (fun rg22 => ?_)
    refine x_aload_n C 1 dX11_saw_25 rfl rfl ?_
    refine x_geti C ok_Saw 11 2 dX11_saw_26 (lt67 hn rfl) rfl (by decide) rfl q_36_7 rfl (kz := 2) rfl (fun rg26 => ?_)
    refine x_iadd C dX11_saw_29 ?_
    refine x_bipush C dX11_saw_30 (w := 16) (by decide) ?_
    refine x_icmp_le C dX11_saw_32 (tgt := 38) (by decide) (by first | assumption | (constructor <;> omega)) (by first | assumption | (constructor <;> omega)) (fun h32 => ?_) (fun h32 => ?_)
    · skip
      refine x_iconst C dX11_saw_38 ?_
      refine x_istore_n C dX11_saw_39 rfl (by decide) (lv' := [(0, .ref (aG G 0)), (1, .ref (aG G 11)), (2, .int (iI 0))]) rfl ?_
      have lp_40 : ∀ (fuel : Nat) (k : Int) (V2 : Nat → Int → Int), (0 ≤ k ∧ k ≤ ((opL lr lt L f m pr g).length : Int)) → (∀ q, q ≠ 1 → q ≠ 4 → q ≠ 17 ∧ q ≠ 18 → V2 q = V1_14 q) → (∀ z, z ≠ 8 → V2 1 z = V 1 z) → (V2 1 8 = V 1 8 + k) → (∀ z, z < 4 * V 1 8 → V2 4 z = V 4 z) → (∀ q : Int, 0 ≤ q → q < k → sawRow lr lt L f m g pr (V2 4) (V 1 8 + q) (lat (opL lr lt L f m pr g) q) ((opT lr lt L f m pr g (-1)).2 (lat (opL lr lt L f m pr g) q))) → (((opL lr lt L f m pr g).length : Int) + 1 - k) < (fuel : Int) → Xw K G 0 0 (EndQ K G 0 0 (fun vv uu => ∃ (r : Int), ∃ (V1 : Nat → Int → Int), ∃ (R1 : Nat → Int → Option Nat), vv = some (.int (iI r)) ∧ uu = (n, V1, R1) ∧ ((L = 0 ∧ r = -3 ∧ V1 = V ∧ R1 = R) ∨ (L ≠ 0 ∧ 16 < V 1 8 + ((opL lr lt L f m pr g).length : Int) ∧ r = -4 ∧ R1 = R ∧ (∀ q, q < 11 ∨ 22 < q → V1 q = V q) ∧ CInv n V1 R lr lt L f m g pr) ∨ (L ≠ 0 ∧ V 1 8 + ((opL lr lt L f m pr g).length : Int) ≤ 16 ∧ r = ((opL lr lt L f m pr g).length : Int) ∧ (∀ q : Int, 0 ≤ q → q < ((opL lr lt L f m pr g).length : Int) → sawRow lr lt L f m g pr (V1 4) (V 1 8 + q) (lat (opL lr lt L f m pr g) q) ((opT lr lt L f m pr g (-1)).2 (lat (opL lr lt L f m pr g) q))) ∧ V1 1 8 = V 1 8 + r ∧ (V1 1 0 = 0 ∧ V1 1 1 = 0 ∧ V1 1 2 = 0 ∧ V1 1 3 = 0 ∧ V1 1 5 = 0 ∧ V1 1 10 = V 1 10) ∧ V1 11 0 = 0 ∧ (∀ z, z < 4 * V 1 8 → V1 4 z = V 4 z) ∧ (∀ q, q ≠ 1 → q ≠ 4 → q < 11 ∨ 22 < q → V1 q = V q) ∧ (∀ q, q ≠ 2 → R1 q = R q) ∧ (∀ z, 0 ≤ z → z < 8 → R1 2 z = none) ∧ SawZ V1 ∧ (V1 11 1 = 0 ∨ V1 11 1 = 1))))) n V2 R 40 [(0, .ref (aG G 0)), (1, .ref (aG G 11)), (2, .int (iI k))] [] := by
        intro fuel40
        induction fuel40 with
        | zero => intro k V2 hk hF2 hs1 hs8 hb4 hrows hfu40; exfalso; omega
        | succ fuel40 ih40 =>
          intro k V2 hk hF2 hs1 hs8 hb4 hrows hfu40
          have e2c : V2 11 2 = ((opL lr lt L f m pr g).length : Int) := by rw [hF2 11 (by omega) (by omega) (by omega)]; exact c1
          refine x_iload_n C 2 dX11_saw_40 rfl rfl ?_
          refine x_aload_n C 1 dX11_saw_41 rfl rfl ?_
          refine x_geti C ok_Saw 11 2 dX11_saw_42 (lt67 hn rfl) rfl (by decide) rfl q_36_7 rfl (kz := 2) rfl (fun rg42 => ?_)
          refine x_icmp_ge C dX11_saw_45 (tgt := 98) (by decide) (by first | assumption | (constructor <;> omega)) (by first | assumption | (constructor <;> omega)) (fun h45 => ?_) (fun h45 => ?_)
          · skip
            refine x_aload_n C 0 dX11_saw_98 rfl rfl ?_
            refine x_getr C ok_Class 0 0 (d := 1) dX11_saw_99 (lt67 hn rfl) rfl (by decide) rfl q_0_16 rfl (kz := 0) rfl (lr_0_0 hLR) ?_
            refine x_iconst C dX11_saw_102 ?_
            refine x_iconst C dX11_saw_103 ?_
            refine x_iconst C dX11_saw_104 ?_
            refine x_runU (r_callV C ok_Yard 1 (lt67 hn rfl) rfl (ce_X10_lay) (m_X10_lay G n V2 R (1) (0) (0) (0) hn hLR (by first | assumption | omega | decide) (by first | assumption | omega | decide) (by first | assumption | omega | decide) (by first | assumption | omega | decide)) rfl dX11_saw_105 q_5_7 q_5_8 q_5_9 rfl rfl ⟨Nat.le_of_ble_eq_true rfl, Nat.le_of_ble_eq_true rfl⟩ ⟨rfl, rfl⟩ ⟨Nat.le_of_ble_eq_true rfl, Nat.le_of_ble_eq_true rfl⟩ (Nat.le_of_ble_eq_true rfl)) (fun v105 u105 hp105 => ?_)
            obtain ⟨R1_105, rfl, rfl, hq105_0, hq105_1⟩ := hp105
            show Xw K G 0 0 _ n (u2 (u2 (u2 (u2 (u2 V2 1 0 0) 1 1 0) 1 2 0) 1 3 0) 1 5 0) R1_105 108 [(0, .ref (aG G 0)), (1, .ref (aG G 11)), (2, .int (iI k))] []
            have hLR2 : LR R1_105 := LR_fr (a := 1) (by omega) hLR hq105_0
            refine x_aload_n C 0 dX11_saw_108 rfl rfl ?_
            refine x_getr C ok_Class 0 3 (d := 11) dX11_saw_109 (lt67 hn rfl) rfl (by decide) rfl q_0_22 rfl (kz := 3) rfl (by exact (lr_0_3 hLR2)) ?_
            refine x_iconst C dX11_saw_112 ?_
            refine x_puti C ok_Saw 11 0 dX11_saw_113 (lt67 hn rfl) rfl (by decide) rfl q_5_3 rfl rfl (Or.inr ⟨rfl, by first | exact Or.inl rfl | exact Or.inr rfl | omega⟩) (by first | assumption | (constructor <;> omega)) (kz := 0) rfl ?_
            refine x_aload_n C 1 dX11_saw_116 rfl rfl ?_
            refine x_geti C ok_Saw 11 2 dX11_saw_117 (lt67 hn rfl) rfl (by decide) rfl q_36_7 rfl (kz := 2) rfl (fun rg117 => ?_)
            refine x_top (b := (V2 11 2)) (by first | rfl | (simp only [u2_at]; simp) | (simp only [u2_at]; first | (rw [if_neg (by omega)]) | omega) | (repeat rw [u2_at, if_neg (by omega)])) ?_
            refine x_iret C dX11_saw_120 ⟨_, _, _, rfl, rfl, ?_⟩
            · refine Or.inr (Or.inr ⟨by omega, by omega, e2c, fun q a b => (by rw [u2_n (by omega), u2_n (by omega), u2_n (by omega), u2_n (by omega), u2_n (by omega), u2_n (by omega)]; exact hrows q a (by omega)), (by simp [u2_at]; omega), ⟨by simp [u2_at], by simp [u2_at], by simp [u2_at], by simp [u2_at], by simp [u2_at], (by simp [u2_at]; exact hs1 10 (by decide))⟩, by simp [u2_at], fun z a => (by rw [u2_n (by omega), u2_n (by omega), u2_n (by omega), u2_n (by omega), u2_n (by omega), u2_n (by omega)]; exact hb4 z a), fun q a b c => (by rw [u2_n (by omega), u2_n (by omega), u2_n (by omega), u2_n (by omega), u2_n (by omega), u2_n (by omega)]; exact (hF2 q a b (by omega)).trans (hq14_0 q c)), hq105_0, hq105_1, ⟨hq14_3.2.2.1.fr (by rw [u2_n (by omega), u2_n (by omega), u2_n (by omega), u2_n (by omega), u2_n (by omega), u2_n (by omega)]; exact hF2 _ (by omega) (by omega) (by omega)) (by rw [u2_n (by omega), u2_n (by omega), u2_n (by omega), u2_n (by omega), u2_n (by omega), u2_n (by omega)]; exact hF2 _ (by omega) (by omega) (by omega)), (by rw [u2_n (by omega), u2_n (by omega), u2_n (by omega), u2_n (by omega), u2_n (by omega), u2_n (by omega), hF2 19 (by omega) (by omega) (by omega)]; exact hq14_3.2.2.2.1), hq14_3.2.2.2.2.1.fr (by rw [u2_n (by omega), u2_n (by omega), u2_n (by omega), u2_n (by omega), u2_n (by omega), u2_n (by omega)]; exact hF2 _ (by omega) (by omega) (by omega)) (by rw [u2_n (by omega), u2_n (by omega), u2_n (by omega), u2_n (by omega), u2_n (by omega), u2_n (by omega)]; exact hF2 _ (by omega) (by omega) (by omega)), (by rw [u2_n (by omega), u2_n (by omega), u2_n (by omega), u2_n (by omega), u2_n (by omega), u2_n (by omega), hF2 31 (by omega) (by omega) (by omega)]; exact hq14_3.2.2.2.2.2)⟩, (by rw [u2_at, if_neg (by omega), u2_n (by omega), u2_n (by omega), u2_n (by omega), u2_n (by omega), u2_n (by omega), hF2 11 (by omega) (by omega) (by omega)]; exact hq14_3.2.1.2.1)⟩)
          · skip
            have e1k : V2 (11 + 11) k = lat (opL lr lt L f m pr g) k := by rw [hF2 22 (by omega) (by omega) (by omega)]; exact c2 k (by omega) (by omega)
            have hlm := opL_mem (r := lr) (t := lt) (L := L) (f := f) (m := m) (pr := pr) (g := g) hk0 (lat_mem (l := (opL lr lt L f m pr g)) (i := k) (by omega) (by omega))
            have e2k : V2 (11 + 9) (lat (opL lr lt L f m pr g) k) = (opT lr lt L f m pr g (-1)).2 (lat (opL lr lt L f m pr g) k) := by rw [hF2 20 (by omega) (by omega) (by omega)]; exact (c3 _ (by omega) (by omega)).1
            have hTb := hob.2.1 (lat (opL lr lt L f m pr g) k)
            have okS : SwOk V2 11 lr lt L f m g pr := hq14_1.fr2 (fun z _ => by rw [hF2 11 (by omega) (by omega) (by omega)]) (fun q a => hF2 q (by omega) (by omega) (by omega))
            refine x_aload_n C 1 dX11_saw_48 rfl rfl ?_
            refine x_iload_n C 2 dX11_saw_49 rfl rfl ?_
            refine x_runU (r_callV C ok_Saw 11 (lt67 hn rfl) rfl (ce_X6_pieceAt) (m_X6_pieceAt G n V2 R (11) (lr) (lt) (L) (f) (m) (g) (pr) (k) (lat (opL lr lt L f m pr g) k) ((opT lr lt L f m pr g (-1)).2 (lat (opL lr lt L f m pr g) k)) hn hLR (by first | assumption | omega | decide) (by exact okS) (by exact hI.1.2.2.2.1) (by omega) (by omega) (by omega) (by exact e1k) (by exact e2k)) rfl dX11_saw_50 q_39_12 q_39_13 q_39_14 rfl rfl ⟨Nat.le_of_ble_eq_true rfl, Nat.le_of_ble_eq_true rfl⟩ ⟨rfl, rfl⟩ ⟨Nat.le_of_ble_eq_true rfl, Nat.le_of_ble_eq_true rfl⟩ (Nat.le_of_ble_eq_true rfl)) (fun v50 u50 hp50 => ?_)
            obtain ⟨V1_50, rfl, rfl, hq50_0, hq50_1⟩ := hp50
            show Xw K G 0 0 _ n V1_50 R 53 [(0, .ref (aG G 0)), (1, .ref (aG G 11)), (2, .int (iI k))] [.ref (aG G 18)]
            have hci := hq50_1.c hI.1.2.2.2.1 ⟨by omega, by omega⟩ (by omega)
            have hWp : 0 < V1_50 (11 + 7) 8 := by (rw [hci.1]; exact hob.2.2.1 _ (by omega))
            obtain ⟨pr1, pr2, pr3, pr4, pr5⟩ := hq50_1.r (by omega) hWp
            simp only [Nat.reduceAdd] at hq50_1 hWp pr1 pr2 pr3 pr4 pr5
            refine x_astore_n C dX11_saw_53 rfl (by decide) (lv' := [(0, .ref (aG G 0)), (1, .ref (aG G 11)), (2, .int (iI k)), (3, .ref (aG G 18))]) rfl ?_
            refine x_aload_n C 0 dX11_saw_54 rfl rfl ?_
            refine x_getr C ok_Class 0 0 (d := 1) dX11_saw_55 (lt67 hn rfl) rfl (by decide) rfl q_0_16 rfl (kz := 0) rfl (lr_0_0 hLR) ?_
            refine x_aload_n C 1 dX11_saw_58 rfl rfl ?_
            refine x_iload_n C 2 dX11_saw_59 rfl rfl ?_
            refine x_runU (r_callV C ok_Saw 11 (lt67 hn rfl) rfl (ce_X6_thicknessAt) (m_X6_thicknessAt G n V1_50 R (11) (k) hn hLR (by first | assumption | omega | decide) (by omega) (by rw [hq50_0 (11 + 11) (by omega) (by omega), e1k]; omega)) rfl dX11_saw_60 q_37_4 q_37_5 q_37_6 rfl rfl ⟨Nat.le_of_ble_eq_true rfl, Nat.le_of_ble_eq_true rfl⟩ ⟨rfl, rfl⟩ ⟨Nat.le_of_ble_eq_true rfl, Nat.le_of_ble_eq_true rfl⟩ (Nat.le_of_ble_eq_true rfl)) (fun v60 u60 hp60 => ?_)
            obtain ⟨rfl, rfl⟩ := hp60
            show Xw K G 0 0 _ n V1_50 R 63 [(0, .ref (aG G 0)), (1, .ref (aG G 11)), (2, .int (iI k)), (3, .ref (aG G 18))] [.int (iI (V1_50 (11 + 9) (V1_50 (11 + 11) k))), .ref (aG G 1)]
            refine x_top (b := ((opT lr lt L f m pr g (-1)).2 (lat (opL lr lt L f m pr g) k))) (by rw [hq50_0 (11 + 9) (by omega) (by omega), hq50_0 (11 + 11) (by omega) (by omega), e1k, e2k]) ?_
            refine x_aload_n C 3 dX11_saw_63 rfl rfl ?_
            refine x_geti C ok_Piece 18 1 dX11_saw_64 (lt67 hn rfl) rfl (by decide) rfl q_31_21 rfl (kz := 1) rfl (fun rg64 => ?_)
            refine x_aload_n C 3 dX11_saw_67 rfl rfl ?_
            refine x_geti C ok_Piece 18 0 dX11_saw_68 (lt67 hn rfl) rfl (by decide) rfl q_31_20 rfl (kz := 0) rfl (fun rg68 => ?_)
            refine x_isub C dX11_saw_71 ?_
            refine x_iconst C dX11_saw_72 ?_
            refine x_iadd C dX11_saw_73 ?_
            refine x_aload_n C 3 dX11_saw_74 rfl rfl ?_
            refine x_geti C ok_Piece 18 3 dX11_saw_75 (lt67 hn rfl) rfl (by decide) rfl q_31_23 rfl (kz := 3) rfl (fun rg75 => ?_)
            refine x_aload_n C 3 dX11_saw_78 rfl rfl ?_
            refine x_geti C ok_Piece 18 2 dX11_saw_79 (lt67 hn rfl) rfl (by decide) rfl q_31_22 rfl (kz := 2) rfl (fun rg79 => ?_)
            refine x_isub C dX11_saw_82 ?_
            refine x_iconst C dX11_saw_83 ?_
            refine x_iadd C dX11_saw_84 ?_
            refine x_aload_n C 3 dX11_saw_85 rfl rfl ?_
            refine x_geti C ok_Piece 18 4 dX11_saw_86 (lt67 hn rfl) rfl (by decide) rfl q_32_0 rfl (kz := 4) rfl (fun rg86 => ?_)
            refine x_runU (r_callV C ok_Yard 1 (lt67 hn rfl) rfl (ce_X10_addBoard) (m_X10_addBoard G n V1_50 R (1) ((opT lr lt L f m pr g (-1)).2 (lat (opL lr lt L f m pr g) k)) (((V1_50 18 1) - (V1_50 18 0)) + 1) (((V1_50 18 3) - (V1_50 18 2)) + 1) (V1_50 18 4) hn hLR (by first | assumption | omega | decide) (by first | assumption | omega | decide) (by first | assumption | omega | decide) (by first | assumption | omega | decide) (by first | assumption | omega | decide) (by rw [hq50_0 1 (by omega) (by omega)]; omega)) rfl dX11_saw_89 q_39_17 q_39_18 q_39_19 rfl rfl ⟨Nat.le_of_ble_eq_true rfl, Nat.le_of_ble_eq_true rfl⟩ ⟨rfl, rfl⟩ ⟨Nat.le_of_ble_eq_true rfl, Nat.le_of_ble_eq_true rfl⟩ (Nat.le_of_ble_eq_true rfl)) (fun v89 u89 hp89 => ?_)
            obtain ⟨rfl, rfl⟩ := hp89
            show Xw K G 0 0 _ n (u2 (u2 (u2 (u2 (u2 V1_50 (1 + 3) (4 * V1_50 1 8) ((opT lr lt L f m pr g (-1)).2 (lat (opL lr lt L f m pr g) k))) (1 + 3) (4 * V1_50 1 8 + 1) (((V1_50 18 1) - (V1_50 18 0)) + 1)) (1 + 3) (4 * V1_50 1 8 + 2) (((V1_50 18 3) - (V1_50 18 2)) + 1)) (1 + 3) (4 * V1_50 1 8 + 3) (V1_50 18 4)) 1 8 (V1_50 1 8 + 1)) R 92 [(0, .ref (aG G 0)), (1, .ref (aG G 11)), (2, .int (iI k)), (3, .ref (aG G 18))] []
            refine x_iinc C 2 dX11_saw_92 rfl (by decide) (lv' := [(0, .ref (aG G 0)), (1, .ref (aG G 11)), (2, .int (iI (k + 1))), (3, .ref (aG G 18))]) rfl ?_
            refine x_goto C dX11_saw_95 (tgt := 40) (by decide) ?_
            refine x_sub [0, 1, 2] (lv' := [(0, .ref (aG G 0)), (1, .ref (aG G 11)), (2, .int (iI (k + 1)))]) rfl ?_
            exact ih40 ((k + 1)) ((u2 (u2 (u2 (u2 (u2 V1_50 (1 + 3) (4 * V1_50 1 8) ((opT lr lt L f m pr g (-1)).2 (lat (opL lr lt L f m pr g) k))) (1 + 3) (4 * V1_50 1 8 + 1) (((V1_50 18 1) - (V1_50 18 0)) + 1)) (1 + 3) (4 * V1_50 1 8 + 2) (((V1_50 18 3) - (V1_50 18 2)) + 1)) (1 + 3) (4 * V1_50 1 8 + 3) (V1_50 18 4)) 1 8 (V1_50 1 8 + 1))) (by omega) (by exact fun q a b c => by rw [u2_n a, u2_n b, u2_n b, u2_n b, u2_n b, hq50_0 q (by omega) (by omega)]; exact hF2 q a b c) (by exact fun z a => by (rw [u2_at, if_neg (by omega), u2_n (by decide), u2_n (by decide), u2_n (by decide), u2_n (by decide), hq50_0 1 (by omega) (by omega)]; exact hs1 z a)) (by rw [u2_s, u1_s, hq50_0 1 (by omega) (by omega), hs8]; omega) (by exact fun z a => by (rw [u2_n (by decide), saw_lo (by rw [hq50_0 1 (by omega) (by omega), hs8]; omega), hq50_0 4 (by omega) (by omega)]; exact hb4 z a)) (by exact fun q a b => by (rw [u2_n (show (4 : Nat) ≠ 1 by decide)]; by_cases e : q = k; (rw [e, hq50_0 1 (by omega) (by omega), hs8]; exact saw_row hq50_1 hWp); (have h := hrows q a (by omega); rw [← hq50_0 4 (by omega) (by omega)] at h; exact saw_old h (by rw [hq50_0 1 (by omega) (by omega), hs8]; omega)))) (by omega)
      exact lp_40 ((((opL lr lt L f m pr g).length : Int) + 1 - 0).toNat + 1) (0) (V1_14) (by omega) (by exact fun _ _ _ _ => rfl) (by exact fun z _ => ew z) (by omega) (by exact fun z _ => congrFun (hq14_0 4 (by omega)) z) (by exact fun q a b => by omega) (by omega)
    · skip
      refine x_bipush C dX11_saw_35 (w := -4) (by decide) ?_
      refine x_iret C dX11_saw_37 ⟨_, _, _, rfl, rfl, ?_⟩
      · exact Or.inr (Or.inl ⟨by omega, by omega, rfl, rfl, hq14_0, hq14_3⟩)
  · skip
    refine x_bipush C dX11_saw_10 (w := -3) (by decide) ?_
    refine x_iret C dX11_saw_12 ⟨_, _, _, rfl, rfl, ?_⟩
    · exact Or.inl ⟨by omega, rfl, rfl, rfl⟩
