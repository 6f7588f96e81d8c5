
set_option maxRecDepth 100000 in
set_option maxHeartbeats 4000000 in
theorem m_X11_image (G : GS) (n : Nat) (V : Nat → Int → Int) (R : Nat → Int → Option Nat) (hn : 67 ≤ n) (hLR : LR R) (hE : ∀ z d, R 2 z = some d → d < n ∧ tb d = (99, 0)) : Cn G yX11_image cX11_image 1 (some .int) (rmk 2 0 0 86) [.ref (aG G 0)] n V R 0 0 (fun vv uu => ∃ (R1 : Nat → Int → Option Nat), vv = some (.int (iI (V 1 5))) ∧ uu = (n, (u2 (cpy (cpy (cpy (u2 (u2 (u2 (u2 (u2 (u2 (u2 V 6 0 (V 1 0)) 6 1 (V 1 1)) 6 2 (V 1 2)) 6 3 (V 1 3)) 6 5 (V 1 5)) 6 8 (V 1 8)) 6 10 (V 1 10)) 3 8 0 0 7) 4 9 0 0 64) 5 10 0 0 24) 0 2 1), R1) ∧ (∀ q, q ≠ 7 → R1 q = R q) ∧ (∀ z, 0 ≤ z → z < 8 → R1 7 z = R 2 z)) := by
  refine Cn.of (by decide) (Nat.le_of_ble_eq_true rfl) (fun K C hct => ?_)
  show Xw K G 0 0 _ n V R 0 [(0, .ref (aG G 0))] []
  refine x_aload_n C 0 dX11_image_0 rfl rfl ?_
  refine x_getr C ok_Class 0 1 (d := 6) dX11_image_1 (lt67 hn rfl) rfl (by decide) rfl q_0_17 rfl (kz := 1) rfl (lr_0_1 hLR) ?_
  refine x_aload_n C 0 dX11_image_4 rfl rfl ?_
  refine x_getr C ok_Class 0 0 (d := 1) dX11_image_5 (lt67 hn rfl) rfl (by decide) rfl q_0_16 rfl (kz := 0) rfl (lr_0_0 hLR) ?_
  refine x_runU (r_callV C ok_Yard 6 (lt67 hn rfl) rfl (ce_X10_becomeAs) (m_X10_becomeAs G n V R (6) (1) hn hLR (by first | assumption | omega | decide) (by exact Or.inr ⟨rfl, rfl⟩) (by first | assumption | omega | decide) (by exact hE)) rfl dX11_image_8 q_49_3 q_49_4 q_49_5 rfl rfl ⟨Nat.le_of_ble_eq_true rfl, Nat.le_of_ble_eq_true rfl⟩ ⟨rfl, rfl⟩ ⟨Nat.le_of_ble_eq_true rfl, Nat.le_of_ble_eq_true rfl⟩ (Nat.le_of_ble_eq_true rfl)) (fun v8 u8 hp8 => ?_)
  obtain ⟨R1_8, rfl, rfl, hq8_0, hq8_1⟩ := hp8
  show Xw K G 0 0 _ n (cpy (cpy (cpy (u2 (u2 (u2 (u2 (u2 (u2 (u2 V 6 0 (V 1 0)) 6 1 (V 1 1)) 6 2 (V 1 2)) 6 3 (V 1 3)) 6 5 (V 1 5)) 6 8 (V 1 8)) 6 10 (V 1 10)) (1 + 2) (6 + 2) 0 0 7) (1 + 3) (6 + 3) 0 0 64) (1 + 4) (6 + 4) 0 0 24) R1_8 11 [(0, .ref (aG G 0))] []
  have hLR2 : LR R1_8 := LR_fr (a := 6) (by omega) hLR hq8_0
  refine x_aload_n C 0 dX11_image_11 rfl rfl ?_
  refine x_iconst C dX11_image_12 ?_
  refine x_puti C ok_Class 0 2 dX11_image_13 (lt67 hn rfl) rfl (by decide) rfl q_0_18 rfl rfl (Or.inr ⟨rfl, by first | exact Or.inl rfl | exact Or.inr rfl | omega⟩) (by first | assumption | (constructor <;> omega)) (kz := 2) rfl ?_
  refine x_aload_n C 0 dX11_image_16 rfl rfl ?_
  refine x_getr C ok_Class 0 1 (d := 6) dX11_image_17 (lt67 hn rfl) rfl (by decide) rfl q_0_17 rfl (kz := 1) rfl (by exact (lr_0_1 hLR2)) ?_
  refine x_geti C ok_Yard 6 5 dX11_image_20 (lt67 hn rfl) rfl (by decide) rfl q_8_5 rfl (kz := 5) rfl (fun rg20 => ?_)
  refine x_top (b := ((cpy (cpy (cpy (u2 (u2 (u2 (u2 (u2 (u2 (u2 V 6 0 (V 1 0)) 6 1 (V 1 1)) 6 2 (V 1 2)) 6 3 (V 1 3)) 6 5 (V 1 5)) 6 8 (V 1 8)) 6 10 (V 1 10)) (1 + 2) (6 + 2) 0 0 7) (1 + 3) (6 + 3) 0 0 64) (1 + 4) (6 + 4) 0 0 24) 6 5)) (by first | rfl | (simp only [u2_at]; simp) | (simp only [u2_at]; first | (rw [if_neg (by omega)]) | omega) | (repeat rw [u2_at, if_neg (by omega)])) ?_
  refine x_top (b := (V 1 5)) (by first | (rw [cpy_n (by decide), cpy_n (by decide), cpy_n (by decide)]; simp [u2_at]) | (rw [u2_n (by decide), cpy_n (by decide), cpy_n (by decide), cpy_n (by decide)]; simp [u2_at])) ?_
  refine x_iret C dX11_image_23 ⟨_, rfl, rfl, ?_, ?_⟩
  · exact hq8_0
  · exact hq8_1
set_option maxRecDepth 100000 in
set_option maxHeartbeats 4000000 in
theorem m_X11_back (G : GS) (n : Nat) (V : Nat → Int → Int) (R : Nat → Int → Option Nat) (hn : 67 ≤ n) (hLR : LR R) (hE : ∀ z d, R 7 z = some d → d < n ∧ tb d = (99, 0)) (h2 : V 0 2 = 0 ∨ V 0 2 = 1) : Cn G yX11_back cX11_back 1 (some .int) (rmk 2 0 0 86) [.ref (aG G 0)] n V R 0 0 (fun vv uu => ∃ (r : Int), ∃ (V1 : Nat → Int → Int), ∃ (R1 : Nat → Int → Option Nat), vv = some (.int (iI r)) ∧ uu = (n, V1, R1) ∧ ((V 0 2 = 0 ∧ r = -3 ∧ V1 = V ∧ R1 = R) ∨ (V 0 2 = 1 ∧ r = V 6 5 ∧ V1 = u2 (cpy (cpy (cpy (u2 (u2 (u2 (u2 (u2 (u2 (u2 V 1 0 (V 6 0)) 1 1 (V 6 1)) 1 2 (V 6 2)) 1 3 (V 6 3)) 1 5 (V 6 5)) 1 8 (V 6 8)) 1 10 (V 6 10)) 8 3 0 0 7) 9 4 0 0 64) 10 5 0 0 24) 11 0 0 ∧ (∀ q, q ≠ 2 → R1 q = R q) ∧ ∀ z, 0 ≤ z → z < 8 → R1 2 z = R 7 z))) := by
  refine Cn.of (by decide) (Nat.le_of_ble_eq_true rfl) (fun K C hct => ?_)
  show Xw K G 0 0 _ n V R 0 [(0, .ref (aG G 0))] []
  refine x_aload_n C 0 dX11_back_0 rfl rfl ?_
  refine x_geti C ok_Class 0 2 dX11_back_1 (lt67 hn rfl) rfl (by decide) rfl q_0_18 rfl (kz := 2) rfl (fun rg1 => ?_)
  refine x_if_ne C dX11_back_4 (tgt := 10) (by decide) (by first | assumption | (constructor <;> omega)) (fun h4 => ?_) (fun h4 => ?_)
  · skip
    refine x_aload_n C 0 dX11_back_10 rfl rfl ?_
    refine x_getr C ok_Class 0 0 (d := 1) dX11_back_11 (lt67 hn rfl) rfl (by decide) rfl q_0_16 rfl (kz := 0) rfl (lr_0_0 hLR) ?_
    refine x_aload_n C 0 dX11_back_14 rfl rfl ?_
    refine x_getr C ok_Class 0 1 (d := 6) dX11_back_15 (lt67 hn rfl) rfl (by decide) rfl q_0_17 rfl (kz := 1) rfl (lr_0_1 hLR) ?_
    refine x_runU (r_callV C ok_Yard 1 (lt67 hn rfl) rfl (ce_X10_becomeAs) (m_X10_becomeAs G n V R (1) (6) hn hLR (by first | assumption | omega | decide) (by exact Or.inl ⟨rfl, rfl⟩) (by first | assumption | omega | decide) (by exact hE)) rfl dX11_back_18 q_49_3 q_49_4 q_49_5 rfl rfl ⟨Nat.le_of_ble_eq_true rfl, Nat.le_of_ble_eq_true rfl⟩ ⟨rfl, rfl⟩ ⟨Nat.le_of_ble_eq_true rfl, Nat.le_of_ble_eq_true rfl⟩ (Nat.le_of_ble_eq_true rfl)) (fun v18 u18 hp18 => ?_)
    obtain ⟨R1_18, rfl, rfl, hq18_0, hq18_1⟩ := hp18
    show Xw K G 0 0 _ n (cpy (cpy (cpy (u2 (u2 (u2 (u2 (u2 (u2 (u2 V 1 0 (V 6 0)) 1 1 (V 6 1)) 1 2 (V 6 2)) 1 3 (V 6 3)) 1 5 (V 6 5)) 1 8 (V 6 8)) 1 10 (V 6 10)) (6 + 2) (1 + 2) 0 0 7) (6 + 3) (1 + 3) 0 0 64) (6 + 4) (1 + 4) 0 0 24) R1_18 21 [(0, .ref (aG G 0))] []
    have hLR2 : LR R1_18 := LR_fr (a := 1) (by omega) hLR hq18_0
    refine x_aload_n C 0 dX11_back_21 rfl rfl ?_
    refine x_getr C ok_Class 0 3 (d := 11) dX11_back_22 (lt67 hn rfl) rfl (by decide) rfl q_0_22 rfl (kz := 3) rfl (by exact (lr_0_3 hLR2)) ?_
    refine x_iconst C dX11_back_25 ?_
    refine x_puti C ok_Saw 11 0 dX11_back_26 (lt67 hn rfl) rfl (by decide) rfl q_5_3 rfl rfl (Or.inr ⟨rfl, by first | exact Or.inl rfl | exact Or.inr rfl | omega⟩) (by first | assumption | (constructor <;> omega)) (kz := 0) rfl ?_
    refine x_aload_n C 0 dX11_back_29 rfl rfl ?_
    refine x_getr C ok_Class 0 0 (d := 1) dX11_back_30 (lt67 hn rfl) rfl (by decide) rfl q_0_16 rfl (kz := 0) rfl (by exact (lr_0_0 hLR2)) ?_
    refine x_geti C ok_Yard 1 5 dX11_back_33 (lt67 hn rfl) rfl (by decide) rfl q_8_5 rfl (kz := 5) rfl (fun rg33 => ?_)
    refine x_top (b := ((cpy (cpy (cpy (u2 (u2 (u2 (u2 (u2 (u2 (u2 V 1 0 (V 6 0)) 1 1 (V 6 1)) 1 2 (V 6 2)) 1 3 (V 6 3)) 1 5 (V 6 5)) 1 8 (V 6 8)) 1 10 (V 6 10)) (6 + 2) (1 + 2) 0 0 7) (6 + 3) (1 + 3) 0 0 64) (6 + 4) (1 + 4) 0 0 24) 1 5)) (by first | rfl | (simp only [u2_at]; simp) | (simp only [u2_at]; first | (rw [if_neg (by omega)]) | omega) | (repeat rw [u2_at, if_neg (by omega)])) ?_
    refine x_top (b := (V 6 5)) (by first | (rw [cpy_n (by decide), cpy_n (by decide), cpy_n (by decide)]; simp [u2_at]) | (rw [u2_n (by decide), cpy_n (by decide), cpy_n (by decide), cpy_n (by decide)]; simp [u2_at])) ?_
    refine x_iret C dX11_back_36 ⟨_, _, _, rfl, rfl, ?_⟩
    · first | exact Or.inl ⟨by omega, rfl, rfl, rfl⟩ | exact Or.inr ⟨by omega, rfl, rfl, hq18_0, hq18_1⟩
  · skip
    refine x_bipush C dX11_back_7 (w := -3) (by decide) ?_
    refine x_iret C dX11_back_9 ⟨_, _, _, rfl, rfl, ?_⟩
    · first | exact Or.inl ⟨by omega, rfl, rfl, rfl⟩ | exact Or.inr ⟨by omega, rfl, rfl, hq18_0, hq18_1⟩
set_option maxRecDepth 100000 in
set_option maxHeartbeats 4000000 in
theorem m_X11_woodWithFault (G : GS) (n : Nat) (V : Nat → Int → Int) (R : Nat → Int → Option Nat) (lr : Int) (lt : Int) (L : Int) (f : Int → Int → Int) (m : Int) (g : Int) (pr : Int → Int) (hn : 67 ≤ n) (hLR : LR R) (hI : CInv n V R lr lt L f m g pr) (hL1 : 1 ≤ L) : Cn G yX11_woodWithFault cX11_woodWithFault 7 (some .int) (rmk 7 0 0 154) [.ref (aG G 0)] n V R 0 0 (fun vv uu => ∃ (V1 : Nat → Int → Int), vv = some (.int (iI (hurtT lr lt L f m g))) ∧ uu = (n, V1, R) ∧ (∀ q, q < 11 ∨ 22 < q → V1 q = V q) ∧ (CInv n V1 R lr lt L f m g pr)) := by
  obtain ⟨ea0, ea1, ea2, ea3, ea5⟩ := hI.1.1
  obtain ⟨eb0, eb1, eb2, eb3, eb5⟩ := hI.1.2.1
  refine Cn.of (by decide) (Nat.le_of_ble_eq_true rfl) (fun K C hct => ?_)
  show Xw K G 0 0 _ n V R 0 [(0, .ref (aG G 0))] []
  refine x_aload_n C 0 dX11_woodWithFault_0 rfl rfl ?_
  refine x_runU (r_callV C ok_Class 0 (lt67 hn rfl) rfl (ce_X11_asItLies) (m_X11_asItLies G n V R (lr) (lt) (L) (f) (m) (g) (pr) hn hLR (by first | assumption | omega | decide) (by first | assumption | omega | decide)) rfl dX11_woodWithFault_1 q_28_13 q_28_14 q_28_15 rfl rfl ⟨Nat.le_of_ble_eq_true rfl, Nat.le_of_ble_eq_true rfl⟩ ⟨rfl, rfl⟩ ⟨Nat.le_of_ble_eq_true rfl, Nat.le_of_ble_eq_true rfl⟩ (Nat.le_of_ble_eq_true rfl)) (fun v1 u1 hp1 => ?_)
  obtain ⟨V1_1, rfl, rfl, hq1_0, hq1_1, hq1_2, hq1_3⟩ := hp1
  show Xw K G 0 0 _ n V1_1 R 4 [(0, .ref (aG G 0))] [.ref (aG G 11)]
  have ew : ∀ z, V1_1 1 z = V 1 z := fun z => congrFun (hq1_0 1 (by omega)) z
  refine x_astore_n C dX11_woodWithFault_4 rfl (by decide) (lv' := [(0, .ref (aG G 0)), (1, .ref (aG G 11))]) rfl ?_
  refine x_iconst C dX11_woodWithFault_5 ?_
  refine x_istore_n C dX11_woodWithFault_6 rfl (by decide) (lv' := [(0, .ref (aG G 0)), (1, .ref (aG G 11)), (2, .int (iI 0))]) rfl ?_
  refine x_iconst C dX11_woodWithFault_7 ?_
  refine x_istore_n C dX11_woodWithFault_8 rfl (by decide) (lv' := [(0, .ref (aG G 0)), (1, .ref (aG G 11)), (2, .int (iI 0)), (3, .int (iI 0))]) rfl ?_
  have lp_9 : ∀ (fuel : Nat) (s : Int) (w : Int), (0 ≤ s ∧ s ≤ L) → (w = sm (gH lr lt f m g) (144 * s)) → ((9 : Int) - s) < (fuel : Int) → Xw K G 0 0 (EndQ K G 0 0 (fun vv uu => ∃ (V1 : Nat → Int → Int), vv = some (.int (iI (hurtT lr lt L f m g))) ∧ uu = (n, V1, R) ∧ (∀ q, q < 11 ∨ 22 < q → V1 q = V q) ∧ (CInv n V1 R lr lt L f m g pr))) n V1_1 R 9 [(0, .ref (aG G 0)), (1, .ref (aG G 11)), (2, .int (iI w)), (3, .int (iI s))] [] := by
    intro fuel9
    induction fuel9 with
    | zero => intro s w hs2 hw hfu9; exfalso; omega
    | succ fuel9 ih9 =>
      intro s w hs2 hw hfu9
      have hwb := sm_b (f := (gH lr lt f m g)) (A := 1) (z := 144 * s) (by omega) (fun i _ _ => bI_b _)
      have e2 := ew 2
      refine x_iload_n C 3 dX11_woodWithFault_9 rfl rfl ?_
      refine x_aload_n C 0 dX11_woodWithFault_10 rfl rfl ?_
      refine x_getr C ok_Class 0 0 (d := 1) dX11_woodWithFault_11 (lt67 hn rfl) rfl (by decide) rfl q_0_16 rfl (kz := 0) rfl (lr_0_0 hLR) ?_
      refine x_geti C ok_Yard 1 2 dX11_woodWithFault_14 (lt67 hn rfl) rfl (by decide) rfl q_5_15 rfl (kz := 2) rfl (fun rg14 => ?_)
      refine x_icmp_ge C dX11_woodWithFault_17 (tgt := 87) (by decide) (by first | assumption | (constructor <;> omega)) (by first | assumption | (constructor <;> omega)) (fun h17 => ?_) (fun h17 => ?_)
      · skip
        refine x_iload_n C 2 dX11_woodWithFault_87 rfl rfl ?_
        refine x_iret C dX11_woodWithFault_88 ⟨_, (by refine congrArg (fun z => some (Value.int (iI z))) ?_; rw [hw, show s = L by omega]; rfl), rfl, ?_, ?_⟩
        · exact hq1_0
        · exact hq1_3
      · skip
        refine x_iconst C dX11_woodWithFault_20 ?_
        refine x_istore C dX11_woodWithFault_21 (by decide) (lv' := [(0, .ref (aG G 0)), (1, .ref (aG G 11)), (2, .int (iI w)), (3, .int (iI s)), (4, .int (iI 0))]) rfl ?_
        have lp_23 : ∀ (fuel : Nat) (q : Int) (w2 : Int), (0 ≤ q ∧ q ≤ 144) → (w2 = sm (gH lr lt f m g) (144 * s + q)) → ((145 : Int) - q) < (fuel : Int) → Xw K G 0 0 (EndQ K G 0 0 (fun vv uu => ∃ (V1 : Nat → Int → Int), vv = some (.int (iI (hurtT lr lt L f m g))) ∧ uu = (n, V1, R) ∧ (∀ q, q < 11 ∨ 22 < q → V1 q = V q) ∧ (CInv n V1 R lr lt L f m g pr))) n V1_1 R 23 [(0, .ref (aG G 0)), (1, .ref (aG G 11)), (2, .int (iI w2)), (3, .int (iI s)), (4, .int (iI q))] [] := by
          intro fuel23
          induction fuel23 with
          | zero => intro q w2 hq hw2 hfu23; exfalso; omega
          | succ fuel23 ih23 =>
            intro q w2 hq hw2 hfu23
            have hwb2 := sm_b (f := (gH lr lt f m g)) (A := 1) (z := 144 * s + q) (by omega) (fun i _ _ => bI_b _)
            refine x_iload C 4 dX11_woodWithFault_23 rfl ?_
            refine x_sipush C dX11_woodWithFault_25 (w := 144) (by decide) ?_
            refine x_icmp_ge C dX11_woodWithFault_28 (tgt := 81) (by decide) (by first | assumption | (constructor <;> omega)) (by first | assumption | (constructor <;> omega)) (fun h28 => ?_) (fun h28 => ?_)
            · skip
              refine x_iinc C 3 dX11_woodWithFault_81 rfl (by decide) (lv' := [(0, .ref (aG G 0)), (1, .ref (aG G 11)), (2, .int (iI w2)), (3, .int (iI (s + 1))), (4, .int (iI q))]) rfl ?_
              refine x_goto C dX11_woodWithFault_84 (tgt := 9) (by decide) ?_
              refine x_sub [0, 1, 2, 3] (lv' := [(0, .ref (aG G 0)), (1, .ref (aG G 11)), (2, .int (iI w2)), (3, .int (iI (s + 1)))]) rfl ?_
              exact ih9 ((s + 1)) (w2) (by omega) (by rw [hw2]; congr 1; omega) (by omega)
            · skip
              refine x_iload C 4 dX11_woodWithFault_31 rfl ?_
              refine x_bipush C dX11_woodWithFault_33 (w := 12) (by decide) ?_
              refine x_irem C dX11_woodWithFault_35 (by first | assumption | (constructor <;> omega)) (by first | assumption | (constructor <;> omega)) (by omega) (by omega) ?_
              refine x_istore C dX11_woodWithFault_36 (by decide) (lv' := [(0, .ref (aG G 0)), (1, .ref (aG G 11)), (2, .int (iI w2)), (3, .int (iI s)), (4, .int (iI q)), (5, .int (iI (q % 12)))]) rfl ?_
              refine x_iload C 4 dX11_woodWithFault_38 rfl ?_
              refine x_bipush C dX11_woodWithFault_40 (w := 12) (by decide) ?_
              refine x_idiv C dX11_woodWithFault_42 (by first | assumption | (constructor <;> omega)) (by first | assumption | (constructor <;> omega)) (by omega) (by omega) ?_
              refine x_istore C dX11_woodWithFault_43 (by decide) (lv' := [(0, .ref (aG G 0)), (1, .ref (aG G 11)), (2, .int (iI w2)), (3, .int (iI s)), (4, .int (iI q)), (5, .int (iI (q % 12))), (6, .int (iI (q / 12)))]) rfl ?_
              have d1 := gH_s (lr := lr) (lt := lt) (f := f) (m := m) (g := g) (s := s) hq.1 (by omega) (by omega)
              have hhb := hurtS_b f m (q % 12) (q / 12) s g
              refine x_aload_n C 1 dX11_woodWithFault_45 rfl rfl ?_
              refine x_iload C 5 dX11_woodWithFault_46 rfl ?_
              refine x_iload C 6 dX11_woodWithFault_48 rfl ?_
              refine x_iload_n C 3 dX11_woodWithFault_50 rfl rfl ?_
              refine x_runU (r_callV C ok_Saw 11 (lt67 hn rfl) rfl (ce_X6_hurtOf) (m_X6_hurtOf G n V1_1 R (11) (lr) (lt) (L) (f) (m) (g) (pr) (q % 12) (q / 12) (s) hn hLR (by first | assumption | omega | decide) (by exact hq1_2) (by first | assumption | omega | decide) (by first | assumption | omega | decide) (by first | assumption | omega | decide)) rfl dX11_woodWithFault_51 q_30_2 q_30_3 q_30_4 rfl rfl ⟨Nat.le_of_ble_eq_true rfl, Nat.le_of_ble_eq_true rfl⟩ ⟨rfl, rfl⟩ ⟨Nat.le_of_ble_eq_true rfl, Nat.le_of_ble_eq_true rfl⟩ (Nat.le_of_ble_eq_true rfl)) (fun v51 u51 hp51 => ?_)
              obtain ⟨rfl, rfl⟩ := hp51
              show Xw K G 0 0 _ n V1_1 R 54 [(0, .ref (aG G 0)), (1, .ref (aG G 11)), (2, .int (iI w2)), (3, .int (iI s)), (4, .int (iI q)), (5, .int (iI (q % 12))), (6, .int (iI (q / 12)))] [.int (iI (hurtS f m (q % 12) (q / 12) s g))]
              refine x_if_le C dX11_woodWithFault_54 (tgt := 75) (by decide) (by first | assumption | (constructor <;> omega)) (fun h54 => ?_) (fun h54 => ?_)
              · skip
                refine x_iinc C 4 dX11_woodWithFault_75 rfl (by decide) (lv' := [(0, .ref (aG G 0)), (1, .ref (aG G 11)), (2, .int (iI w2)), (3, .int (iI s)), (4, .int (iI (q + 1))), (5, .int (iI (q % 12))), (6, .int (iI (q / 12)))]) rfl ?_
                refine x_goto C dX11_woodWithFault_78 (tgt := 23) (by decide) ?_
                refine x_sub [0, 1, 2, 3, 4] (lv' := [(0, .ref (aG G 0)), (1, .ref (aG G 11)), (2, .int (iI w2)), (3, .int (iI s)), (4, .int (iI (q + 1)))]) rfl ?_
                exact ih23 ((q + 1)) (w2) (by omega) (by rw [d1, ← hw2]; first | (rw [bI_t ⟨by rw [← ea0, ← ea1, ← ew 0, ← ew 1]; assumption, by omega⟩]) | (rw [bI_f (fun x => by first | (have := x.2; omega) | (have h := x.1; rw [← ea0, ← ea1, ← ew 0, ← ew 1] at h; exact absurd h (by assumption)))]; omega)) (by omega)
              · skip
                refine x_aload_n C 0 dX11_woodWithFault_57 rfl rfl ?_
                refine x_getr C ok_Class 0 0 (d := 1) dX11_woodWithFault_58 (lt67 hn rfl) rfl (by decide) rfl q_0_16 rfl (kz := 0) rfl (lr_0_0 hLR) ?_
                refine x_iload C 5 dX11_woodWithFault_61 rfl ?_
                refine x_iload C 6 dX11_woodWithFault_63 rfl ?_
                refine x_iload_n C 3 dX11_woodWithFault_65 rfl rfl ?_
                refine x_runU (r_callV C ok_Yard 1 (lt67 hn rfl) rfl (ce_X10_isWood) (m_X10_isWood G n V1_1 R (1) (q % 12) (q / 12) (s) hn hLR (by first | assumption | omega | decide) (by first | assumption | omega | decide) (by first | assumption | omega | decide) (by first | assumption | omega | decide) (by rw [ew]; omega) (by rw [ew]; omega)) rfl dX11_woodWithFault_66 q_5_16 q_5_17 q_5_18 rfl rfl ⟨Nat.le_of_ble_eq_true rfl, Nat.le_of_ble_eq_true rfl⟩ ⟨rfl, rfl⟩ ⟨Nat.le_of_ble_eq_true rfl, Nat.le_of_ble_eq_true rfl⟩ (Nat.le_of_ble_eq_true rfl)) (fun v66 u66 hp66 => ?_)
                obtain ⟨rfl, rfl⟩ := hp66
                show Xw K G 0 0 _ n V1_1 R 69 [(0, .ref (aG G 0)), (1, .ref (aG G 11)), (2, .int (iI w2)), (3, .int (iI s)), (4, .int (iI q)), (5, .int (iI (q % 12))), (6, .int (iI (q / 12)))] [.int (iI (bI (woodP (V1_1 1 0) (V1_1 1 1) (q % 12) (q / 12) s)))]
                refine x_ifeq_b C dX11_woodWithFault_69 (tgt := 75) (by decide) (fun h69 => ?_) (fun h69 => ?_)
                · skip
                  refine x_iinc C 4 dX11_woodWithFault_75 rfl (by decide) (lv' := [(0, .ref (aG G 0)), (1, .ref (aG G 11)), (2, .int (iI w2)), (3, .int (iI s)), (4, .int (iI (q + 1))), (5, .int (iI (q % 12))), (6, .int (iI (q / 12)))]) rfl ?_
                  refine x_goto C dX11_woodWithFault_78 (tgt := 23) (by decide) ?_
                  refine x_sub [0, 1, 2, 3, 4] (lv' := [(0, .ref (aG G 0)), (1, .ref (aG G 11)), (2, .int (iI w2)), (3, .int (iI s)), (4, .int (iI (q + 1)))]) rfl ?_
                  exact ih23 ((q + 1)) (w2) (by omega) (by rw [d1, ← hw2]; first | (rw [bI_t ⟨by rw [← ea0, ← ea1, ← ew 0, ← ew 1]; assumption, by omega⟩]) | (rw [bI_f (fun x => by first | (have := x.2; omega) | (have h := x.1; rw [← ea0, ← ea1, ← ew 0, ← ew 1] at h; exact absurd h (by assumption)))]; omega)) (by omega)
                · skip
                  refine x_iinc C 2 dX11_woodWithFault_72 rfl (by decide) (lv' := [(0, .ref (aG G 0)), (1, .ref (aG G 11)), (2, .int (iI (w2 + 1))), (3, .int (iI s)), (4, .int (iI q)), (5, .int (iI (q % 12))), (6, .int (iI (q / 12)))]) rfl ?_
                  refine x_iinc C 4 dX11_woodWithFault_75 rfl (by decide) (lv' := [(0, .ref (aG G 0)), (1, .ref (aG G 11)), (2, .int (iI (w2 + 1))), (3, .int (iI s)), (4, .int (iI (q + 1))), (5, .int (iI (q % 12))), (6, .int (iI (q / 12)))]) rfl ?_
                  refine x_goto C dX11_woodWithFault_78 (tgt := 23) (by decide) ?_
                  refine x_sub [0, 1, 2, 3, 4] (lv' := [(0, .ref (aG G 0)), (1, .ref (aG G 11)), (2, .int (iI (w2 + 1))), (3, .int (iI s)), (4, .int (iI (q + 1)))]) rfl ?_
                  exact ih23 ((q + 1)) ((w2 + 1)) (by omega) (by rw [d1, ← hw2]; first | (rw [bI_t ⟨by rw [← ea0, ← ea1, ← ew 0, ← ew 1]; assumption, by omega⟩]) | (rw [bI_f (fun x => by first | (have := x.2; omega) | (have h := x.1; rw [← ea0, ← ea1, ← ew 0, ← ew 1] at h; exact absurd h (by assumption)))]; omega)) (by omega)
        exact lp_23 (((145 : Int) - 0).toNat + 1) (0) (w) (by omega) (by rw [hw]; congr 1; omega) (by omega)
  exact lp_9 (((9 : Int) - 0).toNat + 1) (0) (0) (by omega) (by rfl) (by omega)
set_option maxRecDepth 100000 in
set_option maxHeartbeats 4000000 in
theorem m_X11_count (G : GS) (n : Nat) (V : Nat → Int → Int) (R : Nat → Int → Option Nat) (lr : Int) (lt : Int) (L : Int) (f : Int → Int → Int) (m : Int) (g : Int) (pr : Int → Int) (w : Int) (hn : 67 ≤ n) (hLR : LR R) (hI : CInv n V R lr lt L f m g pr) (gw : Rg w) : Cn G yX11_count cX11_count 2 (some .int) (rmk 8 0 0 180) [.ref (aG G 0), .int (iI w)] n V R 0 0 (fun vv uu => ∃ (r : Int), ∃ (V1 : Nat → Int → Int), vv = some (.int (iI r)) ∧ uu = (n, V1, R) ∧ (∀ q, q < 11 ∨ 22 < q → V1 q = V q) ∧ (CInv n V1 R lr lt L f m g pr) ∧ ((w = 0 ∧ r = m) ∨ (w = 1 ∧ r = V 1 8) ∨ (w = 2 ∧ r = V 1 10) ∨ (w = 3 ∧ r = L) ∨ (w = 4 ∧ r = g) ∨ (w = 5 ∧ r = V 0 7) ∨ (w = 6 ∧ ((L = 0 ∧ r = 0) ∨ (1 ≤ L ∧ r = hurtT lr lt L f m g))) ∨ (¬ (0 ≤ w ∧ w ≤ 6) ∧ r = -2))) := by
  obtain ⟨ea0, ea1, ea2, ea3, ea5⟩ := hI.1.1
  obtain ⟨eb0, eb1, eb2, eb3, eb5⟩ := hI.1.2.1
  refine Cn.of (by decide) (Nat.le_of_ble_eq_true rfl) (fun K C hct => ?_)
  show Xw K G 0 0 _ n V R 0 [(0, .ref (aG G 0)), (1, .int (iI w))] []
  refine x_iload_n C 1 dX11_count_0 rfl rfl ?_
  rcases (show w = 0 ∨ w = 1 ∨ w = 2 ∨ w = 3 ∨ w = 4 ∨ w = 5 ∨ w = 6 ∨ (w < 0 ∨ 6 < w) by omega) with h1 | h1 | h1 | h1 | h1 | h1 | h1 | h1
  · skip
    refine x_tin C 0 h1 dX11_count_1 (by constructor <;> decide) (by decide) (by decide) (off := 43) rfl (tgt := 44) (by decide) ?_
    refine x_aload_n C 0 dX11_count_44 rfl rfl ?_
    refine x_getr C ok_Class 0 0 (d := 1) dX11_count_45 (lt67 hn rfl) rfl (by decide) rfl q_0_16 rfl (kz := 0) rfl (lr_0_0 hLR) ?_
    refine x_geti C ok_Yard 1 5 dX11_count_48 (lt67 hn rfl) rfl (by decide) rfl q_8_5 rfl (kz := 5) rfl (fun rg48 => ?_)
    refine x_iret C dX11_count_51 ⟨_, _, rfl, rfl, ?_, ?_, ?_⟩
    · first | exact fun _ _ => rfl | exact hI | exact hq100_0 | exact hq100_1 | exact Or.inl (⟨by omega, by first | rfl | omega⟩) | exact Or.inr (Or.inl (⟨by omega, by first | rfl | omega⟩)) | exact Or.inr (Or.inr (Or.inl (⟨by omega, by first | rfl | omega⟩))) | exact Or.inr (Or.inr (Or.inr (Or.inl (⟨by omega, by first | rfl | omega⟩)))) | exact Or.inr (Or.inr (Or.inr (Or.inr (Or.inl (⟨by omega, by first | rfl | omega⟩))))) | exact Or.inr (Or.inr (Or.inr (Or.inr (Or.inr (Or.inl (⟨by omega, by first | rfl | omega⟩)))))) | exact Or.inr (Or.inr (Or.inr (Or.inr (Or.inr (Or.inr (Or.inl (⟨by omega, by first | exact Or.inl ⟨by omega, rfl⟩ | exact Or.inr ⟨by omega, rfl⟩⟩))))))) | exact Or.inr (Or.inr (Or.inr (Or.inr (Or.inr (Or.inr (Or.inr (⟨by omega, by first | rfl | omega⟩)))))))
    · first | exact fun _ _ => rfl | exact hI | exact hq100_0 | exact hq100_1 | exact Or.inl (⟨by omega, by first | rfl | omega⟩) | exact Or.inr (Or.inl (⟨by omega, by first | rfl | omega⟩)) | exact Or.inr (Or.inr (Or.inl (⟨by omega, by first | rfl | omega⟩))) | exact Or.inr (Or.inr (Or.inr (Or.inl (⟨by omega, by first | rfl | omega⟩)))) | exact Or.inr (Or.inr (Or.inr (Or.inr (Or.inl (⟨by omega, by first | rfl | omega⟩))))) | exact Or.inr (Or.inr (Or.inr (Or.inr (Or.inr (Or.inl (⟨by omega, by first | rfl | omega⟩)))))) | exact Or.inr (Or.inr (Or.inr (Or.inr (Or.inr (Or.inr (Or.inl (⟨by omega, by first | exact Or.inl ⟨by omega, rfl⟩ | exact Or.inr ⟨by omega, rfl⟩⟩))))))) | exact Or.inr (Or.inr (Or.inr (Or.inr (Or.inr (Or.inr (Or.inr (⟨by omega, by first | rfl | omega⟩)))))))
    · first | exact fun _ _ => rfl | exact hI | exact hq100_0 | exact hq100_1 | exact Or.inl (⟨by omega, by first | rfl | omega⟩) | exact Or.inr (Or.inl (⟨by omega, by first | rfl | omega⟩)) | exact Or.inr (Or.inr (Or.inl (⟨by omega, by first | rfl | omega⟩))) | exact Or.inr (Or.inr (Or.inr (Or.inl (⟨by omega, by first | rfl | omega⟩)))) | exact Or.inr (Or.inr (Or.inr (Or.inr (Or.inl (⟨by omega, by first | rfl | omega⟩))))) | exact Or.inr (Or.inr (Or.inr (Or.inr (Or.inr (Or.inl (⟨by omega, by first | rfl | omega⟩)))))) | exact Or.inr (Or.inr (Or.inr (Or.inr (Or.inr (Or.inr (Or.inl (⟨by omega, by first | exact Or.inl ⟨by omega, rfl⟩ | exact Or.inr ⟨by omega, rfl⟩⟩))))))) | exact Or.inr (Or.inr (Or.inr (Or.inr (Or.inr (Or.inr (Or.inr (⟨by omega, by first | rfl | omega⟩)))))))
  · skip
    refine x_tin C 1 h1 dX11_count_1 (by constructor <;> decide) (by decide) (by decide) (off := 51) rfl (tgt := 52) (by decide) ?_
    refine x_aload_n C 0 dX11_count_52 rfl rfl ?_
    refine x_getr C ok_Class 0 0 (d := 1) dX11_count_53 (lt67 hn rfl) rfl (by decide) rfl q_0_16 rfl (kz := 0) rfl (lr_0_0 hLR) ?_
    refine x_geti C ok_Yard 1 8 dX11_count_56 (lt67 hn rfl) rfl (by decide) rfl q_39_11 rfl (kz := 8) rfl (fun rg56 => ?_)
    refine x_iret C dX11_count_59 ⟨_, _, rfl, rfl, ?_, ?_, ?_⟩
    · first | exact fun _ _ => rfl | exact hI | exact hq100_0 | exact hq100_1 | exact Or.inl (⟨by omega, by first | rfl | omega⟩) | exact Or.inr (Or.inl (⟨by omega, by first | rfl | omega⟩)) | exact Or.inr (Or.inr (Or.inl (⟨by omega, by first | rfl | omega⟩))) | exact Or.inr (Or.inr (Or.inr (Or.inl (⟨by omega, by first | rfl | omega⟩)))) | exact Or.inr (Or.inr (Or.inr (Or.inr (Or.inl (⟨by omega, by first | rfl | omega⟩))))) | exact Or.inr (Or.inr (Or.inr (Or.inr (Or.inr (Or.inl (⟨by omega, by first | rfl | omega⟩)))))) | exact Or.inr (Or.inr (Or.inr (Or.inr (Or.inr (Or.inr (Or.inl (⟨by omega, by first | exact Or.inl ⟨by omega, rfl⟩ | exact Or.inr ⟨by omega, rfl⟩⟩))))))) | exact Or.inr (Or.inr (Or.inr (Or.inr (Or.inr (Or.inr (Or.inr (⟨by omega, by first | rfl | omega⟩)))))))
    · first | exact fun _ _ => rfl | exact hI | exact hq100_0 | exact hq100_1 | exact Or.inl (⟨by omega, by first | rfl | omega⟩) | exact Or.inr (Or.inl (⟨by omega, by first | rfl | omega⟩)) | exact Or.inr (Or.inr (Or.inl (⟨by omega, by first | rfl | omega⟩))) | exact Or.inr (Or.inr (Or.inr (Or.inl (⟨by omega, by first | rfl | omega⟩)))) | exact Or.inr (Or.inr (Or.inr (Or.inr (Or.inl (⟨by omega, by first | rfl | omega⟩))))) | exact Or.inr (Or.inr (Or.inr (Or.inr (Or.inr (Or.inl (⟨by omega, by first | rfl | omega⟩)))))) | exact Or.inr (Or.inr (Or.inr (Or.inr (Or.inr (Or.inr (Or.inl (⟨by omega, by first | exact Or.inl ⟨by omega, rfl⟩ | exact Or.inr ⟨by omega, rfl⟩⟩))))))) | exact Or.inr (Or.inr (Or.inr (Or.inr (Or.inr (Or.inr (Or.inr (⟨by omega, by first | rfl | omega⟩)))))))
    · first | exact fun _ _ => rfl | exact hI | exact hq100_0 | exact hq100_1 | exact Or.inl (⟨by omega, by first | rfl | omega⟩) | exact Or.inr (Or.inl (⟨by omega, by first | rfl | omega⟩)) | exact Or.inr (Or.inr (Or.inl (⟨by omega, by first | rfl | omega⟩))) | exact Or.inr (Or.inr (Or.inr (Or.inl (⟨by omega, by first | rfl | omega⟩)))) | exact Or.inr (Or.inr (Or.inr (Or.inr (Or.inl (⟨by omega, by first | rfl | omega⟩))))) | exact Or.inr (Or.inr (Or.inr (Or.inr (Or.inr (Or.inl (⟨by omega, by first | rfl | omega⟩)))))) | exact Or.inr (Or.inr (Or.inr (Or.inr (Or.inr (Or.inr (Or.inl (⟨by omega, by first | exact Or.inl ⟨by omega, rfl⟩ | exact Or.inr ⟨by omega, rfl⟩⟩))))))) | exact Or.inr (Or.inr (Or.inr (Or.inr (Or.inr (Or.inr (Or.inr (⟨by omega, by first | rfl | omega⟩)))))))
  · skip
    refine x_tin C 2 h1 dX11_count_1 (by constructor <;> decide) (by decide) (by decide) (off := 59) rfl (tgt := 60) (by decide) ?_
    refine x_aload_n C 0 dX11_count_60 rfl rfl ?_
    refine x_getr C ok_Class 0 0 (d := 1) dX11_count_61 (lt67 hn rfl) rfl (by decide) rfl q_0_16 rfl (kz := 0) rfl (lr_0_0 hLR) ?_
    refine x_geti C ok_Yard 1 10 dX11_count_64 (lt67 hn rfl) rfl (by decide) rfl q_40_18 rfl (kz := 10) rfl (fun rg64 => ?_)
    refine x_iret C dX11_count_67 ⟨_, _, rfl, rfl, ?_, ?_, ?_⟩
    · first | exact fun _ _ => rfl | exact hI | exact hq100_0 | exact hq100_1 | exact Or.inl (⟨by omega, by first | rfl | omega⟩) | exact Or.inr (Or.inl (⟨by omega, by first | rfl | omega⟩)) | exact Or.inr (Or.inr (Or.inl (⟨by omega, by first | rfl | omega⟩))) | exact Or.inr (Or.inr (Or.inr (Or.inl (⟨by omega, by first | rfl | omega⟩)))) | exact Or.inr (Or.inr (Or.inr (Or.inr (Or.inl (⟨by omega, by first | rfl | omega⟩))))) | exact Or.inr (Or.inr (Or.inr (Or.inr (Or.inr (Or.inl (⟨by omega, by first | rfl | omega⟩)))))) | exact Or.inr (Or.inr (Or.inr (Or.inr (Or.inr (Or.inr (Or.inl (⟨by omega, by first | exact Or.inl ⟨by omega, rfl⟩ | exact Or.inr ⟨by omega, rfl⟩⟩))))))) | exact Or.inr (Or.inr (Or.inr (Or.inr (Or.inr (Or.inr (Or.inr (⟨by omega, by first | rfl | omega⟩)))))))
    · first | exact fun _ _ => rfl | exact hI | exact hq100_0 | exact hq100_1 | exact Or.inl (⟨by omega, by first | rfl | omega⟩) | exact Or.inr (Or.inl (⟨by omega, by first | rfl | omega⟩)) | exact Or.inr (Or.inr (Or.inl (⟨by omega, by first | rfl | omega⟩))) | exact Or.inr (Or.inr (Or.inr (Or.inl (⟨by omega, by first | rfl | omega⟩)))) | exact Or.inr (Or.inr (Or.inr (Or.inr (Or.inl (⟨by omega, by first | rfl | omega⟩))))) | exact Or.inr (Or.inr (Or.inr (Or.inr (Or.inr (Or.inl (⟨by omega, by first | rfl | omega⟩)))))) | exact Or.inr (Or.inr (Or.inr (Or.inr (Or.inr (Or.inr (Or.inl (⟨by omega, by first | exact Or.inl ⟨by omega, rfl⟩ | exact Or.inr ⟨by omega, rfl⟩⟩))))))) | exact Or.inr (Or.inr (Or.inr (Or.inr (Or.inr (Or.inr (Or.inr (⟨by omega, by first | rfl | omega⟩)))))))
    · first | exact fun _ _ => rfl | exact hI | exact hq100_0 | exact hq100_1 | exact Or.inl (⟨by omega, by first | rfl | omega⟩) | exact Or.inr (Or.inl (⟨by omega, by first | rfl | omega⟩)) | exact Or.inr (Or.inr (Or.inl (⟨by omega, by first | rfl | omega⟩))) | exact Or.inr (Or.inr (Or.inr (Or.inl (⟨by omega, by first | rfl | omega⟩)))) | exact Or.inr (Or.inr (Or.inr (Or.inr (Or.inl (⟨by omega, by first | rfl | omega⟩))))) | exact Or.inr (Or.inr (Or.inr (Or.inr (Or.inr (Or.inl (⟨by omega, by first | rfl | omega⟩)))))) | exact Or.inr (Or.inr (Or.inr (Or.inr (Or.inr (Or.inr (Or.inl (⟨by omega, by first | exact Or.inl ⟨by omega, rfl⟩ | exact Or.inr ⟨by omega, rfl⟩⟩))))))) | exact Or.inr (Or.inr (Or.inr (Or.inr (Or.inr (Or.inr (Or.inr (⟨by omega, by first | rfl | omega⟩)))))))
  · skip
    refine x_tin C 3 h1 dX11_count_1 (by constructor <;> decide) (by decide) (by decide) (off := 67) rfl (tgt := 68) (by decide) ?_
    refine x_aload_n C 0 dX11_count_68 rfl rfl ?_
    refine x_getr C ok_Class 0 0 (d := 1) dX11_count_69 (lt67 hn rfl) rfl (by decide) rfl q_0_16 rfl (kz := 0) rfl (lr_0_0 hLR) ?_
    refine x_geti C ok_Yard 1 2 dX11_count_72 (lt67 hn rfl) rfl (by decide) rfl q_5_15 rfl (kz := 2) rfl (fun rg72 => ?_)
    refine x_iret C dX11_count_75 ⟨_, _, rfl, rfl, ?_, ?_, ?_⟩
    · first | exact fun _ _ => rfl | exact hI | exact hq100_0 | exact hq100_1 | exact Or.inl (⟨by omega, by first | rfl | omega⟩) | exact Or.inr (Or.inl (⟨by omega, by first | rfl | omega⟩)) | exact Or.inr (Or.inr (Or.inl (⟨by omega, by first | rfl | omega⟩))) | exact Or.inr (Or.inr (Or.inr (Or.inl (⟨by omega, by first | rfl | omega⟩)))) | exact Or.inr (Or.inr (Or.inr (Or.inr (Or.inl (⟨by omega, by first | rfl | omega⟩))))) | exact Or.inr (Or.inr (Or.inr (Or.inr (Or.inr (Or.inl (⟨by omega, by first | rfl | omega⟩)))))) | exact Or.inr (Or.inr (Or.inr (Or.inr (Or.inr (Or.inr (Or.inl (⟨by omega, by first | exact Or.inl ⟨by omega, rfl⟩ | exact Or.inr ⟨by omega, rfl⟩⟩))))))) | exact Or.inr (Or.inr (Or.inr (Or.inr (Or.inr (Or.inr (Or.inr (⟨by omega, by first | rfl | omega⟩)))))))
    · first | exact fun _ _ => rfl | exact hI | exact hq100_0 | exact hq100_1 | exact Or.inl (⟨by omega, by first | rfl | omega⟩) | exact Or.inr (Or.inl (⟨by omega, by first | rfl | omega⟩)) | exact Or.inr (Or.inr (Or.inl (⟨by omega, by first | rfl | omega⟩))) | exact Or.inr (Or.inr (Or.inr (Or.inl (⟨by omega, by first | rfl | omega⟩)))) | exact Or.inr (Or.inr (Or.inr (Or.inr (Or.inl (⟨by omega, by first | rfl | omega⟩))))) | exact Or.inr (Or.inr (Or.inr (Or.inr (Or.inr (Or.inl (⟨by omega, by first | rfl | omega⟩)))))) | exact Or.inr (Or.inr (Or.inr (Or.inr (Or.inr (Or.inr (Or.inl (⟨by omega, by first | exact Or.inl ⟨by omega, rfl⟩ | exact Or.inr ⟨by omega, rfl⟩⟩))))))) | exact Or.inr (Or.inr (Or.inr (Or.inr (Or.inr (Or.inr (Or.inr (⟨by omega, by first | rfl | omega⟩)))))))
    · first | exact fun _ _ => rfl | exact hI | exact hq100_0 | exact hq100_1 | exact Or.inl (⟨by omega, by first | rfl | omega⟩) | exact Or.inr (Or.inl (⟨by omega, by first | rfl | omega⟩)) | exact Or.inr (Or.inr (Or.inl (⟨by omega, by first | rfl | omega⟩))) | exact Or.inr (Or.inr (Or.inr (Or.inl (⟨by omega, by first | rfl | omega⟩)))) | exact Or.inr (Or.inr (Or.inr (Or.inr (Or.inl (⟨by omega, by first | rfl | omega⟩))))) | exact Or.inr (Or.inr (Or.inr (Or.inr (Or.inr (Or.inl (⟨by omega, by first | rfl | omega⟩)))))) | exact Or.inr (Or.inr (Or.inr (Or.inr (Or.inr (Or.inr (Or.inl (⟨by omega, by first | exact Or.inl ⟨by omega, rfl⟩ | exact Or.inr ⟨by omega, rfl⟩⟩))))))) | exact Or.inr (Or.inr (Or.inr (Or.inr (Or.inr (Or.inr (Or.inr (⟨by omega, by first | rfl | omega⟩)))))))
  · skip
    refine x_tin C 4 h1 dX11_count_1 (by constructor <;> decide) (by decide) (by decide) (off := 75) rfl (tgt := 76) (by decide) ?_
    refine x_aload_n C 0 dX11_count_76 rfl rfl ?_
    refine x_getr C ok_Class 0 0 (d := 1) dX11_count_77 (lt67 hn rfl) rfl (by decide) rfl q_0_16 rfl (kz := 0) rfl (lr_0_0 hLR) ?_
    refine x_geti C ok_Yard 1 3 dX11_count_80 (lt67 hn rfl) rfl (by decide) rfl q_27_12 rfl (kz := 3) rfl (fun rg80 => ?_)
    refine x_iret C dX11_count_83 ⟨_, _, rfl, rfl, ?_, ?_, ?_⟩
    · first | exact fun _ _ => rfl | exact hI | exact hq100_0 | exact hq100_1 | exact Or.inl (⟨by omega, by first | rfl | omega⟩) | exact Or.inr (Or.inl (⟨by omega, by first | rfl | omega⟩)) | exact Or.inr (Or.inr (Or.inl (⟨by omega, by first | rfl | omega⟩))) | exact Or.inr (Or.inr (Or.inr (Or.inl (⟨by omega, by first | rfl | omega⟩)))) | exact Or.inr (Or.inr (Or.inr (Or.inr (Or.inl (⟨by omega, by first | rfl | omega⟩))))) | exact Or.inr (Or.inr (Or.inr (Or.inr (Or.inr (Or.inl (⟨by omega, by first | rfl | omega⟩)))))) | exact Or.inr (Or.inr (Or.inr (Or.inr (Or.inr (Or.inr (Or.inl (⟨by omega, by first | exact Or.inl ⟨by omega, rfl⟩ | exact Or.inr ⟨by omega, rfl⟩⟩))))))) | exact Or.inr (Or.inr (Or.inr (Or.inr (Or.inr (Or.inr (Or.inr (⟨by omega, by first | rfl | omega⟩)))))))
    · first | exact fun _ _ => rfl | exact hI | exact hq100_0 | exact hq100_1 | exact Or.inl (⟨by omega, by first | rfl | omega⟩) | exact Or.inr (Or.inl (⟨by omega, by first | rfl | omega⟩)) | exact Or.inr (Or.inr (Or.inl (⟨by omega, by first | rfl | omega⟩))) | exact Or.inr (Or.inr (Or.inr (Or.inl (⟨by omega, by first | rfl | omega⟩)))) | exact Or.inr (Or.inr (Or.inr (Or.inr (Or.inl (⟨by omega, by first | rfl | omega⟩))))) | exact Or.inr (Or.inr (Or.inr (Or.inr (Or.inr (Or.inl (⟨by omega, by first | rfl | omega⟩)))))) | exact Or.inr (Or.inr (Or.inr (Or.inr (Or.inr (Or.inr (Or.inl (⟨by omega, by first | exact Or.inl ⟨by omega, rfl⟩ | exact Or.inr ⟨by omega, rfl⟩⟩))))))) | exact Or.inr (Or.inr (Or.inr (Or.inr (Or.inr (Or.inr (Or.inr (⟨by omega, by first | rfl | omega⟩)))))))
    · first | exact fun _ _ => rfl | exact hI | exact hq100_0 | exact hq100_1 | exact Or.inl (⟨by omega, by first | rfl | omega⟩) | exact Or.inr (Or.inl (⟨by omega, by first | rfl | omega⟩)) | exact Or.inr (Or.inr (Or.inl (⟨by omega, by first | rfl | omega⟩))) | exact Or.inr (Or.inr (Or.inr (Or.inl (⟨by omega, by first | rfl | omega⟩)))) | exact Or.inr (Or.inr (Or.inr (Or.inr (Or.inl (⟨by omega, by first | rfl | omega⟩))))) | exact Or.inr (Or.inr (Or.inr (Or.inr (Or.inr (Or.inl (⟨by omega, by first | rfl | omega⟩)))))) | exact Or.inr (Or.inr (Or.inr (Or.inr (Or.inr (Or.inr (Or.inl (⟨by omega, by first | exact Or.inl ⟨by omega, rfl⟩ | exact Or.inr ⟨by omega, rfl⟩⟩))))))) | exact Or.inr (Or.inr (Or.inr (Or.inr (Or.inr (Or.inr (Or.inr (⟨by omega, by first | rfl | omega⟩)))))))
  · skip
    refine x_tin C 5 h1 dX11_count_1 (by constructor <;> decide) (by decide) (by decide) (off := 83) rfl (tgt := 84) (by decide) ?_
    refine x_aload_n C 0 dX11_count_84 rfl rfl ?_
    refine x_geti C ok_Class 0 7 dX11_count_85 (lt67 hn rfl) rfl (by decide) rfl q_1_4 rfl (kz := 7) rfl (fun rg85 => ?_)
    refine x_iret C dX11_count_88 ⟨_, _, rfl, rfl, ?_, ?_, ?_⟩
    · first | exact fun _ _ => rfl | exact hI | exact hq100_0 | exact hq100_1 | exact Or.inl (⟨by omega, by first | rfl | omega⟩) | exact Or.inr (Or.inl (⟨by omega, by first | rfl | omega⟩)) | exact Or.inr (Or.inr (Or.inl (⟨by omega, by first | rfl | omega⟩))) | exact Or.inr (Or.inr (Or.inr (Or.inl (⟨by omega, by first | rfl | omega⟩)))) | exact Or.inr (Or.inr (Or.inr (Or.inr (Or.inl (⟨by omega, by first | rfl | omega⟩))))) | exact Or.inr (Or.inr (Or.inr (Or.inr (Or.inr (Or.inl (⟨by omega, by first | rfl | omega⟩)))))) | exact Or.inr (Or.inr (Or.inr (Or.inr (Or.inr (Or.inr (Or.inl (⟨by omega, by first | exact Or.inl ⟨by omega, rfl⟩ | exact Or.inr ⟨by omega, rfl⟩⟩))))))) | exact Or.inr (Or.inr (Or.inr (Or.inr (Or.inr (Or.inr (Or.inr (⟨by omega, by first | rfl | omega⟩)))))))
    · first | exact fun _ _ => rfl | exact hI | exact hq100_0 | exact hq100_1 | exact Or.inl (⟨by omega, by first | rfl | omega⟩) | exact Or.inr (Or.inl (⟨by omega, by first | rfl | omega⟩)) | exact Or.inr (Or.inr (Or.inl (⟨by omega, by first | rfl | omega⟩))) | exact Or.inr (Or.inr (Or.inr (Or.inl (⟨by omega, by first | rfl | omega⟩)))) | exact Or.inr (Or.inr (Or.inr (Or.inr (Or.inl (⟨by omega, by first | rfl | omega⟩))))) | exact Or.inr (Or.inr (Or.inr (Or.inr (Or.inr (Or.inl (⟨by omega, by first | rfl | omega⟩)))))) | exact Or.inr (Or.inr (Or.inr (Or.inr (Or.inr (Or.inr (Or.inl (⟨by omega, by first | exact Or.inl ⟨by omega, rfl⟩ | exact Or.inr ⟨by omega, rfl⟩⟩))))))) | exact Or.inr (Or.inr (Or.inr (Or.inr (Or.inr (Or.inr (Or.inr (⟨by omega, by first | rfl | omega⟩)))))))
    · first | exact fun _ _ => rfl | exact hI | exact hq100_0 | exact hq100_1 | exact Or.inl (⟨by omega, by first | rfl | omega⟩) | exact Or.inr (Or.inl (⟨by omega, by first | rfl | omega⟩)) | exact Or.inr (Or.inr (Or.inl (⟨by omega, by first | rfl | omega⟩))) | exact Or.inr (Or.inr (Or.inr (Or.inl (⟨by omega, by first | rfl | omega⟩)))) | exact Or.inr (Or.inr (Or.inr (Or.inr (Or.inl (⟨by omega, by first | rfl | omega⟩))))) | exact Or.inr (Or.inr (Or.inr (Or.inr (Or.inr (Or.inl (⟨by omega, by first | rfl | omega⟩)))))) | exact Or.inr (Or.inr (Or.inr (Or.inr (Or.inr (Or.inr (Or.inl (⟨by omega, by first | exact Or.inl ⟨by omega, rfl⟩ | exact Or.inr ⟨by omega, rfl⟩⟩))))))) | exact Or.inr (Or.inr (Or.inr (Or.inr (Or.inr (Or.inr (Or.inr (⟨by omega, by first | rfl | omega⟩)))))))
  · skip
    refine x_tin C 6 h1 dX11_count_1 (by constructor <;> decide) (by decide) (by decide) (off := 88) rfl (tgt := 89) (by decide) ?_
    refine x_aload_n C 0 dX11_count_89 rfl rfl ?_
    refine x_getr C ok_Class 0 0 (d := 1) dX11_count_90 (lt67 hn rfl) rfl (by decide) rfl q_0_16 rfl (kz := 0) rfl (lr_0_0 hLR) ?_
    refine x_runU (r_callV C ok_Yard 1 (lt67 hn rfl) rfl (ce_X10_hasLog) (m_X10_hasLog G n V R (1) hn hLR (by first | assumption | omega | decide)) rfl dX11_count_93 q_8_6 q_8_7 q_8_8 rfl rfl ⟨Nat.le_of_ble_eq_true rfl, Nat.le_of_ble_eq_true rfl⟩ ⟨rfl, rfl⟩ ⟨Nat.le_of_ble_eq_true rfl, Nat.le_of_ble_eq_true rfl⟩ (Nat.le_of_ble_eq_true rfl)) (fun v93 u93 hp93 => ?_)
    obtain ⟨rfl, rfl⟩ := hp93
    show Xw K G 0 0 _ n V R 96 [(0, .ref (aG G 0)), (1, .int (iI w))] [.int (iI (bI (0 < V 1 2)))]
    refine x_ifeq_b C dX11_count_96 (tgt := 106) (by decide) (fun h96 => ?_) (fun h96 => ?_)
    · skip
      refine x_iconst C dX11_count_106 ?_
      refine x_iret C dX11_count_107 ⟨_, _, rfl, rfl, ?_, ?_, ?_⟩
      · first | exact fun _ _ => rfl | exact hI | exact hq100_0 | exact hq100_1 | exact Or.inl (⟨by omega, by first | rfl | omega⟩) | exact Or.inr (Or.inl (⟨by omega, by first | rfl | omega⟩)) | exact Or.inr (Or.inr (Or.inl (⟨by omega, by first | rfl | omega⟩))) | exact Or.inr (Or.inr (Or.inr (Or.inl (⟨by omega, by first | rfl | omega⟩)))) | exact Or.inr (Or.inr (Or.inr (Or.inr (Or.inl (⟨by omega, by first | rfl | omega⟩))))) | exact Or.inr (Or.inr (Or.inr (Or.inr (Or.inr (Or.inl (⟨by omega, by first | rfl | omega⟩)))))) | exact Or.inr (Or.inr (Or.inr (Or.inr (Or.inr (Or.inr (Or.inl (⟨by omega, by first | exact Or.inl ⟨by omega, rfl⟩ | exact Or.inr ⟨by omega, rfl⟩⟩))))))) | exact Or.inr (Or.inr (Or.inr (Or.inr (Or.inr (Or.inr (Or.inr (⟨by omega, by first | rfl | omega⟩)))))))
      · first | exact fun _ _ => rfl | exact hI | exact hq100_0 | exact hq100_1 | exact Or.inl (⟨by omega, by first | rfl | omega⟩) | exact Or.inr (Or.inl (⟨by omega, by first | rfl | omega⟩)) | exact Or.inr (Or.inr (Or.inl (⟨by omega, by first | rfl | omega⟩))) | exact Or.inr (Or.inr (Or.inr (Or.inl (⟨by omega, by first | rfl | omega⟩)))) | exact Or.inr (Or.inr (Or.inr (Or.inr (Or.inl (⟨by omega, by first | rfl | omega⟩))))) | exact Or.inr (Or.inr (Or.inr (Or.inr (Or.inr (Or.inl (⟨by omega, by first | rfl | omega⟩)))))) | exact Or.inr (Or.inr (Or.inr (Or.inr (Or.inr (Or.inr (Or.inl (⟨by omega, by first | exact Or.inl ⟨by omega, rfl⟩ | exact Or.inr ⟨by omega, rfl⟩⟩))))))) | exact Or.inr (Or.inr (Or.inr (Or.inr (Or.inr (Or.inr (Or.inr (⟨by omega, by first | rfl | omega⟩)))))))
      · first | exact fun _ _ => rfl | exact hI | exact hq100_0 | exact hq100_1 | exact Or.inl (⟨by omega, by first | rfl | omega⟩) | exact Or.inr (Or.inl (⟨by omega, by first | rfl | omega⟩)) | exact Or.inr (Or.inr (Or.inl (⟨by omega, by first | rfl | omega⟩))) | exact Or.inr (Or.inr (Or.inr (Or.inl (⟨by omega, by first | rfl | omega⟩)))) | exact Or.inr (Or.inr (Or.inr (Or.inr (Or.inl (⟨by omega, by first | rfl | omega⟩))))) | exact Or.inr (Or.inr (Or.inr (Or.inr (Or.inr (Or.inl (⟨by omega, by first | rfl | omega⟩)))))) | exact Or.inr (Or.inr (Or.inr (Or.inr (Or.inr (Or.inr (Or.inl (⟨by omega, by first | exact Or.inl ⟨by omega, rfl⟩ | exact Or.inr ⟨by omega, rfl⟩⟩))))))) | exact Or.inr (Or.inr (Or.inr (Or.inr (Or.inr (Or.inr (Or.inr (⟨by omega, by first | rfl | omega⟩)))))))
    · skip
      refine x_aload_n C 0 dX11_count_99 rfl rfl ?_
      refine x_runU (r_callV C ok_Class 0 (lt67 hn rfl) rfl (ce_X11_woodWithFault) (m_X11_woodWithFault G n V R (lr) (lt) (L) (f) (m) (g) (pr) hn hLR (by first | assumption | omega | decide) (by first | assumption | omega | decide)) rfl dX11_count_100 q_50_14 q_50_15 q_50_16 rfl rfl ⟨Nat.le_of_ble_eq_true rfl, Nat.le_of_ble_eq_true rfl⟩ ⟨rfl, rfl⟩ ⟨Nat.le_of_ble_eq_true rfl, Nat.le_of_ble_eq_true rfl⟩ (Nat.le_of_ble_eq_true rfl)) (fun v100 u100 hp100 => ?_)
      obtain ⟨V1_100, rfl, rfl, hq100_0, hq100_1⟩ := hp100
      show Xw K G 0 0 _ n V1_100 R 103 [(0, .ref (aG G 0)), (1, .int (iI w))] [.int (iI (hurtT lr lt L f m g))]
      refine x_goto C dX11_count_103 (tgt := 107) (by decide) ?_
      refine x_iret C dX11_count_107 ⟨_, _, rfl, rfl, ?_, ?_, ?_⟩
      · first | exact fun _ _ => rfl | exact hI | exact hq100_0 | exact hq100_1 | exact Or.inl (⟨by omega, by first | rfl | omega⟩) | exact Or.inr (Or.inl (⟨by omega, by first | rfl | omega⟩)) | exact Or.inr (Or.inr (Or.inl (⟨by omega, by first | rfl | omega⟩))) | exact Or.inr (Or.inr (Or.inr (Or.inl (⟨by omega, by first | rfl | omega⟩)))) | exact Or.inr (Or.inr (Or.inr (Or.inr (Or.inl (⟨by omega, by first | rfl | omega⟩))))) | exact Or.inr (Or.inr (Or.inr (Or.inr (Or.inr (Or.inl (⟨by omega, by first | rfl | omega⟩)))))) | exact Or.inr (Or.inr (Or.inr (Or.inr (Or.inr (Or.inr (Or.inl (⟨by omega, by first | exact Or.inl ⟨by omega, rfl⟩ | exact Or.inr ⟨by omega, rfl⟩⟩))))))) | exact Or.inr (Or.inr (Or.inr (Or.inr (Or.inr (Or.inr (Or.inr (⟨by omega, by first | rfl | omega⟩)))))))
      · first | exact fun _ _ => rfl | exact hI | exact hq100_0 | exact hq100_1 | exact Or.inl (⟨by omega, by first | rfl | omega⟩) | exact Or.inr (Or.inl (⟨by omega, by first | rfl | omega⟩)) | exact Or.inr (Or.inr (Or.inl (⟨by omega, by first | rfl | omega⟩))) | exact Or.inr (Or.inr (Or.inr (Or.inl (⟨by omega, by first | rfl | omega⟩)))) | exact Or.inr (Or.inr (Or.inr (Or.inr (Or.inl (⟨by omega, by first | rfl | omega⟩))))) | exact Or.inr (Or.inr (Or.inr (Or.inr (Or.inr (Or.inl (⟨by omega, by first | rfl | omega⟩)))))) | exact Or.inr (Or.inr (Or.inr (Or.inr (Or.inr (Or.inr (Or.inl (⟨by omega, by first | exact Or.inl ⟨by omega, rfl⟩ | exact Or.inr ⟨by omega, rfl⟩⟩))))))) | exact Or.inr (Or.inr (Or.inr (Or.inr (Or.inr (Or.inr (Or.inr (⟨by omega, by first | rfl | omega⟩)))))))
      · first | exact fun _ _ => rfl | exact hI | exact hq100_0 | exact hq100_1 | exact Or.inl (⟨by omega, by first | rfl | omega⟩) | exact Or.inr (Or.inl (⟨by omega, by first | rfl | omega⟩)) | exact Or.inr (Or.inr (Or.inl (⟨by omega, by first | rfl | omega⟩))) | exact Or.inr (Or.inr (Or.inr (Or.inl (⟨by omega, by first | rfl | omega⟩)))) | exact Or.inr (Or.inr (Or.inr (Or.inr (Or.inl (⟨by omega, by first | rfl | omega⟩))))) | exact Or.inr (Or.inr (Or.inr (Or.inr (Or.inr (Or.inl (⟨by omega, by first | rfl | omega⟩)))))) | exact Or.inr (Or.inr (Or.inr (Or.inr (Or.inr (Or.inr (Or.inl (⟨by omega, by first | exact Or.inl ⟨by omega, rfl⟩ | exact Or.inr ⟨by omega, rfl⟩⟩))))))) | exact Or.inr (Or.inr (Or.inr (Or.inr (Or.inr (Or.inr (Or.inr (⟨by omega, by first | rfl | omega⟩)))))))
  · skip
    refine x_tout C dX11_count_1 (tgt := 108) (by decide) (by first | assumption | (constructor <;> omega)) h1 ?_
    refine x_bipush C dX11_count_108 (w := -2) (by decide) ?_
    refine x_iret C dX11_count_110 ⟨_, _, rfl, rfl, ?_, ?_, ?_⟩
    · first | exact fun _ _ => rfl | exact hI | exact hq100_0 | exact hq100_1 | exact Or.inl (⟨by omega, by first | rfl | omega⟩) | exact Or.inr (Or.inl (⟨by omega, by first | rfl | omega⟩)) | exact Or.inr (Or.inr (Or.inl (⟨by omega, by first | rfl | omega⟩))) | exact Or.inr (Or.inr (Or.inr (Or.inl (⟨by omega, by first | rfl | omega⟩)))) | exact Or.inr (Or.inr (Or.inr (Or.inr (Or.inl (⟨by omega, by first | rfl | omega⟩))))) | exact Or.inr (Or.inr (Or.inr (Or.inr (Or.inr (Or.inl (⟨by omega, by first | rfl | omega⟩)))))) | exact Or.inr (Or.inr (Or.inr (Or.inr (Or.inr (Or.inr (Or.inl (⟨by omega, by first | exact Or.inl ⟨by omega, rfl⟩ | exact Or.inr ⟨by omega, rfl⟩⟩))))))) | exact Or.inr (Or.inr (Or.inr (Or.inr (Or.inr (Or.inr (Or.inr (⟨by omega, by first | rfl | omega⟩)))))))
    · first | exact fun _ _ => rfl | exact hI | exact hq100_0 | exact hq100_1 | exact Or.inl (⟨by omega, by first | rfl | omega⟩) | exact Or.inr (Or.inl (⟨by omega, by first | rfl | omega⟩)) | exact Or.inr (Or.inr (Or.inl (⟨by omega, by first | rfl | omega⟩))) | exact Or.inr (Or.inr (Or.inr (Or.inl (⟨by omega, by first | rfl | omega⟩)))) | exact Or.inr (Or.inr (Or.inr (Or.inr (Or.inl (⟨by omega, by first | rfl | omega⟩))))) | exact Or.inr (Or.inr (Or.inr (Or.inr (Or.inr (Or.inl (⟨by omega, by first | rfl | omega⟩)))))) | exact Or.inr (Or.inr (Or.inr (Or.inr (Or.inr (Or.inr (Or.inl (⟨by omega, by first | exact Or.inl ⟨by omega, rfl⟩ | exact Or.inr ⟨by omega, rfl⟩⟩))))))) | exact Or.inr (Or.inr (Or.inr (Or.inr (Or.inr (Or.inr (Or.inr (⟨by omega, by first | rfl | omega⟩)))))))
    · first | exact fun _ _ => rfl | exact hI | exact hq100_0 | exact hq100_1 | exact Or.inl (⟨by omega, by first | rfl | omega⟩) | exact Or.inr (Or.inl (⟨by omega, by first | rfl | omega⟩)) | exact Or.inr (Or.inr (Or.inl (⟨by omega, by first | rfl | omega⟩))) | exact Or.inr (Or.inr (Or.inr (Or.inl (⟨by omega, by first | rfl | omega⟩)))) | exact Or.inr (Or.inr (Or.inr (Or.inr (Or.inl (⟨by omega, by first | rfl | omega⟩))))) | exact Or.inr (Or.inr (Or.inr (Or.inr (Or.inr (Or.inl (⟨by omega, by first | rfl | omega⟩)))))) | exact Or.inr (Or.inr (Or.inr (Or.inr (Or.inr (Or.inr (Or.inl (⟨by omega, by first | exact Or.inl ⟨by omega, rfl⟩ | exact Or.inr ⟨by omega, rfl⟩⟩))))))) | exact Or.inr (Or.inr (Or.inr (Or.inr (Or.inr (Or.inr (Or.inr (⟨by omega, by first | rfl | omega⟩)))))))
set_option maxRecDepth 100000 in
set_option maxHeartbeats 4000000 in
theorem m_X11_feedOne (G : GS) (n : Nat) (V : Nat → Int → Int) (R : Nat → Int → Option Nat) (v : Int) (q : Int) (hn : 67 ≤ n) (hLR : LR R) (gv : Rg v) (hq : q = 0 ∨ q = 1) (h7 : 0 ≤ V 0 7 ∧ V 0 7 ≤ 40) : Cn G yX11_feedOne cX11_feedOne 3 none (rmk 1 0 0 16) [.ref (aG G 0), .int (iI v), .int (iI q)] n V R 0 0 (fun vv uu => ∃ (V1 : Nat → Int → Int), vv = none ∧ uu = (n, V1, R) ∧ (((q = 0 ∨ V 0 7 = 40) ∧ V1 = V) ∨ (q = 1 ∧ V 0 7 < 40 ∧ V1 = u2 (u2 V 36 (V 0 7) v) 0 7 (V 0 7 + 1)))) := by
  refine Cn.of (by decide) (Nat.le_of_ble_eq_true rfl) (fun K C hct => ?_)
  show Xw K G 0 0 _ n V R 0 [(0, .ref (aG G 0)), (1, .int (iI v)), (2, .int (iI q))] []
  refine x_iload_n C 2 dX11_feedOne_0 rfl rfl ?_
  refine x_if_eq C dX11_feedOne_1 (tgt := 33) (by decide) (by first | assumption | (constructor <;> omega)) (fun h1 => ?_) (fun h1 => ?_)
  · skip
    refine x_vret C dX11_feedOne_33 ⟨_, rfl, rfl, ?_⟩
    · first | exact Or.inl ⟨by omega, rfl⟩ | exact Or.inr ⟨by omega, by omega, rfl⟩
  · skip
    refine x_aload_n C 0 dX11_feedOne_4 rfl rfl ?_
    refine x_geti C ok_Class 0 7 dX11_feedOne_5 (lt67 hn rfl) rfl (by decide) rfl q_1_4 rfl (kz := 7) rfl (fun rg5 => ?_)
    refine x_bipush C dX11_feedOne_8 (w := 40) (by decide) ?_
    refine x_icmp_ge C dX11_feedOne_10 (tgt := 33) (by decide) (by first | assumption | (constructor <;> omega)) (by first | assumption | (constructor <;> omega)) (fun h10 => ?_) (fun h10 => ?_)
    · skip
      refine x_vret C dX11_feedOne_33 ⟨_, rfl, rfl, ?_⟩
      · first | exact Or.inl ⟨by omega, rfl⟩ | exact Or.inr ⟨by omega, by omega, rfl⟩
    · skip
      refine x_aload_n C 0 dX11_feedOne_13 rfl rfl ?_
      refine x_getr C ok_Class 0 6 (d := 36) dX11_feedOne_14 (lt67 hn rfl) rfl (by decide) rfl q_1_3 rfl (kz := 6) rfl (lr_0_6 hLR) ?_
      refine x_aload_n C 0 dX11_feedOne_17 rfl rfl ?_
      refine x_geti C ok_Class 0 7 dX11_feedOne_18 (lt67 hn rfl) rfl (by decide) rfl q_1_4 rfl (kz := 7) rfl (fun rg18 => ?_)
      refine x_iload_n C 1 dX11_feedOne_21 rfl rfl ?_
      refine x_iast C 36 dX11_feedOne_22 (lt67 hn rfl) rfl (by refine ⟨?_, ?_⟩ <;> omega) (by first | assumption | (constructor <;> omega)) ?_
      refine x_aload_n C 0 dX11_feedOne_23 rfl rfl ?_
      refine x_dup C dX11_feedOne_24 rfl ?_
      refine x_geti C ok_Class 0 7 dX11_feedOne_25 (lt67 hn rfl) rfl (by decide) rfl q_1_4 rfl (kz := 7) rfl (fun rg25 => ?_)
      refine x_top (b := (V 0 7)) (by first | rfl | (simp only [u2_at]; simp) | (simp only [u2_at]; first | (rw [if_neg (by omega)]) | omega) | (repeat rw [u2_at, if_neg (by omega)])) ?_
      refine x_iconst C dX11_feedOne_28 ?_
      refine x_iadd C dX11_feedOne_29 ?_
      refine x_puti C ok_Class 0 7 dX11_feedOne_30 (lt67 hn rfl) rfl (by decide) rfl q_1_4 rfl rfl (Or.inl rfl) (by first | assumption | (constructor <;> omega)) (kz := 7) rfl ?_
      refine x_vret C dX11_feedOne_33 ⟨_, rfl, rfl, ?_⟩
      · first | exact Or.inl ⟨by omega, rfl⟩ | exact Or.inr ⟨by omega, by omega, rfl⟩
set_option maxRecDepth 100000 in
set_option maxHeartbeats 4000000 in
theorem m_X11_feed (G : GS) (n : Nat) (V : Nat → Int → Int) (R : Nat → Int → Option Nat) (k : Int) (a : Int) (b : Int) (c : Int) (d : Int) (e : Int) (hn : 67 ≤ n) (hLR : LR R) (gk : Rg k) (ga : Rg a) (gb : Rg b) (gc : Rg c) (gd : Rg d) (ge : Rg e) (h7 : 0 ≤ V 0 7 ∧ V 0 7 ≤ 40) : Cn G yX11_feed cX11_feed 7 (some .int) (rmk 3 0 0 58) [.ref (aG G 0), .int (iI k), .int (iI a), .int (iI b), .int (iI c), .int (iI d), .int (iI e)] n V R 0 0 (fun vv uu => ∃ (r : Int), ∃ (V1 : Nat → Int → Int), vv = some (.int (iI r)) ∧ uu = (n, V1, R) ∧ ((¬ ((1 ≤ k ∧ k ≤ 5) ∧ (0 ≤ a ∧ a ≤ 255) ∧ (0 ≤ b ∧ b ≤ 255) ∧ (0 ≤ c ∧ c ≤ 255) ∧ (0 ≤ d ∧ d ≤ 255) ∧ (0 ≤ e ∧ e ≤ 255)) ∧ r = -2 ∧ V1 = V) ∨ (((1 ≤ k ∧ k ≤ 5) ∧ (0 ≤ a ∧ a ≤ 255) ∧ (0 ≤ b ∧ b ≤ 255) ∧ (0 ≤ c ∧ c ≤ 255) ∧ (0 ≤ d ∧ d ≤ 255) ∧ (0 ≤ e ∧ e ≤ 255)) ∧ 40 < V 0 7 + k ∧ r = -4 ∧ V1 = V) ∨ (((1 ≤ k ∧ k ≤ 5) ∧ (0 ≤ a ∧ a ≤ 255) ∧ (0 ≤ b ∧ b ≤ 255) ∧ (0 ≤ c ∧ c ≤ 255) ∧ (0 ≤ d ∧ d ≤ 255) ∧ (0 ≤ e ∧ e ≤ 255)) ∧ V 0 7 + k ≤ 40 ∧ r = V 0 7 + k ∧ fedP 36 0 7 V V1 a b c d e k))) := by
  refine Cn.of (by decide) (Nat.le_of_ble_eq_true rfl) (fun K C hct => ?_)
  show Xw K G 0 0 _ n V R 0 [(0, .ref (aG G 0)), (1, .int (iI k)), (2, .int (iI a)), (3, .int (iI b)), (4, .int (iI c)), (5, .int (iI d)), (6, .int (iI e))] []
  refine x_iload_n C 1 dX11_feed_0 rfl rfl ?_
  refine x_iconst C dX11_feed_1 ?_
  refine x_iconst C dX11_feed_2 ?_
  refine x_runU (r_callS C (ce_X11_within) (m_X11_within G n V R (k) (1) (5) (by first | assumption | omega | decide) (by first | assumption | omega | decide) (by first | assumption | omega | decide)) dX11_feed_3 q_5_4 q_5_5 rfl rfl ⟨Nat.le_of_ble_eq_true rfl, Nat.le_of_ble_eq_true rfl⟩ ⟨rfl, rfl⟩ ⟨Nat.le_of_ble_eq_true rfl, Nat.le_of_ble_eq_true rfl⟩ (Nat.le_of_ble_eq_true rfl)) (fun v3 u3 hp3 => ?_)
  obtain ⟨rfl, rfl⟩ := hp3
  show Xw K G 0 0 _ n V R 6 [(0, .ref (aG G 0)), (1, .int (iI k)), (2, .int (iI a)), (3, .int (iI b)), (4, .int (iI c)), (5, .int (iI d)), (6, .int (iI e))] [.int (iI (bI (1 ≤ k ∧ k ≤ 5)))]
  refine x_ifeq_b C dX11_feed_6 (tgt := 47) (by decide) (fun h6 => ?_) (fun h6 => ?_)
  · skip
    refine x_bipush C dX11_feed_47 (w := -2) (by decide) ?_
    refine x_iret C dX11_feed_49 ⟨_, _, rfl, rfl, ?_⟩
    · first | exact Or.inl ⟨by omega, rfl, rfl⟩ | exact Or.inr (Or.inl ⟨by omega, by omega, rfl, rfl⟩) | exact Or.inr (Or.inr ⟨by omega, by omega, by omega, by rw [show k = min k 5 by omega]; exact hVE⟩)
  · skip
    refine x_iload_n C 2 dX11_feed_9 rfl rfl ?_
    refine x_runU (r_callS C (ce_X11_isByte) (m_X11_isByte G n V R (a) (by first | assumption | omega | decide)) dX11_feed_10 q_7_11 q_7_12 rfl rfl ⟨Nat.le_of_ble_eq_true rfl, Nat.le_of_ble_eq_true rfl⟩ ⟨rfl, rfl⟩ ⟨Nat.le_of_ble_eq_true rfl, Nat.le_of_ble_eq_true rfl⟩ (Nat.le_of_ble_eq_true rfl)) (fun v10 u10 hp10 => ?_)
    obtain ⟨rfl, rfl⟩ := hp10
    show Xw K G 0 0 _ n V R 13 [(0, .ref (aG G 0)), (1, .int (iI k)), (2, .int (iI a)), (3, .int (iI b)), (4, .int (iI c)), (5, .int (iI d)), (6, .int (iI e))] [.int (iI (bI (0 ≤ a ∧ a ≤ 255)))]
    refine x_ifeq_b C dX11_feed_13 (tgt := 47) (by decide) (fun h13 => ?_) (fun h13 => ?_)
    · skip
      refine x_bipush C dX11_feed_47 (w := -2) (by decide) ?_
      refine x_iret C dX11_feed_49 ⟨_, _, rfl, rfl, ?_⟩
      · first | exact Or.inl ⟨by omega, rfl, rfl⟩ | exact Or.inr (Or.inl ⟨by omega, by omega, rfl, rfl⟩) | exact Or.inr (Or.inr ⟨by omega, by omega, by omega, by rw [show k = min k 5 by omega]; exact hVE⟩)
    · skip
      refine x_iload_n C 3 dX11_feed_16 rfl rfl ?_
      refine x_runU (r_callS C (ce_X11_isByte) (m_X11_isByte G n V R (b) (by first | assumption | omega | decide)) dX11_feed_17 q_7_11 q_7_12 rfl rfl ⟨Nat.le_of_ble_eq_true rfl, Nat.le_of_ble_eq_true rfl⟩ ⟨rfl, rfl⟩ ⟨Nat.le_of_ble_eq_true rfl, Nat.le_of_ble_eq_true rfl⟩ (Nat.le_of_ble_eq_true rfl)) (fun v17 u17 hp17 => ?_)
      obtain ⟨rfl, rfl⟩ := hp17
      show Xw K G 0 0 _ n V R 20 [(0, .ref (aG G 0)), (1, .int (iI k)), (2, .int (iI a)), (3, .int (iI b)), (4, .int (iI c)), (5, .int (iI d)), (6, .int (iI e))] [.int (iI (bI (0 ≤ b ∧ b ≤ 255)))]
      refine x_ifeq_b C dX11_feed_20 (tgt := 47) (by decide) (fun h20 => ?_) (fun h20 => ?_)
      · skip
        refine x_bipush C dX11_feed_47 (w := -2) (by decide) ?_
        refine x_iret C dX11_feed_49 ⟨_, _, rfl, rfl, ?_⟩
        · first | exact Or.inl ⟨by omega, rfl, rfl⟩ | exact Or.inr (Or.inl ⟨by omega, by omega, rfl, rfl⟩) | exact Or.inr (Or.inr ⟨by omega, by omega, by omega, by rw [show k = min k 5 by omega]; exact hVE⟩)
      · skip
        refine x_iload C 4 dX11_feed_23 rfl ?_
        refine x_runU (r_callS C (ce_X11_isByte) (m_X11_isByte G n V R (c) (by first | assumption | omega | decide)) dX11_feed_25 q_7_11 q_7_12 rfl rfl ⟨Nat.le_of_ble_eq_true rfl, Nat.le_of_ble_eq_true rfl⟩ ⟨rfl, rfl⟩ ⟨Nat.le_of_ble_eq_true rfl, Nat.le_of_ble_eq_true rfl⟩ (Nat.le_of_ble_eq_true rfl)) (fun v25 u25 hp25 => ?_)
        obtain ⟨rfl, rfl⟩ := hp25
        show Xw K G 0 0 _ n V R 28 [(0, .ref (aG G 0)), (1, .int (iI k)), (2, .int (iI a)), (3, .int (iI b)), (4, .int (iI c)), (5, .int (iI d)), (6, .int (iI e))] [.int (iI (bI (0 ≤ c ∧ c ≤ 255)))]
        refine x_ifeq_b C dX11_feed_28 (tgt := 47) (by decide) (fun h28 => ?_) (fun h28 => ?_)
        · skip
          refine x_bipush C dX11_feed_47 (w := -2) (by decide) ?_
          refine x_iret C dX11_feed_49 ⟨_, _, rfl, rfl, ?_⟩
          · first | exact Or.inl ⟨by omega, rfl, rfl⟩ | exact Or.inr (Or.inl ⟨by omega, by omega, rfl, rfl⟩) | exact Or.inr (Or.inr ⟨by omega, by omega, by omega, by rw [show k = min k 5 by omega]; exact hVE⟩)
        · skip
          refine x_iload C 5 dX11_feed_31 rfl ?_
          refine x_runU (r_callS C (ce_X11_isByte) (m_X11_isByte G n V R (d) (by first | assumption | omega | decide)) dX11_feed_33 q_7_11 q_7_12 rfl rfl ⟨Nat.le_of_ble_eq_true rfl, Nat.le_of_ble_eq_true rfl⟩ ⟨rfl, rfl⟩ ⟨Nat.le_of_ble_eq_true rfl, Nat.le_of_ble_eq_true rfl⟩ (Nat.le_of_ble_eq_true rfl)) (fun v33 u33 hp33 => ?_)
          obtain ⟨rfl, rfl⟩ := hp33
          show Xw K G 0 0 _ n V R 36 [(0, .ref (aG G 0)), (1, .int (iI k)), (2, .int (iI a)), (3, .int (iI b)), (4, .int (iI c)), (5, .int (iI d)), (6, .int (iI e))] [.int (iI (bI (0 ≤ d ∧ d ≤ 255)))]
          refine x_ifeq_b C dX11_feed_36 (tgt := 47) (by decide) (fun h36 => ?_) (fun h36 => ?_)
          · skip
            refine x_bipush C dX11_feed_47 (w := -2) (by decide) ?_
            refine x_iret C dX11_feed_49 ⟨_, _, rfl, rfl, ?_⟩
            · first | exact Or.inl ⟨by omega, rfl, rfl⟩ | exact Or.inr (Or.inl ⟨by omega, by omega, rfl, rfl⟩) | exact Or.inr (Or.inr ⟨by omega, by omega, by omega, by rw [show k = min k 5 by omega]; exact hVE⟩)
          · skip
            refine x_iload C 6 dX11_feed_39 rfl ?_
            refine x_runU (r_callS C (ce_X11_isByte) (m_X11_isByte G n V R (e) (by first | assumption | omega | decide)) dX11_feed_41 q_7_11 q_7_12 rfl rfl ⟨Nat.le_of_ble_eq_true rfl, Nat.le_of_ble_eq_true rfl⟩ ⟨rfl, rfl⟩ ⟨Nat.le_of_ble_eq_true rfl, Nat.le_of_ble_eq_true rfl⟩ (Nat.le_of_ble_eq_true rfl)) (fun v41 u41 hp41 => ?_)
            obtain ⟨rfl, rfl⟩ := hp41
            show Xw K G 0 0 _ n V R 44 [(0, .ref (aG G 0)), (1, .int (iI k)), (2, .int (iI a)), (3, .int (iI b)), (4, .int (iI c)), (5, .int (iI d)), (6, .int (iI e))] [.int (iI (bI (0 ≤ e ∧ e ≤ 255)))]
            refine x_ifne_b C dX11_feed_44 (tgt := 50) (by decide) (fun h44 => ?_) (fun h44 => ?_)
            · skip
              refine x_aload_n C 0 dX11_feed_50 rfl rfl ?_
              refine x_geti C ok_Class 0 7 dX11_feed_51 (lt67 hn rfl) rfl (by decide) rfl q_1_4 rfl (kz := 7) rfl (fun rg51 => ?_)
              refine x_iload_n C 1 dX11_feed_54 rfl rfl ?_
              refine x_iadd C dX11_feed_55 ?_
              refine x_bipush C dX11_feed_56 (w := 40) (by decide) ?_
              refine x_icmp_le C dX11_feed_58 (tgt := 64) (by decide) (by first | assumption | (constructor <;> omega)) (by first | assumption | (constructor <;> omega)) (fun h58 => ?_) (fun h58 => ?_)
              · skip
                have lp_79 : ∀ (VA : Nat → Int → Int), (fedP 36 0 7 V VA a b c d e (min k 1)) → Xw K G 0 0 (EndQ K G 0 0 (fun vv uu => ∃ (r : Int), ∃ (V1 : Nat → Int → Int), vv = some (.int (iI r)) ∧ uu = (n, V1, R) ∧ ((¬ ((1 ≤ k ∧ k ≤ 5) ∧ (0 ≤ a ∧ a ≤ 255) ∧ (0 ≤ b ∧ b ≤ 255) ∧ (0 ≤ c ∧ c ≤ 255) ∧ (0 ≤ d ∧ d ≤ 255) ∧ (0 ≤ e ∧ e ≤ 255)) ∧ r = -2 ∧ V1 = V) ∨ (((1 ≤ k ∧ k ≤ 5) ∧ (0 ≤ a ∧ a ≤ 255) ∧ (0 ≤ b ∧ b ≤ 255) ∧ (0 ≤ c ∧ c ≤ 255) ∧ (0 ≤ d ∧ d ≤ 255) ∧ (0 ≤ e ∧ e ≤ 255)) ∧ 40 < V 0 7 + k ∧ r = -4 ∧ V1 = V) ∨ (((1 ≤ k ∧ k ≤ 5) ∧ (0 ≤ a ∧ a ≤ 255) ∧ (0 ≤ b ∧ b ≤ 255) ∧ (0 ≤ c ∧ c ≤ 255) ∧ (0 ≤ d ∧ d ≤ 255) ∧ (0 ≤ e ∧ e ≤ 255)) ∧ V 0 7 + k ≤ 40 ∧ r = V 0 7 + k ∧ fedP 36 0 7 V V1 a b c d e k)))) n VA R 79 [(0, .ref (aG G 0)), (1, .int (iI k)), (2, .int (iI a)), (3, .int (iI b)), (4, .int (iI c)), (5, .int (iI d)), (6, .int (iI e))] [] := by
                  intro VA hVA
                  have h7VA : VA 0 7 = V 0 7 + min k 1 := hVA.1
                  have lp_94 : ∀ (VB : Nat → Int → Int), (fedP 36 0 7 V VB a b c d e (min k 2)) → Xw K G 0 0 (EndQ K G 0 0 (fun vv uu => ∃ (r : Int), ∃ (V1 : Nat → Int → Int), vv = some (.int (iI r)) ∧ uu = (n, V1, R) ∧ ((¬ ((1 ≤ k ∧ k ≤ 5) ∧ (0 ≤ a ∧ a ≤ 255) ∧ (0 ≤ b ∧ b ≤ 255) ∧ (0 ≤ c ∧ c ≤ 255) ∧ (0 ≤ d ∧ d ≤ 255) ∧ (0 ≤ e ∧ e ≤ 255)) ∧ r = -2 ∧ V1 = V) ∨ (((1 ≤ k ∧ k ≤ 5) ∧ (0 ≤ a ∧ a ≤ 255) ∧ (0 ≤ b ∧ b ≤ 255) ∧ (0 ≤ c ∧ c ≤ 255) ∧ (0 ≤ d ∧ d ≤ 255) ∧ (0 ≤ e ∧ e ≤ 255)) ∧ 40 < V 0 7 + k ∧ r = -4 ∧ V1 = V) ∨ (((1 ≤ k ∧ k ≤ 5) ∧ (0 ≤ a ∧ a ≤ 255) ∧ (0 ≤ b ∧ b ≤ 255) ∧ (0 ≤ c ∧ c ≤ 255) ∧ (0 ≤ d ∧ d ≤ 255) ∧ (0 ≤ e ∧ e ≤ 255)) ∧ V 0 7 + k ≤ 40 ∧ r = V 0 7 + k ∧ fedP 36 0 7 V V1 a b c d e k)))) n VB R 94 [(0, .ref (aG G 0)), (1, .int (iI k)), (2, .int (iI a)), (3, .int (iI b)), (4, .int (iI c)), (5, .int (iI d)), (6, .int (iI e))] [] := by
                    intro VB hVB
                    have h7VB : VB 0 7 = V 0 7 + min k 2 := hVB.1
                    have lp_110 : ∀ (VC : Nat → Int → Int), (fedP 36 0 7 V VC a b c d e (min k 3)) → Xw K G 0 0 (EndQ K G 0 0 (fun vv uu => ∃ (r : Int), ∃ (V1 : Nat → Int → Int), vv = some (.int (iI r)) ∧ uu = (n, V1, R) ∧ ((¬ ((1 ≤ k ∧ k ≤ 5) ∧ (0 ≤ a ∧ a ≤ 255) ∧ (0 ≤ b ∧ b ≤ 255) ∧ (0 ≤ c ∧ c ≤ 255) ∧ (0 ≤ d ∧ d ≤ 255) ∧ (0 ≤ e ∧ e ≤ 255)) ∧ r = -2 ∧ V1 = V) ∨ (((1 ≤ k ∧ k ≤ 5) ∧ (0 ≤ a ∧ a ≤ 255) ∧ (0 ≤ b ∧ b ≤ 255) ∧ (0 ≤ c ∧ c ≤ 255) ∧ (0 ≤ d ∧ d ≤ 255) ∧ (0 ≤ e ∧ e ≤ 255)) ∧ 40 < V 0 7 + k ∧ r = -4 ∧ V1 = V) ∨ (((1 ≤ k ∧ k ≤ 5) ∧ (0 ≤ a ∧ a ≤ 255) ∧ (0 ≤ b ∧ b ≤ 255) ∧ (0 ≤ c ∧ c ≤ 255) ∧ (0 ≤ d ∧ d ≤ 255) ∧ (0 ≤ e ∧ e ≤ 255)) ∧ V 0 7 + k ≤ 40 ∧ r = V 0 7 + k ∧ fedP 36 0 7 V V1 a b c d e k)))) n VC R 110 [(0, .ref (aG G 0)), (1, .int (iI k)), (2, .int (iI a)), (3, .int (iI b)), (4, .int (iI c)), (5, .int (iI d)), (6, .int (iI e))] [] := by
                      intro VC hVC
                      have h7VC : VC 0 7 = V 0 7 + min k 3 := hVC.1
                      have lp_126 : ∀ (VD : Nat → Int → Int), (fedP 36 0 7 V VD a b c d e (min k 4)) → Xw K G 0 0 (EndQ K G 0 0 (fun vv uu => ∃ (r : Int), ∃ (V1 : Nat → Int → Int), vv = some (.int (iI r)) ∧ uu = (n, V1, R) ∧ ((¬ ((1 ≤ k ∧ k ≤ 5) ∧ (0 ≤ a ∧ a ≤ 255) ∧ (0 ≤ b ∧ b ≤ 255) ∧ (0 ≤ c ∧ c ≤ 255) ∧ (0 ≤ d ∧ d ≤ 255) ∧ (0 ≤ e ∧ e ≤ 255)) ∧ r = -2 ∧ V1 = V) ∨ (((1 ≤ k ∧ k ≤ 5) ∧ (0 ≤ a ∧ a ≤ 255) ∧ (0 ≤ b ∧ b ≤ 255) ∧ (0 ≤ c ∧ c ≤ 255) ∧ (0 ≤ d ∧ d ≤ 255) ∧ (0 ≤ e ∧ e ≤ 255)) ∧ 40 < V 0 7 + k ∧ r = -4 ∧ V1 = V) ∨ (((1 ≤ k ∧ k ≤ 5) ∧ (0 ≤ a ∧ a ≤ 255) ∧ (0 ≤ b ∧ b ≤ 255) ∧ (0 ≤ c ∧ c ≤ 255) ∧ (0 ≤ d ∧ d ≤ 255) ∧ (0 ≤ e ∧ e ≤ 255)) ∧ V 0 7 + k ≤ 40 ∧ r = V 0 7 + k ∧ fedP 36 0 7 V V1 a b c d e k)))) n VD R 126 [(0, .ref (aG G 0)), (1, .int (iI k)), (2, .int (iI a)), (3, .int (iI b)), (4, .int (iI c)), (5, .int (iI d)), (6, .int (iI e))] [] := by
                        intro VD hVD
                        have h7VD : VD 0 7 = V 0 7 + min k 4 := hVD.1
                        have lp_142 : ∀ (VE : Nat → Int → Int), (fedP 36 0 7 V VE a b c d e (min k 5)) → Xw K G 0 0 (EndQ K G 0 0 (fun vv uu => ∃ (r : Int), ∃ (V1 : Nat → Int → Int), vv = some (.int (iI r)) ∧ uu = (n, V1, R) ∧ ((¬ ((1 ≤ k ∧ k ≤ 5) ∧ (0 ≤ a ∧ a ≤ 255) ∧ (0 ≤ b ∧ b ≤ 255) ∧ (0 ≤ c ∧ c ≤ 255) ∧ (0 ≤ d ∧ d ≤ 255) ∧ (0 ≤ e ∧ e ≤ 255)) ∧ r = -2 ∧ V1 = V) ∨ (((1 ≤ k ∧ k ≤ 5) ∧ (0 ≤ a ∧ a ≤ 255) ∧ (0 ≤ b ∧ b ≤ 255) ∧ (0 ≤ c ∧ c ≤ 255) ∧ (0 ≤ d ∧ d ≤ 255) ∧ (0 ≤ e ∧ e ≤ 255)) ∧ 40 < V 0 7 + k ∧ r = -4 ∧ V1 = V) ∨ (((1 ≤ k ∧ k ≤ 5) ∧ (0 ≤ a ∧ a ≤ 255) ∧ (0 ≤ b ∧ b ≤ 255) ∧ (0 ≤ c ∧ c ≤ 255) ∧ (0 ≤ d ∧ d ≤ 255) ∧ (0 ≤ e ∧ e ≤ 255)) ∧ V 0 7 + k ≤ 40 ∧ r = V 0 7 + k ∧ fedP 36 0 7 V V1 a b c d e k)))) n VE R 142 [(0, .ref (aG G 0)), (1, .int (iI k)), (2, .int (iI a)), (3, .int (iI b)), (4, .int (iI c)), (5, .int (iI d)), (6, .int (iI e))] [] := by
                          intro VE hVE
                          have h7VE : VE 0 7 = V 0 7 + min k 5 := hVE.1
                          refine x_aload_n C 0 dX11_feed_142 rfl rfl ?_
                          refine x_geti C ok_Class 0 7 dX11_feed_143 (lt67 hn rfl) rfl (by decide) rfl q_1_4 rfl (kz := 7) rfl (fun rg143 => ?_)
                          refine x_iret C dX11_feed_146 ⟨_, _, rfl, rfl, ?_⟩
                          · first | exact Or.inl ⟨by omega, rfl, rfl⟩ | exact Or.inr (Or.inl ⟨by omega, by omega, rfl, rfl⟩) | exact Or.inr (Or.inr ⟨by omega, by omega, by omega, by rw [show k = min k 5 by omega]; exact hVE⟩)
                        refine x_aload_n C 0 dX11_feed_126 rfl rfl ?_
                        refine x_iload C 6 dX11_feed_127 rfl ?_
                        refine x_iload_n C 1 dX11_feed_129 rfl rfl ?_
                        refine x_iconst C dX11_feed_130 ?_
                        refine x_icmp_lt C dX11_feed_131 (tgt := 138) (by decide) (by first | assumption | (constructor <;> omega)) (by first | assumption | (constructor <;> omega)) (fun h131 => ?_) (fun h131 => ?_)
                        · skip
                          refine x_iconst C dX11_feed_138 ?_
                          refine x_runU (r_callV C ok_Class 0 (lt67 hn rfl) rfl (ce_X11_feedOne) (m_X11_feedOne G n VD R (e) (0) hn hLR (by first | assumption | omega | decide) (by first | assumption | omega | decide) (by first | assumption | omega | decide)) rfl dX11_feed_139 q_7_14 q_7_15 q_7_16 rfl rfl ⟨Nat.le_of_ble_eq_true rfl, Nat.le_of_ble_eq_true rfl⟩ ⟨rfl, rfl⟩ ⟨Nat.le_of_ble_eq_true rfl, Nat.le_of_ble_eq_true rfl⟩ (Nat.le_of_ble_eq_true rfl)) (fun v139 u139 hp139 => ?_)
                          obtain ⟨V1_139, rfl, rfl, hq139_0⟩ := hp139
                          show Xw K G 0 0 _ n V1_139 R 142 [(0, .ref (aG G 0)), (1, .int (iI k)), (2, .int (iI a)), (3, .int (iI b)), (4, .int (iI c)), (5, .int (iI d)), (6, .int (iI e))] []
                          exact lp_142 (V1_139) (by exact fe_s hVD hq139_0 (by omega) (by omega) rfl)
                        · skip
                          refine x_iconst C dX11_feed_134 ?_
                          refine x_goto C dX11_feed_135 (tgt := 139) (by decide) ?_
                          refine x_runU (r_callV C ok_Class 0 (lt67 hn rfl) rfl (ce_X11_feedOne) (m_X11_feedOne G n VD R (e) (1) hn hLR (by first | assumption | omega | decide) (by first | assumption | omega | decide) (by first | assumption | omega | decide)) rfl dX11_feed_139 q_7_14 q_7_15 q_7_16 rfl rfl ⟨Nat.le_of_ble_eq_true rfl, Nat.le_of_ble_eq_true rfl⟩ ⟨rfl, rfl⟩ ⟨Nat.le_of_ble_eq_true rfl, Nat.le_of_ble_eq_true rfl⟩ (Nat.le_of_ble_eq_true rfl)) (fun v139 u139 hp139 => ?_)
                          obtain ⟨V1_139, rfl, rfl, hq139_0⟩ := hp139
                          show Xw K G 0 0 _ n V1_139 R 142 [(0, .ref (aG G 0)), (1, .int (iI k)), (2, .int (iI a)), (3, .int (iI b)), (4, .int (iI c)), (5, .int (iI d)), (6, .int (iI e))] []
                          exact lp_142 (V1_139) (by exact fe_s hVD hq139_0 (by omega) (by omega) rfl)
                      refine x_aload_n C 0 dX11_feed_110 rfl rfl ?_
                      refine x_iload C 5 dX11_feed_111 rfl ?_
                      refine x_iload_n C 1 dX11_feed_113 rfl rfl ?_
                      refine x_iconst C dX11_feed_114 ?_
                      refine x_icmp_lt C dX11_feed_115 (tgt := 122) (by decide) (by first | assumption | (constructor <;> omega)) (by first | assumption | (constructor <;> omega)) (fun h115 => ?_) (fun h115 => ?_)
                      · skip
                        refine x_iconst C dX11_feed_122 ?_
                        refine x_runU (r_callV C ok_Class 0 (lt67 hn rfl) rfl (ce_X11_feedOne) (m_X11_feedOne G n VC R (d) (0) hn hLR (by first | assumption | omega | decide) (by first | assumption | omega | decide) (by first | assumption | omega | decide)) rfl dX11_feed_123 q_7_14 q_7_15 q_7_16 rfl rfl ⟨Nat.le_of_ble_eq_true rfl, Nat.le_of_ble_eq_true rfl⟩ ⟨rfl, rfl⟩ ⟨Nat.le_of_ble_eq_true rfl, Nat.le_of_ble_eq_true rfl⟩ (Nat.le_of_ble_eq_true rfl)) (fun v123 u123 hp123 => ?_)
                        obtain ⟨V1_123, rfl, rfl, hq123_0⟩ := hp123
                        show Xw K G 0 0 _ n V1_123 R 126 [(0, .ref (aG G 0)), (1, .int (iI k)), (2, .int (iI a)), (3, .int (iI b)), (4, .int (iI c)), (5, .int (iI d)), (6, .int (iI e))] []
                        exact lp_126 (V1_123) (by exact fe_s hVC hq123_0 (by omega) (by omega) rfl)
                      · skip
                        refine x_iconst C dX11_feed_118 ?_
                        refine x_goto C dX11_feed_119 (tgt := 123) (by decide) ?_
                        refine x_runU (r_callV C ok_Class 0 (lt67 hn rfl) rfl (ce_X11_feedOne) (m_X11_feedOne G n VC R (d) (1) hn hLR (by first | assumption | omega | decide) (by first | assumption | omega | decide) (by first | assumption | omega | decide)) rfl dX11_feed_123 q_7_14 q_7_15 q_7_16 rfl rfl ⟨Nat.le_of_ble_eq_true rfl, Nat.le_of_ble_eq_true rfl⟩ ⟨rfl, rfl⟩ ⟨Nat.le_of_ble_eq_true rfl, Nat.le_of_ble_eq_true rfl⟩ (Nat.le_of_ble_eq_true rfl)) (fun v123 u123 hp123 => ?_)
                        obtain ⟨V1_123, rfl, rfl, hq123_0⟩ := hp123
                        show Xw K G 0 0 _ n V1_123 R 126 [(0, .ref (aG G 0)), (1, .int (iI k)), (2, .int (iI a)), (3, .int (iI b)), (4, .int (iI c)), (5, .int (iI d)), (6, .int (iI e))] []
                        exact lp_126 (V1_123) (by exact fe_s hVC hq123_0 (by omega) (by omega) rfl)
                    refine x_aload_n C 0 dX11_feed_94 rfl rfl ?_
                    refine x_iload C 4 dX11_feed_95 rfl ?_
                    refine x_iload_n C 1 dX11_feed_97 rfl rfl ?_
                    refine x_iconst C dX11_feed_98 ?_
                    refine x_icmp_lt C dX11_feed_99 (tgt := 106) (by decide) (by first | assumption | (constructor <;> omega)) (by first | assumption | (constructor <;> omega)) (fun h99 => ?_) (fun h99 => ?_)
                    · skip
                      refine x_iconst C dX11_feed_106 ?_
                      refine x_runU (r_callV C ok_Class 0 (lt67 hn rfl) rfl (ce_X11_feedOne) (m_X11_feedOne G n VB R (c) (0) hn hLR (by first | assumption | omega | decide) (by first | assumption | omega | decide) (by first | assumption | omega | decide)) rfl dX11_feed_107 q_7_14 q_7_15 q_7_16 rfl rfl ⟨Nat.le_of_ble_eq_true rfl, Nat.le_of_ble_eq_true rfl⟩ ⟨rfl, rfl⟩ ⟨Nat.le_of_ble_eq_true rfl, Nat.le_of_ble_eq_true rfl⟩ (Nat.le_of_ble_eq_true rfl)) (fun v107 u107 hp107 => ?_)
                      obtain ⟨V1_107, rfl, rfl, hq107_0⟩ := hp107
                      show Xw K G 0 0 _ n V1_107 R 110 [(0, .ref (aG G 0)), (1, .int (iI k)), (2, .int (iI a)), (3, .int (iI b)), (4, .int (iI c)), (5, .int (iI d)), (6, .int (iI e))] []
                      exact lp_110 (V1_107) (by exact fe_s hVB hq107_0 (by omega) (by omega) rfl)
                    · skip
                      refine x_iconst C dX11_feed_102 ?_
                      refine x_goto C dX11_feed_103 (tgt := 107) (by decide) ?_
                      refine x_runU (r_callV C ok_Class 0 (lt67 hn rfl) rfl (ce_X11_feedOne) (m_X11_feedOne G n VB R (c) (1) hn hLR (by first | assumption | omega | decide) (by first | assumption | omega | decide) (by first | assumption | omega | decide)) rfl dX11_feed_107 q_7_14 q_7_15 q_7_16 rfl rfl ⟨Nat.le_of_ble_eq_true rfl, Nat.le_of_ble_eq_true rfl⟩ ⟨rfl, rfl⟩ ⟨Nat.le_of_ble_eq_true rfl, Nat.le_of_ble_eq_true rfl⟩ (Nat.le_of_ble_eq_true rfl)) (fun v107 u107 hp107 => ?_)
                      obtain ⟨V1_107, rfl, rfl, hq107_0⟩ := hp107
                      show Xw K G 0 0 _ n V1_107 R 110 [(0, .ref (aG G 0)), (1, .int (iI k)), (2, .int (iI a)), (3, .int (iI b)), (4, .int (iI c)), (5, .int (iI d)), (6, .int (iI e))] []
                      exact lp_110 (V1_107) (by exact fe_s hVB hq107_0 (by omega) (by omega) rfl)
                  refine x_aload_n C 0 dX11_feed_79 rfl rfl ?_
                  refine x_iload_n C 3 dX11_feed_80 rfl rfl ?_
                  refine x_iload_n C 1 dX11_feed_81 rfl rfl ?_
                  refine x_iconst C dX11_feed_82 ?_
                  refine x_icmp_lt C dX11_feed_83 (tgt := 90) (by decide) (by first | assumption | (constructor <;> omega)) (by first | assumption | (constructor <;> omega)) (fun h83 => ?_) (fun h83 => ?_)
                  · skip
                    refine x_iconst C dX11_feed_90 ?_
                    refine x_runU (r_callV C ok_Class 0 (lt67 hn rfl) rfl (ce_X11_feedOne) (m_X11_feedOne G n VA R (b) (0) hn hLR (by first | assumption | omega | decide) (by first | assumption | omega | decide) (by first | assumption | omega | decide)) rfl dX11_feed_91 q_7_14 q_7_15 q_7_16 rfl rfl ⟨Nat.le_of_ble_eq_true rfl, Nat.le_of_ble_eq_true rfl⟩ ⟨rfl, rfl⟩ ⟨Nat.le_of_ble_eq_true rfl, Nat.le_of_ble_eq_true rfl⟩ (Nat.le_of_ble_eq_true rfl)) (fun v91 u91 hp91 => ?_)
                    obtain ⟨V1_91, rfl, rfl, hq91_0⟩ := hp91
                    show Xw K G 0 0 _ n V1_91 R 94 [(0, .ref (aG G 0)), (1, .int (iI k)), (2, .int (iI a)), (3, .int (iI b)), (4, .int (iI c)), (5, .int (iI d)), (6, .int (iI e))] []
                    exact lp_94 (V1_91) (by exact fe_s hVA hq91_0 (by omega) (by omega) rfl)
                  · skip
                    refine x_iconst C dX11_feed_86 ?_
                    refine x_goto C dX11_feed_87 (tgt := 91) (by decide) ?_
                    refine x_runU (r_callV C ok_Class 0 (lt67 hn rfl) rfl (ce_X11_feedOne) (m_X11_feedOne G n VA R (b) (1) hn hLR (by first | assumption | omega | decide) (by first | assumption | omega | decide) (by first | assumption | omega | decide)) rfl dX11_feed_91 q_7_14 q_7_15 q_7_16 rfl rfl ⟨Nat.le_of_ble_eq_true rfl, Nat.le_of_ble_eq_true rfl⟩ ⟨rfl, rfl⟩ ⟨Nat.le_of_ble_eq_true rfl, Nat.le_of_ble_eq_true rfl⟩ (Nat.le_of_ble_eq_true rfl)) (fun v91 u91 hp91 => ?_)
                    obtain ⟨V1_91, rfl, rfl, hq91_0⟩ := hp91
                    show Xw K G 0 0 _ n V1_91 R 94 [(0, .ref (aG G 0)), (1, .int (iI k)), (2, .int (iI a)), (3, .int (iI b)), (4, .int (iI c)), (5, .int (iI d)), (6, .int (iI e))] []
                    exact lp_94 (V1_91) (by exact fe_s hVA hq91_0 (by omega) (by omega) rfl)
                refine x_aload_n C 0 dX11_feed_64 rfl rfl ?_
                refine x_iload_n C 2 dX11_feed_65 rfl rfl ?_
                refine x_iload_n C 1 dX11_feed_66 rfl rfl ?_
                refine x_iconst C dX11_feed_67 ?_
                refine x_icmp_lt C dX11_feed_68 (tgt := 75) (by decide) (by first | assumption | (constructor <;> omega)) (by first | assumption | (constructor <;> omega)) (fun h68 => ?_) (fun h68 => ?_)
                · skip
                  exfalso; omega
                · skip
                  refine x_iconst C dX11_feed_71 ?_
                  refine x_goto C dX11_feed_72 (tgt := 76) (by decide) ?_
                  refine x_runU (r_callV C ok_Class 0 (lt67 hn rfl) rfl (ce_X11_feedOne) (m_X11_feedOne G n V R (a) (1) hn hLR (by first | assumption | omega | decide) (by first | assumption | omega | decide) (by first | assumption | omega | decide)) rfl dX11_feed_76 q_7_14 q_7_15 q_7_16 rfl rfl ⟨Nat.le_of_ble_eq_true rfl, Nat.le_of_ble_eq_true rfl⟩ ⟨rfl, rfl⟩ ⟨Nat.le_of_ble_eq_true rfl, Nat.le_of_ble_eq_true rfl⟩ (Nat.le_of_ble_eq_true rfl)) (fun v76 u76 hp76 => ?_)
                  obtain ⟨V1_76, rfl, rfl, hq76_0⟩ := hp76
                  show Xw K G 0 0 _ n V1_76 R 79 [(0, .ref (aG G 0)), (1, .int (iI k)), (2, .int (iI a)), (3, .int (iI b)), (4, .int (iI c)), (5, .int (iI d)), (6, .int (iI e))] []
                  exact lp_79 (V1_76) (by exact fe_s (j := 0) (by rw [show min k 0 = 0 by omega]; exact fedP_0) hq76_0 (by omega) (by omega) rfl)
              · skip
                refine x_bipush C dX11_feed_61 (w := -4) (by decide) ?_
                refine x_iret C dX11_feed_63 ⟨_, _, rfl, rfl, ?_⟩
                · first | exact Or.inl ⟨by omega, rfl, rfl⟩ | exact Or.inr (Or.inl ⟨by omega, by omega, rfl, rfl⟩) | exact Or.inr (Or.inr ⟨by omega, by omega, by omega, by rw [show k = min k 5 by omega]; exact hVE⟩)
            · skip
              refine x_bipush C dX11_feed_47 (w := -2) (by decide) ?_
              refine x_iret C dX11_feed_49 ⟨_, _, rfl, rfl, ?_⟩
              · first | exact Or.inl ⟨by omega, rfl, rfl⟩ | exact Or.inr (Or.inl ⟨by omega, by omega, rfl, rfl⟩) | exact Or.inr (Or.inr ⟨by omega, by omega, by omega, by rw [show k = min k 5 by omega]; exact hVE⟩)
