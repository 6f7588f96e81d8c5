
set_option maxRecDepth 100000 in
set_option maxHeartbeats 4000000 in
theorem m_X11_text (G : GS) (n : Nat) (V : Nat → Int → Int) (R : Nat → Int → Option Nat) (hn : 67 ≤ n) (hLR : LR R) (hs7 : 0 ≤ V 0 7 ∧ V 0 7 ≤ 40) (hby : ∀ z, 0 ≤ z → z < V 0 7 → 0 ≤ V 36 z ∧ V 36 z ≤ 255) (h5 : 0 ≤ V 1 5 ∧ V 1 5 ≤ 8) (hL : 0 ≤ V 1 2 ∧ V 1 2 ≤ 8) : Cn G yX11_text cX11_text 3 (some .int) (rmk 8 8 24 172) [.ref (aG G 0)] n V R 8 24 (fun vv uu => ∃ (r : Int), ∃ (n1 : Nat), ∃ (V1 : Nat → Int → Int), ∃ (R1 : Nat → Int → Option Nat), vv = some (.int (iI r)) ∧ uu = (n1, V1, R1) ∧ ((V 1 2 = 0 ∧ r = -3 ∧ n1 = n ∧ V1 = V ∧ R1 = R) ∨ (V 1 2 ≠ 0 ∧ (prs (V 36) (V 0 7) (skS (V 36) (V 0 7) 0)).2 ≠ -1 ∧ r = -100 - (prs (V 36) (V 0 7) (skS (V 36) (V 0 7) 0)).2 ∧ n1 = n ∧ V1 = u2 V 0 7 0 ∧ R1 = R) ∨ (V 1 2 ≠ 0 ∧ (prs (V 36) (V 0 7) (skS (V 36) (V 0 7) 0)).2 = -1 ∧ 8 < V 1 5 + ((prs (V 36) (V 0 7) (skS (V 36) (V 0 7) 0)).1.length : Int) ∧ r = -4 ∧ n1 = n ∧ V1 = u2 V 0 7 0 ∧ R1 = R) ∨ (V 1 2 ≠ 0 ∧ (prs (V 36) (V 0 7) (skS (V 36) (V 0 7) 0)).2 = -1 ∧ V 1 5 + ((prs (V 36) (V 0 7) (skS (V 36) (V 0 7) 0)).1.length : Int) ≤ 8 ∧ r = V 1 5 + ((prs (V 36) (V 0 7) (skS (V 36) (V 0 7) 0)).1.length : Int) ∧ n ≤ n1 ∧ (∀ q, q < n → q ≠ 0 → q ≠ 1 → q ≠ 11 → V1 q = V q) ∧ (∀ z, z ≠ 7 → V1 0 z = V 0 z) ∧ V1 0 7 = 0 ∧ (∀ z, z ≠ 5 → V1 1 z = V 1 z) ∧ (∀ z, z ≠ 0 → V1 11 z = V 11 z) ∧ V1 11 0 = 0 ∧ V1 1 5 = r ∧ (∀ q, q ≠ 2 → R1 q = R q) ∧ (∀ x, x < V 1 5 ∨ r ≤ x → R1 2 x = R 2 x) ∧ (∀ q : Int, 0 ≤ q → q < ((prs (V 36) (V 0 7) (skS (V 36) (V 0 7) 0)).1.length : Int) → ∃ c, R1 2 (V 1 5 + q) = some c ∧ n ≤ c ∧ c < n1 ∧ V1 c 3 = kbT (V 36 (lat (prs (V 36) (V 0 7) (skS (V 36) (V 0 7) 0)).1 q)) ∧ V1 c 0 = V 36 ((lat (prs (V 36) (V 0 7) (skS (V 36) (V 0 7) 0)).1 q) + 1) - 48 ∧ V1 c 1 = V 36 ((lat (prs (V 36) (V 0 7) (skS (V 36) (V 0 7) 0)).1 q) + 2) - 48 ∧ V1 c 2 = V 36 ((lat (prs (V 36) (V 0 7) (skS (V 36) (V 0 7) 0)).1 q) + 3) - 48) ∧ (∀ z, 0 ≤ z → z < V 0 7 → 0 ≤ kbT (V 36 z) → z + 3 < V 0 7 ∧ (48 ≤ V 36 (z + 1) ∧ V 36 (z + 1) ≤ 55) ∧ (48 ≤ V 36 (z + 2) ∧ V 36 (z + 2) ≤ 55) ∧ (49 ≤ V 36 (z + 3) ∧ V 36 (z + 3) ≤ 52))))) := by
  refine Cn.of (by decide) (Nat.le_of_ble_eq_true rfl) (fun K C hct => ?_)
  show Xw K G 0 0 _ n V R 0 [(0, .ref (aG G 0))] []
  refine x_aload_n C 0 dX11_text_0 rfl rfl ?_
  refine x_getr C ok_Class 0 0 (d := 1) dX11_text_1 (lt67 hn rfl) rfl (by decide) rfl q_0_16 rfl (kz := 0) rfl (lr_0_0 hLR) ?_
  refine x_runU (r_callV C ok_Yard 1 (lt67 hn rfl) rfl (ce_X10_hasLog) (m_X10_hasLog G n V R (1) hn hLR (by first | assumption | omega | decide)) rfl dX11_text_4 q_8_6 q_8_7 q_8_8 rfl rfl ⟨Nat.le_of_ble_eq_true rfl, Nat.le_of_ble_eq_true rfl⟩ ⟨rfl, rfl⟩ ⟨Nat.le_of_ble_eq_true rfl, Nat.le_of_ble_eq_true rfl⟩ (Nat.le_of_ble_eq_true rfl)) (fun v4 u4 hp4 => ?_)
  obtain ⟨rfl, rfl⟩ := hp4
  show Xw K G 0 0 _ n V R 7 [(0, .ref (aG G 0))] [.int (iI (bI (0 < V 1 2)))]
  refine x_ifne_b C dX11_text_7 (tgt := 13) (by decide) (fun h7 => ?_) (fun h7 => ?_)
  · skip
    refine x_aload_n C 0 dX11_text_13 rfl rfl ?_
    refine x_geti C ok_Class 0 7 dX11_text_14 (lt67 hn rfl) rfl (by decide) rfl q_1_4 rfl (kz := 7) rfl (fun rg14 => ?_)
    refine x_istore_n C dX11_text_17 rfl (by decide) (lv' := [(0, .ref (aG G 0)), (1, .int (iI (V 0 7)))]) rfl ?_
    refine x_aload_n C 0 dX11_text_18 rfl rfl ?_
    refine x_iload_n C 1 dX11_text_19 rfl rfl ?_
    refine x_runU (r_callV C ok_Class 0 (lt67 hn rfl) rfl (ce_X11_wrongPlace) (m_X11_wrongPlace G n V R (V 0 7) hn hLR (by first | assumption | omega | decide) (by exact hby)) rfl dX11_text_20 q_8_10 q_8_11 q_8_12 rfl rfl ⟨Nat.le_of_ble_eq_true rfl, Nat.le_of_ble_eq_true rfl⟩ ⟨rfl, rfl⟩ ⟨Nat.le_of_ble_eq_true rfl, Nat.le_of_ble_eq_true rfl⟩ (Nat.le_of_ble_eq_true rfl)) (fun v20 u20 hp20 => ?_)
    obtain ⟨rfl, rfl⟩ := hp20
    show Xw K G 0 0 _ n V R 23 [(0, .ref (aG G 0)), (1, .int (iI (V 0 7)))] [.int (iI (prs (V 36) (V 0 7) (skS (V 36) (V 0 7) 0)).2)]
    have hpb := prs_b (T := V 36) (n := V 0 7) hs7.1
    refine x_istore_n C dX11_text_23 rfl (by decide) (lv' := [(0, .ref (aG G 0)), (1, .int (iI (V 0 7))), (2, .int (iI (prs (V 36) (V 0 7) (skS (V 36) (V 0 7) 0)).2))]) rfl ?_
    refine x_aload_n C 0 dX11_text_24 rfl rfl ?_
    refine x_iconst C dX11_text_25 ?_
    refine x_puti C ok_Class 0 7 dX11_text_26 (lt67 hn rfl) rfl (by decide) rfl q_1_4 rfl rfl (Or.inl rfl) (by first | assumption | (constructor <;> omega)) (kz := 7) rfl ?_
    refine x_iload_n C 2 dX11_text_29 rfl rfl ?_
    refine x_iconst C dX11_text_30 ?_
    refine x_icmp_eq C dX11_text_31 (tgt := 39) (by decide) (by first | assumption | (constructor <;> omega)) (by first | assumption | (constructor <;> omega)) (fun h31 => ?_) (fun h31 => ?_)
    · skip
      have h31x : (prs (V 36) (V 0 7) (skS (V 36) (V 0 7) 0)).2 = -1 := by omega
      refine x_aload_n C 0 dX11_text_39 rfl rfl ?_
      refine x_getr C ok_Class 0 0 (d := 1) dX11_text_40 (lt67 hn rfl) rfl (by decide) rfl q_0_16 rfl (kz := 0) rfl (lr_0_0 hLR) ?_
      refine x_geti C ok_Yard 1 5 dX11_text_43 (lt67 hn rfl) rfl (by decide) rfl q_8_5 rfl (kz := 5) rfl (fun rg43 => ?_)
      refine x_top (b := (V 1 5)) (by first | rfl | (simp only [u2_at]; simp) | (simp only [u2_at]; first | (rw [if_neg (by omega)]) | omega) | (repeat rw [u2_at, if_neg (by omega)])) ?_
      refine x_aload_n C 0 dX11_text_46 rfl rfl ?_
      refine x_iload_n C 1 dX11_text_47 rfl rfl ?_
      refine x_runU (r_callV C ok_Class 0 (lt67 hn rfl) rfl (ce_X11_itemsOf) (m_X11_itemsOf G n (u2 V 0 7 0) R (V 0 7) hn hLR (by first | assumption | omega | decide) (by rw [u2_n (by decide)]; exact hby)) rfl dX11_text_48 q_12_13 q_12_14 q_12_15 rfl rfl ⟨Nat.le_of_ble_eq_true rfl, Nat.le_of_ble_eq_true rfl⟩ ⟨rfl, rfl⟩ ⟨Nat.le_of_ble_eq_true rfl, Nat.le_of_ble_eq_true rfl⟩ (Nat.le_of_ble_eq_true rfl)) (fun v48 u48 hp48 => ?_)
      obtain ⟨rfl, rfl⟩ := hp48
      show Xw K G 0 0 _ n (u2 V 0 7 0) R 51 [(0, .ref (aG G 0)), (1, .int (iI (V 0 7))), (2, .int (iI (prs (V 36) (V 0 7) (skS (V 36) (V 0 7) 0)).2))] [.int (iI ((lts ((u2 V 0 7 0) 36) 0 (V 0 7)).length : Int)), .int (iI (V 1 5))]
      have hll := lts_len (T := V 36) (n := V 0 7) hs7
      rw [lts_prs0 hs7.1 hby h31x] at hll
      refine x_top (b := (((prs (V 36) (V 0 7) (skS (V 36) (V 0 7) 0)).1.length : Int))) (by rw [u2_n (by decide), lts_prs0 hs7.1 hby h31x]) ?_
      refine x_iadd C dX11_text_51 ?_
      refine x_bipush C dX11_text_52 (w := 8) (by decide) ?_
      refine x_icmp_le C dX11_text_54 (tgt := 60) (by decide) (by first | assumption | (constructor <;> omega)) (by first | assumption | (constructor <;> omega)) (fun h54 => ?_) (fun h54 => ?_)
      · skip
        have hle : lts (V 36) 0 (V 0 7) = (prs (V 36) (V 0 7) (skS (V 36) (V 0 7) 0)).1 := lts_prs0 hs7.1 hby h31x
        have hlg := lts_good hs7.1 hby h31x
        refine x_aload_n C 0 dX11_text_60 rfl rfl ?_
        refine x_iload_n C 1 dX11_text_61 rfl rfl ?_
        refine x_runU (r_callV C ok_Class 0 (lt67 hn rfl) rfl (ce_X11_readItems) (m_X11_readItems G n (u2 V 0 7 0) R (V 0 7) hn hLR (by first | assumption | omega | decide) (by rw [u2_n (by decide)]; exact hby) (by rw [u2_n (by decide)]; exact hlg) (by rw [u2_n (by decide), u2_n (by decide), hle]; omega)) rfl dX11_text_62 q_12_17 q_12_18 q_12_19 rfl rfl ⟨Nat.le_of_ble_eq_true rfl, Nat.le_of_ble_eq_true rfl⟩ ⟨rfl, rfl⟩ ⟨Nat.le_of_ble_eq_true rfl, Nat.le_of_ble_eq_true rfl⟩ (Nat.le_of_ble_eq_true rfl)) (fun v62 u62 hp62 => ?_)
        obtain ⟨n1_62, V1_62, R1_62, rfl, rfl, hq62_0, hq62_1⟩ := hp62
        show Xw K G (0 + 8) (0 + 24) _ n1_62 V1_62 R1_62 65 [(0, .ref (aG G 0)), (1, .int (iI (V 0 7))), (2, .int (iI (prs (V 36) (V 0 7) (skS (V 36) (V 0 7) 0)).2))] []
        rw [u2_n (show (36 : Nat) ≠ 0 by decide), u2_n (show (1 : Nat) ≠ 0 by decide), hle] at hq62_1
        have hn1 : n ≤ n1_62 := by rw [hq62_0]; exact Nat.le_add_right _ _
        have hn2 : 67 ≤ n1_62 := by omega
        have hLR2 := LR_fr (a := 1) (by omega) hLR hq62_1.2.2.1
        refine x_aload_n C 0 dX11_text_65 rfl rfl ?_
        refine x_getr C ok_Class 0 3 (d := 11) dX11_text_66 (by omega) rfl (by decide) rfl q_0_22 rfl (kz := 3) rfl (by exact (lr_0_3 hLR2)) ?_
        refine x_iconst C dX11_text_69 ?_
        refine x_puti C ok_Saw 11 0 dX11_text_70 (by omega) rfl (by decide) rfl q_5_3 rfl rfl (Or.inr ⟨rfl, by first | exact Or.inl rfl | exact Or.inr rfl | omega⟩) (by first | assumption | (constructor <;> omega)) (kz := 0) rfl ?_
        refine x_aload_n C 0 dX11_text_73 rfl rfl ?_
        refine x_getr C ok_Class 0 0 (d := 1) dX11_text_74 (by omega) rfl (by decide) rfl q_0_16 rfl (kz := 0) rfl (by exact (lr_0_0 hLR2)) ?_
        refine x_geti C ok_Yard 1 5 dX11_text_77 (by omega) rfl (by decide) rfl q_8_5 rfl (kz := 5) rfl (fun rg77 => ?_)
        refine x_top (b := (V1_62 1 5)) (by first | rfl | (simp only [u2_at]; simp) | (simp only [u2_at]; first | (rw [if_neg (by omega)]) | omega) | (repeat rw [u2_at, if_neg (by omega)])) ?_
        refine x_wid (cells' := 8) (slots' := 24) (by first | decide | omega) (by first | decide | omega) ?_
        refine x_iret C dX11_text_80 ⟨_, _, _, _, rfl, rfl, ?_⟩
        · exact Or.inr (Or.inr (Or.inr ⟨by omega, h31x, by omega, hq62_1.1, hn1, fun q a b c d => (by rw [u2_n d, hq62_1.2.1.1 q a c, u2_n b]), fun z a => (by rw [u2_n (by decide), hq62_1.2.1.1 0 (by omega) (by decide), u2_at, if_neg (by omega)]), (by rw [u2_n (by decide), hq62_1.2.1.1 0 (by omega) (by decide), u2_s, u1_s]), fun z a => (by rw [u2_n (by decide)]; exact hq62_1.2.1.2 z a), fun z a => (by rw [u2_at, if_neg (by omega), hq62_1.2.1.1 11 (by omega) (by decide), u2_n (by decide)]), (by rw [u2_s, u1_s]), (by rw [u2_n (by decide)]), hq62_1.2.2.1, fun x a => hq62_1.2.2.2.1 x (a.imp_right fun b => Int.le_trans (Int.le_of_eq hq62_1.1.symm) b), ro_fr hq62_1.2.2.2.2 (by omega), hlg⟩))
      · skip
        refine x_bipush C dX11_text_57 (w := -4) (by decide) ?_
        refine x_wid (cells' := 8) (slots' := 24) (by first | decide | omega) (by first | decide | omega) ?_
        refine x_iret C dX11_text_59 ⟨_, _, _, _, rfl, rfl, ?_⟩
        · exact Or.inr (Or.inr (Or.inl ⟨by omega, h31x, by omega, rfl, rfl, rfl, rfl⟩))
    · skip
      refine x_bipush C dX11_text_34 (w := -100) (by decide) ?_
      refine x_iload_n C 2 dX11_text_36 rfl rfl ?_
      refine x_isub C dX11_text_37 ?_
      refine x_wid (cells' := 8) (slots' := 24) (by first | decide | omega) (by first | decide | omega) ?_
      refine x_iret C dX11_text_38 ⟨_, _, _, _, rfl, rfl, ?_⟩
      · exact Or.inr (Or.inl ⟨by omega, by omega, rfl, rfl, rfl, rfl⟩)
  · skip
    refine x_bipush C dX11_text_10 (w := -3) (by decide) ?_
    refine x_wid (cells' := 8) (slots' := 24) (by first | decide | omega) (by first | decide | omega) ?_
    refine x_iret C dX11_text_12 ⟨_, _, _, _, rfl, rfl, ?_⟩
    · exact Or.inl ⟨by omega, rfl, rfl, rfl, rfl⟩
