
set_option maxRecDepth 100000 in
set_option maxHeartbeats 4000000 in
theorem m_X11_itemsOf (G : GS) (n : Nat) (V : Nat → Int → Int) (R : Nat → Int → Option Nat) (m : Int) (hn : 67 ≤ n) (hLR : LR R) (hm : 0 ≤ m ∧ m ≤ 40) (hby : ∀ z, 0 ≤ z → z < m → 0 ≤ V 36 z ∧ V 36 z ≤ 255) : Cn G yX11_itemsOf cX11_itemsOf 4 (some .int) (rmk 6 0 0 127) [.ref (aG G 0), .int (iI m)] n V R 0 0 (fun vv uu => vv = some (.int (iI ((lts (V 36) 0 m).length : Int))) ∧ uu = (n, V, R)) := by
  refine Cn.of (by decide) (Nat.le_of_ble_eq_true rfl) (fun K C hct => ?_)
  show Xw K G 0 0 _ n V R 0 [(0, .ref (aG G 0)), (1, .int (iI m))] []
  refine x_iconst C dX11_itemsOf_0 ?_
  refine x_istore_n C dX11_itemsOf_1 rfl (by decide) (lv' := [(0, .ref (aG G 0)), (1, .int (iI m)), (2, .int (iI 0))]) rfl ?_
  refine x_iconst C dX11_itemsOf_2 ?_
  refine x_istore_n C dX11_itemsOf_3 rfl (by decide) (lv' := [(0, .ref (aG G 0)), (1, .int (iI m)), (2, .int (iI 0)), (3, .int (iI 0))]) rfl ?_
  have lp_4 : ∀ (fuel : Nat) (w : Int) (j : Int), (0 ≤ j ∧ j ≤ m) → (w = ((lts (V 36) 0 j).length : Int)) → (m + 1 - j) < (fuel : Int) → Xw K G 0 0 (EndQ K G 0 0 (fun vv uu => vv = some (.int (iI ((lts (V 36) 0 m).length : Int))) ∧ uu = (n, V, R))) n V R 4 [(0, .ref (aG G 0)), (1, .int (iI m)), (2, .int (iI w)), (3, .int (iI j))] [] := by
    intro fuel4
    induction fuel4 with
    | zero => intro w j hj hw hfu4; exfalso; omega
    | succ fuel4 ih4 =>
      intro w j hj hw hfu4
      refine x_iload_n C 3 dX11_itemsOf_4 rfl rfl ?_
      refine x_iload_n C 1 dX11_itemsOf_5 rfl rfl ?_
      refine x_icmp_ge C dX11_itemsOf_6 (tgt := 36) (by decide) (by first | assumption | (constructor <;> omega)) (by first | assumption | (constructor <;> omega)) (fun h6 => ?_) (fun h6 => ?_)
      · skip
        refine x_iload_n C 2 dX11_itemsOf_36 rfl rfl ?_
        refine x_iret C dX11_itemsOf_37 ⟨congrArg (fun z => some (Value.int (iI z))) (by rw [hw, show j = m by omega]), rfl⟩
      · skip
        refine x_iload_n C 3 dX11_itemsOf_9 rfl rfl ?_
        refine x_bipush C dX11_itemsOf_10 (w := 40) (by decide) ?_
        refine x_icmp_ge C dX11_itemsOf_12 (tgt := 36) (by decide) (by first | assumption | (constructor <;> omega)) (by first | assumption | (constructor <;> omega)) (fun h12 => ?_) (fun h12 => ?_)
        · skip
          refine x_iload_n C 2 dX11_itemsOf_36 rfl rfl ?_
          refine x_iret C dX11_itemsOf_37 ⟨congrArg (fun z => some (Value.int (iI z))) (by rw [hw, show j = m by omega]), rfl⟩
        · skip
          have hbz := hby j hj.1 (by omega)
          have hkb := kbT_b (v := V 36 j)
          refine x_aload_n C 0 dX11_itemsOf_15 rfl rfl ?_
          refine x_getr C ok_Class 0 6 (d := 36) dX11_itemsOf_16 (lt67 hn rfl) rfl (by decide) rfl q_1_3 rfl (kz := 6) rfl (lr_0_6 hLR) ?_
          refine x_iload_n C 3 dX11_itemsOf_19 rfl rfl ?_
          refine x_iald C 36 dX11_itemsOf_20 (lt67 hn rfl) rfl (by refine ⟨?_, ?_⟩ <;> omega) (fun rg20 => ?_)
          refine x_runU (r_callS C (ce_X11_kindOf) (m_X11_kindOf G n V R (V 36 j) (by first | assumption | omega | decide)) dX11_itemsOf_21 q_8_20 q_8_21 rfl rfl ⟨Nat.le_of_ble_eq_true rfl, Nat.le_of_ble_eq_true rfl⟩ ⟨rfl, rfl⟩ ⟨Nat.le_of_ble_eq_true rfl, Nat.le_of_ble_eq_true rfl⟩ (Nat.le_of_ble_eq_true rfl)) (fun v21 u21 hp21 => ?_)
          obtain ⟨rfl, rfl⟩ := hp21
          show Xw K G 0 0 _ n V R 24 [(0, .ref (aG G 0)), (1, .int (iI m)), (2, .int (iI w)), (3, .int (iI j))] [.int (iI (kbT (V 36 j)))]
          refine x_if_lt C dX11_itemsOf_24 (tgt := 30) (by decide) (by first | assumption | (constructor <;> omega)) (fun h24 => ?_) (fun h24 => ?_)
          · skip
            refine x_iinc C 3 dX11_itemsOf_30 rfl (by decide) (lv' := [(0, .ref (aG G 0)), (1, .int (iI m)), (2, .int (iI w)), (3, .int (iI (j + 1)))]) rfl ?_
            refine x_goto C dX11_itemsOf_33 (tgt := 4) (by decide) ?_
            exact ih4 (w) ((j + 1)) (by omega) (by rw [lts_s hj.1, List.length_append]; first | (rw [if_pos (by omega)]; show w + 1 = ((_ + 1 : Nat) : Int); omega) | (rw [if_neg (by omega)]; show w = ((_ + 0 : Nat) : Int); omega)) (by omega)
          · skip
            refine x_iinc C 2 dX11_itemsOf_27 rfl (by decide) (lv' := [(0, .ref (aG G 0)), (1, .int (iI m)), (2, .int (iI (w + 1))), (3, .int (iI j))]) rfl ?_
            refine x_iinc C 3 dX11_itemsOf_30 rfl (by decide) (lv' := [(0, .ref (aG G 0)), (1, .int (iI m)), (2, .int (iI (w + 1))), (3, .int (iI (j + 1)))]) rfl ?_
            refine x_goto C dX11_itemsOf_33 (tgt := 4) (by decide) ?_
            exact ih4 ((w + 1)) ((j + 1)) (by omega) (by rw [lts_s hj.1, List.length_append]; first | (rw [if_pos (by omega)]; show w + 1 = ((_ + 1 : Nat) : Int); omega) | (rw [if_neg (by omega)]; show w = ((_ + 0 : Nat) : Int); omega)) (by omega)
  exact lp_4 ((m + 1 - 0).toNat + 1) (0) (0) (by omega) (by rfl) (by omega)
set_option maxRecDepth 100000 in
set_option maxHeartbeats 4000000 in
theorem m_X11_readItems (G : GS) (n : Nat) (V : Nat → Int → Int) (R : Nat → Int → Option Nat) (m : Int) (hn : 67 ≤ n) (hLR : LR R) (hm : 0 ≤ m ∧ m ≤ 40) (hby : ∀ z, 0 ≤ z → z < m → 0 ≤ V 36 z ∧ V 36 z ≤ 255) (hg : ∀ z, 0 ≤ z → z < m → 0 ≤ kbT (V 36 z) → z + 3 < m ∧ (48 ≤ V 36 (z + 1) ∧ V 36 (z + 1) ≤ 55) ∧ (48 ≤ V 36 (z + 2) ∧ V 36 (z + 2) ≤ 55) ∧ (49 ≤ V 36 (z + 3) ∧ V 36 (z + 3) ≤ 52)) (h5 : 0 ≤ V 1 5 ∧ V 1 5 + ((lts (V 36) 0 m).length : Int) ≤ 8) : Cn G yX11_readItems cX11_readItems 4 none (rmk 6 8 24 131) [.ref (aG G 0), .int (iI m)] n V R 8 24 (fun vv uu => ∃ (n1 : Nat), ∃ (V1 : Nat → Int → Int), ∃ (R1 : Nat → Int → Option Nat), vv = none ∧ uu = (n1, V1, R1) ∧ (n1 = n + (lts (V 36) 0 m).length) ∧ (V1 1 5 = V 1 5 + ((lts (V 36) 0 m).length : Int) ∧ ((∀ q, q < n → q ≠ 1 → V1 q = V q) ∧ (∀ z, z ≠ 5 → V1 1 z = V 1 z)) ∧ (∀ q, q ≠ 2 → R1 q = R q) ∧ (∀ x, x < V 1 5 ∨ V 1 5 + ((lts (V 36) 0 m).length : Int) ≤ x → R1 2 x = R 2 x) ∧ ∀ q : Int, 0 ≤ q → q < ((lts (V 36) 0 m).length : Int) → ∃ c, R1 2 (V 1 5 + q) = some c ∧ n ≤ c ∧ c < n1 ∧ V1 c 3 = kbT (V 36 (lat (lts (V 36) 0 m) q)) ∧ V1 c 0 = V 36 ((lat (lts (V 36) 0 m) q) + 1) - 48 ∧ V1 c 1 = V 36 ((lat (lts (V 36) 0 m) q) + 2) - 48 ∧ V1 c 2 = V 36 ((lat (lts (V 36) 0 m) q) + 3) - 48)) := by
  refine Cn.of (by decide) (Nat.le_of_ble_eq_true rfl) (fun K C hct => ?_)
  show Xw K G 0 0 _ n V R 0 [(0, .ref (aG G 0)), (1, .int (iI m))] []
  refine x_iconst C dX11_readItems_0 ?_
  refine x_istore_n C dX11_readItems_1 rfl (by decide) (lv' := [(0, .ref (aG G 0)), (1, .int (iI m)), (2, .int (iI 0))]) rfl ?_
  have lp_2 : ∀ (fuel : Nat) (j : Int) (n2 : Nat) (V2 : Nat → Int → Int) (R2 : Nat → Int → Option Nat) (cc : Nat) (ss : Nat), (0 ≤ j ∧ j ≤ m) → (cc = (lts (V 36) 0 j).length ∧ ss = 3 * (lts (V 36) 0 j).length ∧ n2 = n + (lts (V 36) 0 j).length ∧ (lts (V 36) 0 j).length ≤ (lts (V 36) 0 m).length) → (V2 1 5 = V 1 5 + ((lts (V 36) 0 j).length : Int) ∧ ((∀ q, q < n → q ≠ 1 → V2 q = V q) ∧ (∀ z, z ≠ 5 → V2 1 z = V 1 z)) ∧ (∀ q, q ≠ 2 → R2 q = R q) ∧ (∀ x, x < V 1 5 ∨ V 1 5 + ((lts (V 36) 0 j).length : Int) ≤ x → R2 2 x = R 2 x) ∧ ∀ q : Int, 0 ≤ q → q < ((lts (V 36) 0 j).length : Int) → ∃ c, R2 2 (V 1 5 + q) = some c ∧ n ≤ c ∧ c < n2 ∧ V2 c 3 = kbT (V 36 (lat (lts (V 36) 0 j) q)) ∧ V2 c 0 = V 36 ((lat (lts (V 36) 0 j) q) + 1) - 48 ∧ V2 c 1 = V 36 ((lat (lts (V 36) 0 j) q) + 2) - 48 ∧ V2 c 2 = V 36 ((lat (lts (V 36) 0 j) q) + 3) - 48) → (m + 1 - j) < (fuel : Int) → Xw K G cc ss (EndQ K G 8 24 (fun vv uu => ∃ (n1 : Nat), ∃ (V1 : Nat → Int → Int), ∃ (R1 : Nat → Int → Option Nat), vv = none ∧ uu = (n1, V1, R1) ∧ (n1 = n + (lts (V 36) 0 m).length) ∧ (V1 1 5 = V 1 5 + ((lts (V 36) 0 m).length : Int) ∧ ((∀ q, q < n → q ≠ 1 → V1 q = V q) ∧ (∀ z, z ≠ 5 → V1 1 z = V 1 z)) ∧ (∀ q, q ≠ 2 → R1 q = R q) ∧ (∀ x, x < V 1 5 ∨ V 1 5 + ((lts (V 36) 0 m).length : Int) ≤ x → R1 2 x = R 2 x) ∧ ∀ q : Int, 0 ≤ q → q < ((lts (V 36) 0 m).length : Int) → ∃ c, R1 2 (V 1 5 + q) = some c ∧ n ≤ c ∧ c < n1 ∧ V1 c 3 = kbT (V 36 (lat (lts (V 36) 0 m) q)) ∧ V1 c 0 = V 36 ((lat (lts (V 36) 0 m) q) + 1) - 48 ∧ V1 c 1 = V 36 ((lat (lts (V 36) 0 m) q) + 2) - 48 ∧ V1 c 2 = V 36 ((lat (lts (V 36) 0 m) q) + 3) - 48))) n2 V2 R2 2 [(0, .ref (aG G 0)), (1, .int (iI m)), (2, .int (iI j))] [] := by
    intro fuel2
    induction fuel2 with
    | zero => intro j n2 V2 R2 cc ss hj hcc hR hfu2; exfalso; omega
    | succ fuel2 ih2 =>
      intro j n2 V2 R2 cc ss hj hcc hR hfu2
      have hLR2 := LR_fr (a := 1) (by omega) hLR hR.2.2.1
      have hn2 : 67 ≤ n2 := by omega
      have htn2 := tb_dyn hn2
      refine x_iload_n C 2 dX11_readItems_2 rfl rfl ?_
      refine x_iconst C dX11_readItems_3 ?_
      refine x_iadd C dX11_readItems_4 ?_
      refine x_iload_n C 1 dX11_readItems_5 rfl rfl ?_
      refine x_icmp_ge C dX11_readItems_6 (tgt := 81) (by decide) (by first | assumption | (constructor <;> omega)) (by first | assumption | (constructor <;> omega)) (fun h6 => ?_) (fun h6 => ?_)
      · skip
        refine x_wid (cells' := 8) (slots' := 24) (by first | decide | omega) (by first | decide | omega) ?_
        refine x_vret C dX11_readItems_81 ⟨_, _, _, rfl, rfl, ?_, ?_⟩
        · rw [lts_end (b := j) (by omega) hg (by omega)]; exact hcc.2.2.1
        · rw [lts_end (b := j) (by omega) hg (by omega)]; exact hR
      · skip
        refine x_iload_n C 2 dX11_readItems_9 rfl rfl ?_
        refine x_iconst C dX11_readItems_10 ?_
        refine x_iadd C dX11_readItems_11 ?_
        refine x_bipush C dX11_readItems_12 (w := 40) (by decide) ?_
        refine x_icmp_ge C dX11_readItems_14 (tgt := 81) (by decide) (by first | assumption | (constructor <;> omega)) (by first | assumption | (constructor <;> omega)) (fun h14 => ?_) (fun h14 => ?_)
        · skip
          refine x_wid (cells' := 8) (slots' := 24) (by first | decide | omega) (by first | decide | omega) ?_
          refine x_vret C dX11_readItems_81 ⟨_, _, _, rfl, rfl, ?_, ?_⟩
          · rw [lts_end (b := j) (by omega) hg (by omega)]; exact hcc.2.2.1
          · rw [lts_end (b := j) (by omega) hg (by omega)]; exact hR
        · skip
          have hbz := hby j hj.1 (by omega)
          have hkb := kbT_b (v := V 36 j)
          have e36 : V2 36 = V 36 := hR.2.1.1 36 (by omega) (by decide)
          refine x_aload_n C 0 dX11_readItems_17 rfl rfl ?_
          refine x_getr C ok_Class 0 6 (d := 36) dX11_readItems_18 (by omega) rfl (by decide) rfl q_1_3 rfl (kz := 6) rfl (by exact (lr_0_6 hLR2)) ?_
          refine x_iload_n C 2 dX11_readItems_21 rfl rfl ?_
          refine x_iald C 36 dX11_readItems_22 (by omega) rfl (by refine ⟨?_, ?_⟩ <;> omega) (fun rg22 => ?_)
          refine x_top (b := (V 36 j)) (by rw [e36]) ?_
          refine x_runU (r_callS C (ce_X11_kindOf) (m_X11_kindOf G n2 V2 R2 (V 36 j) (by first | assumption | omega | decide)) dX11_readItems_23 q_8_20 q_8_21 rfl rfl ⟨Nat.le_of_ble_eq_true rfl, Nat.le_of_ble_eq_true rfl⟩ ⟨rfl, rfl⟩ ⟨(show cc + 0 ≤ 8 from by omega), (show ss + 0 ≤ 24 from by omega)⟩ (Nat.le_of_ble_eq_true rfl)) (fun v23 u23 hp23 => ?_)
          obtain ⟨rfl, rfl⟩ := hp23
          show Xw K G cc ss _ n2 V2 R2 26 [(0, .ref (aG G 0)), (1, .int (iI m)), (2, .int (iI j))] [.int (iI (kbT (V 36 j)))]
          refine x_istore_n C dX11_readItems_26 rfl (by decide) (lv' := [(0, .ref (aG G 0)), (1, .int (iI m)), (2, .int (iI j)), (3, .int (iI (kbT (V 36 j))))]) rfl ?_
          refine x_iload_n C 3 dX11_readItems_27 rfl rfl ?_
          refine x_if_lt C dX11_readItems_28 (tgt := 75) (by decide) (by first | assumption | (constructor <;> omega)) (fun h28 => ?_) (fun h28 => ?_)
          · skip
            refine x_iinc C 2 dX11_readItems_75 rfl (by decide) (lv' := [(0, .ref (aG G 0)), (1, .int (iI m)), (2, .int (iI (j + 1))), (3, .int (iI (kbT (V 36 j))))]) rfl ?_
            refine x_goto C dX11_readItems_78 (tgt := 2) (by decide) ?_
            refine x_sub [0, 1, 2] (lv' := [(0, .ref (aG G 0)), (1, .int (iI m)), (2, .int (iI (j + 1)))]) rfl ?_
            exact ih2 ((j + 1)) (n2) (V2) (R2) (cc) (ss) (by omega) (by first | exact ⟨by omega, by omega, by omega, by omega⟩ | (rw [lts_n hj.1 (by omega)]; exact hcc)) (by first | exact ri_st hR hq69_0 e1 hls hj.1 hgd (by omega) | (rw [lts_n hj.1 (by omega)]; exact hR)) (by omega)
          · skip
            have hgd := hg j hj.1 (by omega) (by omega)
            have hls := lts_s (T := V 36) hj.1
            rw [if_pos (by omega)] at hls
            have hll : (lts (V 36) 0 (j + 1)).length = (lts (V 36) 0 j).length + 1 := by rw [hls, List.length_append]; rfl
            have hmo := lts_mono (T := V 36) (a := 0) (b := j + 1) (c := m) (by omega) (by omega)
            refine x_aload_n C 0 dX11_readItems_31 rfl rfl ?_
            refine x_getr C ok_Class 0 0 (d := 1) dX11_readItems_32 (by omega) rfl (by decide) rfl q_0_16 rfl (kz := 0) rfl (by exact (lr_0_0 hLR2)) ?_
            refine x_iload_n C 3 dX11_readItems_35 rfl rfl ?_
            refine x_aload_n C 0 dX11_readItems_36 rfl rfl ?_
            refine x_getr C ok_Class 0 6 (d := 36) dX11_readItems_37 (by omega) rfl (by decide) rfl q_1_3 rfl (kz := 6) rfl (by exact (lr_0_6 hLR2)) ?_
            refine x_iload_n C 2 dX11_readItems_40 rfl rfl ?_
            refine x_iconst C dX11_readItems_41 ?_
            refine x_iadd C dX11_readItems_42 ?_
            refine x_iald C 36 dX11_readItems_43 (by omega) rfl (by refine ⟨?_, ?_⟩ <;> omega) (fun rg43 => ?_)
            refine x_top (b := (V 36 (j + 1))) (by rw [e36]) ?_
            refine x_bipush C dX11_readItems_44 (w := 48) (by decide) ?_
            refine x_isub C dX11_readItems_46 ?_
            refine x_aload_n C 0 dX11_readItems_47 rfl rfl ?_
            refine x_getr C ok_Class 0 6 (d := 36) dX11_readItems_48 (by omega) rfl (by decide) rfl q_1_3 rfl (kz := 6) rfl (by exact (lr_0_6 hLR2)) ?_
            refine x_iload_n C 2 dX11_readItems_51 rfl rfl ?_
            refine x_iconst C dX11_readItems_52 ?_
            refine x_iadd C dX11_readItems_53 ?_
            refine x_iald C 36 dX11_readItems_54 (by omega) rfl (by refine ⟨?_, ?_⟩ <;> omega) (fun rg54 => ?_)
            refine x_top (b := (V 36 (j + 2))) (by rw [e36]) ?_
            refine x_bipush C dX11_readItems_55 (w := 48) (by decide) ?_
            refine x_isub C dX11_readItems_57 ?_
            refine x_aload_n C 0 dX11_readItems_58 rfl rfl ?_
            refine x_getr C ok_Class 0 6 (d := 36) dX11_readItems_59 (by omega) rfl (by decide) rfl q_1_3 rfl (kz := 6) rfl (by exact (lr_0_6 hLR2)) ?_
            refine x_iload_n C 2 dX11_readItems_62 rfl rfl ?_
            refine x_iconst C dX11_readItems_63 ?_
            refine x_iadd C dX11_readItems_64 ?_
            refine x_iald C 36 dX11_readItems_65 (by omega) rfl (by refine ⟨?_, ?_⟩ <;> omega) (fun rg65 => ?_)
            refine x_top (b := (V 36 (j + 3))) (by rw [e36]) ?_
            refine x_bipush C dX11_readItems_66 (w := 48) (by decide) ?_
            refine x_isub C dX11_readItems_68 ?_
            refine x_runU (r_callS C (ce_X11_newFault) (m_X11_newFault G n2 V2 R2 (kbT (V 36 j)) ((V 36 (j + 1)) - 48) ((V 36 (j + 2)) - 48) ((V 36 (j + 3)) - 48) (by omega) (by exact hLR2) (by first | assumption | omega | decide) (by first | assumption | omega | decide) (by first | assumption | omega | decide) (by first | assumption | omega | decide)) dX11_readItems_69 q_12_21 q_12_22 rfl rfl ⟨Nat.le_of_ble_eq_true rfl, Nat.le_of_ble_eq_true rfl⟩ ⟨rfl, rfl⟩ ⟨(show cc + 1 ≤ 8 from by omega), (show ss + 3 ≤ 24 from by omega)⟩ (Nat.le_of_ble_eq_true rfl)) (fun v69 u69 hp69 => ?_)
            obtain ⟨V1_69, rfl, rfl, hq69_0⟩ := hp69
            show Xw K G (cc + 1) (ss + 3) _ (n2 + 1) V1_69 R2 72 [(0, .ref (aG G 0)), (1, .int (iI m)), (2, .int (iI j)), (3, .int (iI (kbT (V 36 j))))] [.ref (aG G n2), .ref (aG G 1)]
            have e1 : V1_69 1 = V2 1 := hq69_0.2.2.2.2 1 (by omega)
            refine x_runU (r_callV C ok_Yard 1 (by omega) rfl (ce_X10_addFault) (m_X10_addFault G (n2 + 1) V1_69 R2 (1) (n2) (by omega) (by exact hLR2) (by first | assumption | omega | decide) (by first | assumption | omega | decide) (by first | assumption | omega | decide) (by rw [e1]; omega)) rfl dX11_readItems_72 q_15_8 q_15_9 q_15_10 rfl rfl ⟨Nat.le_of_ble_eq_true rfl, Nat.le_of_ble_eq_true rfl⟩ ⟨rfl, rfl⟩ ⟨(show (cc + 1) + 0 ≤ 8 from by omega), (show (ss + 3) + 0 ≤ 24 from by omega)⟩ (Nat.le_of_ble_eq_true rfl)) (fun v72 u72 hp72 => ?_)
            obtain ⟨rfl, rfl⟩ := hp72
            show Xw K G (cc + 1) (ss + 3) _ (n2 + 1) (u2 V1_69 1 5 (V1_69 1 5 + 1)) (u2 R2 (1 + 1) (V1_69 1 5) (some n2)) 75 [(0, .ref (aG G 0)), (1, .int (iI m)), (2, .int (iI j)), (3, .int (iI (kbT (V 36 j))))] []
            refine x_iinc C 2 dX11_readItems_75 rfl (by decide) (lv' := [(0, .ref (aG G 0)), (1, .int (iI m)), (2, .int (iI (j + 1))), (3, .int (iI (kbT (V 36 j))))]) rfl ?_
            refine x_goto C dX11_readItems_78 (tgt := 2) (by decide) ?_
            refine x_sub [0, 1, 2] (lv' := [(0, .ref (aG G 0)), (1, .int (iI m)), (2, .int (iI (j + 1)))]) rfl ?_
            exact ih2 ((j + 1)) ((n2 + 1)) ((u2 V1_69 1 5 (V1_69 1 5 + 1))) ((u2 R2 (1 + 1) (V1_69 1 5) (some n2))) ((cc + 1)) ((ss + 3)) (by omega) (by first | exact ⟨by omega, by omega, by omega, by omega⟩ | (rw [lts_n hj.1 (by omega)]; exact hcc)) (by first | exact ri_st hR hq69_0 e1 hls hj.1 hgd (by omega) | (rw [lts_n hj.1 (by omega)]; exact hR)) (by omega)
  exact lp_2 ((m + 1 - 0).toNat + 1) (0) (n) (V) (R) (0) (0) (by omega) (by exact ⟨rfl, rfl, rfl, Nat.zero_le _⟩) (by exact ⟨by show _ = _ + ((0 : Nat) : Int); omega, ⟨fun _ _ _ => rfl, fun _ _ => rfl⟩, fun _ _ => rfl, fun _ _ => rfl, fun q a b => absurd b (by show ¬ q < ((0 : Nat) : Int); omega)⟩) (by omega)
