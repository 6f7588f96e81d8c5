
set_option maxRecDepth 100000 in
set_option maxHeartbeats 4000000 in
theorem m_X12_in (G : GS) (n : Nat) (V : Nat → Int → Int) (R : Nat → Int → Option Nat) (v : Int) (lo : Int) (hi : Int) (hv : Rl v) (hlo : Rl lo) (hhi : Rl hi) : Cn G yX12_in cX12_in 6 (some .boolean) (rmk 1 0 0 16) [.long (jI v), .long (jI lo), .long (jI hi)] n V R 0 0 (fun vv uu => vv = some (.int (iI (bI (lo ≤ v ∧ v ≤ hi)))) ∧ uu = (n, V, R)) := by
  refine Cn.of (by decide) (Nat.le_of_ble_eq_true rfl) (fun K C hct => ?_)
  show Xw K G 0 0 _ n V R 0 [(0, .long (jI v)), (2, .long (jI lo)), (4, .long (jI hi))] []
  refine x_lload_n C 0 dX12_in_0 rfl rfl ?_
  refine x_lload_n C 1 dX12_in_1 rfl rfl ?_
  refine x_lcmp C dX12_in_2 (by first | assumption | (constructor <;> omega)) (by first | assumption | (constructor <;> omega)) ?_
  refine x_zcmp_lt C dX12_in_3 (tgt := 17) (by decide) (fun h3 => ?_) (fun h3 => ?_)
  · skip
    refine x_iconst C dX12_in_17 ?_
    refine x_zret C (Or.inl rfl) dX12_in_18 ⟨bI_rf (by omega), rfl⟩
  · skip
    refine x_lload_n C 0 dX12_in_6 rfl rfl ?_
    refine x_lload C 2 dX12_in_7 rfl ?_
    refine x_lcmp C dX12_in_9 (by first | assumption | (constructor <;> omega)) (by first | assumption | (constructor <;> omega)) ?_
    refine x_zcmp_gt C dX12_in_10 (tgt := 17) (by decide) (fun h10 => ?_) (fun h10 => ?_)
    · skip
      refine x_iconst C dX12_in_17 ?_
      refine x_zret C (Or.inl rfl) dX12_in_18 ⟨bI_rf (by omega), rfl⟩
    · skip
      refine x_iconst C dX12_in_13 ?_
      refine x_goto C dX12_in_14 (tgt := 18) (by decide) ?_
      refine x_zret C (Or.inr rfl) dX12_in_18 ⟨bI_rt (by omega), rfl⟩
set_option maxRecDepth 100000 in
set_option maxHeartbeats 4000000 in
theorem m_X11_within (G : GS) (n : Nat) (V : Nat → Int → Int) (R : Nat → Int → Option Nat) (v : Int) (lo : Int) (hi : Int) (hv : Rg v) (hlo : Rg lo) (hhi : Rg hi) : Cn G yX11_within cX11_within 3 (some .boolean) (rmk 1 0 0 16) [.int (iI v), .int (iI lo), .int (iI hi)] n V R 0 0 (fun vv uu => vv = some (.int (iI (bI (lo ≤ v ∧ v ≤ hi)))) ∧ uu = (n, V, R)) := by
  refine Cn.of (by decide) (Nat.le_of_ble_eq_true rfl) (fun K C hct => ?_)
  show Xw K G 0 0 _ n V R 0 [(0, .int (iI v)), (1, .int (iI lo)), (2, .int (iI hi))] []
  refine x_iload_n C 0 dX11_within_0 rfl rfl ?_
  refine x_iload_n C 1 dX11_within_1 rfl rfl ?_
  refine x_icmp_lt C dX11_within_2 (tgt := 14) (by decide) (by first | assumption | (constructor <;> omega)) (by first | assumption | (constructor <;> omega)) (fun h2 => ?_) (fun h2 => ?_)
  · skip
    refine x_iconst C dX11_within_14 ?_
    refine x_zret C (Or.inl rfl) dX11_within_15 ⟨bI_rf (by omega), rfl⟩
  · skip
    refine x_iload_n C 0 dX11_within_5 rfl rfl ?_
    refine x_iload_n C 2 dX11_within_6 rfl rfl ?_
    refine x_icmp_gt C dX11_within_7 (tgt := 14) (by decide) (by first | assumption | (constructor <;> omega)) (by first | assumption | (constructor <;> omega)) (fun h7 => ?_) (fun h7 => ?_)
    · skip
      refine x_iconst C dX11_within_14 ?_
      refine x_zret C (Or.inl rfl) dX11_within_15 ⟨bI_rf (by omega), rfl⟩
    · skip
      refine x_iconst C dX11_within_10 ?_
      refine x_goto C dX11_within_11 (tgt := 15) (by decide) ?_
      refine x_zret C (Or.inr rfl) dX11_within_15 ⟨bI_rt (by omega), rfl⟩
set_option maxRecDepth 100000 in
set_option maxHeartbeats 4000000 in
theorem m_X11_fromMiddle (G : GS) (n : Nat) (V : Nat → Int → Int) (R : Nat → Int → Option Nat) (x : Int) : Cn G yX11_fromMiddle cX11_fromMiddle 1 (some .int) (rmk 1 0 0 16) [.int (iI x)] n V R 0 0 (fun vv uu => vv = some (.int (iI (2 * x - 11))) ∧ uu = (n, V, R)) := by
  refine Cn.of (by decide) (Nat.le_of_ble_eq_true rfl) (fun K C hct => ?_)
  show Xw K G 0 0 _ n V R 0 [(0, .int (iI x))] []
  refine x_iconst C dX11_fromMiddle_0 ?_
  refine x_iload_n C 0 dX11_fromMiddle_1 rfl rfl ?_
  refine x_imul C dX11_fromMiddle_2 ?_
  refine x_bipush C dX11_fromMiddle_3 (w := 11) (by decide) ?_
  refine x_isub C dX11_fromMiddle_5 ?_
  refine x_iret C dX11_fromMiddle_6 ⟨congrArg (fun z => some (Value.int (iI z))) (by omega), rfl⟩
set_option maxRecDepth 100000 in
set_option maxHeartbeats 4000000 in
theorem m_X12_thick (G : GS) (n : Nat) (V : Nat → Int → Int) (R : Nat → Int → Option Nat) (i : Int) (hn : 67 ≤ n) (hLR : LR R) (h0 : 0 ≤ i ∧ i ≤ 7) (h1 : 0 ≤ V 42 0 ∧ V 42 0 ≤ 6) (h2 : 0 ≤ V 42 1 ∧ V 42 1 ≤ 4) : Cn G yX12_thick cX12_thick 2 (some .int) (rmk 1 0 0 16) [.ref (aG G 42), .int (iI i)] n V R 0 0 (fun vv uu => vv = some (.int (iI (max 1 (V 42 0 - V 42 1 * i / 4)))) ∧ uu = (n, V, R)) := by
  refine Cn.of (by decide) (Nat.le_of_ble_eq_true rfl) (fun K C hct => ?_)
  show Xw K G 0 0 _ n V R 0 [(0, .ref (aG G 42)), (1, .int (iI i))] []
  have hm := mul_bd h2 h0
  refine x_iconst C dX12_thick_0 ?_
  refine x_aload_n C 0 dX12_thick_1 rfl rfl ?_
  refine x_geti C ok_Model 42 0 dX12_thick_2 (lt67 hn rfl) rfl (by decide) rfl q_6_10 rfl (kz := 0) rfl (fun rg2 => ?_)
  refine x_aload_n C 0 dX12_thick_5 rfl rfl ?_
  refine x_geti C ok_Model 42 1 dX12_thick_6 (lt67 hn rfl) rfl (by decide) rfl q_6_11 rfl (kz := 1) rfl (fun rg6 => ?_)
  refine x_iload_n C 1 dX12_thick_9 rfl rfl ?_
  refine x_imul C dX12_thick_10 ?_
  refine x_iconst C dX12_thick_11 ?_
  refine x_idiv C dX12_thick_12 (by first | assumption | (constructor <;> omega)) (by first | assumption | (constructor <;> omega)) (by omega) (by omega) ?_
  refine x_isub C dX12_thick_13 ?_
  refine x_max C dX12_thick_14 q_7_6 q_5_21 q_5_22 q_5_23 ⟨Nat.le_of_ble_eq_true rfl, Nat.le_of_ble_eq_true rfl⟩ ⟨Nat.zero_le _, Nat.zero_le _⟩ (by first | assumption | (constructor <;> omega)) (by first | assumption | (constructor <;> omega)) ?_
  refine x_iret C dX12_thick_17 ⟨congrArg (fun z => some (Value.int (iI z))) (by omega), rfl⟩
set_option maxRecDepth 100000 in
set_option maxHeartbeats 4000000 in
theorem m_X12_isWood (G : GS) (n : Nat) (V : Nat → Int → Int) (R : Nat → Int → Option Nat) (x : Int) (y : Int) (s : Int) (hn : 67 ≤ n) (hLR : LR R) (hx : 0 ≤ x ∧ x ≤ 11) (hy : 0 ≤ y ∧ y ≤ 11) (h0 : 0 ≤ s ∧ s ≤ 7) (h1 : 0 ≤ V 42 0 ∧ V 42 0 ≤ 6) (h2 : 0 ≤ V 42 1 ∧ V 42 1 ≤ 4) : Cn G yX12_isWood cX12_isWood 7 (some .boolean) (rmk 2 0 0 37) [.ref (aG G 42), .int (iI x), .int (iI y), .int (iI s)] n V R 0 0 (fun vv uu => vv = some (.int (iI (bI (woodP (V 42 0) (V 42 1) x y s)))) ∧ uu = (n, V, R)) := by
  refine Cn.of (by decide) (Nat.le_of_ble_eq_true rfl) (fun K C hct => ?_)
  show Xw K G 0 0 _ n V R 0 [(0, .ref (aG G 42)), (1, .int (iI x)), (2, .int (iI y)), (3, .int (iI s))] []
  have hm := mul_bd h2 h0
  obtain ⟨T, hT⟩ : ∃ T, T = max 1 (V 42 0 - V 42 1 * s / 4) := ⟨_, rfl⟩
  have hT2 : 1 ≤ T ∧ T ≤ 6 := by omega
  have e1 := sq_bd (a := (2 * x) - 11) (A := 11) (by omega)
  have e2 := sq_bd (a := (2 * y) - 11) (A := 11) (by omega)
  have e3 := sq_bd (a := 2 * T) (A := 12) (by omega)
  refine x_iconst C dX12_isWood_0 ?_
  refine x_iload_n C 1 dX12_isWood_1 rfl rfl ?_
  refine x_imul C dX12_isWood_2 ?_
  refine x_bipush C dX12_isWood_3 (w := 11) (by decide) ?_
  refine x_isub C dX12_isWood_5 ?_
  refine x_istore C dX12_isWood_6 (by decide) (lv' := [(0, .ref (aG G 42)), (1, .int (iI x)), (2, .int (iI y)), (3, .int (iI s)), (4, .int (iI ((2 * x) - 11)))]) rfl ?_
  refine x_iconst C dX12_isWood_8 ?_
  refine x_iload_n C 2 dX12_isWood_9 rfl rfl ?_
  refine x_imul C dX12_isWood_10 ?_
  refine x_bipush C dX12_isWood_11 (w := 11) (by decide) ?_
  refine x_isub C dX12_isWood_13 ?_
  refine x_istore C dX12_isWood_14 (by decide) (lv' := [(0, .ref (aG G 42)), (1, .int (iI x)), (2, .int (iI y)), (3, .int (iI s)), (4, .int (iI ((2 * x) - 11))), (5, .int (iI ((2 * y) - 11)))]) rfl ?_
  refine x_iconst C dX12_isWood_16 ?_
  refine x_aload_n C 0 dX12_isWood_17 rfl rfl ?_
  refine x_iload_n C 3 dX12_isWood_18 rfl rfl ?_
  refine x_runU (r_callV C ok_Model 42 (lt67 hn rfl) rfl (ce_X12_thick) (m_X12_thick G n V R (s) hn hLR (by first | assumption | omega | decide) (by first | assumption | omega | decide) (by first | assumption | omega | decide)) rfl dX12_isWood_19 q_7_2 q_7_3 q_7_4 rfl rfl ⟨Nat.le_of_ble_eq_true rfl, Nat.le_of_ble_eq_true rfl⟩ ⟨rfl, rfl⟩ ⟨Nat.le_of_ble_eq_true rfl, Nat.le_of_ble_eq_true rfl⟩ (Nat.le_of_ble_eq_true rfl)) (fun v19 u19 hp19 => ?_)
  obtain ⟨rfl, rfl⟩ := hp19
  show Xw K G 0 0 _ n V R 22 [(0, .ref (aG G 42)), (1, .int (iI x)), (2, .int (iI y)), (3, .int (iI s)), (4, .int (iI ((2 * x) - 11))), (5, .int (iI ((2 * y) - 11)))] [.int (iI (max 1 (V 42 0 - V 42 1 * s / 4))), .int (iI 2)]
  refine x_top (b := T) (by exact hT.symm) ?_
  refine x_imul C dX12_isWood_22 ?_
  refine x_istore C dX12_isWood_23 (by decide) (lv' := [(0, .ref (aG G 42)), (1, .int (iI x)), (2, .int (iI y)), (3, .int (iI s)), (4, .int (iI ((2 * x) - 11))), (5, .int (iI ((2 * y) - 11))), (6, .int (iI (2 * T)))]) rfl ?_
  refine x_iload C 4 dX12_isWood_25 rfl ?_
  refine x_iload C 4 dX12_isWood_27 rfl ?_
  refine x_imul C dX12_isWood_29 ?_
  refine x_iload C 5 dX12_isWood_30 rfl ?_
  refine x_iload C 5 dX12_isWood_32 rfl ?_
  refine x_imul C dX12_isWood_34 ?_
  refine x_iadd C dX12_isWood_35 ?_
  refine x_iload C 6 dX12_isWood_36 rfl ?_
  refine x_iload C 6 dX12_isWood_38 rfl ?_
  refine x_imul C dX12_isWood_40 ?_
  refine x_icmp_gt C dX12_isWood_41 (tgt := 48) (by decide) (by first | assumption | (constructor <;> omega)) (by first | assumption | (constructor <;> omega)) (fun h41 => ?_) (fun h41 => ?_)
  · skip
    refine x_iconst C dX12_isWood_48 ?_
    refine x_zret C (Or.inl rfl) dX12_isWood_49 ⟨bI_rf (by unfold woodP; rw [← hT]; omega), rfl⟩
  · skip
    refine x_iconst C dX12_isWood_44 ?_
    refine x_goto C dX12_isWood_45 (tgt := 49) (by decide) ?_
    refine x_zret C (Or.inr rfl) dX12_isWood_49 ⟨bI_rt (by unfold woodP; rw [← hT]; omega), rfl⟩
set_option maxRecDepth 100000 in
set_option maxHeartbeats 4000000 in
theorem m_X12_wood (G : GS) (n : Nat) (V : Nat → Int → Int) (R : Nat → Int → Option Nat) (hn : 67 ≤ n) (hLR : LR R) (h1 : 0 ≤ V 42 0 ∧ V 42 0 ≤ 6) (h2 : 0 ≤ V 42 1 ∧ V 42 1 ≤ 4) (h3 : 0 ≤ V 42 2 ∧ V 42 2 ≤ 8) : Cn G yX12_wood cX12_wood 3 (some .int) (rmk 3 0 0 63) [.ref (aG G 42)] n V R 0 0 (fun vv uu => vv = some (.int (iI (nWood (V 42 0) (V 42 1) (V 42 2)))) ∧ uu = (n, V, R)) := by
  refine Cn.of (by decide) (Nat.le_of_ble_eq_true rfl) (fun K C hct => ?_)
  show Xw K G 0 0 _ n V R 0 [(0, .ref (aG G 42))] []
  refine x_iconst C dX12_wood_0 ?_
  refine x_istore_n C dX12_wood_1 rfl (by decide) (lv' := [(0, .ref (aG G 42)), (1, .int (iI 0))]) rfl ?_
  refine x_iconst C dX12_wood_2 ?_
  refine x_istore_n C dX12_wood_3 rfl (by decide) (lv' := [(0, .ref (aG G 42)), (1, .int (iI 0)), (2, .int (iI 0))]) rfl ?_
  have lp_4 : ∀ (fuel : Nat) (w : Int) (c : Int), (0 ≤ c ∧ c ≤ 144 * V 42 2) → (w = sm (fun c => bI (woodP (V 42 0) (V 42 1) (c % 12) (c / 12 % 12) (c / 144))) c) → (144 * V 42 2 - c) < (fuel : Int) → Xw K G 0 0 (EndQ K G 0 0 (fun vv uu => vv = some (.int (iI (nWood (V 42 0) (V 42 1) (V 42 2)))) ∧ uu = (n, V, R))) n V R 4 [(0, .ref (aG G 42)), (1, .int (iI w)), (2, .int (iI c))] [] := by
    intro fuel4
    induction fuel4 with
    | zero => intro w c hc hw hfu4; exfalso; omega
    | succ fuel4 ih4 =>
      intro w c hc hw hfu4
      have hb := sm_b (f := fun c => bI (woodP (V 42 0) (V 42 1) (c % 12) (c / 12 % 12) (c / 144))) (A := 1) hc.1 (fun i _ _ => bI_b _)
      refine x_iload_n C 2 dX12_wood_4 rfl rfl ?_
      refine x_sipush C dX12_wood_5 (w := 144) (by decide) ?_
      refine x_aload_n C 0 dX12_wood_8 rfl rfl ?_
      refine x_geti C ok_Model 42 2 dX12_wood_9 (lt67 hn rfl) rfl (by decide) rfl q_6_12 rfl (kz := 2) rfl (fun rg9 => ?_)
      refine x_imul C dX12_wood_12 ?_
      refine x_icmp_ge C dX12_wood_13 (tgt := 53) (by decide) (by first | assumption | (constructor <;> omega)) (by first | assumption | (constructor <;> omega)) (fun h13 => ?_) (fun h13 => ?_)
      · skip
        refine x_iload_n C 1 dX12_wood_53 rfl rfl ?_
        refine x_iret C dX12_wood_54 ⟨congrArg (fun z => some (Value.int (iI z))) (by rw [hw]; unfold nWood; congr 1; omega), rfl⟩
      · skip
        refine x_iload_n C 1 dX12_wood_16 rfl rfl ?_
        refine x_aload_n C 0 dX12_wood_17 rfl rfl ?_
        refine x_iload_n C 2 dX12_wood_18 rfl rfl ?_
        refine x_bipush C dX12_wood_19 (w := 12) (by decide) ?_
        refine x_irem C dX12_wood_21 (by first | assumption | (constructor <;> omega)) (by first | assumption | (constructor <;> omega)) (by omega) (by omega) ?_
        refine x_iload_n C 2 dX12_wood_22 rfl rfl ?_
        refine x_bipush C dX12_wood_23 (w := 12) (by decide) ?_
        refine x_idiv C dX12_wood_25 (by first | assumption | (constructor <;> omega)) (by first | assumption | (constructor <;> omega)) (by omega) (by omega) ?_
        refine x_bipush C dX12_wood_26 (w := 12) (by decide) ?_
        refine x_irem C dX12_wood_28 (by first | assumption | (constructor <;> omega)) (by first | assumption | (constructor <;> omega)) (by omega) (by omega) ?_
        refine x_iload_n C 2 dX12_wood_29 rfl rfl ?_
        refine x_sipush C dX12_wood_30 (w := 144) (by decide) ?_
        refine x_idiv C dX12_wood_33 (by first | assumption | (constructor <;> omega)) (by first | assumption | (constructor <;> omega)) (by omega) (by omega) ?_
        refine x_runU (r_callV C ok_Model 42 (lt67 hn rfl) rfl (ce_X12_isWood) (m_X12_isWood G n V R (c % 12) ((c / 12) % 12) (c / 144) hn hLR (by first | assumption | omega | decide) (by first | assumption | omega | decide) (by first | assumption | omega | decide) (by first | assumption | omega | decide) (by first | assumption | omega | decide)) rfl dX12_wood_34 q_6_22 q_6_23 q_7_0 rfl rfl ⟨Nat.le_of_ble_eq_true rfl, Nat.le_of_ble_eq_true rfl⟩ ⟨rfl, rfl⟩ ⟨Nat.le_of_ble_eq_true rfl, Nat.le_of_ble_eq_true rfl⟩ (Nat.le_of_ble_eq_true rfl)) (fun v34 u34 hp34 => ?_)
        obtain ⟨rfl, rfl⟩ := hp34
        show Xw K G 0 0 _ n V R 37 [(0, .ref (aG G 42)), (1, .int (iI w)), (2, .int (iI c))] [.int (iI (bI (woodP (V 42 0) (V 42 1) (c % 12) ((c / 12) % 12) (c / 144)))), .int (iI w)]
        refine x_ifeq_b C dX12_wood_37 (tgt := 44) (by decide) (fun h37 => ?_) (fun h37 => ?_)
        · skip
          refine x_iconst C dX12_wood_44 ?_
          refine x_iadd C dX12_wood_45 ?_
          refine x_istore_n C dX12_wood_46 rfl (by decide) (lv' := [(0, .ref (aG G 42)), (1, .int (iI (w + 0))), (2, .int (iI c))]) rfl ?_
          refine x_iinc C 2 dX12_wood_47 rfl (by decide) (lv' := [(0, .ref (aG G 42)), (1, .int (iI (w + 0))), (2, .int (iI (c + 1)))]) rfl ?_
          refine x_goto C dX12_wood_50 (tgt := 4) (by decide) ?_
          exact ih4 ((w + 0)) ((c + 1)) (by first | assumption | omega) (by rw [sm_s hc.1]; first | rw [hw, bI_t h37] | rw [hw, bI_f h37]) (by omega)
        · skip
          refine x_iconst C dX12_wood_40 ?_
          refine x_goto C dX12_wood_41 (tgt := 45) (by decide) ?_
          refine x_iadd C dX12_wood_45 ?_
          refine x_istore_n C dX12_wood_46 rfl (by decide) (lv' := [(0, .ref (aG G 42)), (1, .int (iI (w + 1))), (2, .int (iI c))]) rfl ?_
          refine x_iinc C 2 dX12_wood_47 rfl (by decide) (lv' := [(0, .ref (aG G 42)), (1, .int (iI (w + 1))), (2, .int (iI (c + 1)))]) rfl ?_
          refine x_goto C dX12_wood_50 (tgt := 4) (by decide) ?_
          exact ih4 ((w + 1)) ((c + 1)) (by first | assumption | omega) (by rw [sm_s hc.1]; first | rw [hw, bI_t h37] | rw [hw, bI_f h37]) (by omega)
  exact lp_4 ((144 * V 42 2 - 0).toNat + 1) (0) (0) (by omega) (by rfl) (by omega)
set_option maxRecDepth 100000 in
set_option maxHeartbeats 4000000 in
theorem m_X12_across (G : GS) (n : Nat) (V : Nat → Int → Int) (R : Nat → Int → Option Nat) (a : Int) (ha : 0 ≤ a ∧ a ≤ 7) : Cn G yX12_across cX12_across 1 (some .int) (rmk 1 0 0 16) [.int (iI a)] n V R 0 0 (fun vv uu => vv = some (.int (iI (tat tAU a))) ∧ uu = (n, V, R)) := by
  refine Cn.of (by decide) (Nat.le_of_ble_eq_true rfl) (fun K C hct => ?_)
  show Xw K G 0 0 _ n V R 0 [(0, .int (iI a))] []
  refine x_iload_n C 0 dX12_across_0 rfl rfl ?_
  refine x_iconst C dX12_across_1 ?_
  refine x_irem C dX12_across_2 (by first | assumption | (constructor <;> omega)) (by first | assumption | (constructor <;> omega)) (by omega) (by omega) ?_
  refine x_iconst C dX12_across_3 ?_
  refine x_icmp_ne C dX12_across_4 (tgt := 11) (by decide) (by first | assumption | (constructor <;> omega)) (by first | assumption | (constructor <;> omega)) (fun h4 => ?_) (fun h4 => ?_)
  · skip
    refine x_iload_n C 0 dX12_across_11 rfl rfl ?_
    refine x_if_eq C dX12_across_12 (tgt := 26) (by decide) (by first | assumption | (constructor <;> omega)) (fun h12 => ?_) (fun h12 => ?_)
    · skip
      refine x_iconst C dX12_across_26 ?_
      refine x_goto C dX12_across_27 (tgt := 31) (by decide) ?_
      refine x_iret C dX12_across_31 ⟨congrArg (fun z => some (Value.int (iI z))) (by rcases (show a = 0 ∨ a = 1 ∨ a = 2 ∨ a = 3 ∨ a = 4 ∨ a = 5 ∨ a = 6 ∨ a = 7 by omega) with e | e | e | e | e | e | e | e <;> subst e <;> first | rfl | (exfalso; omega)), rfl⟩
    · skip
      refine x_iload_n C 0 dX12_across_15 rfl rfl ?_
      refine x_iconst C dX12_across_16 ?_
      refine x_icmp_eq C dX12_across_17 (tgt := 26) (by decide) (by first | assumption | (constructor <;> omega)) (by first | assumption | (constructor <;> omega)) (fun h17 => ?_) (fun h17 => ?_)
      · skip
        refine x_iconst C dX12_across_26 ?_
        refine x_goto C dX12_across_27 (tgt := 31) (by decide) ?_
        refine x_iret C dX12_across_31 ⟨congrArg (fun z => some (Value.int (iI z))) (by rcases (show a = 0 ∨ a = 1 ∨ a = 2 ∨ a = 3 ∨ a = 4 ∨ a = 5 ∨ a = 6 ∨ a = 7 by omega) with e | e | e | e | e | e | e | e <;> subst e <;> first | rfl | (exfalso; omega)), rfl⟩
      · skip
        refine x_iload_n C 0 dX12_across_20 rfl rfl ?_
        refine x_bipush C dX12_across_21 (w := 7) (by decide) ?_
        refine x_icmp_ne C dX12_across_23 (tgt := 30) (by decide) (by first | assumption | (constructor <;> omega)) (by first | assumption | (constructor <;> omega)) (fun h23 => ?_) (fun h23 => ?_)
        · skip
          refine x_iconst C dX12_across_30 ?_
          refine x_iret C dX12_across_31 ⟨congrArg (fun z => some (Value.int (iI z))) (by rcases (show a = 0 ∨ a = 1 ∨ a = 2 ∨ a = 3 ∨ a = 4 ∨ a = 5 ∨ a = 6 ∨ a = 7 by omega) with e | e | e | e | e | e | e | e <;> subst e <;> first | rfl | (exfalso; omega)), rfl⟩
        · skip
          refine x_iconst C dX12_across_26 ?_
          refine x_goto C dX12_across_27 (tgt := 31) (by decide) ?_
          refine x_iret C dX12_across_31 ⟨congrArg (fun z => some (Value.int (iI z))) (by rcases (show a = 0 ∨ a = 1 ∨ a = 2 ∨ a = 3 ∨ a = 4 ∨ a = 5 ∨ a = 6 ∨ a = 7 by omega) with e | e | e | e | e | e | e | e <;> subst e <;> first | rfl | (exfalso; omega)), rfl⟩
  · skip
    refine x_iconst C dX12_across_7 ?_
    refine x_goto C dX12_across_8 (tgt := 31) (by decide) ?_
    refine x_iret C dX12_across_31 ⟨congrArg (fun z => some (Value.int (iI z))) (by rcases (show a = 0 ∨ a = 1 ∨ a = 2 ∨ a = 3 ∨ a = 4 ∨ a = 5 ∨ a = 6 ∨ a = 7 by omega) with e | e | e | e | e | e | e | e <;> subst e <;> first | rfl | (exfalso; omega)), rfl⟩
set_option maxRecDepth 100000 in
set_option maxHeartbeats 4000000 in
theorem m_X12_up (G : GS) (n : Nat) (V : Nat → Int → Int) (R : Nat → Int → Option Nat) (a : Int) (ha : 0 ≤ a ∧ a ≤ 7) : Cn G yX12_up cX12_up 1 (some .int) (rmk 1 0 0 16) [.int (iI a)] n V R 0 0 (fun vv uu => vv = some (.int (iI (tat tAV a))) ∧ uu = (n, V, R)) := by
  refine Cn.of (by decide) (Nat.le_of_ble_eq_true rfl) (fun K C hct => ?_)
  show Xw K G 0 0 _ n V R 0 [(0, .int (iI a))] []
  refine x_iload_n C 0 dX12_up_0 rfl rfl ?_
  refine x_iconst C dX12_up_1 ?_
  refine x_irem C dX12_up_2 (by first | assumption | (constructor <;> omega)) (by first | assumption | (constructor <;> omega)) (by omega) (by omega) ?_
  refine x_if_ne C dX12_up_3 (tgt := 10) (by decide) (by first | assumption | (constructor <;> omega)) (fun h3 => ?_) (fun h3 => ?_)
  · skip
    refine x_iload_n C 0 dX12_up_10 rfl rfl ?_
    refine x_iconst C dX12_up_11 ?_
    refine x_icmp_ge C dX12_up_12 (tgt := 19) (by decide) (by first | assumption | (constructor <;> omega)) (by first | assumption | (constructor <;> omega)) (fun h12 => ?_) (fun h12 => ?_)
    · skip
      refine x_iconst C dX12_up_19 ?_
      refine x_iret C dX12_up_20 ⟨congrArg (fun z => some (Value.int (iI z))) (by rcases (show a = 0 ∨ a = 1 ∨ a = 2 ∨ a = 3 ∨ a = 4 ∨ a = 5 ∨ a = 6 ∨ a = 7 by omega) with e | e | e | e | e | e | e | e <;> subst e <;> first | rfl | (exfalso; omega)), rfl⟩
    · skip
      refine x_iconst C dX12_up_15 ?_
      refine x_goto C dX12_up_16 (tgt := 20) (by decide) ?_
      refine x_iret C dX12_up_20 ⟨congrArg (fun z => some (Value.int (iI z))) (by rcases (show a = 0 ∨ a = 1 ∨ a = 2 ∨ a = 3 ∨ a = 4 ∨ a = 5 ∨ a = 6 ∨ a = 7 by omega) with e | e | e | e | e | e | e | e <;> subst e <;> first | rfl | (exfalso; omega)), rfl⟩
  · skip
    refine x_iconst C dX12_up_6 ?_
    refine x_goto C dX12_up_7 (tgt := 20) (by decide) ?_
    refine x_iret C dX12_up_20 ⟨congrArg (fun z => some (Value.int (iI z))) (by rcases (show a = 0 ∨ a = 1 ∨ a = 2 ∨ a = 3 ∨ a = 4 ∨ a = 5 ∨ a = 6 ∨ a = 7 by omega) with e | e | e | e | e | e | e | e <;> subst e <;> first | rfl | (exfalso; omega)), rfl⟩
set_option maxRecDepth 100000 in
set_option maxHeartbeats 4000000 in
theorem m_X12_isIn (G : GS) (n : Nat) (V : Nat → Int → Int) (R : Nat → Int → Option Nat) (f : Int) (x : Int) (y : Int) (hn : 67 ≤ n) (hLR : LR R) (hf : 0 ≤ f ∧ f ≤ 7) (hx : 0 ≤ x ∧ x ≤ 11) (hy : 0 ≤ y ∧ y ≤ 11) (hk : 0 ≤ V 43 (4 * f) ∧ V 43 (4 * f) ≤ 6) (ha : 0 ≤ V 43 (4 * f + 1) ∧ V 43 (4 * f + 1) ≤ 7) (hs : 0 ≤ V 43 (4 * f + 2) ∧ V 43 (4 * f + 2) ≤ 7) (hz : 1 ≤ V 43 (4 * f + 3) ∧ V 43 (4 * f + 3) ≤ 4) : Cn G yX12_isIn cX12_isIn 12 (some .boolean) (rmk 2 0 0 36) [.ref (aG G 42), .int (iI f), .int (iI x), .int (iI y)] n V R 0 0 (fun vv uu => vv = some (.int (iI (bI (inF (V 43 (4 * f)) (V 43 (4 * f + 1)) (V 43 (4 * f + 3)) x y)))) ∧ uu = (n, V, R)) := by
  refine Cn.of (by decide) (Nat.le_of_ble_eq_true rfl) (fun K C hct => ?_)
  show Xw K G 0 0 _ n V R 0 [(0, .ref (aG G 42)), (1, .int (iI f)), (2, .int (iI x)), (3, .int (iI y))] []
  have t1 := tat_b (V 43 (4 * f + 1))
  have e1 := sq_bd (a := (2 * x) - 11) (A := 11) (by omega)
  have e2 := sq_bd (a := (2 * y) - 11) (A := 11) (by omega)
  have m1 : -11 ≤ tat tAU (V 43 (4 * f + 1)) * ((2 * x) - 11) ∧ tat tAU (V 43 (4 * f + 1)) * ((2 * x) - 11) ≤ 11 := by rcases (show tat tAU (V 43 (4 * f + 1)) = -1 ∨ tat tAU (V 43 (4 * f + 1)) = 0 ∨ tat tAU (V 43 (4 * f + 1)) = 1 by omega) with e | e | e <;> rw [e] <;> omega
  have m2 : -11 ≤ tat tAV (V 43 (4 * f + 1)) * ((2 * y) - 11) ∧ tat tAV (V 43 (4 * f + 1)) * ((2 * y) - 11) ≤ 11 := by rcases (show tat tAV (V 43 (4 * f + 1)) = -1 ∨ tat tAV (V 43 (4 * f + 1)) = 0 ∨ tat tAV (V 43 (4 * f + 1)) = 1 by omega) with e | e | e <;> rw [e] <;> omega
  have m3 : -11 ≤ tat tAU (V 43 (4 * f + 1)) * ((2 * y) - 11) ∧ tat tAU (V 43 (4 * f + 1)) * ((2 * y) - 11) ≤ 11 := by rcases (show tat tAU (V 43 (4 * f + 1)) = -1 ∨ tat tAU (V 43 (4 * f + 1)) = 0 ∨ tat tAU (V 43 (4 * f + 1)) = 1 by omega) with e | e | e <;> rw [e] <;> omega
  have m4 : -11 ≤ tat tAV (V 43 (4 * f + 1)) * ((2 * x) - 11) ∧ tat tAV (V 43 (4 * f + 1)) * ((2 * x) - 11) ≤ 11 := by rcases (show tat tAV (V 43 (4 * f + 1)) = -1 ∨ tat tAV (V 43 (4 * f + 1)) = 0 ∨ tat tAV (V 43 (4 * f + 1)) = 1 by omega) with e | e | e <;> rw [e] <;> omega
  have z1 := sq_bd (a := (2 * V 43 (4 * f + 3)) - 1) (A := 7) (by omega)
  have z2 := sq_bd (a := (2 * V 43 (4 * f + 3)) + 1) (A := 9) (by omega)
  have z3 := mul_bd (a := 4 * V 43 (4 * f + 3)) (b := V 43 (4 * f + 3)) (A := 16) (B := 4) (by omega) (by omega)
  refine x_iconst C dX12_isIn_0 ?_
  refine x_iload_n C 2 dX12_isIn_1 rfl rfl ?_
  refine x_imul C dX12_isIn_2 ?_
  refine x_bipush C dX12_isIn_3 (w := 11) (by decide) ?_
  refine x_isub C dX12_isIn_5 ?_
  refine x_istore C dX12_isIn_6 (by decide) (lv' := [(0, .ref (aG G 42)), (1, .int (iI f)), (2, .int (iI x)), (3, .int (iI y)), (4, .int (iI ((2 * x) - 11)))]) rfl ?_
  refine x_iconst C dX12_isIn_8 ?_
  refine x_iload_n C 3 dX12_isIn_9 rfl rfl ?_
  refine x_imul C dX12_isIn_10 ?_
  refine x_bipush C dX12_isIn_11 (w := 11) (by decide) ?_
  refine x_isub C dX12_isIn_13 ?_
  refine x_istore C dX12_isIn_14 (by decide) (lv' := [(0, .ref (aG G 42)), (1, .int (iI f)), (2, .int (iI x)), (3, .int (iI y)), (4, .int (iI ((2 * x) - 11))), (5, .int (iI ((2 * y) - 11)))]) rfl ?_
  refine x_aload_n C 0 dX12_isIn_16 rfl rfl ?_
  refine x_getr C ok_Model 42 5 (d := 43) dX12_isIn_17 (lt67 hn rfl) rfl (by decide) rfl q_4_1 rfl (kz := 5) rfl (lr_42_5 hLR) ?_
  refine x_iconst C dX12_isIn_20 ?_
  refine x_iload_n C 1 dX12_isIn_21 rfl rfl ?_
  refine x_imul C dX12_isIn_22 ?_
  refine x_iconst C dX12_isIn_23 ?_
  refine x_iadd C dX12_isIn_24 ?_
  refine x_iald C 43 dX12_isIn_25 (lt67 hn rfl) rfl (by refine ⟨?_, ?_⟩ <;> omega) (fun rg25 => ?_)
  refine x_runU (r_callS C (ce_X12_across) (m_X12_across G n V R (V 43 ((4 * f) + 1)) (by first | assumption | omega | decide)) dX12_isIn_26 q_25_14 q_25_15 rfl rfl ⟨Nat.le_of_ble_eq_true rfl, Nat.le_of_ble_eq_true rfl⟩ ⟨rfl, rfl⟩ ⟨Nat.le_of_ble_eq_true rfl, Nat.le_of_ble_eq_true rfl⟩ (Nat.le_of_ble_eq_true rfl)) (fun v26 u26 hp26 => ?_)
  obtain ⟨rfl, rfl⟩ := hp26
  show Xw K G 0 0 _ n V R 29 [(0, .ref (aG G 42)), (1, .int (iI f)), (2, .int (iI x)), (3, .int (iI y)), (4, .int (iI ((2 * x) - 11))), (5, .int (iI ((2 * y) - 11)))] [.int (iI (tat tAU (V 43 ((4 * f) + 1))))]
  refine x_istore C dX12_isIn_29 (by decide) (lv' := [(0, .ref (aG G 42)), (1, .int (iI f)), (2, .int (iI x)), (3, .int (iI y)), (4, .int (iI ((2 * x) - 11))), (5, .int (iI ((2 * y) - 11))), (6, .int (iI (tat tAU (V 43 ((4 * f) + 1)))))]) rfl ?_
  refine x_aload_n C 0 dX12_isIn_31 rfl rfl ?_
  refine x_getr C ok_Model 42 5 (d := 43) dX12_isIn_32 (lt67 hn rfl) rfl (by decide) rfl q_4_1 rfl (kz := 5) rfl (lr_42_5 hLR) ?_
  refine x_iconst C dX12_isIn_35 ?_
  refine x_iload_n C 1 dX12_isIn_36 rfl rfl ?_
  refine x_imul C dX12_isIn_37 ?_
  refine x_iconst C dX12_isIn_38 ?_
  refine x_iadd C dX12_isIn_39 ?_
  refine x_iald C 43 dX12_isIn_40 (lt67 hn rfl) rfl (by refine ⟨?_, ?_⟩ <;> omega) (fun rg40 => ?_)
  refine x_runU (r_callS C (ce_X12_up) (m_X12_up G n V R (V 43 ((4 * f) + 1)) (by first | assumption | omega | decide)) dX12_isIn_41 q_25_17 q_25_18 rfl rfl ⟨Nat.le_of_ble_eq_true rfl, Nat.le_of_ble_eq_true rfl⟩ ⟨rfl, rfl⟩ ⟨Nat.le_of_ble_eq_true rfl, Nat.le_of_ble_eq_true rfl⟩ (Nat.le_of_ble_eq_true rfl)) (fun v41 u41 hp41 => ?_)
  obtain ⟨rfl, rfl⟩ := hp41
  show Xw K G 0 0 _ n V R 44 [(0, .ref (aG G 42)), (1, .int (iI f)), (2, .int (iI x)), (3, .int (iI y)), (4, .int (iI ((2 * x) - 11))), (5, .int (iI ((2 * y) - 11))), (6, .int (iI (tat tAU (V 43 ((4 * f) + 1)))))] [.int (iI (tat tAV (V 43 ((4 * f) + 1))))]
  refine x_istore C dX12_isIn_44 (by decide) (lv' := [(0, .ref (aG G 42)), (1, .int (iI f)), (2, .int (iI x)), (3, .int (iI y)), (4, .int (iI ((2 * x) - 11))), (5, .int (iI ((2 * y) - 11))), (6, .int (iI (tat tAU (V 43 ((4 * f) + 1))))), (7, .int (iI (tat tAV (V 43 ((4 * f) + 1)))))]) rfl ?_
  refine x_iload C 6 dX12_isIn_46 rfl ?_
  refine x_iload C 4 dX12_isIn_48 rfl ?_
  refine x_imul C dX12_isIn_50 ?_
  refine x_iload C 7 dX12_isIn_51 rfl ?_
  refine x_iload C 5 dX12_isIn_53 rfl ?_
  refine x_imul C dX12_isIn_55 ?_
  refine x_iadd C dX12_isIn_56 ?_
  refine x_istore C dX12_isIn_57 (by decide) (lv' := [(0, .ref (aG G 42)), (1, .int (iI f)), (2, .int (iI x)), (3, .int (iI y)), (4, .int (iI ((2 * x) - 11))), (5, .int (iI ((2 * y) - 11))), (6, .int (iI (tat tAU (V 43 ((4 * f) + 1))))), (7, .int (iI (tat tAV (V 43 ((4 * f) + 1))))), (8, .int (iI (((tat tAU (V 43 ((4 * f) + 1))) * ((2 * x) - 11)) + ((tat tAV (V 43 ((4 * f) + 1))) * ((2 * y) - 11)))))]) rfl ?_
  refine x_iload C 6 dX12_isIn_59 rfl ?_
  refine x_iload C 5 dX12_isIn_61 rfl ?_
  refine x_imul C dX12_isIn_63 ?_
  refine x_iload C 7 dX12_isIn_64 rfl ?_
  refine x_iload C 4 dX12_isIn_66 rfl ?_
  refine x_imul C dX12_isIn_68 ?_
  refine x_isub C dX12_isIn_69 ?_
  refine x_abs C dX12_isIn_70 q_25_13 q_21_16 q_5_22 q_21_17 ⟨Nat.le_of_ble_eq_true rfl, Nat.le_of_ble_eq_true rfl⟩ ⟨Nat.zero_le _, Nat.zero_le _⟩ (by first | assumption | (constructor <;> omega)) ?_
  refine x_istore C dX12_isIn_73 (by decide) (lv' := [(0, .ref (aG G 42)), (1, .int (iI f)), (2, .int (iI x)), (3, .int (iI y)), (4, .int (iI ((2 * x) - 11))), (5, .int (iI ((2 * y) - 11))), (6, .int (iI (tat tAU (V 43 ((4 * f) + 1))))), (7, .int (iI (tat tAV (V 43 ((4 * f) + 1))))), (8, .int (iI (((tat tAU (V 43 ((4 * f) + 1))) * ((2 * x) - 11)) + ((tat tAV (V 43 ((4 * f) + 1))) * ((2 * y) - 11))))), (9, .int (iI ((((tat tAU (V 43 ((4 * f) + 1))) * ((2 * y) - 11)) - ((tat tAV (V 43 ((4 * f) + 1))) * ((2 * x) - 11))).natAbs : Int)))]) rfl ?_
  refine x_aload_n C 0 dX12_isIn_75 rfl rfl ?_
  refine x_getr C ok_Model 42 5 (d := 43) dX12_isIn_76 (lt67 hn rfl) rfl (by decide) rfl q_4_1 rfl (kz := 5) rfl (lr_42_5 hLR) ?_
  refine x_iconst C dX12_isIn_79 ?_
  refine x_iload_n C 1 dX12_isIn_80 rfl rfl ?_
  refine x_imul C dX12_isIn_81 ?_
  refine x_iconst C dX12_isIn_82 ?_
  refine x_iadd C dX12_isIn_83 ?_
  refine x_iald C 43 dX12_isIn_84 (lt67 hn rfl) rfl (by refine ⟨?_, ?_⟩ <;> omega) (fun rg84 => ?_)
  refine x_istore C dX12_isIn_85 (by decide) (lv' := [(0, .ref (aG G 42)), (1, .int (iI f)), (2, .int (iI x)), (3, .int (iI y)), (4, .int (iI ((2 * x) - 11))), (5, .int (iI ((2 * y) - 11))), (6, .int (iI (tat tAU (V 43 ((4 * f) + 1))))), (7, .int (iI (tat tAV (V 43 ((4 * f) + 1))))), (8, .int (iI (((tat tAU (V 43 ((4 * f) + 1))) * ((2 * x) - 11)) + ((tat tAV (V 43 ((4 * f) + 1))) * ((2 * y) - 11))))), (9, .int (iI ((((tat tAU (V 43 ((4 * f) + 1))) * ((2 * y) - 11)) - ((tat tAV (V 43 ((4 * f) + 1))) * ((2 * x) - 11))).natAbs : Int))), (10, .int (iI (V 43 ((4 * f) + 3))))]) rfl ?_
  refine x_iload C 4 dX12_isIn_87 rfl ?_
  refine x_iload C 4 dX12_isIn_89 rfl ?_
  refine x_imul C dX12_isIn_91 ?_
  refine x_iload C 5 dX12_isIn_92 rfl ?_
  refine x_iload C 5 dX12_isIn_94 rfl ?_
  refine x_imul C dX12_isIn_96 ?_
  refine x_iadd C dX12_isIn_97 ?_
  refine x_istore C dX12_isIn_98 (by decide) (lv' := [(0, .ref (aG G 42)), (1, .int (iI f)), (2, .int (iI x)), (3, .int (iI y)), (4, .int (iI ((2 * x) - 11))), (5, .int (iI ((2 * y) - 11))), (6, .int (iI (tat tAU (V 43 ((4 * f) + 1))))), (7, .int (iI (tat tAV (V 43 ((4 * f) + 1))))), (8, .int (iI (((tat tAU (V 43 ((4 * f) + 1))) * ((2 * x) - 11)) + ((tat tAV (V 43 ((4 * f) + 1))) * ((2 * y) - 11))))), (9, .int (iI ((((tat tAU (V 43 ((4 * f) + 1))) * ((2 * y) - 11)) - ((tat tAV (V 43 ((4 * f) + 1))) * ((2 * x) - 11))).natAbs : Int))), (10, .int (iI (V 43 ((4 * f) + 3)))), (11, .int (iI ((((2 * x) - 11) * ((2 * x) - 11)) + (((2 * y) - 11) * ((2 * y) - 11)))))]) rfl ?_
  refine x_aload_n C 0 dX12_isIn_100 rfl rfl ?_
  refine x_getr C ok_Model 42 5 (d := 43) dX12_isIn_101 (lt67 hn rfl) rfl (by decide) rfl q_4_1 rfl (kz := 5) rfl (lr_42_5 hLR) ?_
  refine x_iconst C dX12_isIn_104 ?_
  refine x_iload_n C 1 dX12_isIn_105 rfl rfl ?_
  refine x_imul C dX12_isIn_106 ?_
  refine x_iald C 43 dX12_isIn_107 (lt67 hn rfl) rfl (by refine ⟨?_, ?_⟩ <;> omega) (fun rg107 => ?_)
  rcases (show (V 43 (4 * f)) = 0 ∨ (V 43 (4 * f)) = 1 ∨ (V 43 (4 * f)) = 2 ∨ (V 43 (4 * f)) = 3 ∨ (V 43 (4 * f)) = 4 ∨ (V 43 (4 * f)) = 5 ∨ ((V 43 (4 * f)) < 0 ∨ 5 < (V 43 (4 * f))) by omega) with h108 | h108 | h108 | h108 | h108 | h108 | h108
  · skip
    refine x_tin C 0 h108 dX12_isIn_108 (by constructor <;> decide) (by decide) (by decide) (off := 40) rfl (tgt := 148) (by decide) ?_
    refine x_iload C 8 dX12_isIn_148 rfl ?_
    refine x_if_le C dX12_isIn_150 (tgt := 164) (by decide) (by first | assumption | (constructor <;> omega)) (fun h150 => ?_) (fun h150 => ?_)
    · skip
      refine x_iconst C dX12_isIn_164 ?_
      refine x_zret C (Or.inl rfl) dX12_isIn_165 ⟨bI_rf (by unfold inF; omega), rfl⟩
    · skip
      refine x_iload C 9 dX12_isIn_153 rfl ?_
      refine x_iload C 10 dX12_isIn_155 rfl ?_
      refine x_icmp_gt C dX12_isIn_157 (tgt := 164) (by decide) (by first | assumption | (constructor <;> omega)) (by first | assumption | (constructor <;> omega)) (fun h157 => ?_) (fun h157 => ?_)
      · skip
        refine x_iconst C dX12_isIn_164 ?_
        refine x_zret C (Or.inl rfl) dX12_isIn_165 ⟨bI_rf (by unfold inF; omega), rfl⟩
      · skip
        refine x_iconst C dX12_isIn_160 ?_
        refine x_goto C dX12_isIn_161 (tgt := 165) (by decide) ?_
        refine x_zret C (Or.inr rfl) dX12_isIn_165 ⟨bI_rt (by unfold inF; omega), rfl⟩
  · skip
    refine x_tin C 1 h108 dX12_isIn_108 (by constructor <;> decide) (by decide) (by decide) (off := 58) rfl (tgt := 166) (by decide) ?_
    refine x_iload C 8 dX12_isIn_166 rfl ?_
    refine x_if_le C dX12_isIn_168 (tgt := 184) (by decide) (by first | assumption | (constructor <;> omega)) (fun h168 => ?_) (fun h168 => ?_)
    · skip
      refine x_iconst C dX12_isIn_184 ?_
      refine x_zret C (Or.inl rfl) dX12_isIn_185 ⟨bI_rf (by unfold inF; omega), rfl⟩
    · skip
      refine x_iload C 9 dX12_isIn_171 rfl ?_
      refine x_iload C 10 dX12_isIn_173 rfl ?_
      refine x_iconst C dX12_isIn_175 ?_
      refine x_iadd C dX12_isIn_176 ?_
      refine x_icmp_gt C dX12_isIn_177 (tgt := 184) (by decide) (by first | assumption | (constructor <;> omega)) (by first | assumption | (constructor <;> omega)) (fun h177 => ?_) (fun h177 => ?_)
      · skip
        refine x_iconst C dX12_isIn_184 ?_
        refine x_zret C (Or.inl rfl) dX12_isIn_185 ⟨bI_rf (by unfold inF; omega), rfl⟩
      · skip
        refine x_iconst C dX12_isIn_180 ?_
        refine x_goto C dX12_isIn_181 (tgt := 185) (by decide) ?_
        refine x_zret C (Or.inr rfl) dX12_isIn_185 ⟨bI_rt (by unfold inF; omega), rfl⟩
  · skip
    refine x_tin C 2 h108 dX12_isIn_108 (by constructor <;> decide) (by decide) (by decide) (off := 58) rfl (tgt := 166) (by decide) ?_
    refine x_iload C 8 dX12_isIn_166 rfl ?_
    refine x_if_le C dX12_isIn_168 (tgt := 184) (by decide) (by first | assumption | (constructor <;> omega)) (fun h168 => ?_) (fun h168 => ?_)
    · skip
      refine x_iconst C dX12_isIn_184 ?_
      refine x_zret C (Or.inl rfl) dX12_isIn_185 ⟨bI_rf (by unfold inF; omega), rfl⟩
    · skip
      refine x_iload C 9 dX12_isIn_171 rfl ?_
      refine x_iload C 10 dX12_isIn_173 rfl ?_
      refine x_iconst C dX12_isIn_175 ?_
      refine x_iadd C dX12_isIn_176 ?_
      refine x_icmp_gt C dX12_isIn_177 (tgt := 184) (by decide) (by first | assumption | (constructor <;> omega)) (by first | assumption | (constructor <;> omega)) (fun h177 => ?_) (fun h177 => ?_)
      · skip
        refine x_iconst C dX12_isIn_184 ?_
        refine x_zret C (Or.inl rfl) dX12_isIn_185 ⟨bI_rf (by unfold inF; omega), rfl⟩
      · skip
        refine x_iconst C dX12_isIn_180 ?_
        refine x_goto C dX12_isIn_181 (tgt := 185) (by decide) ?_
        refine x_zret C (Or.inr rfl) dX12_isIn_185 ⟨bI_rt (by unfold inF; omega), rfl⟩
  · skip
    refine x_tin C 3 h108 dX12_isIn_108 (by constructor <;> decide) (by decide) (by decide) (off := 78) rfl (tgt := 186) (by decide) ?_
    refine x_iload C 9 dX12_isIn_186 rfl ?_
    refine x_iconst C dX12_isIn_188 ?_
    refine x_icmp_gt C dX12_isIn_189 (tgt := 196) (by decide) (by first | assumption | (constructor <;> omega)) (by first | assumption | (constructor <;> omega)) (fun h189 => ?_) (fun h189 => ?_)
    · skip
      refine x_iconst C dX12_isIn_196 ?_
      refine x_zret C (Or.inl rfl) dX12_isIn_197 ⟨bI_rf (by unfold inF; omega), rfl⟩
    · skip
      refine x_iconst C dX12_isIn_192 ?_
      refine x_goto C dX12_isIn_193 (tgt := 197) (by decide) ?_
      refine x_zret C (Or.inr rfl) dX12_isIn_197 ⟨bI_rt (by unfold inF; omega), rfl⟩
  · skip
    refine x_tin C 4 h108 dX12_isIn_108 (by constructor <;> decide) (by decide) (by decide) (off := 90) rfl (tgt := 198) (by decide) ?_
    refine x_iload C 11 dX12_isIn_198 rfl ?_
    refine x_iconst C dX12_isIn_200 ?_
    refine x_iload C 10 dX12_isIn_201 rfl ?_
    refine x_imul C dX12_isIn_203 ?_
    refine x_iconst C dX12_isIn_204 ?_
    refine x_isub C dX12_isIn_205 ?_
    refine x_iconst C dX12_isIn_206 ?_
    refine x_iload C 10 dX12_isIn_207 rfl ?_
    refine x_imul C dX12_isIn_209 ?_
    refine x_iconst C dX12_isIn_210 ?_
    refine x_isub C dX12_isIn_211 ?_
    refine x_imul C dX12_isIn_212 ?_
    refine x_icmp_lt C dX12_isIn_213 (tgt := 238) (by decide) (by first | assumption | (constructor <;> omega)) (by first | assumption | (constructor <;> omega)) (fun h213 => ?_) (fun h213 => ?_)
    · skip
      refine x_iconst C dX12_isIn_238 ?_
      refine x_zret C (Or.inl rfl) dX12_isIn_239 ⟨bI_rf (by unfold inF; omega), rfl⟩
    · skip
      refine x_iload C 11 dX12_isIn_216 rfl ?_
      refine x_iconst C dX12_isIn_218 ?_
      refine x_iload C 10 dX12_isIn_219 rfl ?_
      refine x_imul C dX12_isIn_221 ?_
      refine x_iconst C dX12_isIn_222 ?_
      refine x_iadd C dX12_isIn_223 ?_
      refine x_iconst C dX12_isIn_224 ?_
      refine x_iload C 10 dX12_isIn_225 rfl ?_
      refine x_imul C dX12_isIn_227 ?_
      refine x_iconst C dX12_isIn_228 ?_
      refine x_iadd C dX12_isIn_229 ?_
      refine x_imul C dX12_isIn_230 ?_
      refine x_icmp_gt C dX12_isIn_231 (tgt := 238) (by decide) (by first | assumption | (constructor <;> omega)) (by first | assumption | (constructor <;> omega)) (fun h231 => ?_) (fun h231 => ?_)
      · skip
        refine x_iconst C dX12_isIn_238 ?_
        refine x_zret C (Or.inl rfl) dX12_isIn_239 ⟨bI_rf (by unfold inF; omega), rfl⟩
      · skip
        refine x_iconst C dX12_isIn_234 ?_
        refine x_goto C dX12_isIn_235 (tgt := 239) (by decide) ?_
        refine x_zret C (Or.inr rfl) dX12_isIn_239 ⟨bI_rt (by unfold inF; omega), rfl⟩
  · skip
    refine x_tin C 5 h108 dX12_isIn_108 (by constructor <;> decide) (by decide) (by decide) (off := 132) rfl (tgt := 240) (by decide) ?_
    refine x_iload C 11 dX12_isIn_240 rfl ?_
    refine x_iconst C dX12_isIn_242 ?_
    refine x_iload C 10 dX12_isIn_243 rfl ?_
    refine x_imul C dX12_isIn_245 ?_
    refine x_iload C 10 dX12_isIn_246 rfl ?_
    refine x_imul C dX12_isIn_248 ?_
    refine x_icmp_gt C dX12_isIn_249 (tgt := 256) (by decide) (by first | assumption | (constructor <;> omega)) (by first | assumption | (constructor <;> omega)) (fun h249 => ?_) (fun h249 => ?_)
    · skip
      refine x_iconst C dX12_isIn_256 ?_
      refine x_zret C (Or.inl rfl) dX12_isIn_257 ⟨bI_rf (by unfold inF; omega), rfl⟩
    · skip
      refine x_iconst C dX12_isIn_252 ?_
      refine x_goto C dX12_isIn_253 (tgt := 257) (by decide) ?_
      refine x_zret C (Or.inr rfl) dX12_isIn_257 ⟨bI_rt (by unfold inF; omega), rfl⟩
  · skip
    refine x_tout C dX12_isIn_108 (tgt := 258) (by decide) (by first | assumption | (constructor <;> omega)) h108 ?_
    refine x_iload C 11 dX12_isIn_258 rfl ?_
    refine x_iconst C dX12_isIn_260 ?_
    refine x_iload C 10 dX12_isIn_261 rfl ?_
    refine x_imul C dX12_isIn_263 ?_
    refine x_iload C 10 dX12_isIn_264 rfl ?_
    refine x_imul C dX12_isIn_266 ?_
    refine x_icmp_gt C dX12_isIn_267 (tgt := 279) (by decide) (by first | assumption | (constructor <;> omega)) (by first | assumption | (constructor <;> omega)) (fun h267 => ?_) (fun h267 => ?_)
    · skip
      refine x_iconst C dX12_isIn_279 ?_
      refine x_zret C (Or.inl rfl) dX12_isIn_280 ⟨bI_rf (by unfold inF; omega), rfl⟩
    · skip
      refine x_iload C 8 dX12_isIn_270 rfl ?_
      refine x_if_le C dX12_isIn_272 (tgt := 279) (by decide) (by first | assumption | (constructor <;> omega)) (fun h272 => ?_) (fun h272 => ?_)
      · skip
        refine x_iconst C dX12_isIn_279 ?_
        refine x_zret C (Or.inl rfl) dX12_isIn_280 ⟨bI_rf (by unfold inF; omega), rfl⟩
      · skip
        refine x_iconst C dX12_isIn_275 ?_
        refine x_goto C dX12_isIn_276 (tgt := 280) (by decide) ?_
        refine x_zret C (Or.inr rfl) dX12_isIn_280 ⟨bI_rt (by unfold inF; omega), rfl⟩
