noncomputable def hurtW (r t L : Int) (f : Int → Int → Int) (m : Int) : Int := sm (fun c => bI (woodP r t (c % 12) (c / 12 % 12) (c / 144) ∧ 0 < hurtS f m (c % 12) (c / 12 % 12) (c / 144) 0)) (144 * L)
theorem tbq {q : Nat} (h : 60 ≤ q ∧ q ≤ 63) : tb q = (21, 40) := by
  rcases (show q = 60 ∨ q = 61 ∨ q = 62 ∨ q = 63 by omega) with e | e | e | e <;> subst e <;> rfl
theorem sh_r {R : Nat → Int → Option Nat} {s : Int} {q : Nat} (h : LR R) (hs : 0 ≤ s ∧ s ≤ 3) (hq : q = 60 + s.toNat) : R 59 s = some q := by
  rcases (show s = 0 ∨ s = 1 ∨ s = 2 ∨ s = 3 by omega) with e | e | e | e <;> subst e <;> subst hq
  · exact lr_59_0 h
  · exact lr_59_1 h
  · exact lr_59_2 h
  · exact lr_59_3 h

set_option maxRecDepth 100000 in
set_option maxHeartbeats 4000000 in
theorem m_X12_isSheet (G : GS) (n : Nat) (V : Nat → Int → Int) (R : Nat → Int → Option Nat) (s : Int) (gs : Rg s) : Cn G yX12_isSheet cX12_isSheet 1 (some .boolean) (rmk 2 0 0 41) [.int (iI s)] n V R 0 0 (fun vv uu => vv = some (.int (iI (bI (0 ≤ s ∧ s ≤ 3)))) ∧ uu = (n, V, R)) := by
  refine Cn.of (by decide) (Nat.le_of_ble_eq_true rfl) (fun K C hct => ?_)
  show Xw K G 0 0 _ n V R 0 [(0, .int (iI s))] []
  refine x_iload_n C 0 dX12_isSheet_0 rfl rfl ?_
  refine x_i2l C dX12_isSheet_1 (by first | assumption | (constructor <;> omega)) ?_
  refine x_lconst C dX12_isSheet_2 (w := 0) (by decide) ?_
  refine x_ldc2 C dX12_isSheet_3 q_27_17 (w := 3) (by decide) ?_
  refine x_runU (r_callS C (ce_X12_in) (m_X12_in G n V R (s) (0) (3) (by first | assumption | omega | decide) (by first | assumption | omega | decide) (by first | assumption | omega | decide)) dX12_isSheet_6 q_6_15 q_6_16 rfl rfl ⟨Nat.le_of_ble_eq_true rfl, Nat.le_of_ble_eq_true rfl⟩ ⟨rfl, rfl⟩ ⟨Nat.le_of_ble_eq_true rfl, Nat.le_of_ble_eq_true rfl⟩ (Nat.le_of_ble_eq_true rfl)) (fun v6 u6 hp6 => ?_)
  obtain ⟨rfl, rfl⟩ := hp6
  show Xw K G 0 0 _ n V R 9 [(0, .int (iI s))] [.int (iI (bI (0 ≤ s ∧ s ≤ 3)))]
  refine x_zret C (bI_01 _) dX12_isSheet_9 ⟨rfl, rfl⟩
set_option maxRecDepth 100000 in
set_option maxHeartbeats 4000000 in
theorem m_X12_hurtWood (G : GS) (n : Nat) (V : Nat → Int → Int) (R : Nat → Int → Option Nat) (hn : 67 ≤ n) (hLR : LR R) (hl : LogOk V) : Cn G yX12_hurtWood cX12_hurtWood 6 (some .int) (rmk 4 0 0 93) [.ref (aG G 42)] n V R 0 0 (fun vv uu => vv = some (.int (iI (hurtW (V 42 0) (V 42 1) (V 42 2) (FM V) (V 42 4)))) ∧ uu = (n, V, R)) := by
  refine Cn.of (by decide) (Nat.le_of_ble_eq_true rfl) (fun K C hct => ?_)
  show Xw K G 0 0 _ n V R 0 [(0, .ref (aG G 42))] []
  obtain ⟨h1, h2, h3, h5, h4, hF⟩ := id hl
  refine x_iconst C dX12_hurtWood_0 ?_
  refine x_istore_n C dX12_hurtWood_1 rfl (by decide) (lv' := [(0, .ref (aG G 42)), (1, .int (iI 0))]) rfl ?_
  refine x_iconst C dX12_hurtWood_2 ?_
  refine x_istore_n C dX12_hurtWood_3 rfl (by decide) (lv' := [(0, .ref (aG G 42)), (1, .int (iI 0)), (2, .int (iI 0))]) rfl ?_
  have lp_4 : ∀ (fuel : Nat) (w : Int) (c : Int), (0 ≤ c ∧ c ≤ 144 * V 42 2) → (w = sm (fun c => bI (woodP (V 42 0) (V 42 1) (c % 12) (c / 12 % 12) (c / 144) ∧ 0 < hurtS (FM V) (V 42 4) (c % 12) (c / 12 % 12) (c / 144) 0)) c) → (144 * V 42 2 - c) < (fuel : Int) → Xw K G 0 0 (EndQ K G 0 0 (fun vv uu => vv = some (.int (iI (hurtW (V 42 0) (V 42 1) (V 42 2) (FM V) (V 42 4)))) ∧ uu = (n, V, R))) n V R 4 [(0, .ref (aG G 42)), (1, .int (iI w)), (2, .int (iI c))] [] := by
    intro fuel4
    induction fuel4 with
    | zero => intro w c hc hw hfu4; exfalso; omega
    | succ fuel4 ih4 =>
      intro w c hc hw hfu4
      have hb := sm_b (f := fun c => bI (woodP (V 42 0) (V 42 1) (c % 12) (c / 12 % 12) (c / 144) ∧ 0 < hurtS (FM V) (V 42 4) (c % 12) (c / 12 % 12) (c / 144) 0)) (A := 1) hc.1 (fun i _ _ => bI_b _)
      refine x_iload_n C 2 dX12_hurtWood_4 rfl rfl ?_
      refine x_sipush C dX12_hurtWood_5 (w := 144) (by decide) ?_
      refine x_aload_n C 0 dX12_hurtWood_8 rfl rfl ?_
      refine x_geti C ok_Model 42 2 dX12_hurtWood_9 (lt67 hn rfl) rfl (by decide) rfl q_6_12 rfl (kz := 2) rfl (fun rg9 => ?_)
      refine x_imul C dX12_hurtWood_12 ?_
      refine x_icmp_ge C dX12_hurtWood_13 (tgt := 76) (by decide) (by first | assumption | (constructor <;> omega)) (by first | assumption | (constructor <;> omega)) (fun h13 => ?_) (fun h13 => ?_)
      · skip
        refine x_iload_n C 1 dX12_hurtWood_76 rfl rfl ?_
        refine x_iret C dX12_hurtWood_77 ⟨congrArg (fun z => some (Value.int (iI z))) (by rw [hw]; unfold hurtW; congr 1; omega), rfl⟩
      · skip
        refine x_iload_n C 2 dX12_hurtWood_16 rfl rfl ?_
        refine x_bipush C dX12_hurtWood_17 (w := 12) (by decide) ?_
        refine x_irem C dX12_hurtWood_19 (by first | assumption | (constructor <;> omega)) (by first | assumption | (constructor <;> omega)) (by omega) (by omega) ?_
        refine x_istore_n C dX12_hurtWood_20 rfl (by decide) (lv' := [(0, .ref (aG G 42)), (1, .int (iI w)), (2, .int (iI c)), (3, .int (iI (c % 12)))]) rfl ?_
        refine x_iload_n C 2 dX12_hurtWood_21 rfl rfl ?_
        refine x_bipush C dX12_hurtWood_22 (w := 12) (by decide) ?_
        refine x_idiv C dX12_hurtWood_24 (by first | assumption | (constructor <;> omega)) (by first | assumption | (constructor <;> omega)) (by omega) (by omega) ?_
        refine x_bipush C dX12_hurtWood_25 (w := 12) (by decide) ?_
        refine x_irem C dX12_hurtWood_27 (by first | assumption | (constructor <;> omega)) (by first | assumption | (constructor <;> omega)) (by omega) (by omega) ?_
        refine x_istore C dX12_hurtWood_28 (by decide) (lv' := [(0, .ref (aG G 42)), (1, .int (iI w)), (2, .int (iI c)), (3, .int (iI (c % 12))), (4, .int (iI ((c / 12) % 12)))]) rfl ?_
        refine x_iload_n C 2 dX12_hurtWood_30 rfl rfl ?_
        refine x_sipush C dX12_hurtWood_31 (w := 144) (by decide) ?_
        refine x_idiv C dX12_hurtWood_34 (by first | assumption | (constructor <;> omega)) (by first | assumption | (constructor <;> omega)) (by omega) (by omega) ?_
        refine x_istore C dX12_hurtWood_35 (by decide) (lv' := [(0, .ref (aG G 42)), (1, .int (iI w)), (2, .int (iI c)), (3, .int (iI (c % 12))), (4, .int (iI ((c / 12) % 12))), (5, .int (iI (c / 144)))]) rfl ?_
        refine x_iload_n C 1 dX12_hurtWood_37 rfl rfl ?_
        refine x_aload_n C 0 dX12_hurtWood_38 rfl rfl ?_
        refine x_iload_n C 3 dX12_hurtWood_39 rfl rfl ?_
        refine x_iload C 4 dX12_hurtWood_40 rfl ?_
        refine x_iload C 5 dX12_hurtWood_42 rfl ?_
        refine x_runU (r_callV C ok_Model 42 (lt67 hn rfl) rfl (ce_X12_isWood) (m_X12_isWood G n V R (c % 12) ((c / 12) % 12) (c / 144) hn hLR (by first | assumption | omega | decide) (by first | assumption | omega | decide) (by first | assumption | omega | decide) (by first | assumption | omega | decide) (by first | assumption | omega | decide)) rfl dX12_hurtWood_44 q_6_22 q_6_23 q_7_0 rfl rfl ⟨Nat.le_of_ble_eq_true rfl, Nat.le_of_ble_eq_true rfl⟩ ⟨rfl, rfl⟩ ⟨Nat.le_of_ble_eq_true rfl, Nat.le_of_ble_eq_true rfl⟩ (Nat.le_of_ble_eq_true rfl)) (fun v44 u44 hp44 => ?_)
        obtain ⟨rfl, rfl⟩ := hp44
        show Xw K G 0 0 _ n V R 47 [(0, .ref (aG G 42)), (1, .int (iI w)), (2, .int (iI c)), (3, .int (iI (c % 12))), (4, .int (iI ((c / 12) % 12))), (5, .int (iI (c / 144)))] [.int (iI (bI (woodP (V 42 0) (V 42 1) (c % 12) ((c / 12) % 12) (c / 144)))), .int (iI w)]
        refine x_ifeq_b C dX12_hurtWood_47 (tgt := 67) (by decide) (fun h47 => ?_) (fun h47 => ?_)
        · skip
          refine x_iconst C dX12_hurtWood_67 ?_
          refine x_iadd C dX12_hurtWood_68 ?_
          refine x_istore_n C dX12_hurtWood_69 rfl (by decide) (lv' := [(0, .ref (aG G 42)), (1, .int (iI (w + 0))), (2, .int (iI c)), (3, .int (iI (c % 12))), (4, .int (iI ((c / 12) % 12))), (5, .int (iI (c / 144)))]) rfl ?_
          refine x_iinc C 2 dX12_hurtWood_70 rfl (by decide) (lv' := [(0, .ref (aG G 42)), (1, .int (iI (w + 0))), (2, .int (iI (c + 1))), (3, .int (iI (c % 12))), (4, .int (iI ((c / 12) % 12))), (5, .int (iI (c / 144)))]) rfl ?_
          refine x_goto C dX12_hurtWood_73 (tgt := 4) (by decide) ?_
          refine x_sub [0, 1, 2] (lv' := [(0, .ref (aG G 42)), (1, .int (iI (w + 0))), (2, .int (iI (c + 1)))]) rfl ?_
          exact ih4 ((w + 0)) ((c + 1)) (by omega) (by first | exact sm_st hc.1 hw (bI_t (And.intro h47 (by omega))).symm | exact sm_st hc.1 hw (bI_f (fun q => h47 q.1)).symm | exact sm_st hc.1 hw (bI_f (fun q => by have := q.2; omega)).symm) (by omega)
        · skip
          refine x_aload_n C 0 dX12_hurtWood_50 rfl rfl ?_
          refine x_iload_n C 3 dX12_hurtWood_51 rfl rfl ?_
          refine x_iload C 4 dX12_hurtWood_52 rfl ?_
          refine x_iload C 5 dX12_hurtWood_54 rfl ?_
          refine x_iconst C dX12_hurtWood_56 ?_
          refine x_runU (r_callV C ok_Model 42 (lt67 hn rfl) rfl (ce_X12_hurtOf) (m_X12_hurtOf G n V R (c % 12) ((c / 12) % 12) (c / 144) (0) hn hLR (by first | assumption | omega | decide) (by first | assumption | omega | decide) (by first | assumption | omega | decide) (by first | assumption | omega | decide) (by first | assumption | omega | decide) (by first | assumption | omega | decide)) rfl dX12_hurtWood_57 q_31_5 q_31_6 q_31_7 rfl rfl ⟨Nat.le_of_ble_eq_true rfl, Nat.le_of_ble_eq_true rfl⟩ ⟨rfl, rfl⟩ ⟨Nat.le_of_ble_eq_true rfl, Nat.le_of_ble_eq_true rfl⟩ (Nat.le_of_ble_eq_true rfl)) (fun v57 u57 hp57 => ?_)
          obtain ⟨rfl, rfl⟩ := hp57
          show Xw K G 0 0 _ n V R 60 [(0, .ref (aG G 42)), (1, .int (iI w)), (2, .int (iI c)), (3, .int (iI (c % 12))), (4, .int (iI ((c / 12) % 12))), (5, .int (iI (c / 144)))] [.int (iI (hurtS (FM V) (V 42 4) (c % 12) ((c / 12) % 12) (c / 144) 0)), .int (iI w)]
          have hhb := hurtS_b (FM V) (V 42 4) (c % 12) (c / 12 % 12) (c / 144) 0
          refine x_if_le C dX12_hurtWood_60 (tgt := 67) (by decide) (by first | assumption | (constructor <;> omega)) (fun h60 => ?_) (fun h60 => ?_)
          · skip
            refine x_iconst C dX12_hurtWood_67 ?_
            refine x_iadd C dX12_hurtWood_68 ?_
            refine x_istore_n C dX12_hurtWood_69 rfl (by decide) (lv' := [(0, .ref (aG G 42)), (1, .int (iI (w + 0))), (2, .int (iI c)), (3, .int (iI (c % 12))), (4, .int (iI ((c / 12) % 12))), (5, .int (iI (c / 144)))]) rfl ?_
            refine x_iinc C 2 dX12_hurtWood_70 rfl (by decide) (lv' := [(0, .ref (aG G 42)), (1, .int (iI (w + 0))), (2, .int (iI (c + 1))), (3, .int (iI (c % 12))), (4, .int (iI ((c / 12) % 12))), (5, .int (iI (c / 144)))]) rfl ?_
            refine x_goto C dX12_hurtWood_73 (tgt := 4) (by decide) ?_
            refine x_sub [0, 1, 2] (lv' := [(0, .ref (aG G 42)), (1, .int (iI (w + 0))), (2, .int (iI (c + 1)))]) rfl ?_
            exact ih4 ((w + 0)) ((c + 1)) (by omega) (by first | exact sm_st hc.1 hw (bI_t (And.intro h47 (by omega))).symm | exact sm_st hc.1 hw (bI_f (fun q => h47 q.1)).symm | exact sm_st hc.1 hw (bI_f (fun q => by have := q.2; omega)).symm) (by omega)
          · skip
            refine x_iconst C dX12_hurtWood_63 ?_
            refine x_goto C dX12_hurtWood_64 (tgt := 68) (by decide) ?_
            refine x_iadd C dX12_hurtWood_68 ?_
            refine x_istore_n C dX12_hurtWood_69 rfl (by decide) (lv' := [(0, .ref (aG G 42)), (1, .int (iI (w + 1))), (2, .int (iI c)), (3, .int (iI (c % 12))), (4, .int (iI ((c / 12) % 12))), (5, .int (iI (c / 144)))]) rfl ?_
            refine x_iinc C 2 dX12_hurtWood_70 rfl (by decide) (lv' := [(0, .ref (aG G 42)), (1, .int (iI (w + 1))), (2, .int (iI (c + 1))), (3, .int (iI (c % 12))), (4, .int (iI ((c / 12) % 12))), (5, .int (iI (c / 144)))]) rfl ?_
            refine x_goto C dX12_hurtWood_73 (tgt := 4) (by decide) ?_
            refine x_sub [0, 1, 2] (lv' := [(0, .ref (aG G 42)), (1, .int (iI (w + 1))), (2, .int (iI (c + 1)))]) rfl ?_
            exact ih4 ((w + 1)) ((c + 1)) (by omega) (by first | exact sm_st hc.1 hw (bI_t (And.intro h47 (by omega))).symm | exact sm_st hc.1 hw (bI_f (fun q => h47 q.1)).symm | exact sm_st hc.1 hw (bI_f (fun q => by have := q.2; omega)).symm) (by omega)
  exact lp_4 ((144 * V 42 2 - 0).toNat + 1) (0) (0) (by omega) (by rfl) (by omega)
set_option maxRecDepth 100000 in
set_option maxHeartbeats 4000000 in
theorem m_X12_count (G : GS) (n : Nat) (V : Nat → Int → Int) (R : Nat → Int → Option Nat) (w : Int) (hn : 67 ≤ n) (hLR : LR R) (gw : Rg w) (hl : LogOk V) : Cn G yX12_count cX12_count 2 (some .int) (rmk 5 0 0 118) [.ref (aG G 42), .int (iI w)] n V R 0 0 (fun vv uu => ∃ (r : Int), vv = some (.int (iI r)) ∧ uu = (n, V, R) ∧ (((w = 0) ∧ r = V 42 4) ∨ ((w = 1) ∧ r = V 42 7) ∨ ((w = 2) ∧ r = V 42 9) ∨ ((w = 3) ∧ r = V 42 2) ∨ ((w = 4) ∧ r = V 42 3) ∨ ((w = 5) ∧ r = V 42 12) ∨ ((w = 6) ∧ r = hurtW (V 42 0) (V 42 1) (V 42 2) (FM V) (V 42 4)) ∨ ((¬ (0 ≤ w ∧ w ≤ 6)) ∧ r = (-2)))) := by
  refine Cn.of (by decide) (Nat.le_of_ble_eq_true rfl) (fun K C hct => ?_)
  show Xw K G 0 0 _ n V R 0 [(0, .ref (aG G 42)), (1, .int (iI w))] []
  refine x_iload_n C 1 dX12_count_0 rfl rfl ?_
  rcases (show w = 0 ∨ w = 1 ∨ w = 2 ∨ w = 3 ∨ w = 4 ∨ w = 5 ∨ w = 6 ∨ (w < 0 ∨ 6 < w) by omega) with h1 | h1 | h1 | h1 | h1 | h1 | h1 | h1
  · skip
    refine x_tin C 0 h1 dX12_count_1 (by constructor <;> decide) (by decide) (by decide) (off := 43) rfl (tgt := 44) (by decide) ?_
    refine x_aload_n C 0 dX12_count_44 rfl rfl ?_
    refine x_geti C ok_Model 42 4 dX12_count_45 (lt67 hn rfl) rfl (by decide) rfl q_6_14 rfl (kz := 4) rfl (fun rg45 => ?_)
    refine x_iret C dX12_count_48 ⟨_, rfl, rfl, ?_⟩
    · first | (refine Or.inl ⟨?_, ?_⟩ <;> first | rfl | assumption | omega | exact congrArg _ (by omega)) | (refine Or.inr (Or.inl ⟨?_, ?_⟩) <;> first | rfl | assumption | omega | exact congrArg _ (by omega)) | (refine Or.inr (Or.inr (Or.inl ⟨?_, ?_⟩)) <;> first | rfl | assumption | omega | exact congrArg _ (by omega)) | (refine Or.inr (Or.inr (Or.inr (Or.inl ⟨?_, ?_⟩))) <;> first | rfl | assumption | omega | exact congrArg _ (by omega)) | (refine Or.inr (Or.inr (Or.inr (Or.inr (Or.inl ⟨?_, ?_⟩)))) <;> first | rfl | assumption | omega | exact congrArg _ (by omega)) | (refine Or.inr (Or.inr (Or.inr (Or.inr (Or.inr (Or.inl ⟨?_, ?_⟩))))) <;> first | rfl | assumption | omega | exact congrArg _ (by omega)) | (refine Or.inr (Or.inr (Or.inr (Or.inr (Or.inr (Or.inr (Or.inl ⟨?_, ?_⟩)))))) <;> first | rfl | assumption | omega | exact congrArg _ (by omega)) | (refine Or.inr (Or.inr (Or.inr (Or.inr (Or.inr (Or.inr (Or.inr (⟨?_, ?_⟩))))))) <;> first | rfl | assumption | omega | exact congrArg _ (by omega))
  · skip
    refine x_tin C 1 h1 dX12_count_1 (by constructor <;> decide) (by decide) (by decide) (off := 48) rfl (tgt := 49) (by decide) ?_
    refine x_aload_n C 0 dX12_count_49 rfl rfl ?_
    refine x_geti C ok_Model 42 7 dX12_count_50 (lt67 hn rfl) rfl (by decide) rfl q_40_4 rfl (kz := 7) rfl (fun rg50 => ?_)
    refine x_iret C dX12_count_53 ⟨_, rfl, rfl, ?_⟩
    · first | (refine Or.inl ⟨?_, ?_⟩ <;> first | rfl | assumption | omega | exact congrArg _ (by omega)) | (refine Or.inr (Or.inl ⟨?_, ?_⟩) <;> first | rfl | assumption | omega | exact congrArg _ (by omega)) | (refine Or.inr (Or.inr (Or.inl ⟨?_, ?_⟩)) <;> first | rfl | assumption | omega | exact congrArg _ (by omega)) | (refine Or.inr (Or.inr (Or.inr (Or.inl ⟨?_, ?_⟩))) <;> first | rfl | assumption | omega | exact congrArg _ (by omega)) | (refine Or.inr (Or.inr (Or.inr (Or.inr (Or.inl ⟨?_, ?_⟩)))) <;> first | rfl | assumption | omega | exact congrArg _ (by omega)) | (refine Or.inr (Or.inr (Or.inr (Or.inr (Or.inr (Or.inl ⟨?_, ?_⟩))))) <;> first | rfl | assumption | omega | exact congrArg _ (by omega)) | (refine Or.inr (Or.inr (Or.inr (Or.inr (Or.inr (Or.inr (Or.inl ⟨?_, ?_⟩)))))) <;> first | rfl | assumption | omega | exact congrArg _ (by omega)) | (refine Or.inr (Or.inr (Or.inr (Or.inr (Or.inr (Or.inr (Or.inr (⟨?_, ?_⟩))))))) <;> first | rfl | assumption | omega | exact congrArg _ (by omega))
  · skip
    refine x_tin C 2 h1 dX12_count_1 (by constructor <;> decide) (by decide) (by decide) (off := 53) rfl (tgt := 54) (by decide) ?_
    refine x_aload_n C 0 dX12_count_54 rfl rfl ?_
    refine x_geti C ok_Model 42 9 dX12_count_55 (lt67 hn rfl) rfl (by decide) rfl q_41_4 rfl (kz := 9) rfl (fun rg55 => ?_)
    refine x_iret C dX12_count_58 ⟨_, rfl, rfl, ?_⟩
    · first | (refine Or.inl ⟨?_, ?_⟩ <;> first | rfl | assumption | omega | exact congrArg _ (by omega)) | (refine Or.inr (Or.inl ⟨?_, ?_⟩) <;> first | rfl | assumption | omega | exact congrArg _ (by omega)) | (refine Or.inr (Or.inr (Or.inl ⟨?_, ?_⟩)) <;> first | rfl | assumption | omega | exact congrArg _ (by omega)) | (refine Or.inr (Or.inr (Or.inr (Or.inl ⟨?_, ?_⟩))) <;> first | rfl | assumption | omega | exact congrArg _ (by omega)) | (refine Or.inr (Or.inr (Or.inr (Or.inr (Or.inl ⟨?_, ?_⟩)))) <;> first | rfl | assumption | omega | exact congrArg _ (by omega)) | (refine Or.inr (Or.inr (Or.inr (Or.inr (Or.inr (Or.inl ⟨?_, ?_⟩))))) <;> first | rfl | assumption | omega | exact congrArg _ (by omega)) | (refine Or.inr (Or.inr (Or.inr (Or.inr (Or.inr (Or.inr (Or.inl ⟨?_, ?_⟩)))))) <;> first | rfl | assumption | omega | exact congrArg _ (by omega)) | (refine Or.inr (Or.inr (Or.inr (Or.inr (Or.inr (Or.inr (Or.inr (⟨?_, ?_⟩))))))) <;> first | rfl | assumption | omega | exact congrArg _ (by omega))
  · skip
    refine x_tin C 3 h1 dX12_count_1 (by constructor <;> decide) (by decide) (by decide) (off := 58) rfl (tgt := 59) (by decide) ?_
    refine x_aload_n C 0 dX12_count_59 rfl rfl ?_
    refine x_geti C ok_Model 42 2 dX12_count_60 (lt67 hn rfl) rfl (by decide) rfl q_6_12 rfl (kz := 2) rfl (fun rg60 => ?_)
    refine x_iret C dX12_count_63 ⟨_, rfl, rfl, ?_⟩
    · first | (refine Or.inl ⟨?_, ?_⟩ <;> first | rfl | assumption | omega | exact congrArg _ (by omega)) | (refine Or.inr (Or.inl ⟨?_, ?_⟩) <;> first | rfl | assumption | omega | exact congrArg _ (by omega)) | (refine Or.inr (Or.inr (Or.inl ⟨?_, ?_⟩)) <;> first | rfl | assumption | omega | exact congrArg _ (by omega)) | (refine Or.inr (Or.inr (Or.inr (Or.inl ⟨?_, ?_⟩))) <;> first | rfl | assumption | omega | exact congrArg _ (by omega)) | (refine Or.inr (Or.inr (Or.inr (Or.inr (Or.inl ⟨?_, ?_⟩)))) <;> first | rfl | assumption | omega | exact congrArg _ (by omega)) | (refine Or.inr (Or.inr (Or.inr (Or.inr (Or.inr (Or.inl ⟨?_, ?_⟩))))) <;> first | rfl | assumption | omega | exact congrArg _ (by omega)) | (refine Or.inr (Or.inr (Or.inr (Or.inr (Or.inr (Or.inr (Or.inl ⟨?_, ?_⟩)))))) <;> first | rfl | assumption | omega | exact congrArg _ (by omega)) | (refine Or.inr (Or.inr (Or.inr (Or.inr (Or.inr (Or.inr (Or.inr (⟨?_, ?_⟩))))))) <;> first | rfl | assumption | omega | exact congrArg _ (by omega))
  · skip
    refine x_tin C 4 h1 dX12_count_1 (by constructor <;> decide) (by decide) (by decide) (off := 63) rfl (tgt := 64) (by decide) ?_
    refine x_aload_n C 0 dX12_count_64 rfl rfl ?_
    refine x_geti C ok_Model 42 3 dX12_count_65 (lt67 hn rfl) rfl (by decide) rfl q_6_13 rfl (kz := 3) rfl (fun rg65 => ?_)
    refine x_iret C dX12_count_68 ⟨_, rfl, rfl, ?_⟩
    · first | (refine Or.inl ⟨?_, ?_⟩ <;> first | rfl | assumption | omega | exact congrArg _ (by omega)) | (refine Or.inr (Or.inl ⟨?_, ?_⟩) <;> first | rfl | assumption | omega | exact congrArg _ (by omega)) | (refine Or.inr (Or.inr (Or.inl ⟨?_, ?_⟩)) <;> first | rfl | assumption | omega | exact congrArg _ (by omega)) | (refine Or.inr (Or.inr (Or.inr (Or.inl ⟨?_, ?_⟩))) <;> first | rfl | assumption | omega | exact congrArg _ (by omega)) | (refine Or.inr (Or.inr (Or.inr (Or.inr (Or.inl ⟨?_, ?_⟩)))) <;> first | rfl | assumption | omega | exact congrArg _ (by omega)) | (refine Or.inr (Or.inr (Or.inr (Or.inr (Or.inr (Or.inl ⟨?_, ?_⟩))))) <;> first | rfl | assumption | omega | exact congrArg _ (by omega)) | (refine Or.inr (Or.inr (Or.inr (Or.inr (Or.inr (Or.inr (Or.inl ⟨?_, ?_⟩)))))) <;> first | rfl | assumption | omega | exact congrArg _ (by omega)) | (refine Or.inr (Or.inr (Or.inr (Or.inr (Or.inr (Or.inr (Or.inr (⟨?_, ?_⟩))))))) <;> first | rfl | assumption | omega | exact congrArg _ (by omega))
  · skip
    refine x_tin C 5 h1 dX12_count_1 (by constructor <;> decide) (by decide) (by decide) (off := 68) rfl (tgt := 69) (by decide) ?_
    refine x_aload_n C 0 dX12_count_69 rfl rfl ?_
    refine x_geti C ok_Model 42 12 dX12_count_70 (lt67 hn rfl) rfl (by decide) rfl q_8_0 rfl (kz := 12) rfl (fun rg70 => ?_)
    refine x_iret C dX12_count_73 ⟨_, rfl, rfl, ?_⟩
    · first | (refine Or.inl ⟨?_, ?_⟩ <;> first | rfl | assumption | omega | exact congrArg _ (by omega)) | (refine Or.inr (Or.inl ⟨?_, ?_⟩) <;> first | rfl | assumption | omega | exact congrArg _ (by omega)) | (refine Or.inr (Or.inr (Or.inl ⟨?_, ?_⟩)) <;> first | rfl | assumption | omega | exact congrArg _ (by omega)) | (refine Or.inr (Or.inr (Or.inr (Or.inl ⟨?_, ?_⟩))) <;> first | rfl | assumption | omega | exact congrArg _ (by omega)) | (refine Or.inr (Or.inr (Or.inr (Or.inr (Or.inl ⟨?_, ?_⟩)))) <;> first | rfl | assumption | omega | exact congrArg _ (by omega)) | (refine Or.inr (Or.inr (Or.inr (Or.inr (Or.inr (Or.inl ⟨?_, ?_⟩))))) <;> first | rfl | assumption | omega | exact congrArg _ (by omega)) | (refine Or.inr (Or.inr (Or.inr (Or.inr (Or.inr (Or.inr (Or.inl ⟨?_, ?_⟩)))))) <;> first | rfl | assumption | omega | exact congrArg _ (by omega)) | (refine Or.inr (Or.inr (Or.inr (Or.inr (Or.inr (Or.inr (Or.inr (⟨?_, ?_⟩))))))) <;> first | rfl | assumption | omega | exact congrArg _ (by omega))
  · skip
    refine x_tin C 6 h1 dX12_count_1 (by constructor <;> decide) (by decide) (by decide) (off := 73) rfl (tgt := 74) (by decide) ?_
    refine x_aload_n C 0 dX12_count_74 rfl rfl ?_
    refine x_runU (r_callV C ok_Model 42 (lt67 hn rfl) rfl (ce_X12_hurtWood) (m_X12_hurtWood G n V R hn hLR (by first | assumption | omega | decide)) rfl dX12_count_75 q_50_22 q_50_23 q_51_0 rfl rfl ⟨Nat.le_of_ble_eq_true rfl, Nat.le_of_ble_eq_true rfl⟩ ⟨rfl, rfl⟩ ⟨Nat.le_of_ble_eq_true rfl, Nat.le_of_ble_eq_true rfl⟩ (Nat.le_of_ble_eq_true rfl)) (fun v75 u75 hp75 => ?_)
    obtain ⟨rfl, rfl⟩ := hp75
    show Xw K G 0 0 _ n V R 78 [(0, .ref (aG G 42)), (1, .int (iI w))] [.int (iI (hurtW (V 42 0) (V 42 1) (V 42 2) (FM V) (V 42 4)))]
    refine x_iret C dX12_count_78 ⟨_, rfl, rfl, ?_⟩
    · first | (refine Or.inl ⟨?_, ?_⟩ <;> first | rfl | assumption | omega | exact congrArg _ (by omega)) | (refine Or.inr (Or.inl ⟨?_, ?_⟩) <;> first | rfl | assumption | omega | exact congrArg _ (by omega)) | (refine Or.inr (Or.inr (Or.inl ⟨?_, ?_⟩)) <;> first | rfl | assumption | omega | exact congrArg _ (by omega)) | (refine Or.inr (Or.inr (Or.inr (Or.inl ⟨?_, ?_⟩))) <;> first | rfl | assumption | omega | exact congrArg _ (by omega)) | (refine Or.inr (Or.inr (Or.inr (Or.inr (Or.inl ⟨?_, ?_⟩)))) <;> first | rfl | assumption | omega | exact congrArg _ (by omega)) | (refine Or.inr (Or.inr (Or.inr (Or.inr (Or.inr (Or.inl ⟨?_, ?_⟩))))) <;> first | rfl | assumption | omega | exact congrArg _ (by omega)) | (refine Or.inr (Or.inr (Or.inr (Or.inr (Or.inr (Or.inr (Or.inl ⟨?_, ?_⟩)))))) <;> first | rfl | assumption | omega | exact congrArg _ (by omega)) | (refine Or.inr (Or.inr (Or.inr (Or.inr (Or.inr (Or.inr (Or.inr (⟨?_, ?_⟩))))))) <;> first | rfl | assumption | omega | exact congrArg _ (by omega))
  · skip
    refine x_tout C dX12_count_1 (tgt := 79) (by decide) (by first | assumption | (constructor <;> omega)) h1 ?_
    refine x_bipush C dX12_count_79 (w := -2) (by decide) ?_
    refine x_iret C dX12_count_81 ⟨_, rfl, rfl, ?_⟩
    · first | (refine Or.inl ⟨?_, ?_⟩ <;> first | rfl | assumption | omega | exact congrArg _ (by omega)) | (refine Or.inr (Or.inl ⟨?_, ?_⟩) <;> first | rfl | assumption | omega | exact congrArg _ (by omega)) | (refine Or.inr (Or.inr (Or.inl ⟨?_, ?_⟩)) <;> first | rfl | assumption | omega | exact congrArg _ (by omega)) | (refine Or.inr (Or.inr (Or.inr (Or.inl ⟨?_, ?_⟩))) <;> first | rfl | assumption | omega | exact congrArg _ (by omega)) | (refine Or.inr (Or.inr (Or.inr (Or.inr (Or.inl ⟨?_, ?_⟩)))) <;> first | rfl | assumption | omega | exact congrArg _ (by omega)) | (refine Or.inr (Or.inr (Or.inr (Or.inr (Or.inr (Or.inl ⟨?_, ?_⟩))))) <;> first | rfl | assumption | omega | exact congrArg _ (by omega)) | (refine Or.inr (Or.inr (Or.inr (Or.inr (Or.inr (Or.inr (Or.inl ⟨?_, ?_⟩)))))) <;> first | rfl | assumption | omega | exact congrArg _ (by omega)) | (refine Or.inr (Or.inr (Or.inr (Or.inr (Or.inr (Or.inr (Or.inr (⟨?_, ?_⟩))))))) <;> first | rfl | assumption | omega | exact congrArg _ (by omega))
set_option maxRecDepth 100000 in
set_option maxHeartbeats 4000000 in
theorem m_X12_sheet (G : GS) (n : Nat) (V : Nat → Int → Int) (R : Nat → Int → Option Nat) (s : Int) (w : Int) (m : Int) (hn : 67 ≤ n) (hLR : LR R) (gs : Rg s) (gw : Rg w) (gm : Rg m) : Cn G yX12_sheet cX12_sheet 5 (some .int) (rmk 3 0 0 61) [.ref (aG G 42), .int (iI s), .int (iI w), .int (iI m)] n V R 0 0 (fun vv uu => ∃ (r : Int), ∃ (V1 : Nat → Int → Int), vv = some (.int (iI r)) ∧ uu = (n, V1, R) ∧ (((¬ (0 ≤ s ∧ s ≤ 3) ∨ ¬ (-1 ≤ w ∧ w ≤ 1) ∨ (0 ≤ w ∧ 40 < m)) ∧ r = -2 ∧ V1 = V) ∨ (¬ (¬ (0 ≤ s ∧ s ≤ 3) ∨ ¬ (-1 ≤ w ∧ w ≤ 1) ∨ (0 ≤ w ∧ 40 < m)) ∧ 0 ≤ w ∧ m < 0 ∧ r = -14 ∧ V1 = V) ∨ (¬ (¬ (0 ≤ s ∧ s ≤ 3) ∨ ¬ (-1 ≤ w ∧ w ≤ 1) ∨ (0 ≤ w ∧ 40 < m)) ∧ ¬ (0 ≤ w ∧ m < 0) ∧ r = 1 ∧ V1 64 = u1 (V 64) s w ∧ V1 65 = u1 (V 65) s (if w < 0 then 0 else m) ∧ (∀ z, 0 ≤ z → z < 40 → V1 (60 + s.toNat) z = 0) ∧ ∀ c, c ≠ 64 → c ≠ 65 → c ≠ 60 + s.toNat → V1 c = V c))) := by
  refine Cn.of (by decide) (Nat.le_of_ble_eq_true rfl) (fun K C hct => ?_)
  show Xw K G 0 0 _ n V R 0 [(0, .ref (aG G 42)), (1, .int (iI s)), (2, .int (iI w)), (3, .int (iI m))] []
  obtain ⟨q, hq⟩ : ∃ q : Nat, q = 60 + s.toNat := ⟨_, rfl⟩
  refine x_iload_n C 1 dX12_sheet_0 rfl rfl ?_
  refine x_runU (r_callS C (ce_X12_isSheet) (m_X12_isSheet G n V R (s) (by first | assumption | omega | decide)) dX12_sheet_1 q_48_12 q_48_13 rfl rfl ⟨Nat.le_of_ble_eq_true rfl, Nat.le_of_ble_eq_true rfl⟩ ⟨rfl, rfl⟩ ⟨Nat.le_of_ble_eq_true rfl, Nat.le_of_ble_eq_true rfl⟩ (Nat.le_of_ble_eq_true rfl)) (fun v1 u1 hp1 => ?_)
  obtain ⟨rfl, rfl⟩ := hp1
  show Xw K G 0 0 _ n V R 4 [(0, .ref (aG G 42)), (1, .int (iI s)), (2, .int (iI w)), (3, .int (iI m))] [.int (iI (bI (0 ≤ s ∧ s ≤ 3)))]
  refine x_ifeq_b C dX12_sheet_4 (tgt := 29) (by decide) (fun h4 => ?_) (fun h4 => ?_)
  · skip
    refine x_bipush C dX12_sheet_29 (w := -2) (by decide) ?_
    refine x_iret C dX12_sheet_31 ⟨_, _, rfl, rfl, ?_⟩
    · first | exact Or.inl ⟨by omega, rfl, rfl⟩ | exact Or.inr (Or.inl ⟨by omega, by omega, by omega, rfl, rfl⟩)
  · skip
    refine x_iload_n C 2 dX12_sheet_7 rfl rfl ?_
    refine x_i2l C dX12_sheet_8 (by first | assumption | (constructor <;> omega)) ?_
    refine x_ldc2 C dX12_sheet_9 q_38_18 (w := -1) (by decide) ?_
    refine x_lconst C dX12_sheet_12 (w := 1) (by decide) ?_
    refine x_runU (r_callS C (ce_X12_in) (m_X12_in G n V R (w) (-1) (1) (by first | assumption | omega | decide) (by first | assumption | omega | decide) (by first | assumption | omega | decide)) dX12_sheet_13 q_6_15 q_6_16 rfl rfl ⟨Nat.le_of_ble_eq_true rfl, Nat.le_of_ble_eq_true rfl⟩ ⟨rfl, rfl⟩ ⟨Nat.le_of_ble_eq_true rfl, Nat.le_of_ble_eq_true rfl⟩ (Nat.le_of_ble_eq_true rfl)) (fun v13 u13 hp13 => ?_)
    obtain ⟨rfl, rfl⟩ := hp13
    show Xw K G 0 0 _ n V R 16 [(0, .ref (aG G 42)), (1, .int (iI s)), (2, .int (iI w)), (3, .int (iI m))] [.int (iI (bI ((-1) ≤ w ∧ w ≤ 1)))]
    refine x_ifeq_b C dX12_sheet_16 (tgt := 29) (by decide) (fun h16 => ?_) (fun h16 => ?_)
    · skip
      refine x_bipush C dX12_sheet_29 (w := -2) (by decide) ?_
      refine x_iret C dX12_sheet_31 ⟨_, _, rfl, rfl, ?_⟩
      · first | exact Or.inl ⟨by omega, rfl, rfl⟩ | exact Or.inr (Or.inl ⟨by omega, by omega, by omega, rfl, rfl⟩)
    · skip
      refine x_iload_n C 2 dX12_sheet_19 rfl rfl ?_
      refine x_if_lt C dX12_sheet_20 (tgt := 32) (by decide) (by first | assumption | (constructor <;> omega)) (fun h20 => ?_) (fun h20 => ?_)
      · skip
        refine x_iload_n C 2 dX12_sheet_32 rfl rfl ?_
        refine x_if_lt C dX12_sheet_33 (tgt := 43) (by decide) (by first | assumption | (constructor <;> omega)) (fun h33 => ?_) (fun h33 => ?_)
        · skip
          refine x_aload_n C 0 dX12_sheet_43 rfl rfl ?_
          refine x_getr C ok_Model 42 39 (d := 64) dX12_sheet_44 (lt67 hn rfl) rfl (by decide) rfl q_4_20 rfl (kz := 39) rfl (lr_42_39 hLR) ?_
          refine x_iload_n C 1 dX12_sheet_47 rfl rfl ?_
          refine x_iload_n C 2 dX12_sheet_48 rfl rfl ?_
          refine x_iast C 64 dX12_sheet_49 (lt67 hn rfl) rfl (by refine ⟨?_, ?_⟩ <;> omega) (by first | assumption | (constructor <;> omega)) ?_
          refine x_aload_n C 0 dX12_sheet_50 rfl rfl ?_
          refine x_getr C ok_Model 42 40 (d := 65) dX12_sheet_51 (lt67 hn rfl) rfl (by decide) rfl q_4_21 rfl (kz := 40) rfl (lr_42_40 hLR) ?_
          refine x_iload_n C 1 dX12_sheet_54 rfl rfl ?_
          refine x_iload_n C 2 dX12_sheet_55 rfl rfl ?_
          refine x_if_ge C dX12_sheet_56 (tgt := 63) (by decide) (by first | assumption | (constructor <;> omega)) (fun h56 => ?_) (fun h56 => ?_)
          · skip
            refine x_iload_n C 3 dX12_sheet_63 rfl rfl ?_
            refine x_iast C 65 dX12_sheet_64 (lt67 hn rfl) rfl (by refine ⟨?_, ?_⟩ <;> omega) (by first | assumption | (constructor <;> omega)) ?_
            refine x_iconst C dX12_sheet_65 ?_
            refine x_istore C dX12_sheet_66 (by decide) (lv' := [(0, .ref (aG G 42)), (1, .int (iI s)), (2, .int (iI w)), (3, .int (iI m)), (4, .int (iI 0))]) rfl ?_
            have lp_68 : ∀ (fuel : Nat) (k : Int) (V2 : Nat → Int → Int), (0 ≤ k ∧ k ≤ 40) → (V2 64 = u1 (V 64) s w) → (V2 65 = u1 (V 65) s (if w < 0 then 0 else m)) → (∀ c, c ≠ 64 → c ≠ 65 → c ≠ q → V2 c = V c) → (∀ z, 0 ≤ z → z < k → V2 q z = 0) → ((40 : Int) - k) < (fuel : Int) → Xw K G 0 0 (EndQ K G 0 0 (fun vv uu => ∃ (r : Int), ∃ (V1 : Nat → Int → Int), vv = some (.int (iI r)) ∧ uu = (n, V1, R) ∧ (((¬ (0 ≤ s ∧ s ≤ 3) ∨ ¬ (-1 ≤ w ∧ w ≤ 1) ∨ (0 ≤ w ∧ 40 < m)) ∧ r = -2 ∧ V1 = V) ∨ (¬ (¬ (0 ≤ s ∧ s ≤ 3) ∨ ¬ (-1 ≤ w ∧ w ≤ 1) ∨ (0 ≤ w ∧ 40 < m)) ∧ 0 ≤ w ∧ m < 0 ∧ r = -14 ∧ V1 = V) ∨ (¬ (¬ (0 ≤ s ∧ s ≤ 3) ∨ ¬ (-1 ≤ w ∧ w ≤ 1) ∨ (0 ≤ w ∧ 40 < m)) ∧ ¬ (0 ≤ w ∧ m < 0) ∧ r = 1 ∧ V1 64 = u1 (V 64) s w ∧ V1 65 = u1 (V 65) s (if w < 0 then 0 else m) ∧ (∀ z, 0 ≤ z → z < 40 → V1 (60 + s.toNat) z = 0) ∧ ∀ c, c ≠ 64 → c ≠ 65 → c ≠ 60 + s.toNat → V1 c = V c)))) n V2 R 68 [(0, .ref (aG G 42)), (1, .int (iI s)), (2, .int (iI w)), (3, .int (iI m)), (4, .int (iI k))] [] := by
              intro fuel68
              induction fuel68 with
              | zero => intro k V2 hk h64 h65 hF hz hfu68; exfalso; omega
              | succ fuel68 ih68 =>
                intro k V2 hk h64 h65 hF hz hfu68
                refine x_iload C 4 dX12_sheet_68 rfl ?_
                refine x_bipush C dX12_sheet_70 (w := 40) (by decide) ?_
                refine x_icmp_ge C dX12_sheet_72 (tgt := 91) (by decide) (by first | assumption | (constructor <;> omega)) (by first | assumption | (constructor <;> omega)) (fun h72 => ?_) (fun h72 => ?_)
                · skip
                  refine x_iconst C dX12_sheet_91 ?_
                  refine x_iret C dX12_sheet_92 ⟨_, _, rfl, rfl, ?_⟩
                  · subst hq; exact Or.inr (Or.inr ⟨by omega, by omega, rfl, h64, h65, fun z a b => hz z a (by omega), hF⟩)
                · skip
                  refine x_aload_n C 0 dX12_sheet_75 rfl rfl ?_
                  refine x_getr C ok_Model 42 38 (d := 59) dX12_sheet_76 (lt67 hn rfl) rfl (by decide) rfl q_4_19 rfl (kz := 38) rfl (lr_42_38 hLR) ?_
                  refine x_iload_n C 1 dX12_sheet_79 rfl rfl ?_
                  refine x_aald2 C 59 dX12_sheet_80 (lt67 hn rfl) rfl (by refine ⟨?_, ?_⟩ <;> omega) ?_
                  refine x_topR (d := q) (by exact sh_r hLR (by omega) hq) ?_
                  refine x_iload C 4 dX12_sheet_81 rfl ?_
                  refine x_lconst C dX12_sheet_83 (w := 0) (by decide) ?_
                  refine x_last C q dX12_sheet_84 (by omega) (tbq (by omega)) (by refine ⟨?_, ?_⟩ <;> omega) (by first | assumption | (constructor <;> omega)) ?_
                  refine x_iinc C 4 dX12_sheet_85 rfl (by decide) (lv' := [(0, .ref (aG G 42)), (1, .int (iI s)), (2, .int (iI w)), (3, .int (iI m)), (4, .int (iI (k + 1)))]) rfl ?_
                  refine x_goto C dX12_sheet_88 (tgt := 68) (by decide) ?_
                  exact ih68 ((k + 1)) ((u2 V2 q k 0)) (by omega) (by rw [u2_n (by omega)]; exact h64) (by rw [u2_n (by omega)]; exact h65) (by exact fun c a b d => by rw [u2_n d]; exact hF c a b d) (by exact fun z a b => by (rw [u2_s]; by_cases e : z = k; (rw [e, u1_s]); (rw [u1_n e]; exact hz z a (by omega)))) (by omega)
            exact lp_68 (((40 : Int) - 0).toNat + 1) (0) ((u2 (u2 V 64 s w) 65 s m)) (by omega) (by rw [u2_n (by decide), u2_s]) (by rw [u2_s, u2_n (by decide)]; first | (exfalso; omega) | rw [if_pos (by omega)] | rw [if_neg (by omega)]) (by exact fun c a b d => by rw [u2_n b, u2_n a]) (by exact fun z a b => by omega) (by omega)
          · skip
            refine x_iconst C dX12_sheet_59 ?_
            refine x_goto C dX12_sheet_60 (tgt := 64) (by decide) ?_
            refine x_iast C 65 dX12_sheet_64 (lt67 hn rfl) rfl (by refine ⟨?_, ?_⟩ <;> omega) (by first | assumption | (constructor <;> omega)) ?_
            refine x_iconst C dX12_sheet_65 ?_
            refine x_istore C dX12_sheet_66 (by decide) (lv' := [(0, .ref (aG G 42)), (1, .int (iI s)), (2, .int (iI w)), (3, .int (iI m)), (4, .int (iI 0))]) rfl ?_
            have lp_68 : ∀ (fuel : Nat) (k : Int) (V2 : Nat → Int → Int), (0 ≤ k ∧ k ≤ 40) → (V2 64 = u1 (V 64) s w) → (V2 65 = u1 (V 65) s (if w < 0 then 0 else m)) → (∀ c, c ≠ 64 → c ≠ 65 → c ≠ q → V2 c = V c) → (∀ z, 0 ≤ z → z < k → V2 q z = 0) → ((40 : Int) - k) < (fuel : Int) → Xw K G 0 0 (EndQ K G 0 0 (fun vv uu => ∃ (r : Int), ∃ (V1 : Nat → Int → Int), vv = some (.int (iI r)) ∧ uu = (n, V1, R) ∧ (((¬ (0 ≤ s ∧ s ≤ 3) ∨ ¬ (-1 ≤ w ∧ w ≤ 1) ∨ (0 ≤ w ∧ 40 < m)) ∧ r = -2 ∧ V1 = V) ∨ (¬ (¬ (0 ≤ s ∧ s ≤ 3) ∨ ¬ (-1 ≤ w ∧ w ≤ 1) ∨ (0 ≤ w ∧ 40 < m)) ∧ 0 ≤ w ∧ m < 0 ∧ r = -14 ∧ V1 = V) ∨ (¬ (¬ (0 ≤ s ∧ s ≤ 3) ∨ ¬ (-1 ≤ w ∧ w ≤ 1) ∨ (0 ≤ w ∧ 40 < m)) ∧ ¬ (0 ≤ w ∧ m < 0) ∧ r = 1 ∧ V1 64 = u1 (V 64) s w ∧ V1 65 = u1 (V 65) s (if w < 0 then 0 else m) ∧ (∀ z, 0 ≤ z → z < 40 → V1 (60 + s.toNat) z = 0) ∧ ∀ c, c ≠ 64 → c ≠ 65 → c ≠ 60 + s.toNat → V1 c = V c)))) n V2 R 68 [(0, .ref (aG G 42)), (1, .int (iI s)), (2, .int (iI w)), (3, .int (iI m)), (4, .int (iI k))] [] := by
              intro fuel68
              induction fuel68 with
              | zero => intro k V2 hk h64 h65 hF hz hfu68; exfalso; omega
              | succ fuel68 ih68 =>
                intro k V2 hk h64 h65 hF hz hfu68
                refine x_iload C 4 dX12_sheet_68 rfl ?_
                refine x_bipush C dX12_sheet_70 (w := 40) (by decide) ?_
                refine x_icmp_ge C dX12_sheet_72 (tgt := 91) (by decide) (by first | assumption | (constructor <;> omega)) (by first | assumption | (constructor <;> omega)) (fun h72 => ?_) (fun h72 => ?_)
                · skip
                  refine x_iconst C dX12_sheet_91 ?_
                  refine x_iret C dX12_sheet_92 ⟨_, _, rfl, rfl, ?_⟩
                  · subst hq; exact Or.inr (Or.inr ⟨by omega, by omega, rfl, h64, h65, fun z a b => hz z a (by omega), hF⟩)
                · skip
                  refine x_aload_n C 0 dX12_sheet_75 rfl rfl ?_
                  refine x_getr C ok_Model 42 38 (d := 59) dX12_sheet_76 (lt67 hn rfl) rfl (by decide) rfl q_4_19 rfl (kz := 38) rfl (lr_42_38 hLR) ?_
                  refine x_iload_n C 1 dX12_sheet_79 rfl rfl ?_
                  refine x_aald2 C 59 dX12_sheet_80 (lt67 hn rfl) rfl (by refine ⟨?_, ?_⟩ <;> omega) ?_
                  refine x_topR (d := q) (by exact sh_r hLR (by omega) hq) ?_
                  refine x_iload C 4 dX12_sheet_81 rfl ?_
                  refine x_lconst C dX12_sheet_83 (w := 0) (by decide) ?_
                  refine x_last C q dX12_sheet_84 (by omega) (tbq (by omega)) (by refine ⟨?_, ?_⟩ <;> omega) (by first | assumption | (constructor <;> omega)) ?_
                  refine x_iinc C 4 dX12_sheet_85 rfl (by decide) (lv' := [(0, .ref (aG G 42)), (1, .int (iI s)), (2, .int (iI w)), (3, .int (iI m)), (4, .int (iI (k + 1)))]) rfl ?_
                  refine x_goto C dX12_sheet_88 (tgt := 68) (by decide) ?_
                  exact ih68 ((k + 1)) ((u2 V2 q k 0)) (by omega) (by rw [u2_n (by omega)]; exact h64) (by rw [u2_n (by omega)]; exact h65) (by exact fun c a b d => by rw [u2_n d]; exact hF c a b d) (by exact fun z a b => by (rw [u2_s]; by_cases e : z = k; (rw [e, u1_s]); (rw [u1_n e]; exact hz z a (by omega)))) (by omega)
            exact lp_68 (((40 : Int) - 0).toNat + 1) (0) ((u2 (u2 V 64 s w) 65 s 0)) (by omega) (by rw [u2_n (by decide), u2_s]) (by rw [u2_s, u2_n (by decide)]; first | (exfalso; omega) | rw [if_pos (by omega)] | rw [if_neg (by omega)]) (by exact fun c a b d => by rw [u2_n b, u2_n a]) (by exact fun z a b => by omega) (by omega)
        · skip
          refine x_iload_n C 3 dX12_sheet_36 rfl rfl ?_
          refine x_if_ge C dX12_sheet_37 (tgt := 43) (by decide) (by first | assumption | (constructor <;> omega)) (fun h37 => ?_) (fun h37 => ?_)
          · skip
            refine x_aload_n C 0 dX12_sheet_43 rfl rfl ?_
            refine x_getr C ok_Model 42 39 (d := 64) dX12_sheet_44 (lt67 hn rfl) rfl (by decide) rfl q_4_20 rfl (kz := 39) rfl (lr_42_39 hLR) ?_
            refine x_iload_n C 1 dX12_sheet_47 rfl rfl ?_
            refine x_iload_n C 2 dX12_sheet_48 rfl rfl ?_
            refine x_iast C 64 dX12_sheet_49 (lt67 hn rfl) rfl (by refine ⟨?_, ?_⟩ <;> omega) (by first | assumption | (constructor <;> omega)) ?_
            refine x_aload_n C 0 dX12_sheet_50 rfl rfl ?_
            refine x_getr C ok_Model 42 40 (d := 65) dX12_sheet_51 (lt67 hn rfl) rfl (by decide) rfl q_4_21 rfl (kz := 40) rfl (lr_42_40 hLR) ?_
            refine x_iload_n C 1 dX12_sheet_54 rfl rfl ?_
            refine x_iload_n C 2 dX12_sheet_55 rfl rfl ?_
            refine x_if_ge C dX12_sheet_56 (tgt := 63) (by decide) (by first | assumption | (constructor <;> omega)) (fun h56 => ?_) (fun h56 => ?_)
            · skip
              refine x_iload_n C 3 dX12_sheet_63 rfl rfl ?_
              refine x_iast C 65 dX12_sheet_64 (lt67 hn rfl) rfl (by refine ⟨?_, ?_⟩ <;> omega) (by first | assumption | (constructor <;> omega)) ?_
              refine x_iconst C dX12_sheet_65 ?_
              refine x_istore C dX12_sheet_66 (by decide) (lv' := [(0, .ref (aG G 42)), (1, .int (iI s)), (2, .int (iI w)), (3, .int (iI m)), (4, .int (iI 0))]) rfl ?_
              have lp_68 : ∀ (fuel : Nat) (k : Int) (V2 : Nat → Int → Int), (0 ≤ k ∧ k ≤ 40) → (V2 64 = u1 (V 64) s w) → (V2 65 = u1 (V 65) s (if w < 0 then 0 else m)) → (∀ c, c ≠ 64 → c ≠ 65 → c ≠ q → V2 c = V c) → (∀ z, 0 ≤ z → z < k → V2 q z = 0) → ((40 : Int) - k) < (fuel : Int) → Xw K G 0 0 (EndQ K G 0 0 (fun vv uu => ∃ (r : Int), ∃ (V1 : Nat → Int → Int), vv = some (.int (iI r)) ∧ uu = (n, V1, R) ∧ (((¬ (0 ≤ s ∧ s ≤ 3) ∨ ¬ (-1 ≤ w ∧ w ≤ 1) ∨ (0 ≤ w ∧ 40 < m)) ∧ r = -2 ∧ V1 = V) ∨ (¬ (¬ (0 ≤ s ∧ s ≤ 3) ∨ ¬ (-1 ≤ w ∧ w ≤ 1) ∨ (0 ≤ w ∧ 40 < m)) ∧ 0 ≤ w ∧ m < 0 ∧ r = -14 ∧ V1 = V) ∨ (¬ (¬ (0 ≤ s ∧ s ≤ 3) ∨ ¬ (-1 ≤ w ∧ w ≤ 1) ∨ (0 ≤ w ∧ 40 < m)) ∧ ¬ (0 ≤ w ∧ m < 0) ∧ r = 1 ∧ V1 64 = u1 (V 64) s w ∧ V1 65 = u1 (V 65) s (if w < 0 then 0 else m) ∧ (∀ z, 0 ≤ z → z < 40 → V1 (60 + s.toNat) z = 0) ∧ ∀ c, c ≠ 64 → c ≠ 65 → c ≠ 60 + s.toNat → V1 c = V c)))) n V2 R 68 [(0, .ref (aG G 42)), (1, .int (iI s)), (2, .int (iI w)), (3, .int (iI m)), (4, .int (iI k))] [] := by
                intro fuel68
                induction fuel68 with
                | zero => intro k V2 hk h64 h65 hF hz hfu68; exfalso; omega
                | succ fuel68 ih68 =>
                  intro k V2 hk h64 h65 hF hz hfu68
                  refine x_iload C 4 dX12_sheet_68 rfl ?_
                  refine x_bipush C dX12_sheet_70 (w := 40) (by decide) ?_
                  refine x_icmp_ge C dX12_sheet_72 (tgt := 91) (by decide) (by first | assumption | (constructor <;> omega)) (by first | assumption | (constructor <;> omega)) (fun h72 => ?_) (fun h72 => ?_)
                  · skip
                    refine x_iconst C dX12_sheet_91 ?_
                    refine x_iret C dX12_sheet_92 ⟨_, _, rfl, rfl, ?_⟩
                    · subst hq; exact Or.inr (Or.inr ⟨by omega, by omega, rfl, h64, h65, fun z a b => hz z a (by omega), hF⟩)
                  · skip
                    refine x_aload_n C 0 dX12_sheet_75 rfl rfl ?_
                    refine x_getr C ok_Model 42 38 (d := 59) dX12_sheet_76 (lt67 hn rfl) rfl (by decide) rfl q_4_19 rfl (kz := 38) rfl (lr_42_38 hLR) ?_
                    refine x_iload_n C 1 dX12_sheet_79 rfl rfl ?_
                    refine x_aald2 C 59 dX12_sheet_80 (lt67 hn rfl) rfl (by refine ⟨?_, ?_⟩ <;> omega) ?_
                    refine x_topR (d := q) (by exact sh_r hLR (by omega) hq) ?_
                    refine x_iload C 4 dX12_sheet_81 rfl ?_
                    refine x_lconst C dX12_sheet_83 (w := 0) (by decide) ?_
                    refine x_last C q dX12_sheet_84 (by omega) (tbq (by omega)) (by refine ⟨?_, ?_⟩ <;> omega) (by first | assumption | (constructor <;> omega)) ?_
                    refine x_iinc C 4 dX12_sheet_85 rfl (by decide) (lv' := [(0, .ref (aG G 42)), (1, .int (iI s)), (2, .int (iI w)), (3, .int (iI m)), (4, .int (iI (k + 1)))]) rfl ?_
                    refine x_goto C dX12_sheet_88 (tgt := 68) (by decide) ?_
                    exact ih68 ((k + 1)) ((u2 V2 q k 0)) (by omega) (by rw [u2_n (by omega)]; exact h64) (by rw [u2_n (by omega)]; exact h65) (by exact fun c a b d => by rw [u2_n d]; exact hF c a b d) (by exact fun z a b => by (rw [u2_s]; by_cases e : z = k; (rw [e, u1_s]); (rw [u1_n e]; exact hz z a (by omega)))) (by omega)
              exact lp_68 (((40 : Int) - 0).toNat + 1) (0) ((u2 (u2 V 64 s w) 65 s m)) (by omega) (by rw [u2_n (by decide), u2_s]) (by rw [u2_s, u2_n (by decide)]; first | (exfalso; omega) | rw [if_pos (by omega)] | rw [if_neg (by omega)]) (by exact fun c a b d => by rw [u2_n b, u2_n a]) (by exact fun z a b => by omega) (by omega)
            · skip
              refine x_iconst C dX12_sheet_59 ?_
              refine x_goto C dX12_sheet_60 (tgt := 64) (by decide) ?_
              refine x_iast C 65 dX12_sheet_64 (lt67 hn rfl) rfl (by refine ⟨?_, ?_⟩ <;> omega) (by first | assumption | (constructor <;> omega)) ?_
              refine x_iconst C dX12_sheet_65 ?_
              refine x_istore C dX12_sheet_66 (by decide) (lv' := [(0, .ref (aG G 42)), (1, .int (iI s)), (2, .int (iI w)), (3, .int (iI m)), (4, .int (iI 0))]) rfl ?_
              have lp_68 : ∀ (fuel : Nat) (k : Int) (V2 : Nat → Int → Int), (0 ≤ k ∧ k ≤ 40) → (V2 64 = u1 (V 64) s w) → (V2 65 = u1 (V 65) s (if w < 0 then 0 else m)) → (∀ c, c ≠ 64 → c ≠ 65 → c ≠ q → V2 c = V c) → (∀ z, 0 ≤ z → z < k → V2 q z = 0) → ((40 : Int) - k) < (fuel : Int) → Xw K G 0 0 (EndQ K G 0 0 (fun vv uu => ∃ (r : Int), ∃ (V1 : Nat → Int → Int), vv = some (.int (iI r)) ∧ uu = (n, V1, R) ∧ (((¬ (0 ≤ s ∧ s ≤ 3) ∨ ¬ (-1 ≤ w ∧ w ≤ 1) ∨ (0 ≤ w ∧ 40 < m)) ∧ r = -2 ∧ V1 = V) ∨ (¬ (¬ (0 ≤ s ∧ s ≤ 3) ∨ ¬ (-1 ≤ w ∧ w ≤ 1) ∨ (0 ≤ w ∧ 40 < m)) ∧ 0 ≤ w ∧ m < 0 ∧ r = -14 ∧ V1 = V) ∨ (¬ (¬ (0 ≤ s ∧ s ≤ 3) ∨ ¬ (-1 ≤ w ∧ w ≤ 1) ∨ (0 ≤ w ∧ 40 < m)) ∧ ¬ (0 ≤ w ∧ m < 0) ∧ r = 1 ∧ V1 64 = u1 (V 64) s w ∧ V1 65 = u1 (V 65) s (if w < 0 then 0 else m) ∧ (∀ z, 0 ≤ z → z < 40 → V1 (60 + s.toNat) z = 0) ∧ ∀ c, c ≠ 64 → c ≠ 65 → c ≠ 60 + s.toNat → V1 c = V c)))) n V2 R 68 [(0, .ref (aG G 42)), (1, .int (iI s)), (2, .int (iI w)), (3, .int (iI m)), (4, .int (iI k))] [] := by
                intro fuel68
                induction fuel68 with
                | zero => intro k V2 hk h64 h65 hF hz hfu68; exfalso; omega
                | succ fuel68 ih68 =>
                  intro k V2 hk h64 h65 hF hz hfu68
                  refine x_iload C 4 dX12_sheet_68 rfl ?_
                  refine x_bipush C dX12_sheet_70 (w := 40) (by decide) ?_
                  refine x_icmp_ge C dX12_sheet_72 (tgt := 91) (by decide) (by first | assumption | (constructor <;> omega)) (by first | assumption | (constructor <;> omega)) (fun h72 => ?_) (fun h72 => ?_)
                  · skip
                    refine x_iconst C dX12_sheet_91 ?_
                    refine x_iret C dX12_sheet_92 ⟨_, _, rfl, rfl, ?_⟩
                    · subst hq; exact Or.inr (Or.inr ⟨by omega, by omega, rfl, h64, h65, fun z a b => hz z a (by omega), hF⟩)
                  · skip
                    refine x_aload_n C 0 dX12_sheet_75 rfl rfl ?_
                    refine x_getr C ok_Model 42 38 (d := 59) dX12_sheet_76 (lt67 hn rfl) rfl (by decide) rfl q_4_19 rfl (kz := 38) rfl (lr_42_38 hLR) ?_
                    refine x_iload_n C 1 dX12_sheet_79 rfl rfl ?_
                    refine x_aald2 C 59 dX12_sheet_80 (lt67 hn rfl) rfl (by refine ⟨?_, ?_⟩ <;> omega) ?_
                    refine x_topR (d := q) (by exact sh_r hLR (by omega) hq) ?_
                    refine x_iload C 4 dX12_sheet_81 rfl ?_
                    refine x_lconst C dX12_sheet_83 (w := 0) (by decide) ?_
                    refine x_last C q dX12_sheet_84 (by omega) (tbq (by omega)) (by refine ⟨?_, ?_⟩ <;> omega) (by first | assumption | (constructor <;> omega)) ?_
                    refine x_iinc C 4 dX12_sheet_85 rfl (by decide) (lv' := [(0, .ref (aG G 42)), (1, .int (iI s)), (2, .int (iI w)), (3, .int (iI m)), (4, .int (iI (k + 1)))]) rfl ?_
                    refine x_goto C dX12_sheet_88 (tgt := 68) (by decide) ?_
                    exact ih68 ((k + 1)) ((u2 V2 q k 0)) (by omega) (by rw [u2_n (by omega)]; exact h64) (by rw [u2_n (by omega)]; exact h65) (by exact fun c a b d => by rw [u2_n d]; exact hF c a b d) (by exact fun z a b => by (rw [u2_s]; by_cases e : z = k; (rw [e, u1_s]); (rw [u1_n e]; exact hz z a (by omega)))) (by omega)
              exact lp_68 (((40 : Int) - 0).toNat + 1) (0) ((u2 (u2 V 64 s w) 65 s 0)) (by omega) (by rw [u2_n (by decide), u2_s]) (by rw [u2_s, u2_n (by decide)]; first | (exfalso; omega) | rw [if_pos (by omega)] | rw [if_neg (by omega)]) (by exact fun c a b d => by rw [u2_n b, u2_n a]) (by exact fun z a b => by omega) (by omega)
          · skip
            refine x_bipush C dX12_sheet_40 (w := -14) (by decide) ?_
            refine x_iret C dX12_sheet_42 ⟨_, _, rfl, rfl, ?_⟩
            · first | exact Or.inl ⟨by omega, rfl, rfl⟩ | exact Or.inr (Or.inl ⟨by omega, by omega, by omega, rfl, rfl⟩)
      · skip
        refine x_iload_n C 3 dX12_sheet_23 rfl rfl ?_
        refine x_bipush C dX12_sheet_24 (w := 40) (by decide) ?_
        refine x_icmp_le C dX12_sheet_26 (tgt := 32) (by decide) (by first | assumption | (constructor <;> omega)) (by first | assumption | (constructor <;> omega)) (fun h26 => ?_) (fun h26 => ?_)
        · skip
          refine x_iload_n C 2 dX12_sheet_32 rfl rfl ?_
          refine x_if_lt C dX12_sheet_33 (tgt := 43) (by decide) (by first | assumption | (constructor <;> omega)) (fun h33 => ?_) (fun h33 => ?_)
          · skip
            refine x_aload_n C 0 dX12_sheet_43 rfl rfl ?_
            refine x_getr C ok_Model 42 39 (d := 64) dX12_sheet_44 (lt67 hn rfl) rfl (by decide) rfl q_4_20 rfl (kz := 39) rfl (lr_42_39 hLR) ?_
            refine x_iload_n C 1 dX12_sheet_47 rfl rfl ?_
            refine x_iload_n C 2 dX12_sheet_48 rfl rfl ?_
            refine x_iast C 64 dX12_sheet_49 (lt67 hn rfl) rfl (by refine ⟨?_, ?_⟩ <;> omega) (by first | assumption | (constructor <;> omega)) ?_
            refine x_aload_n C 0 dX12_sheet_50 rfl rfl ?_
            refine x_getr C ok_Model 42 40 (d := 65) dX12_sheet_51 (lt67 hn rfl) rfl (by decide) rfl q_4_21 rfl (kz := 40) rfl (lr_42_40 hLR) ?_
            refine x_iload_n C 1 dX12_sheet_54 rfl rfl ?_
            refine x_iload_n C 2 dX12_sheet_55 rfl rfl ?_
            refine x_if_ge C dX12_sheet_56 (tgt := 63) (by decide) (by first | assumption | (constructor <;> omega)) (fun h56 => ?_) (fun h56 => ?_)
            · skip
              refine x_iload_n C 3 dX12_sheet_63 rfl rfl ?_
              refine x_iast C 65 dX12_sheet_64 (lt67 hn rfl) rfl (by refine ⟨?_, ?_⟩ <;> omega) (by first | assumption | (constructor <;> omega)) ?_
              refine x_iconst C dX12_sheet_65 ?_
              refine x_istore C dX12_sheet_66 (by decide) (lv' := [(0, .ref (aG G 42)), (1, .int (iI s)), (2, .int (iI w)), (3, .int (iI m)), (4, .int (iI 0))]) rfl ?_
              have lp_68 : ∀ (fuel : Nat) (k : Int) (V2 : Nat → Int → Int), (0 ≤ k ∧ k ≤ 40) → (V2 64 = u1 (V 64) s w) → (V2 65 = u1 (V 65) s (if w < 0 then 0 else m)) → (∀ c, c ≠ 64 → c ≠ 65 → c ≠ q → V2 c = V c) → (∀ z, 0 ≤ z → z < k → V2 q z = 0) → ((40 : Int) - k) < (fuel : Int) → Xw K G 0 0 (EndQ K G 0 0 (fun vv uu => ∃ (r : Int), ∃ (V1 : Nat → Int → Int), vv = some (.int (iI r)) ∧ uu = (n, V1, R) ∧ (((¬ (0 ≤ s ∧ s ≤ 3) ∨ ¬ (-1 ≤ w ∧ w ≤ 1) ∨ (0 ≤ w ∧ 40 < m)) ∧ r = -2 ∧ V1 = V) ∨ (¬ (¬ (0 ≤ s ∧ s ≤ 3) ∨ ¬ (-1 ≤ w ∧ w ≤ 1) ∨ (0 ≤ w ∧ 40 < m)) ∧ 0 ≤ w ∧ m < 0 ∧ r = -14 ∧ V1 = V) ∨ (¬ (¬ (0 ≤ s ∧ s ≤ 3) ∨ ¬ (-1 ≤ w ∧ w ≤ 1) ∨ (0 ≤ w ∧ 40 < m)) ∧ ¬ (0 ≤ w ∧ m < 0) ∧ r = 1 ∧ V1 64 = u1 (V 64) s w ∧ V1 65 = u1 (V 65) s (if w < 0 then 0 else m) ∧ (∀ z, 0 ≤ z → z < 40 → V1 (60 + s.toNat) z = 0) ∧ ∀ c, c ≠ 64 → c ≠ 65 → c ≠ 60 + s.toNat → V1 c = V c)))) n V2 R 68 [(0, .ref (aG G 42)), (1, .int (iI s)), (2, .int (iI w)), (3, .int (iI m)), (4, .int (iI k))] [] := by
                intro fuel68
                induction fuel68 with
                | zero => intro k V2 hk h64 h65 hF hz hfu68; exfalso; omega
                | succ fuel68 ih68 =>
                  intro k V2 hk h64 h65 hF hz hfu68
                  refine x_iload C 4 dX12_sheet_68 rfl ?_
                  refine x_bipush C dX12_sheet_70 (w := 40) (by decide) ?_
                  refine x_icmp_ge C dX12_sheet_72 (tgt := 91) (by decide) (by first | assumption | (constructor <;> omega)) (by first | assumption | (constructor <;> omega)) (fun h72 => ?_) (fun h72 => ?_)
                  · skip
                    refine x_iconst C dX12_sheet_91 ?_
                    refine x_iret C dX12_sheet_92 ⟨_, _, rfl, rfl, ?_⟩
                    · subst hq; exact Or.inr (Or.inr ⟨by omega, by omega, rfl, h64, h65, fun z a b => hz z a (by omega), hF⟩)
                  · skip
                    refine x_aload_n C 0 dX12_sheet_75 rfl rfl ?_
                    refine x_getr C ok_Model 42 38 (d := 59) dX12_sheet_76 (lt67 hn rfl) rfl (by decide) rfl q_4_19 rfl (kz := 38) rfl (lr_42_38 hLR) ?_
                    refine x_iload_n C 1 dX12_sheet_79 rfl rfl ?_
                    refine x_aald2 C 59 dX12_sheet_80 (lt67 hn rfl) rfl (by refine ⟨?_, ?_⟩ <;> omega) ?_
                    refine x_topR (d := q) (by exact sh_r hLR (by omega) hq) ?_
                    refine x_iload C 4 dX12_sheet_81 rfl ?_
                    refine x_lconst C dX12_sheet_83 (w := 0) (by decide) ?_
                    refine x_last C q dX12_sheet_84 (by omega) (tbq (by omega)) (by refine ⟨?_, ?_⟩ <;> omega) (by first | assumption | (constructor <;> omega)) ?_
                    refine x_iinc C 4 dX12_sheet_85 rfl (by decide) (lv' := [(0, .ref (aG G 42)), (1, .int (iI s)), (2, .int (iI w)), (3, .int (iI m)), (4, .int (iI (k + 1)))]) rfl ?_
                    refine x_goto C dX12_sheet_88 (tgt := 68) (by decide) ?_
                    exact ih68 ((k + 1)) ((u2 V2 q k 0)) (by omega) (by rw [u2_n (by omega)]; exact h64) (by rw [u2_n (by omega)]; exact h65) (by exact fun c a b d => by rw [u2_n d]; exact hF c a b d) (by exact fun z a b => by (rw [u2_s]; by_cases e : z = k; (rw [e, u1_s]); (rw [u1_n e]; exact hz z a (by omega)))) (by omega)
              exact lp_68 (((40 : Int) - 0).toNat + 1) (0) ((u2 (u2 V 64 s w) 65 s m)) (by omega) (by rw [u2_n (by decide), u2_s]) (by rw [u2_s, u2_n (by decide)]; first | (exfalso; omega) | rw [if_pos (by omega)] | rw [if_neg (by omega)]) (by exact fun c a b d => by rw [u2_n b, u2_n a]) (by exact fun z a b => by omega) (by omega)
            · skip
              refine x_iconst C dX12_sheet_59 ?_
              refine x_goto C dX12_sheet_60 (tgt := 64) (by decide) ?_
              refine x_iast C 65 dX12_sheet_64 (lt67 hn rfl) rfl (by refine ⟨?_, ?_⟩ <;> omega) (by first | assumption | (constructor <;> omega)) ?_
              refine x_iconst C dX12_sheet_65 ?_
              refine x_istore C dX12_sheet_66 (by decide) (lv' := [(0, .ref (aG G 42)), (1, .int (iI s)), (2, .int (iI w)), (3, .int (iI m)), (4, .int (iI 0))]) rfl ?_
              have lp_68 : ∀ (fuel : Nat) (k : Int) (V2 : Nat → Int → Int), (0 ≤ k ∧ k ≤ 40) → (V2 64 = u1 (V 64) s w) → (V2 65 = u1 (V 65) s (if w < 0 then 0 else m)) → (∀ c, c ≠ 64 → c ≠ 65 → c ≠ q → V2 c = V c) → (∀ z, 0 ≤ z → z < k → V2 q z = 0) → ((40 : Int) - k) < (fuel : Int) → Xw K G 0 0 (EndQ K G 0 0 (fun vv uu => ∃ (r : Int), ∃ (V1 : Nat → Int → Int), vv = some (.int (iI r)) ∧ uu = (n, V1, R) ∧ (((¬ (0 ≤ s ∧ s ≤ 3) ∨ ¬ (-1 ≤ w ∧ w ≤ 1) ∨ (0 ≤ w ∧ 40 < m)) ∧ r = -2 ∧ V1 = V) ∨ (¬ (¬ (0 ≤ s ∧ s ≤ 3) ∨ ¬ (-1 ≤ w ∧ w ≤ 1) ∨ (0 ≤ w ∧ 40 < m)) ∧ 0 ≤ w ∧ m < 0 ∧ r = -14 ∧ V1 = V) ∨ (¬ (¬ (0 ≤ s ∧ s ≤ 3) ∨ ¬ (-1 ≤ w ∧ w ≤ 1) ∨ (0 ≤ w ∧ 40 < m)) ∧ ¬ (0 ≤ w ∧ m < 0) ∧ r = 1 ∧ V1 64 = u1 (V 64) s w ∧ V1 65 = u1 (V 65) s (if w < 0 then 0 else m) ∧ (∀ z, 0 ≤ z → z < 40 → V1 (60 + s.toNat) z = 0) ∧ ∀ c, c ≠ 64 → c ≠ 65 → c ≠ 60 + s.toNat → V1 c = V c)))) n V2 R 68 [(0, .ref (aG G 42)), (1, .int (iI s)), (2, .int (iI w)), (3, .int (iI m)), (4, .int (iI k))] [] := by
                intro fuel68
                induction fuel68 with
                | zero => intro k V2 hk h64 h65 hF hz hfu68; exfalso; omega
                | succ fuel68 ih68 =>
                  intro k V2 hk h64 h65 hF hz hfu68
                  refine x_iload C 4 dX12_sheet_68 rfl ?_
                  refine x_bipush C dX12_sheet_70 (w := 40) (by decide) ?_
                  refine x_icmp_ge C dX12_sheet_72 (tgt := 91) (by decide) (by first | assumption | (constructor <;> omega)) (by first | assumption | (constructor <;> omega)) (fun h72 => ?_) (fun h72 => ?_)
                  · skip
                    refine x_iconst C dX12_sheet_91 ?_
                    refine x_iret C dX12_sheet_92 ⟨_, _, rfl, rfl, ?_⟩
                    · subst hq; exact Or.inr (Or.inr ⟨by omega, by omega, rfl, h64, h65, fun z a b => hz z a (by omega), hF⟩)
                  · skip
                    refine x_aload_n C 0 dX12_sheet_75 rfl rfl ?_
                    refine x_getr C ok_Model 42 38 (d := 59) dX12_sheet_76 (lt67 hn rfl) rfl (by decide) rfl q_4_19 rfl (kz := 38) rfl (lr_42_38 hLR) ?_
                    refine x_iload_n C 1 dX12_sheet_79 rfl rfl ?_
                    refine x_aald2 C 59 dX12_sheet_80 (lt67 hn rfl) rfl (by refine ⟨?_, ?_⟩ <;> omega) ?_
                    refine x_topR (d := q) (by exact sh_r hLR (by omega) hq) ?_
                    refine x_iload C 4 dX12_sheet_81 rfl ?_
                    refine x_lconst C dX12_sheet_83 (w := 0) (by decide) ?_
                    refine x_last C q dX12_sheet_84 (by omega) (tbq (by omega)) (by refine ⟨?_, ?_⟩ <;> omega) (by first | assumption | (constructor <;> omega)) ?_
                    refine x_iinc C 4 dX12_sheet_85 rfl (by decide) (lv' := [(0, .ref (aG G 42)), (1, .int (iI s)), (2, .int (iI w)), (3, .int (iI m)), (4, .int (iI (k + 1)))]) rfl ?_
                    refine x_goto C dX12_sheet_88 (tgt := 68) (by decide) ?_
                    exact ih68 ((k + 1)) ((u2 V2 q k 0)) (by omega) (by rw [u2_n (by omega)]; exact h64) (by rw [u2_n (by omega)]; exact h65) (by exact fun c a b d => by rw [u2_n d]; exact hF c a b d) (by exact fun z a b => by (rw [u2_s]; by_cases e : z = k; (rw [e, u1_s]); (rw [u1_n e]; exact hz z a (by omega)))) (by omega)
              exact lp_68 (((40 : Int) - 0).toNat + 1) (0) ((u2 (u2 V 64 s w) 65 s 0)) (by omega) (by rw [u2_n (by decide), u2_s]) (by rw [u2_s, u2_n (by decide)]; first | (exfalso; omega) | rw [if_pos (by omega)] | rw [if_neg (by omega)]) (by exact fun c a b d => by rw [u2_n b, u2_n a]) (by exact fun z a b => by omega) (by omega)
          · skip
            refine x_iload_n C 3 dX12_sheet_36 rfl rfl ?_
            refine x_if_ge C dX12_sheet_37 (tgt := 43) (by decide) (by first | assumption | (constructor <;> omega)) (fun h37 => ?_) (fun h37 => ?_)
            · skip
              refine x_aload_n C 0 dX12_sheet_43 rfl rfl ?_
              refine x_getr C ok_Model 42 39 (d := 64) dX12_sheet_44 (lt67 hn rfl) rfl (by decide) rfl q_4_20 rfl (kz := 39) rfl (lr_42_39 hLR) ?_
              refine x_iload_n C 1 dX12_sheet_47 rfl rfl ?_
              refine x_iload_n C 2 dX12_sheet_48 rfl rfl ?_
              refine x_iast C 64 dX12_sheet_49 (lt67 hn rfl) rfl (by refine ⟨?_, ?_⟩ <;> omega) (by first | assumption | (constructor <;> omega)) ?_
              refine x_aload_n C 0 dX12_sheet_50 rfl rfl ?_
              refine x_getr C ok_Model 42 40 (d := 65) dX12_sheet_51 (lt67 hn rfl) rfl (by decide) rfl q_4_21 rfl (kz := 40) rfl (lr_42_40 hLR) ?_
              refine x_iload_n C 1 dX12_sheet_54 rfl rfl ?_
              refine x_iload_n C 2 dX12_sheet_55 rfl rfl ?_
              refine x_if_ge C dX12_sheet_56 (tgt := 63) (by decide) (by first | assumption | (constructor <;> omega)) (fun h56 => ?_) (fun h56 => ?_)
              · skip
                refine x_iload_n C 3 dX12_sheet_63 rfl rfl ?_
                refine x_iast C 65 dX12_sheet_64 (lt67 hn rfl) rfl (by refine ⟨?_, ?_⟩ <;> omega) (by first | assumption | (constructor <;> omega)) ?_
                refine x_iconst C dX12_sheet_65 ?_
                refine x_istore C dX12_sheet_66 (by decide) (lv' := [(0, .ref (aG G 42)), (1, .int (iI s)), (2, .int (iI w)), (3, .int (iI m)), (4, .int (iI 0))]) rfl ?_
                have lp_68 : ∀ (fuel : Nat) (k : Int) (V2 : Nat → Int → Int), (0 ≤ k ∧ k ≤ 40) → (V2 64 = u1 (V 64) s w) → (V2 65 = u1 (V 65) s (if w < 0 then 0 else m)) → (∀ c, c ≠ 64 → c ≠ 65 → c ≠ q → V2 c = V c) → (∀ z, 0 ≤ z → z < k → V2 q z = 0) → ((40 : Int) - k) < (fuel : Int) → Xw K G 0 0 (EndQ K G 0 0 (fun vv uu => ∃ (r : Int), ∃ (V1 : Nat → Int → Int), vv = some (.int (iI r)) ∧ uu = (n, V1, R) ∧ (((¬ (0 ≤ s ∧ s ≤ 3) ∨ ¬ (-1 ≤ w ∧ w ≤ 1) ∨ (0 ≤ w ∧ 40 < m)) ∧ r = -2 ∧ V1 = V) ∨ (¬ (¬ (0 ≤ s ∧ s ≤ 3) ∨ ¬ (-1 ≤ w ∧ w ≤ 1) ∨ (0 ≤ w ∧ 40 < m)) ∧ 0 ≤ w ∧ m < 0 ∧ r = -14 ∧ V1 = V) ∨ (¬ (¬ (0 ≤ s ∧ s ≤ 3) ∨ ¬ (-1 ≤ w ∧ w ≤ 1) ∨ (0 ≤ w ∧ 40 < m)) ∧ ¬ (0 ≤ w ∧ m < 0) ∧ r = 1 ∧ V1 64 = u1 (V 64) s w ∧ V1 65 = u1 (V 65) s (if w < 0 then 0 else m) ∧ (∀ z, 0 ≤ z → z < 40 → V1 (60 + s.toNat) z = 0) ∧ ∀ c, c ≠ 64 → c ≠ 65 → c ≠ 60 + s.toNat → V1 c = V c)))) n V2 R 68 [(0, .ref (aG G 42)), (1, .int (iI s)), (2, .int (iI w)), (3, .int (iI m)), (4, .int (iI k))] [] := by
                  intro fuel68
                  induction fuel68 with
                  | zero => intro k V2 hk h64 h65 hF hz hfu68; exfalso; omega
                  | succ fuel68 ih68 =>
                    intro k V2 hk h64 h65 hF hz hfu68
                    refine x_iload C 4 dX12_sheet_68 rfl ?_
                    refine x_bipush C dX12_sheet_70 (w := 40) (by decide) ?_
                    refine x_icmp_ge C dX12_sheet_72 (tgt := 91) (by decide) (by first | assumption | (constructor <;> omega)) (by first | assumption | (constructor <;> omega)) (fun h72 => ?_) (fun h72 => ?_)
                    · skip
                      refine x_iconst C dX12_sheet_91 ?_
                      refine x_iret C dX12_sheet_92 ⟨_, _, rfl, rfl, ?_⟩
                      · subst hq; exact Or.inr (Or.inr ⟨by omega, by omega, rfl, h64, h65, fun z a b => hz z a (by omega), hF⟩)
                    · skip
                      refine x_aload_n C 0 dX12_sheet_75 rfl rfl ?_
                      refine x_getr C ok_Model 42 38 (d := 59) dX12_sheet_76 (lt67 hn rfl) rfl (by decide) rfl q_4_19 rfl (kz := 38) rfl (lr_42_38 hLR) ?_
                      refine x_iload_n C 1 dX12_sheet_79 rfl rfl ?_
                      refine x_aald2 C 59 dX12_sheet_80 (lt67 hn rfl) rfl (by refine ⟨?_, ?_⟩ <;> omega) ?_
                      refine x_topR (d := q) (by exact sh_r hLR (by omega) hq) ?_
                      refine x_iload C 4 dX12_sheet_81 rfl ?_
                      refine x_lconst C dX12_sheet_83 (w := 0) (by decide) ?_
                      refine x_last C q dX12_sheet_84 (by omega) (tbq (by omega)) (by refine ⟨?_, ?_⟩ <;> omega) (by first | assumption | (constructor <;> omega)) ?_
                      refine x_iinc C 4 dX12_sheet_85 rfl (by decide) (lv' := [(0, .ref (aG G 42)), (1, .int (iI s)), (2, .int (iI w)), (3, .int (iI m)), (4, .int (iI (k + 1)))]) rfl ?_
                      refine x_goto C dX12_sheet_88 (tgt := 68) (by decide) ?_
                      exact ih68 ((k + 1)) ((u2 V2 q k 0)) (by omega) (by rw [u2_n (by omega)]; exact h64) (by rw [u2_n (by omega)]; exact h65) (by exact fun c a b d => by rw [u2_n d]; exact hF c a b d) (by exact fun z a b => by (rw [u2_s]; by_cases e : z = k; (rw [e, u1_s]); (rw [u1_n e]; exact hz z a (by omega)))) (by omega)
                exact lp_68 (((40 : Int) - 0).toNat + 1) (0) ((u2 (u2 V 64 s w) 65 s m)) (by omega) (by rw [u2_n (by decide), u2_s]) (by rw [u2_s, u2_n (by decide)]; first | (exfalso; omega) | rw [if_pos (by omega)] | rw [if_neg (by omega)]) (by exact fun c a b d => by rw [u2_n b, u2_n a]) (by exact fun z a b => by omega) (by omega)
              · skip
                refine x_iconst C dX12_sheet_59 ?_
                refine x_goto C dX12_sheet_60 (tgt := 64) (by decide) ?_
                refine x_iast C 65 dX12_sheet_64 (lt67 hn rfl) rfl (by refine ⟨?_, ?_⟩ <;> omega) (by first | assumption | (constructor <;> omega)) ?_
                refine x_iconst C dX12_sheet_65 ?_
                refine x_istore C dX12_sheet_66 (by decide) (lv' := [(0, .ref (aG G 42)), (1, .int (iI s)), (2, .int (iI w)), (3, .int (iI m)), (4, .int (iI 0))]) rfl ?_
                have lp_68 : ∀ (fuel : Nat) (k : Int) (V2 : Nat → Int → Int), (0 ≤ k ∧ k ≤ 40) → (V2 64 = u1 (V 64) s w) → (V2 65 = u1 (V 65) s (if w < 0 then 0 else m)) → (∀ c, c ≠ 64 → c ≠ 65 → c ≠ q → V2 c = V c) → (∀ z, 0 ≤ z → z < k → V2 q z = 0) → ((40 : Int) - k) < (fuel : Int) → Xw K G 0 0 (EndQ K G 0 0 (fun vv uu => ∃ (r : Int), ∃ (V1 : Nat → Int → Int), vv = some (.int (iI r)) ∧ uu = (n, V1, R) ∧ (((¬ (0 ≤ s ∧ s ≤ 3) ∨ ¬ (-1 ≤ w ∧ w ≤ 1) ∨ (0 ≤ w ∧ 40 < m)) ∧ r = -2 ∧ V1 = V) ∨ (¬ (¬ (0 ≤ s ∧ s ≤ 3) ∨ ¬ (-1 ≤ w ∧ w ≤ 1) ∨ (0 ≤ w ∧ 40 < m)) ∧ 0 ≤ w ∧ m < 0 ∧ r = -14 ∧ V1 = V) ∨ (¬ (¬ (0 ≤ s ∧ s ≤ 3) ∨ ¬ (-1 ≤ w ∧ w ≤ 1) ∨ (0 ≤ w ∧ 40 < m)) ∧ ¬ (0 ≤ w ∧ m < 0) ∧ r = 1 ∧ V1 64 = u1 (V 64) s w ∧ V1 65 = u1 (V 65) s (if w < 0 then 0 else m) ∧ (∀ z, 0 ≤ z → z < 40 → V1 (60 + s.toNat) z = 0) ∧ ∀ c, c ≠ 64 → c ≠ 65 → c ≠ 60 + s.toNat → V1 c = V c)))) n V2 R 68 [(0, .ref (aG G 42)), (1, .int (iI s)), (2, .int (iI w)), (3, .int (iI m)), (4, .int (iI k))] [] := by
                  intro fuel68
                  induction fuel68 with
                  | zero => intro k V2 hk h64 h65 hF hz hfu68; exfalso; omega
                  | succ fuel68 ih68 =>
                    intro k V2 hk h64 h65 hF hz hfu68
                    refine x_iload C 4 dX12_sheet_68 rfl ?_
                    refine x_bipush C dX12_sheet_70 (w := 40) (by decide) ?_
                    refine x_icmp_ge C dX12_sheet_72 (tgt := 91) (by decide) (by first | assumption | (constructor <;> omega)) (by first | assumption | (constructor <;> omega)) (fun h72 => ?_) (fun h72 => ?_)
                    · skip
                      refine x_iconst C dX12_sheet_91 ?_
                      refine x_iret C dX12_sheet_92 ⟨_, _, rfl, rfl, ?_⟩
                      · subst hq; exact Or.inr (Or.inr ⟨by omega, by omega, rfl, h64, h65, fun z a b => hz z a (by omega), hF⟩)
                    · skip
                      refine x_aload_n C 0 dX12_sheet_75 rfl rfl ?_
                      refine x_getr C ok_Model 42 38 (d := 59) dX12_sheet_76 (lt67 hn rfl) rfl (by decide) rfl q_4_19 rfl (kz := 38) rfl (lr_42_38 hLR) ?_
                      refine x_iload_n C 1 dX12_sheet_79 rfl rfl ?_
                      refine x_aald2 C 59 dX12_sheet_80 (lt67 hn rfl) rfl (by refine ⟨?_, ?_⟩ <;> omega) ?_
                      refine x_topR (d := q) (by exact sh_r hLR (by omega) hq) ?_
                      refine x_iload C 4 dX12_sheet_81 rfl ?_
                      refine x_lconst C dX12_sheet_83 (w := 0) (by decide) ?_
                      refine x_last C q dX12_sheet_84 (by omega) (tbq (by omega)) (by refine ⟨?_, ?_⟩ <;> omega) (by first | assumption | (constructor <;> omega)) ?_
                      refine x_iinc C 4 dX12_sheet_85 rfl (by decide) (lv' := [(0, .ref (aG G 42)), (1, .int (iI s)), (2, .int (iI w)), (3, .int (iI m)), (4, .int (iI (k + 1)))]) rfl ?_
                      refine x_goto C dX12_sheet_88 (tgt := 68) (by decide) ?_
                      exact ih68 ((k + 1)) ((u2 V2 q k 0)) (by omega) (by rw [u2_n (by omega)]; exact h64) (by rw [u2_n (by omega)]; exact h65) (by exact fun c a b d => by rw [u2_n d]; exact hF c a b d) (by exact fun z a b => by (rw [u2_s]; by_cases e : z = k; (rw [e, u1_s]); (rw [u1_n e]; exact hz z a (by omega)))) (by omega)
                exact lp_68 (((40 : Int) - 0).toNat + 1) (0) ((u2 (u2 V 64 s w) 65 s 0)) (by omega) (by rw [u2_n (by decide), u2_s]) (by rw [u2_s, u2_n (by decide)]; first | (exfalso; omega) | rw [if_pos (by omega)] | rw [if_neg (by omega)]) (by exact fun c a b d => by rw [u2_n b, u2_n a]) (by exact fun z a b => by omega) (by omega)
            · skip
              refine x_bipush C dX12_sheet_40 (w := -14) (by decide) ?_
              refine x_iret C dX12_sheet_42 ⟨_, _, rfl, rfl, ?_⟩
              · first | exact Or.inl ⟨by omega, rfl, rfl⟩ | exact Or.inr (Or.inl ⟨by omega, by omega, by omega, rfl, rfl⟩)
        · skip
          refine x_bipush C dX12_sheet_29 (w := -2) (by decide) ?_
          refine x_iret C dX12_sheet_31 ⟨_, _, rfl, rfl, ?_⟩
          · first | exact Or.inl ⟨by omega, rfl, rfl⟩ | exact Or.inr (Or.inl ⟨by omega, by omega, by omega, rfl, rfl⟩)
set_option maxRecDepth 100000 in
set_option maxHeartbeats 4000000 in
theorem m_X12_put (G : GS) (n : Nat) (V : Nat → Int → Int) (R : Nat → Int → Option Nat) (s : Int) (j : Int) (v : Int) (hn : 67 ≤ n) (hLR : LR R) (gs : Rg s) (gj : Rg j) (hv : Rl v) (hsz : ∀ x, 0 ≤ x → x ≤ 3 → 0 ≤ V 65 x ∧ V 65 x ≤ 40) : Cn G yX12_put cX12_put 5 (some .int) (rmk 3 0 0 61) [.ref (aG G 42), .int (iI s), .int (iI j), .long (jI v)] n V R 0 0 (fun vv uu => ∃ (r : Int), ∃ (V1 : Nat → Int → Int), vv = some (.int (iI r)) ∧ uu = (n, V1, R) ∧ ((¬ (0 ≤ s ∧ s ≤ 3) ∧ r = -2 ∧ V1 = V) ∨ ((0 ≤ s ∧ s ≤ 3) ∧ V 64 s < 0 ∧ r = -11 ∧ V1 = V) ∨ ((0 ≤ s ∧ s ≤ 3) ∧ 0 ≤ V 64 s ∧ ¬ (0 ≤ j ∧ j ≤ V 65 s - 1) ∧ r = -12 ∧ V1 = V) ∨ ((0 ≤ s ∧ s ≤ 3) ∧ 0 ≤ V 64 s ∧ (0 ≤ j ∧ j ≤ V 65 s - 1) ∧ r = 1 ∧ V1 = u2 V (60 + s.toNat) j (if V 64 s = 0 then v else wr v)))) := by
  refine Cn.of (by decide) (Nat.le_of_ble_eq_true rfl) (fun K C hct => ?_)
  show Xw K G 0 0 _ n V R 0 [(0, .ref (aG G 42)), (1, .int (iI s)), (2, .int (iI j)), (3, .long (jI v))] []
  obtain ⟨q, hq⟩ : ∃ q : Nat, q = 60 + s.toNat := ⟨_, rfl⟩
  refine x_iload_n C 1 dX12_put_0 rfl rfl ?_
  refine x_runU (r_callS C (ce_X12_isSheet) (m_X12_isSheet G n V R (s) (by first | assumption | omega | decide)) dX12_put_1 q_48_12 q_48_13 rfl rfl ⟨Nat.le_of_ble_eq_true rfl, Nat.le_of_ble_eq_true rfl⟩ ⟨rfl, rfl⟩ ⟨Nat.le_of_ble_eq_true rfl, Nat.le_of_ble_eq_true rfl⟩ (Nat.le_of_ble_eq_true rfl)) (fun v1 u1 hp1 => ?_)
  obtain ⟨rfl, rfl⟩ := hp1
  show Xw K G 0 0 _ n V R 4 [(0, .ref (aG G 42)), (1, .int (iI s)), (2, .int (iI j)), (3, .long (jI v))] [.int (iI (bI (0 ≤ s ∧ s ≤ 3)))]
  refine x_ifne_b C dX12_put_4 (tgt := 10) (by decide) (fun h4 => ?_) (fun h4 => ?_)
  · skip
    refine x_aload_n C 0 dX12_put_10 rfl rfl ?_
    refine x_getr C ok_Model 42 39 (d := 64) dX12_put_11 (lt67 hn rfl) rfl (by decide) rfl q_4_20 rfl (kz := 39) rfl (lr_42_39 hLR) ?_
    refine x_iload_n C 1 dX12_put_14 rfl rfl ?_
    refine x_iald C 64 dX12_put_15 (lt67 hn rfl) rfl (by refine ⟨?_, ?_⟩ <;> omega) (fun rg15 => ?_)
    refine x_if_ge C dX12_put_16 (tgt := 22) (by decide) (by first | assumption | (constructor <;> omega)) (fun h16 => ?_) (fun h16 => ?_)
    · skip
      have hs2 := hsz s (by omega) (by omega)
      refine x_iload_n C 2 dX12_put_22 rfl rfl ?_
      refine x_i2l C dX12_put_23 (by first | assumption | (constructor <;> omega)) ?_
      refine x_lconst C dX12_put_24 (w := 0) (by decide) ?_
      refine x_aload_n C 0 dX12_put_25 rfl rfl ?_
      refine x_getr C ok_Model 42 40 (d := 65) dX12_put_26 (lt67 hn rfl) rfl (by decide) rfl q_4_21 rfl (kz := 40) rfl (lr_42_40 hLR) ?_
      refine x_iload_n C 1 dX12_put_29 rfl rfl ?_
      refine x_iald C 65 dX12_put_30 (lt67 hn rfl) rfl (by refine ⟨?_, ?_⟩ <;> omega) (fun rg30 => ?_)
      refine x_iconst C dX12_put_31 ?_
      refine x_isub C dX12_put_32 ?_
      refine x_i2l C dX12_put_33 (by first | assumption | (constructor <;> omega)) ?_
      refine x_runU (r_callS C (ce_X12_in) (m_X12_in G n V R (j) (0) ((V 65 s) - 1) (by first | assumption | omega | decide) (by first | assumption | omega | decide) (by first | assumption | omega | decide)) dX12_put_34 q_6_15 q_6_16 rfl rfl ⟨Nat.le_of_ble_eq_true rfl, Nat.le_of_ble_eq_true rfl⟩ ⟨rfl, rfl⟩ ⟨Nat.le_of_ble_eq_true rfl, Nat.le_of_ble_eq_true rfl⟩ (Nat.le_of_ble_eq_true rfl)) (fun v34 u34 hp34 => ?_)
      obtain ⟨rfl, rfl⟩ := hp34
      show Xw K G 0 0 _ n V R 37 [(0, .ref (aG G 42)), (1, .int (iI s)), (2, .int (iI j)), (3, .long (jI v))] [.int (iI (bI (0 ≤ j ∧ j ≤ ((V 65 s) - 1))))]
      refine x_ifne_b C dX12_put_37 (tgt := 43) (by decide) (fun h37 => ?_) (fun h37 => ?_)
      · skip
        refine x_aload_n C 0 dX12_put_43 rfl rfl ?_
        refine x_getr C ok_Model 42 38 (d := 59) dX12_put_44 (lt67 hn rfl) rfl (by decide) rfl q_4_19 rfl (kz := 38) rfl (lr_42_38 hLR) ?_
        refine x_iload_n C 1 dX12_put_47 rfl rfl ?_
        refine x_aald2 C 59 dX12_put_48 (lt67 hn rfl) rfl (by refine ⟨?_, ?_⟩ <;> omega) ?_
        refine x_topR (d := q) (by exact sh_r hLR (by omega) hq) ?_
        refine x_iload_n C 2 dX12_put_49 rfl rfl ?_
        refine x_aload_n C 0 dX12_put_50 rfl rfl ?_
        refine x_getr C ok_Model 42 39 (d := 64) dX12_put_51 (lt67 hn rfl) rfl (by decide) rfl q_4_20 rfl (kz := 39) rfl (lr_42_39 hLR) ?_
        refine x_iload_n C 1 dX12_put_54 rfl rfl ?_
        refine x_iald C 64 dX12_put_55 (lt67 hn rfl) rfl (by refine ⟨?_, ?_⟩ <;> omega) (fun rg55 => ?_)
        refine x_if_ne C dX12_put_56 (tgt := 63) (by decide) (by first | assumption | (constructor <;> omega)) (fun h56 => ?_) (fun h56 => ?_)
        · skip
          refine x_lload_n C 3 dX12_put_63 rfl rfl ?_
          refine x_l2i C dX12_put_64 (by first | assumption | (constructor <;> omega)) ?_
          refine x_i2l C dX12_put_65 (by exact wr_Rg _) ?_
          refine x_last C q dX12_put_66 (by omega) (tbq (by omega)) (by refine ⟨?_, ?_⟩ <;> omega) (by first | assumption | (have := wr_Rg v; constructor <;> omega)) ?_
          refine x_iconst C dX12_put_67 ?_
          refine x_iret C dX12_put_68 ⟨_, _, rfl, rfl, ?_⟩
          · subst hq; refine Or.inr (Or.inr (Or.inr ⟨by omega, by omega, by omega, rfl, ?_⟩)); first | rw [if_pos (by omega)] | rw [if_neg (by omega)]
        · skip
          refine x_lload_n C 3 dX12_put_59 rfl rfl ?_
          refine x_goto C dX12_put_60 (tgt := 66) (by decide) ?_
          refine x_last C q dX12_put_66 (by omega) (tbq (by omega)) (by refine ⟨?_, ?_⟩ <;> omega) (by first | assumption | (have := wr_Rg v; constructor <;> omega)) ?_
          refine x_iconst C dX12_put_67 ?_
          refine x_iret C dX12_put_68 ⟨_, _, rfl, rfl, ?_⟩
          · subst hq; refine Or.inr (Or.inr (Or.inr ⟨by omega, by omega, by omega, rfl, ?_⟩)); first | rw [if_pos (by omega)] | rw [if_neg (by omega)]
      · skip
        refine x_bipush C dX12_put_40 (w := -12) (by decide) ?_
        refine x_iret C dX12_put_42 ⟨_, _, rfl, rfl, ?_⟩
        · first | exact Or.inl ⟨by omega, rfl, rfl⟩ | exact Or.inr (Or.inl ⟨by omega, by omega, rfl, rfl⟩) | exact Or.inr (Or.inr (Or.inl ⟨by omega, by omega, by omega, rfl, rfl⟩))
    · skip
      refine x_bipush C dX12_put_19 (w := -11) (by decide) ?_
      refine x_iret C dX12_put_21 ⟨_, _, rfl, rfl, ?_⟩
      · first | exact Or.inl ⟨by omega, rfl, rfl⟩ | exact Or.inr (Or.inl ⟨by omega, by omega, rfl, rfl⟩) | exact Or.inr (Or.inr (Or.inl ⟨by omega, by omega, by omega, rfl, rfl⟩))
  · skip
    refine x_bipush C dX12_put_7 (w := -2) (by decide) ?_
    refine x_iret C dX12_put_9 ⟨_, _, rfl, rfl, ?_⟩
    · first | exact Or.inl ⟨by omega, rfl, rfl⟩ | exact Or.inr (Or.inl ⟨by omega, by omega, rfl, rfl⟩) | exact Or.inr (Or.inr (Or.inl ⟨by omega, by omega, by omega, rfl, rfl⟩))
set_option maxRecDepth 100000 in
set_option maxHeartbeats 4000000 in
theorem m_X12_copy (G : GS) (n : Nat) (V : Nat → Int → Int) (R : Nat → Int → Option Nat) (s : Int) (a : Int) (t : Int) (b : Int) (m : Int) (hn : 67 ≤ n) (hLR : LR R) (gs : Rg s) (ga : Rg a) (gt : Rg t) (gb : Rg b) (gm : Rg m) (hsz : ∀ x, 0 ≤ x → x ≤ 3 → 0 ≤ V 65 x ∧ V 65 x ≤ 40) : Cn G yX12_copy cX12_copy 7 (some .int) (rmk 3 0 0 61) [.ref (aG G 42), .int (iI s), .int (iI a), .int (iI t), .int (iI b), .int (iI m)] n V R 0 0 (fun vv uu => ∃ (r : Int), ∃ (V1 : Nat → Int → Int), vv = some (.int (iI r)) ∧ uu = (n, V1, R) ∧ ((¬ ((0 ≤ s ∧ s ≤ 3) ∧ (0 ≤ t ∧ t ≤ 3)) ∧ r = -2 ∧ V1 = V) ∨ (((0 ≤ s ∧ s ≤ 3) ∧ (0 ≤ t ∧ t ≤ 3)) ∧ (V 64 s < 0 ∨ V 64 t < 0) ∧ r = -11 ∧ V1 = V) ∨ (((0 ≤ s ∧ s ≤ 3) ∧ (0 ≤ t ∧ t ≤ 3)) ∧ 0 ≤ V 64 s ∧ 0 ≤ V 64 t ∧ V 64 s ≠ V 64 t ∧ r = -13 ∧ V1 = V) ∨ (((0 ≤ s ∧ s ≤ 3) ∧ (0 ≤ t ∧ t ≤ 3)) ∧ 0 ≤ V 64 s ∧ V 64 s = V 64 t ∧ ¬ (0 ≤ m ∧ 0 ≤ a ∧ 0 ≤ b ∧ m ≤ V 65 s ∧ m ≤ V 65 t ∧ a ≤ V 65 s - m ∧ b ≤ V 65 t - m) ∧ r = -12 ∧ V1 = V) ∨ (((0 ≤ s ∧ s ≤ 3) ∧ (0 ≤ t ∧ t ≤ 3)) ∧ 0 ≤ V 64 s ∧ V 64 s = V 64 t ∧ (0 ≤ m ∧ 0 ≤ a ∧ 0 ≤ b ∧ m ≤ V 65 s ∧ m ≤ V 65 t ∧ a ≤ V 65 s - m ∧ b ≤ V 65 t - m) ∧ r = m ∧ (∀ z, V1 (60 + t.toNat) z = if b ≤ z ∧ z < b + m then V (60 + s.toNat) (a + (z - b)) else V (60 + t.toNat) z) ∧ ∀ c, c ≠ 66 → c ≠ 60 + t.toNat → V1 c = V c))) := by
  refine Cn.of (by decide) (Nat.le_of_ble_eq_true rfl) (fun K C hct => ?_)
  show Xw K G 0 0 _ n V R 0 [(0, .ref (aG G 42)), (1, .int (iI s)), (2, .int (iI a)), (3, .int (iI t)), (4, .int (iI b)), (5, .int (iI m))] []
  obtain ⟨q, hq⟩ : ∃ q : Nat, q = 60 + s.toNat := ⟨_, rfl⟩
  obtain ⟨p, hp⟩ : ∃ p : Nat, p = 60 + t.toNat := ⟨_, rfl⟩
  refine x_iload_n C 1 dX12_copy_0 rfl rfl ?_
  refine x_runU (r_callS C (ce_X12_isSheet) (m_X12_isSheet G n V R (s) (by first | assumption | omega | decide)) dX12_copy_1 q_48_12 q_48_13 rfl rfl ⟨Nat.le_of_ble_eq_true rfl, Nat.le_of_ble_eq_true rfl⟩ ⟨rfl, rfl⟩ ⟨Nat.le_of_ble_eq_true rfl, Nat.le_of_ble_eq_true rfl⟩ (Nat.le_of_ble_eq_true rfl)) (fun v1 u1 hp1 => ?_)
  obtain ⟨rfl, rfl⟩ := hp1
  show Xw K G 0 0 _ n V R 4 [(0, .ref (aG G 42)), (1, .int (iI s)), (2, .int (iI a)), (3, .int (iI t)), (4, .int (iI b)), (5, .int (iI m))] [.int (iI (bI (0 ≤ s ∧ s ≤ 3)))]
  refine x_ifeq_b C dX12_copy_4 (tgt := 14) (by decide) (fun h4 => ?_) (fun h4 => ?_)
  · skip
    refine x_bipush C dX12_copy_14 (w := -2) (by decide) ?_
    refine x_iret C dX12_copy_16 ⟨_, _, rfl, rfl, ?_⟩
    · first | exact Or.inl ⟨by omega, rfl, rfl⟩ | exact Or.inr (Or.inl ⟨by omega, by omega, rfl, rfl⟩) | exact Or.inr (Or.inr (Or.inl ⟨by omega, by omega, by omega, by omega, rfl, rfl⟩)) | exact Or.inr (Or.inr (Or.inr (Or.inl ⟨by omega, by omega, by omega, by omega, rfl, rfl⟩)))
  · skip
    refine x_iload_n C 3 dX12_copy_7 rfl rfl ?_
    refine x_runU (r_callS C (ce_X12_isSheet) (m_X12_isSheet G n V R (t) (by first | assumption | omega | decide)) dX12_copy_8 q_48_12 q_48_13 rfl rfl ⟨Nat.le_of_ble_eq_true rfl, Nat.le_of_ble_eq_true rfl⟩ ⟨rfl, rfl⟩ ⟨Nat.le_of_ble_eq_true rfl, Nat.le_of_ble_eq_true rfl⟩ (Nat.le_of_ble_eq_true rfl)) (fun v8 u8 hp8 => ?_)
    obtain ⟨rfl, rfl⟩ := hp8
    show Xw K G 0 0 _ n V R 11 [(0, .ref (aG G 42)), (1, .int (iI s)), (2, .int (iI a)), (3, .int (iI t)), (4, .int (iI b)), (5, .int (iI m))] [.int (iI (bI (0 ≤ t ∧ t ≤ 3)))]
    refine x_ifne_b C dX12_copy_11 (tgt := 17) (by decide) (fun h11 => ?_) (fun h11 => ?_)
    · skip
      have hs2 := hsz s (by omega) (by omega)
      have hs3 := hsz t (by omega) (by omega)
      refine x_aload_n C 0 dX12_copy_17 rfl rfl ?_
      refine x_getr C ok_Model 42 39 (d := 64) dX12_copy_18 (lt67 hn rfl) rfl (by decide) rfl q_4_20 rfl (kz := 39) rfl (lr_42_39 hLR) ?_
      refine x_iload_n C 1 dX12_copy_21 rfl rfl ?_
      refine x_iald C 64 dX12_copy_22 (lt67 hn rfl) rfl (by refine ⟨?_, ?_⟩ <;> omega) (fun rg22 => ?_)
      refine x_if_lt C dX12_copy_23 (tgt := 35) (by decide) (by first | assumption | (constructor <;> omega)) (fun h23 => ?_) (fun h23 => ?_)
      · skip
        refine x_bipush C dX12_copy_35 (w := -11) (by decide) ?_
        refine x_iret C dX12_copy_37 ⟨_, _, rfl, rfl, ?_⟩
        · first | exact Or.inl ⟨by omega, rfl, rfl⟩ | exact Or.inr (Or.inl ⟨by omega, by omega, rfl, rfl⟩) | exact Or.inr (Or.inr (Or.inl ⟨by omega, by omega, by omega, by omega, rfl, rfl⟩)) | exact Or.inr (Or.inr (Or.inr (Or.inl ⟨by omega, by omega, by omega, by omega, rfl, rfl⟩)))
      · skip
        refine x_aload_n C 0 dX12_copy_26 rfl rfl ?_
        refine x_getr C ok_Model 42 39 (d := 64) dX12_copy_27 (lt67 hn rfl) rfl (by decide) rfl q_4_20 rfl (kz := 39) rfl (lr_42_39 hLR) ?_
        refine x_iload_n C 3 dX12_copy_30 rfl rfl ?_
        refine x_iald C 64 dX12_copy_31 (lt67 hn rfl) rfl (by refine ⟨?_, ?_⟩ <;> omega) (fun rg31 => ?_)
        refine x_if_ge C dX12_copy_32 (tgt := 38) (by decide) (by first | assumption | (constructor <;> omega)) (fun h32 => ?_) (fun h32 => ?_)
        · skip
          refine x_aload_n C 0 dX12_copy_38 rfl rfl ?_
          refine x_getr C ok_Model 42 39 (d := 64) dX12_copy_39 (lt67 hn rfl) rfl (by decide) rfl q_4_20 rfl (kz := 39) rfl (lr_42_39 hLR) ?_
          refine x_iload_n C 1 dX12_copy_42 rfl rfl ?_
          refine x_iald C 64 dX12_copy_43 (lt67 hn rfl) rfl (by refine ⟨?_, ?_⟩ <;> omega) (fun rg43 => ?_)
          refine x_aload_n C 0 dX12_copy_44 rfl rfl ?_
          refine x_getr C ok_Model 42 39 (d := 64) dX12_copy_45 (lt67 hn rfl) rfl (by decide) rfl q_4_20 rfl (kz := 39) rfl (lr_42_39 hLR) ?_
          refine x_iload_n C 3 dX12_copy_48 rfl rfl ?_
          refine x_iald C 64 dX12_copy_49 (lt67 hn rfl) rfl (by refine ⟨?_, ?_⟩ <;> omega) (fun rg49 => ?_)
          refine x_icmp_eq C dX12_copy_50 (tgt := 56) (by decide) (by first | assumption | (constructor <;> omega)) (by first | assumption | (constructor <;> omega)) (fun h50 => ?_) (fun h50 => ?_)
          · skip
            refine x_iload C 5 dX12_copy_56 rfl ?_
            refine x_if_lt C dX12_copy_58 (tgt := 119) (by decide) (by first | assumption | (constructor <;> omega)) (fun h58 => ?_) (fun h58 => ?_)
            · skip
              refine x_bipush C dX12_copy_119 (w := -12) (by decide) ?_
              refine x_iret C dX12_copy_121 ⟨_, _, rfl, rfl, ?_⟩
              · first | exact Or.inl ⟨by omega, rfl, rfl⟩ | exact Or.inr (Or.inl ⟨by omega, by omega, rfl, rfl⟩) | exact Or.inr (Or.inr (Or.inl ⟨by omega, by omega, by omega, by omega, rfl, rfl⟩)) | exact Or.inr (Or.inr (Or.inr (Or.inl ⟨by omega, by omega, by omega, by omega, rfl, rfl⟩)))
            · skip
              refine x_iload_n C 2 dX12_copy_61 rfl rfl ?_
              refine x_if_lt C dX12_copy_62 (tgt := 119) (by decide) (by first | assumption | (constructor <;> omega)) (fun h62 => ?_) (fun h62 => ?_)
              · skip
                refine x_bipush C dX12_copy_119 (w := -12) (by decide) ?_
                refine x_iret C dX12_copy_121 ⟨_, _, rfl, rfl, ?_⟩
                · first | exact Or.inl ⟨by omega, rfl, rfl⟩ | exact Or.inr (Or.inl ⟨by omega, by omega, rfl, rfl⟩) | exact Or.inr (Or.inr (Or.inl ⟨by omega, by omega, by omega, by omega, rfl, rfl⟩)) | exact Or.inr (Or.inr (Or.inr (Or.inl ⟨by omega, by omega, by omega, by omega, rfl, rfl⟩)))
              · skip
                refine x_iload C 4 dX12_copy_65 rfl ?_
                refine x_if_lt C dX12_copy_67 (tgt := 119) (by decide) (by first | assumption | (constructor <;> omega)) (fun h67 => ?_) (fun h67 => ?_)
                · skip
                  refine x_bipush C dX12_copy_119 (w := -12) (by decide) ?_
                  refine x_iret C dX12_copy_121 ⟨_, _, rfl, rfl, ?_⟩
                  · first | exact Or.inl ⟨by omega, rfl, rfl⟩ | exact Or.inr (Or.inl ⟨by omega, by omega, rfl, rfl⟩) | exact Or.inr (Or.inr (Or.inl ⟨by omega, by omega, by omega, by omega, rfl, rfl⟩)) | exact Or.inr (Or.inr (Or.inr (Or.inl ⟨by omega, by omega, by omega, by omega, rfl, rfl⟩)))
                · skip
                  refine x_iload C 5 dX12_copy_70 rfl ?_
                  refine x_aload_n C 0 dX12_copy_72 rfl rfl ?_
                  refine x_getr C ok_Model 42 40 (d := 65) dX12_copy_73 (lt67 hn rfl) rfl (by decide) rfl q_4_21 rfl (kz := 40) rfl (lr_42_40 hLR) ?_
                  refine x_iload_n C 1 dX12_copy_76 rfl rfl ?_
                  refine x_iald C 65 dX12_copy_77 (lt67 hn rfl) rfl (by refine ⟨?_, ?_⟩ <;> omega) (fun rg77 => ?_)
                  refine x_icmp_gt C dX12_copy_78 (tgt := 119) (by decide) (by first | assumption | (constructor <;> omega)) (by first | assumption | (constructor <;> omega)) (fun h78 => ?_) (fun h78 => ?_)
                  · skip
                    refine x_bipush C dX12_copy_119 (w := -12) (by decide) ?_
                    refine x_iret C dX12_copy_121 ⟨_, _, rfl, rfl, ?_⟩
                    · first | exact Or.inl ⟨by omega, rfl, rfl⟩ | exact Or.inr (Or.inl ⟨by omega, by omega, rfl, rfl⟩) | exact Or.inr (Or.inr (Or.inl ⟨by omega, by omega, by omega, by omega, rfl, rfl⟩)) | exact Or.inr (Or.inr (Or.inr (Or.inl ⟨by omega, by omega, by omega, by omega, rfl, rfl⟩)))
                  · skip
                    refine x_iload C 5 dX12_copy_81 rfl ?_
                    refine x_aload_n C 0 dX12_copy_83 rfl rfl ?_
                    refine x_getr C ok_Model 42 40 (d := 65) dX12_copy_84 (lt67 hn rfl) rfl (by decide) rfl q_4_21 rfl (kz := 40) rfl (lr_42_40 hLR) ?_
                    refine x_iload_n C 3 dX12_copy_87 rfl rfl ?_
                    refine x_iald C 65 dX12_copy_88 (lt67 hn rfl) rfl (by refine ⟨?_, ?_⟩ <;> omega) (fun rg88 => ?_)
                    refine x_icmp_gt C dX12_copy_89 (tgt := 119) (by decide) (by first | assumption | (constructor <;> omega)) (by first | assumption | (constructor <;> omega)) (fun h89 => ?_) (fun h89 => ?_)
                    · skip
                      refine x_bipush C dX12_copy_119 (w := -12) (by decide) ?_
                      refine x_iret C dX12_copy_121 ⟨_, _, rfl, rfl, ?_⟩
                      · first | exact Or.inl ⟨by omega, rfl, rfl⟩ | exact Or.inr (Or.inl ⟨by omega, by omega, rfl, rfl⟩) | exact Or.inr (Or.inr (Or.inl ⟨by omega, by omega, by omega, by omega, rfl, rfl⟩)) | exact Or.inr (Or.inr (Or.inr (Or.inl ⟨by omega, by omega, by omega, by omega, rfl, rfl⟩)))
                    · skip
                      refine x_iload_n C 2 dX12_copy_92 rfl rfl ?_
                      refine x_aload_n C 0 dX12_copy_93 rfl rfl ?_
                      refine x_getr C ok_Model 42 40 (d := 65) dX12_copy_94 (lt67 hn rfl) rfl (by decide) rfl q_4_21 rfl (kz := 40) rfl (lr_42_40 hLR) ?_
                      refine x_iload_n C 1 dX12_copy_97 rfl rfl ?_
                      refine x_iald C 65 dX12_copy_98 (lt67 hn rfl) rfl (by refine ⟨?_, ?_⟩ <;> omega) (fun rg98 => ?_)
                      refine x_iload C 5 dX12_copy_99 rfl ?_
                      refine x_isub C dX12_copy_101 ?_
                      refine x_icmp_gt C dX12_copy_102 (tgt := 119) (by decide) (by first | assumption | (constructor <;> omega)) (by first | assumption | (constructor <;> omega)) (fun h102 => ?_) (fun h102 => ?_)
                      · skip
                        refine x_bipush C dX12_copy_119 (w := -12) (by decide) ?_
                        refine x_iret C dX12_copy_121 ⟨_, _, rfl, rfl, ?_⟩
                        · first | exact Or.inl ⟨by omega, rfl, rfl⟩ | exact Or.inr (Or.inl ⟨by omega, by omega, rfl, rfl⟩) | exact Or.inr (Or.inr (Or.inl ⟨by omega, by omega, by omega, by omega, rfl, rfl⟩)) | exact Or.inr (Or.inr (Or.inr (Or.inl ⟨by omega, by omega, by omega, by omega, rfl, rfl⟩)))
                      · skip
                        refine x_iload C 4 dX12_copy_105 rfl ?_
                        refine x_aload_n C 0 dX12_copy_107 rfl rfl ?_
                        refine x_getr C ok_Model 42 40 (d := 65) dX12_copy_108 (lt67 hn rfl) rfl (by decide) rfl q_4_21 rfl (kz := 40) rfl (lr_42_40 hLR) ?_
                        refine x_iload_n C 3 dX12_copy_111 rfl rfl ?_
                        refine x_iald C 65 dX12_copy_112 (lt67 hn rfl) rfl (by refine ⟨?_, ?_⟩ <;> omega) (fun rg112 => ?_)
                        refine x_iload C 5 dX12_copy_113 rfl ?_
                        refine x_isub C dX12_copy_115 ?_
                        refine x_icmp_le C dX12_copy_116 (tgt := 122) (by decide) (by first | assumption | (constructor <;> omega)) (by first | assumption | (constructor <;> omega)) (fun h116 => ?_) (fun h116 => ?_)
                        · skip
                          refine x_iconst C dX12_copy_122 ?_
                          refine x_istore C dX12_copy_123 (by decide) (lv' := [(0, .ref (aG G 42)), (1, .int (iI s)), (2, .int (iI a)), (3, .int (iI t)), (4, .int (iI b)), (5, .int (iI m)), (6, .int (iI 0))]) rfl ?_
                          have lp_125 : ∀ (fuel : Nat) (k : Int) (V2 : Nat → Int → Int), (0 ≤ k ∧ k ≤ m) → (FrT V V2 66) → (∀ z, 0 ≤ z → z < k → V2 66 z = V q (a + z)) → (m - k) < (fuel : Int) → Xw K G 0 0 (EndQ K G 0 0 (fun vv uu => ∃ (r : Int), ∃ (V1 : Nat → Int → Int), vv = some (.int (iI r)) ∧ uu = (n, V1, R) ∧ ((¬ ((0 ≤ s ∧ s ≤ 3) ∧ (0 ≤ t ∧ t ≤ 3)) ∧ r = -2 ∧ V1 = V) ∨ (((0 ≤ s ∧ s ≤ 3) ∧ (0 ≤ t ∧ t ≤ 3)) ∧ (V 64 s < 0 ∨ V 64 t < 0) ∧ r = -11 ∧ V1 = V) ∨ (((0 ≤ s ∧ s ≤ 3) ∧ (0 ≤ t ∧ t ≤ 3)) ∧ 0 ≤ V 64 s ∧ 0 ≤ V 64 t ∧ V 64 s ≠ V 64 t ∧ r = -13 ∧ V1 = V) ∨ (((0 ≤ s ∧ s ≤ 3) ∧ (0 ≤ t ∧ t ≤ 3)) ∧ 0 ≤ V 64 s ∧ V 64 s = V 64 t ∧ ¬ (0 ≤ m ∧ 0 ≤ a ∧ 0 ≤ b ∧ m ≤ V 65 s ∧ m ≤ V 65 t ∧ a ≤ V 65 s - m ∧ b ≤ V 65 t - m) ∧ r = -12 ∧ V1 = V) ∨ (((0 ≤ s ∧ s ≤ 3) ∧ (0 ≤ t ∧ t ≤ 3)) ∧ 0 ≤ V 64 s ∧ V 64 s = V 64 t ∧ (0 ≤ m ∧ 0 ≤ a ∧ 0 ≤ b ∧ m ≤ V 65 s ∧ m ≤ V 65 t ∧ a ≤ V 65 s - m ∧ b ≤ V 65 t - m) ∧ r = m ∧ (∀ z, V1 (60 + t.toNat) z = if b ≤ z ∧ z < b + m then V (60 + s.toNat) (a + (z - b)) else V (60 + t.toNat) z) ∧ ∀ c, c ≠ 66 → c ≠ 60 + t.toNat → V1 c = V c)))) n V2 R 125 [(0, .ref (aG G 42)), (1, .int (iI s)), (2, .int (iI a)), (3, .int (iI t)), (4, .int (iI b)), (5, .int (iI m)), (6, .int (iI k))] [] := by
                            intro fuel125
                            induction fuel125 with
                            | zero => intro k V2 hk hF hc hfu125; exfalso; omega
                            | succ fuel125 ih125 =>
                              intro k V2 hk hF hc hfu125
                              refine x_iload C 6 dX12_copy_125 rfl ?_
                              refine x_iload C 5 dX12_copy_127 rfl ?_
                              refine x_icmp_ge C dX12_copy_129 (tgt := 156) (by decide) (by first | assumption | (constructor <;> omega)) (by first | assumption | (constructor <;> omega)) (fun h129 => ?_) (fun h129 => ?_)
                              · skip
                                refine x_iconst C dX12_copy_156 ?_
                                refine x_istore C dX12_copy_157 (by decide) (lv' := [(0, .ref (aG G 42)), (1, .int (iI s)), (2, .int (iI a)), (3, .int (iI t)), (4, .int (iI b)), (5, .int (iI m)), (6, .int (iI 0))]) rfl ?_
                                have lp_159 : ∀ (fuel : Nat) (k : Int) (V3 : Nat → Int → Int), (0 ≤ k ∧ k ≤ m) → (∀ c, c ≠ 66 → c ≠ p → V3 c = V c) → (∀ z, 0 ≤ z → z < m → V3 66 z = V q (a + z)) → (∀ z, V3 p z = if b ≤ z ∧ z < b + k then V q (a + (z - b)) else V p z) → (m - k) < (fuel : Int) → Xw K G 0 0 (EndQ K G 0 0 (fun vv uu => ∃ (r : Int), ∃ (V1 : Nat → Int → Int), vv = some (.int (iI r)) ∧ uu = (n, V1, R) ∧ ((¬ ((0 ≤ s ∧ s ≤ 3) ∧ (0 ≤ t ∧ t ≤ 3)) ∧ r = -2 ∧ V1 = V) ∨ (((0 ≤ s ∧ s ≤ 3) ∧ (0 ≤ t ∧ t ≤ 3)) ∧ (V 64 s < 0 ∨ V 64 t < 0) ∧ r = -11 ∧ V1 = V) ∨ (((0 ≤ s ∧ s ≤ 3) ∧ (0 ≤ t ∧ t ≤ 3)) ∧ 0 ≤ V 64 s ∧ 0 ≤ V 64 t ∧ V 64 s ≠ V 64 t ∧ r = -13 ∧ V1 = V) ∨ (((0 ≤ s ∧ s ≤ 3) ∧ (0 ≤ t ∧ t ≤ 3)) ∧ 0 ≤ V 64 s ∧ V 64 s = V 64 t ∧ ¬ (0 ≤ m ∧ 0 ≤ a ∧ 0 ≤ b ∧ m ≤ V 65 s ∧ m ≤ V 65 t ∧ a ≤ V 65 s - m ∧ b ≤ V 65 t - m) ∧ r = -12 ∧ V1 = V) ∨ (((0 ≤ s ∧ s ≤ 3) ∧ (0 ≤ t ∧ t ≤ 3)) ∧ 0 ≤ V 64 s ∧ V 64 s = V 64 t ∧ (0 ≤ m ∧ 0 ≤ a ∧ 0 ≤ b ∧ m ≤ V 65 s ∧ m ≤ V 65 t ∧ a ≤ V 65 s - m ∧ b ≤ V 65 t - m) ∧ r = m ∧ (∀ z, V1 (60 + t.toNat) z = if b ≤ z ∧ z < b + m then V (60 + s.toNat) (a + (z - b)) else V (60 + t.toNat) z) ∧ ∀ c, c ≠ 66 → c ≠ 60 + t.toNat → V1 c = V c)))) n V3 R 159 [(0, .ref (aG G 42)), (1, .int (iI s)), (2, .int (iI a)), (3, .int (iI t)), (4, .int (iI b)), (5, .int (iI m)), (6, .int (iI k))] [] := by
                                  intro fuel159
                                  induction fuel159 with
                                  | zero => intro k V3 hk hF3 h66 hp3 hfu159; exfalso; omega
                                  | succ fuel159 ih159 =>
                                    intro k V3 hk hF3 h66 hp3 hfu159
                                    refine x_iload C 6 dX12_copy_159 rfl ?_
                                    refine x_iload C 5 dX12_copy_161 rfl ?_
                                    refine x_icmp_ge C dX12_copy_163 (tgt := 191) (by decide) (by first | assumption | (constructor <;> omega)) (by first | assumption | (constructor <;> omega)) (fun h163 => ?_) (fun h163 => ?_)
                                    · skip
                                      refine x_iload C 5 dX12_copy_191 rfl ?_
                                      refine x_iret C dX12_copy_193 ⟨_, _, rfl, rfl, ?_⟩
                                      · subst hq; subst hp; exact Or.inr (Or.inr (Or.inr (Or.inr ⟨by omega, by omega, by omega, by omega, rfl, fun z => by rw [hp3 z, show k = m by omega], hF3⟩)))
                                    · skip
                                      refine x_aload_n C 0 dX12_copy_166 rfl rfl ?_
                                      refine x_getr C ok_Model 42 38 (d := 59) dX12_copy_167 (lt67 hn rfl) rfl (by decide) rfl q_4_19 rfl (kz := 38) rfl (lr_42_38 hLR) ?_
                                      refine x_iload_n C 3 dX12_copy_170 rfl rfl ?_
                                      refine x_aald2 C 59 dX12_copy_171 (lt67 hn rfl) rfl (by refine ⟨?_, ?_⟩ <;> omega) ?_
                                      refine x_topR (d := p) (by exact sh_r hLR (by omega) hp) ?_
                                      refine x_iload C 4 dX12_copy_172 rfl ?_
                                      refine x_iload C 6 dX12_copy_174 rfl ?_
                                      refine x_iadd C dX12_copy_176 ?_
                                      refine x_aload_n C 0 dX12_copy_177 rfl rfl ?_
                                      refine x_getr C ok_Model 42 41 (d := 66) dX12_copy_178 (lt67 hn rfl) rfl (by decide) rfl q_4_22 rfl (kz := 41) rfl (lr_42_41 hLR) ?_
                                      refine x_iload C 6 dX12_copy_181 rfl ?_
                                      refine x_lald C 66 dX12_copy_183 (lt67 hn rfl) rfl (by refine ⟨?_, ?_⟩ <;> omega) (fun rg183 => ?_)
                                      refine x_last C p dX12_copy_184 (by omega) (tbq (by omega)) (by refine ⟨?_, ?_⟩ <;> omega) (by first | assumption | (constructor <;> omega)) ?_
                                      refine x_iinc C 6 dX12_copy_185 rfl (by decide) (lv' := [(0, .ref (aG G 42)), (1, .int (iI s)), (2, .int (iI a)), (3, .int (iI t)), (4, .int (iI b)), (5, .int (iI m)), (6, .int (iI (k + 1)))]) rfl ?_
                                      refine x_goto C dX12_copy_188 (tgt := 159) (by decide) ?_
                                      exact ih159 ((k + 1)) ((u2 V3 p (b + k) (V3 66 k))) (by omega) (by exact fun c x y => by rw [u2_n y]; exact hF3 c x y) (by exact fun z x y => by rw [u2_n (by omega)]; exact h66 z x y) (by exact fun z => by (rw [u2_s]; by_cases e : z = b + k; (rw [e, u1_s, if_pos (by omega), h66 k (by omega) (by omega)]; congr 1; omega); (rw [u1_n e, hp3 z]; by_cases e2 : b ≤ z ∧ z < b + k; (rw [if_pos e2, if_pos (by omega)]); (rw [if_neg e2, if_neg (by omega)])))) (by omega)
                                exact lp_159 ((m - 0).toNat + 1) (0) (V2) (by omega) (by exact fun c x _ => hF c x) (by exact fun z x y => hc z x (by omega)) (by exact fun z => by rw [if_neg (by omega), hF p (by omega)]) (by omega)
                              · skip
                                refine x_aload_n C 0 dX12_copy_132 rfl rfl ?_
                                refine x_getr C ok_Model 42 41 (d := 66) dX12_copy_133 (lt67 hn rfl) rfl (by decide) rfl q_4_22 rfl (kz := 41) rfl (lr_42_41 hLR) ?_
                                refine x_iload C 6 dX12_copy_136 rfl ?_
                                refine x_aload_n C 0 dX12_copy_138 rfl rfl ?_
                                refine x_getr C ok_Model 42 38 (d := 59) dX12_copy_139 (lt67 hn rfl) rfl (by decide) rfl q_4_19 rfl (kz := 38) rfl (lr_42_38 hLR) ?_
                                refine x_iload_n C 1 dX12_copy_142 rfl rfl ?_
                                refine x_aald2 C 59 dX12_copy_143 (lt67 hn rfl) rfl (by refine ⟨?_, ?_⟩ <;> omega) ?_
                                refine x_topR (d := q) (by exact sh_r hLR (by omega) hq) ?_
                                refine x_iload_n C 2 dX12_copy_144 rfl rfl ?_
                                refine x_iload C 6 dX12_copy_145 rfl ?_
                                refine x_iadd C dX12_copy_147 ?_
                                refine x_lald C q dX12_copy_148 (by omega) (tbq (by omega)) (by refine ⟨?_, ?_⟩ <;> omega) (fun rg148 => ?_)
                                refine x_last C 66 dX12_copy_149 (lt67 hn rfl) rfl (by refine ⟨?_, ?_⟩ <;> omega) (by first | assumption | (constructor <;> omega)) ?_
                                refine x_iinc C 6 dX12_copy_150 rfl (by decide) (lv' := [(0, .ref (aG G 42)), (1, .int (iI s)), (2, .int (iI a)), (3, .int (iI t)), (4, .int (iI b)), (5, .int (iI m)), (6, .int (iI (k + 1)))]) rfl ?_
                                refine x_goto C dX12_copy_153 (tgt := 125) (by decide) ?_
                                exact ih125 ((k + 1)) ((u2 V2 66 k (V2 q (a + k)))) (by omega) (by exact fun c e => by rw [u2_n e]; exact hF c e) (by exact fun z x y => by (rw [u2_s]; by_cases e : z = k; (rw [e, u1_s, hF q (by omega)]); (rw [u1_n e]; exact hc z x (by omega)))) (by omega)
                          exact lp_125 ((m - 0).toNat + 1) (0) (V) (by omega) (by exact fun _ _ => rfl) (by exact fun z x y => by omega) (by omega)
                        · skip
                          refine x_bipush C dX12_copy_119 (w := -12) (by decide) ?_
                          refine x_iret C dX12_copy_121 ⟨_, _, rfl, rfl, ?_⟩
                          · first | exact Or.inl ⟨by omega, rfl, rfl⟩ | exact Or.inr (Or.inl ⟨by omega, by omega, rfl, rfl⟩) | exact Or.inr (Or.inr (Or.inl ⟨by omega, by omega, by omega, by omega, rfl, rfl⟩)) | exact Or.inr (Or.inr (Or.inr (Or.inl ⟨by omega, by omega, by omega, by omega, rfl, rfl⟩)))
          · skip
            refine x_bipush C dX12_copy_53 (w := -13) (by decide) ?_
            refine x_iret C dX12_copy_55 ⟨_, _, rfl, rfl, ?_⟩
            · first | exact Or.inl ⟨by omega, rfl, rfl⟩ | exact Or.inr (Or.inl ⟨by omega, by omega, rfl, rfl⟩) | exact Or.inr (Or.inr (Or.inl ⟨by omega, by omega, by omega, by omega, rfl, rfl⟩)) | exact Or.inr (Or.inr (Or.inr (Or.inl ⟨by omega, by omega, by omega, by omega, rfl, rfl⟩)))
        · skip
          refine x_bipush C dX12_copy_35 (w := -11) (by decide) ?_
          refine x_iret C dX12_copy_37 ⟨_, _, rfl, rfl, ?_⟩
          · first | exact Or.inl ⟨by omega, rfl, rfl⟩ | exact Or.inr (Or.inl ⟨by omega, by omega, rfl, rfl⟩) | exact Or.inr (Or.inr (Or.inl ⟨by omega, by omega, by omega, by omega, rfl, rfl⟩)) | exact Or.inr (Or.inr (Or.inr (Or.inl ⟨by omega, by omega, by omega, by omega, rfl, rfl⟩)))
    · skip
      refine x_bipush C dX12_copy_14 (w := -2) (by decide) ?_
      refine x_iret C dX12_copy_16 ⟨_, _, rfl, rfl, ?_⟩
      · first | exact Or.inl ⟨by omega, rfl, rfl⟩ | exact Or.inr (Or.inl ⟨by omega, by omega, rfl, rfl⟩) | exact Or.inr (Or.inr (Or.inl ⟨by omega, by omega, by omega, by omega, rfl, rfl⟩)) | exact Or.inr (Or.inr (Or.inr (Or.inl ⟨by omega, by omega, by omega, by omega, rfl, rfl⟩)))
