
set_option maxRecDepth 100000 in
set_option maxHeartbeats 4000000 in
theorem m_X12_lasts (G : GS) (n : Nat) (V : Nat → Int → Int) (R : Nat → Int → Option Nat) (f : Int) (hn : 67 ≤ n) (hLR : LR R) (hf : 0 ≤ f ∧ f ≤ 7) (hk : 0 ≤ V 43 (4 * f) ∧ V 43 (4 * f) ≤ 6) (ha : 0 ≤ V 43 (4 * f + 1) ∧ V 43 (4 * f + 1) ≤ 7) (hs : 0 ≤ V 43 (4 * f + 2) ∧ V 43 (4 * f + 2) ≤ 7) (hz : 1 ≤ V 43 (4 * f + 3) ∧ V 43 (4 * f + 3) ≤ 4) : Cn G yX12_lasts cX12_lasts 3 (some .int) (rmk 1 0 0 16) [.ref (aG G 42), .int (iI f)] n V R 0 0 (fun vv uu => vv = some (.int (iI (lastF (V 43 (4 * f)) (V 43 (4 * f + 3))))) ∧ uu = (n, V, R)) := by
  refine Cn.of (by decide) (Nat.le_of_ble_eq_true rfl) (fun K C hct => ?_)
  show Xw K G 0 0 _ n V R 0 [(0, .ref (aG G 42)), (1, .int (iI f))] []
  refine x_aload_n C 0 dX12_lasts_0 rfl rfl ?_
  refine x_getr C ok_Model 42 5 (d := 43) dX12_lasts_1 (lt67 hn rfl) rfl (by decide) rfl q_4_1 rfl (kz := 5) rfl (lr_42_5 hLR) ?_
  refine x_iconst C dX12_lasts_4 ?_
  refine x_iload_n C 1 dX12_lasts_5 rfl rfl ?_
  refine x_imul C dX12_lasts_6 ?_
  refine x_iconst C dX12_lasts_7 ?_
  refine x_iadd C dX12_lasts_8 ?_
  refine x_iald C 43 dX12_lasts_9 (lt67 hn rfl) rfl (by refine ⟨?_, ?_⟩ <;> omega) (fun rg9 => ?_)
  refine x_istore_n C dX12_lasts_10 rfl (by decide) (lv' := [(0, .ref (aG G 42)), (1, .int (iI f)), (2, .int (iI (V 43 ((4 * f) + 3))))]) rfl ?_
  refine x_aload_n C 0 dX12_lasts_11 rfl rfl ?_
  refine x_getr C ok_Model 42 5 (d := 43) dX12_lasts_12 (lt67 hn rfl) rfl (by decide) rfl q_4_1 rfl (kz := 5) rfl (lr_42_5 hLR) ?_
  refine x_iconst C dX12_lasts_15 ?_
  refine x_iload_n C 1 dX12_lasts_16 rfl rfl ?_
  refine x_imul C dX12_lasts_17 ?_
  refine x_iald C 43 dX12_lasts_18 (lt67 hn rfl) rfl (by refine ⟨?_, ?_⟩ <;> omega) (fun rg18 => ?_)
  rcases (show (V 43 (4 * f)) = 0 ∨ (V 43 (4 * f)) = 1 ∨ (V 43 (4 * f)) = 2 ∨ (V 43 (4 * f)) = 3 ∨ (V 43 (4 * f)) = 4 ∨ ((V 43 (4 * f)) < 0 ∨ 4 < (V 43 (4 * f))) by omega) with h19 | h19 | h19 | h19 | h19 | h19
  · skip
    refine x_tin C 0 h19 dX12_lasts_19 (by constructor <;> decide) (by decide) (by decide) (off := 33) rfl (tgt := 52) (by decide) ?_
    refine x_iload_n C 2 dX12_lasts_52 rfl rfl ?_
    refine x_iret C dX12_lasts_53 ⟨congrArg (fun z => some (Value.int (iI z))) (by unfold lastF; repeat' split <;> omega), rfl⟩
  · skip
    refine x_tin C 1 h19 dX12_lasts_19 (by constructor <;> decide) (by decide) (by decide) (off := 33) rfl (tgt := 52) (by decide) ?_
    refine x_iload_n C 2 dX12_lasts_52 rfl rfl ?_
    refine x_iret C dX12_lasts_53 ⟨congrArg (fun z => some (Value.int (iI z))) (by unfold lastF; repeat' split <;> omega), rfl⟩
  · skip
    refine x_tin C 2 h19 dX12_lasts_19 (by constructor <;> decide) (by decide) (by decide) (off := 35) rfl (tgt := 54) (by decide) ?_
    refine x_iconst C dX12_lasts_54 ?_
    refine x_iload_n C 2 dX12_lasts_55 rfl rfl ?_
    refine x_imul C dX12_lasts_56 ?_
    refine x_iret C dX12_lasts_57 ⟨congrArg (fun z => some (Value.int (iI z))) (by unfold lastF; repeat' split <;> omega), rfl⟩
  · skip
    refine x_tin C 3 h19 dX12_lasts_19 (by constructor <;> decide) (by decide) (by decide) (off := 39) rfl (tgt := 58) (by decide) ?_
    refine x_iload_n C 2 dX12_lasts_58 rfl rfl ?_
    refine x_iconst C dX12_lasts_59 ?_
    refine x_iadd C dX12_lasts_60 ?_
    refine x_iret C dX12_lasts_61 ⟨congrArg (fun z => some (Value.int (iI z))) (by unfold lastF; repeat' split <;> omega), rfl⟩
  · skip
    refine x_tin C 4 h19 dX12_lasts_19 (by constructor <;> decide) (by decide) (by decide) (off := 39) rfl (tgt := 58) (by decide) ?_
    refine x_iload_n C 2 dX12_lasts_58 rfl rfl ?_
    refine x_iconst C dX12_lasts_59 ?_
    refine x_iadd C dX12_lasts_60 ?_
    refine x_iret C dX12_lasts_61 ⟨congrArg (fun z => some (Value.int (iI z))) (by unfold lastF; repeat' split <;> omega), rfl⟩
  · skip
    refine x_tout C dX12_lasts_19 (tgt := 62) (by decide) (by first | assumption | (constructor <;> omega)) h19 ?_
    refine x_bipush C dX12_lasts_62 (w := 8) (by decide) ?_
    refine x_iret C dX12_lasts_64 ⟨congrArg (fun z => some (Value.int (iI z))) (by unfold lastF; repeat' split <;> omega), rfl⟩
set_option maxRecDepth 100000 in
set_option maxHeartbeats 4000000 in
theorem m_X12_hurts (G : GS) (n : Nat) (V : Nat → Int → Int) (R : Nat → Int → Option Nat) (k : Int) (hk : 0 ≤ k ∧ k ≤ 6) : Cn G yX12_hurts cX12_hurts 1 (some .int) (rmk 1 0 0 16) [.int (iI k)] n V R 0 0 (fun vv uu => vv = some (.int (iI (hurtK k))) ∧ uu = (n, V, R)) := by
  refine Cn.of (by decide) (Nat.le_of_ble_eq_true rfl) (fun K C hct => ?_)
  show Xw K G 0 0 _ n V R 0 [(0, .int (iI k))] []
  refine x_iload_n C 0 dX12_hurts_0 rfl rfl ?_
  rcases (show k = 1 ∨ k = 2 ∨ k = 3 ∨ k = 4 ∨ k = 5 ∨ (k < 1 ∨ 5 < k) by omega) with h1 | h1 | h1 | h1 | h1 | h1
  · skip
    refine x_tin C 1 h1 dX12_hurts_1 (by constructor <;> decide) (by decide) (by decide) (off := 35) rfl (tgt := 36) (by decide) ?_
    refine x_iconst C dX12_hurts_36 ?_
    refine x_iret C dX12_hurts_37 ⟨congrArg (fun z => some (Value.int (iI z))) (by unfold hurtK; repeat' split <;> omega), rfl⟩
  · skip
    refine x_tin C 2 h1 dX12_hurts_1 (by constructor <;> decide) (by decide) (by decide) (off := 35) rfl (tgt := 36) (by decide) ?_
    refine x_iconst C dX12_hurts_36 ?_
    refine x_iret C dX12_hurts_37 ⟨congrArg (fun z => some (Value.int (iI z))) (by unfold hurtK; repeat' split <;> omega), rfl⟩
  · skip
    refine x_tin C 3 h1 dX12_hurts_1 (by constructor <;> decide) (by decide) (by decide) (off := 37) rfl (tgt := 38) (by decide) ?_
    refine x_iconst C dX12_hurts_38 ?_
    refine x_iret C dX12_hurts_39 ⟨congrArg (fun z => some (Value.int (iI z))) (by unfold hurtK; repeat' split <;> omega), rfl⟩
  · skip
    refine x_tin C 4 h1 dX12_hurts_1 (by constructor <;> decide) (by decide) (by decide) (off := 39) rfl (tgt := 40) (by decide) ?_
    refine x_iconst C dX12_hurts_40 ?_
    refine x_iret C dX12_hurts_41 ⟨congrArg (fun z => some (Value.int (iI z))) (by unfold hurtK; repeat' split <;> omega), rfl⟩
  · skip
    refine x_tin C 5 h1 dX12_hurts_1 (by constructor <;> decide) (by decide) (by decide) (off := 41) rfl (tgt := 42) (by decide) ?_
    refine x_bipush C dX12_hurts_42 (w := 9) (by decide) ?_
    refine x_iret C dX12_hurts_44 ⟨congrArg (fun z => some (Value.int (iI z))) (by unfold hurtK; repeat' split <;> omega), rfl⟩
  · skip
    refine x_tout C dX12_hurts_1 (tgt := 45) (by decide) (by first | assumption | (constructor <;> omega)) h1 ?_
    refine x_iconst C dX12_hurts_45 ?_
    refine x_iret C dX12_hurts_46 ⟨congrArg (fun z => some (Value.int (iI z))) (by unfold hurtK; repeat' split <;> omega), rfl⟩
set_option maxRecDepth 100000 in
set_option maxHeartbeats 4000000 in
theorem m_X12_isAt (G : GS) (n : Nat) (V : Nat → Int → Int) (R : Nat → Int → Option Nat) (f : Int) (s : Int) (hn : 67 ≤ n) (hLR : LR R) (hf : 0 ≤ f ∧ f ≤ 7) (hk : 0 ≤ V 43 (4 * f) ∧ V 43 (4 * f) ≤ 6) (ha : 0 ≤ V 43 (4 * f + 1) ∧ V 43 (4 * f + 1) ≤ 7) (hs : 0 ≤ V 43 (4 * f + 2) ∧ V 43 (4 * f + 2) ≤ 7) (hz : 1 ≤ V 43 (4 * f + 3) ∧ V 43 (4 * f + 3) ≤ 4) (h0 : 0 ≤ s ∧ s ≤ 7) : Cn G yX12_isAt cX12_isAt 4 (some .boolean) (rmk 2 0 0 38) [.ref (aG G 42), .int (iI f), .int (iI s)] n V R 0 0 (fun vv uu => vv = some (.int (iI (bI (atF (V 43 (4 * f)) (V 43 (4 * f + 2)) (V 43 (4 * f + 3)) s)))) ∧ uu = (n, V, R)) := by
  refine Cn.of (by decide) (Nat.le_of_ble_eq_true rfl) (fun K C hct => ?_)
  show Xw K G 0 0 _ n V R 0 [(0, .ref (aG G 42)), (1, .int (iI f)), (2, .int (iI s))] []
  have hb := lastF_b (k := V 43 (4 * f)) hz
  refine x_aload_n C 0 dX12_isAt_0 rfl rfl ?_
  refine x_getr C ok_Model 42 5 (d := 43) dX12_isAt_1 (lt67 hn rfl) rfl (by decide) rfl q_4_1 rfl (kz := 5) rfl (lr_42_5 hLR) ?_
  refine x_iconst C dX12_isAt_4 ?_
  refine x_iload_n C 1 dX12_isAt_5 rfl rfl ?_
  refine x_imul C dX12_isAt_6 ?_
  refine x_iconst C dX12_isAt_7 ?_
  refine x_iadd C dX12_isAt_8 ?_
  refine x_iald C 43 dX12_isAt_9 (lt67 hn rfl) rfl (by refine ⟨?_, ?_⟩ <;> omega) (fun rg9 => ?_)
  refine x_istore_n C dX12_isAt_10 rfl (by decide) (lv' := [(0, .ref (aG G 42)), (1, .int (iI f)), (2, .int (iI s)), (3, .int (iI (V 43 ((4 * f) + 2))))]) rfl ?_
  refine x_iload_n C 2 dX12_isAt_11 rfl rfl ?_
  refine x_iload_n C 3 dX12_isAt_12 rfl rfl ?_
  refine x_icmp_lt C dX12_isAt_13 (tgt := 31) (by decide) (by first | assumption | (constructor <;> omega)) (by first | assumption | (constructor <;> omega)) (fun h13 => ?_) (fun h13 => ?_)
  · skip
    refine x_iconst C dX12_isAt_31 ?_
    refine x_zret C (Or.inl rfl) dX12_isAt_32 ⟨bI_rf (by unfold atF; omega), rfl⟩
  · skip
    refine x_iload_n C 2 dX12_isAt_16 rfl rfl ?_
    refine x_iload_n C 3 dX12_isAt_17 rfl rfl ?_
    refine x_aload_n C 0 dX12_isAt_18 rfl rfl ?_
    refine x_iload_n C 1 dX12_isAt_19 rfl rfl ?_
    refine x_runU (r_callV C ok_Model 42 (lt67 hn rfl) rfl (ce_X12_lasts) (m_X12_lasts G n V R (f) hn hLR (by first | assumption | omega | decide) (by first | assumption | omega | decide) (by first | assumption | omega | decide) (by first | assumption | omega | decide) (by first | assumption | omega | decide)) rfl dX12_isAt_20 q_25_5 q_25_6 q_25_7 rfl rfl ⟨Nat.le_of_ble_eq_true rfl, Nat.le_of_ble_eq_true rfl⟩ ⟨rfl, rfl⟩ ⟨Nat.le_of_ble_eq_true rfl, Nat.le_of_ble_eq_true rfl⟩ (Nat.le_of_ble_eq_true rfl)) (fun v20 u20 hp20 => ?_)
    obtain ⟨rfl, rfl⟩ := hp20
    show Xw K G 0 0 _ n V R 23 [(0, .ref (aG G 42)), (1, .int (iI f)), (2, .int (iI s)), (3, .int (iI (V 43 ((4 * f) + 2))))] [.int (iI (lastF (V 43 (4 * f)) (V 43 (4 * f + 3)))), .int (iI (V 43 ((4 * f) + 2))), .int (iI s)]
    refine x_iadd C dX12_isAt_23 ?_
    refine x_icmp_ge C dX12_isAt_24 (tgt := 31) (by decide) (by first | assumption | (constructor <;> omega)) (by first | assumption | (constructor <;> omega)) (fun h24 => ?_) (fun h24 => ?_)
    · skip
      refine x_iconst C dX12_isAt_31 ?_
      refine x_zret C (Or.inl rfl) dX12_isAt_32 ⟨bI_rf (by unfold atF; omega), rfl⟩
    · skip
      refine x_iconst C dX12_isAt_27 ?_
      refine x_goto C dX12_isAt_28 (tgt := 32) (by decide) ?_
      refine x_zret C (Or.inr rfl) dX12_isAt_32 ⟨bI_rt (by unfold atF; omega), rfl⟩
set_option maxRecDepth 100000 in
set_option maxHeartbeats 4000000 in
theorem m_X12_woodIn (G : GS) (n : Nat) (V : Nat → Int → Int) (R : Nat → Int → Option Nat) (f : Int) (hn : 67 ≤ n) (hLR : LR R) (hf : 0 ≤ f ∧ f ≤ 7) (hk : 0 ≤ V 43 (4 * f) ∧ V 43 (4 * f) ≤ 6) (ha : 0 ≤ V 43 (4 * f + 1) ∧ V 43 (4 * f + 1) ≤ 7) (hs : 0 ≤ V 43 (4 * f + 2) ∧ V 43 (4 * f + 2) ≤ 7) (hz : 1 ≤ V 43 (4 * f + 3) ∧ V 43 (4 * f + 3) ≤ 4) (h1 : 0 ≤ V 42 0 ∧ V 42 0 ≤ 6) (h2 : 0 ≤ V 42 1 ∧ V 42 1 ≤ 4) (h3 : 0 ≤ V 42 2 ∧ V 42 2 ≤ 8) : Cn G yX12_woodIn cX12_woodIn 7 (some .int) (rmk 3 0 0 67) [.ref (aG G 42), .int (iI f)] n V R 0 0 (fun vv uu => vv = some (.int (iI (nWoodIn (V 42 0) (V 42 1) (V 42 2) (V 43 (4 * f)) (V 43 (4 * f + 1)) (V 43 (4 * f + 2)) (V 43 (4 * f + 3))))) ∧ uu = (n, V, R)) := by
  refine Cn.of (by decide) (Nat.le_of_ble_eq_true rfl) (fun K C hct => ?_)
  show Xw K G 0 0 _ n V R 0 [(0, .ref (aG G 42)), (1, .int (iI f))] []
  refine x_iconst C dX12_woodIn_0 ?_
  refine x_istore_n C dX12_woodIn_1 rfl (by decide) (lv' := [(0, .ref (aG G 42)), (1, .int (iI f)), (2, .int (iI 0))]) rfl ?_
  refine x_iconst C dX12_woodIn_2 ?_
  refine x_istore_n C dX12_woodIn_3 rfl (by decide) (lv' := [(0, .ref (aG G 42)), (1, .int (iI f)), (2, .int (iI 0)), (3, .int (iI 0))]) rfl ?_
  have lp_4 : ∀ (fuel : Nat) (w : Int) (c : Int), (0 ≤ c ∧ c ≤ 144 * V 42 2) → (w = sm (fun c => bI (atF (V 43 (4 * f)) (V 43 (4 * f + 2)) (V 43 (4 * f + 3)) (c / 144) ∧ inF (V 43 (4 * f)) (V 43 (4 * f + 1)) (V 43 (4 * f + 3)) (c % 12) (c / 12 % 12) ∧ woodP (V 42 0) (V 42 1) (c % 12) (c / 12 % 12) (c / 144))) c) → (144 * V 42 2 - c) < (fuel : Int) → Xw K G 0 0 (EndQ K G 0 0 (fun vv uu => vv = some (.int (iI (nWoodIn (V 42 0) (V 42 1) (V 42 2) (V 43 (4 * f)) (V 43 (4 * f + 1)) (V 43 (4 * f + 2)) (V 43 (4 * f + 3))))) ∧ uu = (n, V, R))) n V R 4 [(0, .ref (aG G 42)), (1, .int (iI f)), (2, .int (iI w)), (3, .int (iI c))] [] := by
    intro fuel4
    induction fuel4 with
    | zero => intro w c hc hw hfu4; exfalso; omega
    | succ fuel4 ih4 =>
      intro w c hc hw hfu4
      have hb := sm_b (f := fun c => bI (atF (V 43 (4 * f)) (V 43 (4 * f + 2)) (V 43 (4 * f + 3)) (c / 144) ∧ inF (V 43 (4 * f)) (V 43 (4 * f + 1)) (V 43 (4 * f + 3)) (c % 12) (c / 12 % 12) ∧ woodP (V 42 0) (V 42 1) (c % 12) (c / 12 % 12) (c / 144))) (A := 1) hc.1 (fun i _ _ => bI_b _)
      refine x_iload_n C 3 dX12_woodIn_4 rfl rfl ?_
      refine x_sipush C dX12_woodIn_5 (w := 144) (by decide) ?_
      refine x_aload_n C 0 dX12_woodIn_8 rfl rfl ?_
      refine x_geti C ok_Model 42 2 dX12_woodIn_9 (lt67 hn rfl) rfl (by decide) rfl q_6_12 rfl (kz := 2) rfl (fun rg9 => ?_)
      refine x_imul C dX12_woodIn_12 ?_
      refine x_icmp_ge C dX12_woodIn_13 (tgt := 87) (by decide) (by first | assumption | (constructor <;> omega)) (by first | assumption | (constructor <;> omega)) (fun h13 => ?_) (fun h13 => ?_)
      · skip
        refine x_iload_n C 2 dX12_woodIn_87 rfl rfl ?_
        refine x_iret C dX12_woodIn_88 ⟨congrArg (fun z => some (Value.int (iI z))) (by rw [hw]; unfold nWoodIn; congr 1; omega), rfl⟩
      · skip
        refine x_iload_n C 3 dX12_woodIn_16 rfl rfl ?_
        refine x_bipush C dX12_woodIn_17 (w := 12) (by decide) ?_
        refine x_irem C dX12_woodIn_19 (by first | assumption | (constructor <;> omega)) (by first | assumption | (constructor <;> omega)) (by omega) (by omega) ?_
        refine x_istore C dX12_woodIn_20 (by decide) (lv' := [(0, .ref (aG G 42)), (1, .int (iI f)), (2, .int (iI w)), (3, .int (iI c)), (4, .int (iI (c % 12)))]) rfl ?_
        refine x_iload_n C 3 dX12_woodIn_22 rfl rfl ?_
        refine x_bipush C dX12_woodIn_23 (w := 12) (by decide) ?_
        refine x_idiv C dX12_woodIn_25 (by first | assumption | (constructor <;> omega)) (by first | assumption | (constructor <;> omega)) (by omega) (by omega) ?_
        refine x_bipush C dX12_woodIn_26 (w := 12) (by decide) ?_
        refine x_irem C dX12_woodIn_28 (by first | assumption | (constructor <;> omega)) (by first | assumption | (constructor <;> omega)) (by omega) (by omega) ?_
        refine x_istore C dX12_woodIn_29 (by decide) (lv' := [(0, .ref (aG G 42)), (1, .int (iI f)), (2, .int (iI w)), (3, .int (iI c)), (4, .int (iI (c % 12))), (5, .int (iI ((c / 12) % 12)))]) rfl ?_
        refine x_iload_n C 3 dX12_woodIn_31 rfl rfl ?_
        refine x_sipush C dX12_woodIn_32 (w := 144) (by decide) ?_
        refine x_idiv C dX12_woodIn_35 (by first | assumption | (constructor <;> omega)) (by first | assumption | (constructor <;> omega)) (by omega) (by omega) ?_
        refine x_istore C dX12_woodIn_36 (by decide) (lv' := [(0, .ref (aG G 42)), (1, .int (iI f)), (2, .int (iI w)), (3, .int (iI c)), (4, .int (iI (c % 12))), (5, .int (iI ((c / 12) % 12))), (6, .int (iI (c / 144)))]) rfl ?_
        refine x_iload_n C 2 dX12_woodIn_38 rfl rfl ?_
        refine x_aload_n C 0 dX12_woodIn_39 rfl rfl ?_
        refine x_iload_n C 1 dX12_woodIn_40 rfl rfl ?_
        refine x_iload C 6 dX12_woodIn_41 rfl ?_
        refine x_runU (r_callV C ok_Model 42 (lt67 hn rfl) rfl (ce_X12_isAt) (m_X12_isAt G n V R (f) (c / 144) hn hLR (by first | assumption | omega | decide) (by first | assumption | omega | decide) (by first | assumption | omega | decide) (by first | assumption | omega | decide) (by first | assumption | omega | decide) (by first | assumption | omega | decide)) rfl dX12_woodIn_43 q_25_1 q_25_2 q_25_3 rfl rfl ⟨Nat.le_of_ble_eq_true rfl, Nat.le_of_ble_eq_true rfl⟩ ⟨rfl, rfl⟩ ⟨Nat.le_of_ble_eq_true rfl, Nat.le_of_ble_eq_true rfl⟩ (Nat.le_of_ble_eq_true rfl)) (fun v43 u43 hp43 => ?_)
        obtain ⟨rfl, rfl⟩ := hp43
        show Xw K G 0 0 _ n V R 46 [(0, .ref (aG G 42)), (1, .int (iI f)), (2, .int (iI w)), (3, .int (iI c)), (4, .int (iI (c % 12))), (5, .int (iI ((c / 12) % 12))), (6, .int (iI (c / 144)))] [.int (iI (bI (atF (V 43 (4 * f)) (V 43 (4 * f + 2)) (V 43 (4 * f + 3)) (c / 144)))), .int (iI w)]
        refine x_ifeq_b C dX12_woodIn_46 (tgt := 78) (by decide) (fun h46 => ?_) (fun h46 => ?_)
        · skip
          refine x_iconst C dX12_woodIn_78 ?_
          refine x_iadd C dX12_woodIn_79 ?_
          refine x_istore_n C dX12_woodIn_80 rfl (by decide) (lv' := [(0, .ref (aG G 42)), (1, .int (iI f)), (2, .int (iI (w + 0))), (3, .int (iI c)), (4, .int (iI (c % 12))), (5, .int (iI ((c / 12) % 12))), (6, .int (iI (c / 144)))]) rfl ?_
          refine x_iinc C 3 dX12_woodIn_81 rfl (by decide) (lv' := [(0, .ref (aG G 42)), (1, .int (iI f)), (2, .int (iI (w + 0))), (3, .int (iI (c + 1))), (4, .int (iI (c % 12))), (5, .int (iI ((c / 12) % 12))), (6, .int (iI (c / 144)))]) rfl ?_
          refine x_goto C dX12_woodIn_84 (tgt := 4) (by decide) ?_
          refine x_sub [0, 1, 2, 3] (lv' := [(0, .ref (aG G 42)), (1, .int (iI f)), (2, .int (iI (w + 0))), (3, .int (iI (c + 1)))]) rfl ?_
          exact ih4 ((w + 0)) ((c + 1)) (by first | assumption | omega) (by first | exact sm_st hc.1 hw (bI_t (And.intro h46 (And.intro h58 h71))).symm | exact sm_st hc.1 hw (bI_f (fun q => h46 q.1)).symm | exact sm_st hc.1 hw (bI_f (fun q => h58 q.2.1)).symm | exact sm_st hc.1 hw (bI_f (fun q => h71 q.2.2)).symm) (by omega)
        · skip
          refine x_aload_n C 0 dX12_woodIn_49 rfl rfl ?_
          refine x_iload_n C 1 dX12_woodIn_50 rfl rfl ?_
          refine x_iload C 4 dX12_woodIn_51 rfl ?_
          refine x_iload C 5 dX12_woodIn_53 rfl ?_
          refine x_runU (r_callV C ok_Model 42 (lt67 hn rfl) rfl (ce_X12_isIn) (m_X12_isIn G n V R (f) (c % 12) ((c / 12) % 12) hn hLR (by first | assumption | omega | decide) (by first | assumption | omega | decide) (by first | assumption | omega | decide) (by first | assumption | omega | decide) (by first | assumption | omega | decide) (by first | assumption | omega | decide) (by first | assumption | omega | decide)) rfl dX12_woodIn_55 q_25_9 q_25_10 q_25_11 rfl rfl ⟨Nat.le_of_ble_eq_true rfl, Nat.le_of_ble_eq_true rfl⟩ ⟨rfl, rfl⟩ ⟨Nat.le_of_ble_eq_true rfl, Nat.le_of_ble_eq_true rfl⟩ (Nat.le_of_ble_eq_true rfl)) (fun v55 u55 hp55 => ?_)
          obtain ⟨rfl, rfl⟩ := hp55
          show Xw K G 0 0 _ n V R 58 [(0, .ref (aG G 42)), (1, .int (iI f)), (2, .int (iI w)), (3, .int (iI c)), (4, .int (iI (c % 12))), (5, .int (iI ((c / 12) % 12))), (6, .int (iI (c / 144)))] [.int (iI (bI (inF (V 43 (4 * f)) (V 43 (4 * f + 1)) (V 43 (4 * f + 3)) (c % 12) ((c / 12) % 12)))), .int (iI w)]
          refine x_ifeq_b C dX12_woodIn_58 (tgt := 78) (by decide) (fun h58 => ?_) (fun h58 => ?_)
          · skip
            refine x_iconst C dX12_woodIn_78 ?_
            refine x_iadd C dX12_woodIn_79 ?_
            refine x_istore_n C dX12_woodIn_80 rfl (by decide) (lv' := [(0, .ref (aG G 42)), (1, .int (iI f)), (2, .int (iI (w + 0))), (3, .int (iI c)), (4, .int (iI (c % 12))), (5, .int (iI ((c / 12) % 12))), (6, .int (iI (c / 144)))]) rfl ?_
            refine x_iinc C 3 dX12_woodIn_81 rfl (by decide) (lv' := [(0, .ref (aG G 42)), (1, .int (iI f)), (2, .int (iI (w + 0))), (3, .int (iI (c + 1))), (4, .int (iI (c % 12))), (5, .int (iI ((c / 12) % 12))), (6, .int (iI (c / 144)))]) rfl ?_
            refine x_goto C dX12_woodIn_84 (tgt := 4) (by decide) ?_
            refine x_sub [0, 1, 2, 3] (lv' := [(0, .ref (aG G 42)), (1, .int (iI f)), (2, .int (iI (w + 0))), (3, .int (iI (c + 1)))]) rfl ?_
            exact ih4 ((w + 0)) ((c + 1)) (by first | assumption | omega) (by first | exact sm_st hc.1 hw (bI_t (And.intro h46 (And.intro h58 h71))).symm | exact sm_st hc.1 hw (bI_f (fun q => h46 q.1)).symm | exact sm_st hc.1 hw (bI_f (fun q => h58 q.2.1)).symm | exact sm_st hc.1 hw (bI_f (fun q => h71 q.2.2)).symm) (by omega)
          · skip
            refine x_aload_n C 0 dX12_woodIn_61 rfl rfl ?_
            refine x_iload C 4 dX12_woodIn_62 rfl ?_
            refine x_iload C 5 dX12_woodIn_64 rfl ?_
            refine x_iload C 6 dX12_woodIn_66 rfl ?_
            refine x_runU (r_callV C ok_Model 42 (lt67 hn rfl) rfl (ce_X12_isWood) (m_X12_isWood G n V R (c % 12) ((c / 12) % 12) (c / 144) hn hLR (by first | assumption | omega | decide) (by first | assumption | omega | decide) (by first | assumption | omega | decide) (by first | assumption | omega | decide) (by first | assumption | omega | decide)) rfl dX12_woodIn_68 q_6_22 q_6_23 q_7_0 rfl rfl ⟨Nat.le_of_ble_eq_true rfl, Nat.le_of_ble_eq_true rfl⟩ ⟨rfl, rfl⟩ ⟨Nat.le_of_ble_eq_true rfl, Nat.le_of_ble_eq_true rfl⟩ (Nat.le_of_ble_eq_true rfl)) (fun v68 u68 hp68 => ?_)
            obtain ⟨rfl, rfl⟩ := hp68
            show Xw K G 0 0 _ n V R 71 [(0, .ref (aG G 42)), (1, .int (iI f)), (2, .int (iI w)), (3, .int (iI c)), (4, .int (iI (c % 12))), (5, .int (iI ((c / 12) % 12))), (6, .int (iI (c / 144)))] [.int (iI (bI (woodP (V 42 0) (V 42 1) (c % 12) ((c / 12) % 12) (c / 144)))), .int (iI w)]
            refine x_ifeq_b C dX12_woodIn_71 (tgt := 78) (by decide) (fun h71 => ?_) (fun h71 => ?_)
            · skip
              refine x_iconst C dX12_woodIn_78 ?_
              refine x_iadd C dX12_woodIn_79 ?_
              refine x_istore_n C dX12_woodIn_80 rfl (by decide) (lv' := [(0, .ref (aG G 42)), (1, .int (iI f)), (2, .int (iI (w + 0))), (3, .int (iI c)), (4, .int (iI (c % 12))), (5, .int (iI ((c / 12) % 12))), (6, .int (iI (c / 144)))]) rfl ?_
              refine x_iinc C 3 dX12_woodIn_81 rfl (by decide) (lv' := [(0, .ref (aG G 42)), (1, .int (iI f)), (2, .int (iI (w + 0))), (3, .int (iI (c + 1))), (4, .int (iI (c % 12))), (5, .int (iI ((c / 12) % 12))), (6, .int (iI (c / 144)))]) rfl ?_
              refine x_goto C dX12_woodIn_84 (tgt := 4) (by decide) ?_
              refine x_sub [0, 1, 2, 3] (lv' := [(0, .ref (aG G 42)), (1, .int (iI f)), (2, .int (iI (w + 0))), (3, .int (iI (c + 1)))]) rfl ?_
              exact ih4 ((w + 0)) ((c + 1)) (by first | assumption | omega) (by first | exact sm_st hc.1 hw (bI_t (And.intro h46 (And.intro h58 h71))).symm | exact sm_st hc.1 hw (bI_f (fun q => h46 q.1)).symm | exact sm_st hc.1 hw (bI_f (fun q => h58 q.2.1)).symm | exact sm_st hc.1 hw (bI_f (fun q => h71 q.2.2)).symm) (by omega)
            · skip
              refine x_iconst C dX12_woodIn_74 ?_
              refine x_goto C dX12_woodIn_75 (tgt := 79) (by decide) ?_
              refine x_iadd C dX12_woodIn_79 ?_
              refine x_istore_n C dX12_woodIn_80 rfl (by decide) (lv' := [(0, .ref (aG G 42)), (1, .int (iI f)), (2, .int (iI (w + 1))), (3, .int (iI c)), (4, .int (iI (c % 12))), (5, .int (iI ((c / 12) % 12))), (6, .int (iI (c / 144)))]) rfl ?_
              refine x_iinc C 3 dX12_woodIn_81 rfl (by decide) (lv' := [(0, .ref (aG G 42)), (1, .int (iI f)), (2, .int (iI (w + 1))), (3, .int (iI (c + 1))), (4, .int (iI (c % 12))), (5, .int (iI ((c / 12) % 12))), (6, .int (iI (c / 144)))]) rfl ?_
              refine x_goto C dX12_woodIn_84 (tgt := 4) (by decide) ?_
              refine x_sub [0, 1, 2, 3] (lv' := [(0, .ref (aG G 42)), (1, .int (iI f)), (2, .int (iI (w + 1))), (3, .int (iI (c + 1)))]) rfl ?_
              exact ih4 ((w + 1)) ((c + 1)) (by first | assumption | omega) (by first | exact sm_st hc.1 hw (bI_t (And.intro h46 (And.intro h58 h71))).symm | exact sm_st hc.1 hw (bI_f (fun q => h46 q.1)).symm | exact sm_st hc.1 hw (bI_f (fun q => h58 q.2.1)).symm | exact sm_st hc.1 hw (bI_f (fun q => h71 q.2.2)).symm) (by omega)
  exact lp_4 ((144 * V 42 2 - 0).toNat + 1) (0) (0) (by omega) (by rfl) (by omega)
set_option maxRecDepth 100000 in
set_option maxHeartbeats 4000000 in
theorem m_X12_told (G : GS) (n : Nat) (V : Nat → Int → Int) (R : Nat → Int → Option Nat) (f : Int) (w : Int) (hn : 67 ≤ n) (hLR : LR R) (gf : Rg f) (gw : Rg w) (h4 : 0 ≤ V 42 4 ∧ V 42 4 ≤ 8) (hF : ∀ i, 0 ≤ i → i < V 42 4 → okM V i) (h1 : 0 ≤ V 42 0 ∧ V 42 0 ≤ 6) (h2 : 0 ≤ V 42 1 ∧ V 42 1 ≤ 4) (h3 : 0 ≤ V 42 2 ∧ V 42 2 ≤ 8) : Cn G yX12_told cX12_told 3 (some .int) (rmk 4 0 0 93) [.ref (aG G 42), .int (iI f), .int (iI w)] n V R 0 0 (fun vv uu => ∃ (r : Int), vv = some (.int (iI r)) ∧ uu = (n, V, R) ∧ (((¬ (0 ≤ f ∧ f ≤ V 42 4 - 1)) ∧ r = (-2)) ∨ ((0 ≤ f ∧ f ≤ V 42 4 - 1 ∧ w = 0) ∧ r = V 43 (4 * f)) ∨ ((0 ≤ f ∧ f ≤ V 42 4 - 1 ∧ w = 1) ∧ r = V 43 (4 * f + 1)) ∨ ((0 ≤ f ∧ f ≤ V 42 4 - 1 ∧ w = 2) ∧ r = V 43 (4 * f + 2)) ∨ ((0 ≤ f ∧ f ≤ V 42 4 - 1 ∧ w = 3) ∧ r = V 43 (4 * f + 3)) ∨ ((0 ≤ f ∧ f ≤ V 42 4 - 1 ∧ w = 4) ∧ r = nWoodIn (V 42 0) (V 42 1) (V 42 2) (V 43 (4 * f)) (V 43 (4 * f + 1)) (V 43 (4 * f + 2)) (V 43 (4 * f + 3))) ∨ ((0 ≤ f ∧ f ≤ V 42 4 - 1 ∧ w = 5) ∧ r = max 0 (min (V 42 2) (V 43 (4 * f + 2) + lastF (V 43 (4 * f)) (V 43 (4 * f + 3))) - V 43 (4 * f + 2))) ∨ ((0 ≤ f ∧ f ≤ V 42 4 - 1 ∧ w = 6) ∧ r = hurtK (V 43 (4 * f))) ∨ ((0 ≤ f ∧ f ≤ V 42 4 - 1 ∧ ¬ (0 ≤ w ∧ w ≤ 6)) ∧ r = (-2)))) := by
  refine Cn.of (by decide) (Nat.le_of_ble_eq_true rfl) (fun K C hct => ?_)
  show Xw K G 0 0 _ n V R 0 [(0, .ref (aG G 42)), (1, .int (iI f)), (2, .int (iI w))] []
  refine x_iload_n C 1 dX12_told_0 rfl rfl ?_
  refine x_i2l C dX12_told_1 (by first | assumption | (constructor <;> omega)) ?_
  refine x_lconst C dX12_told_2 (w := 0) (by decide) ?_
  refine x_aload_n C 0 dX12_told_3 rfl rfl ?_
  refine x_geti C ok_Model 42 4 dX12_told_4 (lt67 hn rfl) rfl (by decide) rfl q_6_14 rfl (kz := 4) rfl (fun rg4 => ?_)
  refine x_iconst C dX12_told_7 ?_
  refine x_isub C dX12_told_8 ?_
  refine x_i2l C dX12_told_9 (by first | assumption | (constructor <;> omega)) ?_
  refine x_runU (r_callS C (ce_X12_in) (m_X12_in G n V R (f) (0) ((V 42 4) - 1) (by first | assumption | omega | decide) (by first | assumption | omega | decide) (by first | assumption | omega | decide)) dX12_told_10 q_6_15 q_6_16 rfl rfl ⟨Nat.le_of_ble_eq_true rfl, Nat.le_of_ble_eq_true rfl⟩ ⟨rfl, rfl⟩ ⟨Nat.le_of_ble_eq_true rfl, Nat.le_of_ble_eq_true rfl⟩ (Nat.le_of_ble_eq_true rfl)) (fun v10 u10 hp10 => ?_)
  obtain ⟨rfl, rfl⟩ := hp10
  show Xw K G 0 0 _ n V R 13 [(0, .ref (aG G 42)), (1, .int (iI f)), (2, .int (iI w))] [.int (iI (bI (0 ≤ f ∧ f ≤ ((V 42 4) - 1))))]
  refine x_ifne_b C dX12_told_13 (tgt := 19) (by decide) (fun h13 => ?_) (fun h13 => ?_)
  · skip
    obtain ⟨hk, ha, hs, hz⟩ := hF f (by omega) (by omega)
    have hb := lastF_b (k := V 43 (4 * f)) hz
    refine x_iload_n C 2 dX12_told_19 rfl rfl ?_
    rcases (show w = 0 ∨ w = 1 ∨ w = 2 ∨ w = 3 ∨ w = 4 ∨ w = 5 ∨ w = 6 ∨ (w < 0 ∨ 6 < w) by omega) with h20 | h20 | h20 | h20 | h20 | h20 | h20 | h20
    · skip
      refine x_tin C 0 h20 dX12_told_20 (by constructor <;> decide) (by decide) (by decide) (off := 44) rfl (tgt := 64) (by decide) ?_
      refine x_aload_n C 0 dX12_told_64 rfl rfl ?_
      refine x_getr C ok_Model 42 5 (d := 43) dX12_told_65 (lt67 hn rfl) rfl (by decide) rfl q_4_1 rfl (kz := 5) rfl (lr_42_5 hLR) ?_
      refine x_iconst C dX12_told_68 ?_
      refine x_iload_n C 1 dX12_told_69 rfl rfl ?_
      refine x_imul C dX12_told_70 ?_
      refine x_iload_n C 2 dX12_told_71 rfl rfl ?_
      refine x_iadd C dX12_told_72 ?_
      refine x_iald C 43 dX12_told_73 (lt67 hn rfl) rfl (by refine ⟨?_, ?_⟩ <;> omega) (fun rg73 => ?_)
      refine x_iret C dX12_told_74 ⟨_, rfl, rfl, ?_⟩
      · first | (refine Or.inl ⟨?_, ?_⟩ <;> first | rfl | assumption | omega | exact congrArg _ (by omega)) | (refine Or.inr (Or.inl ⟨?_, ?_⟩) <;> first | rfl | assumption | omega | exact congrArg _ (by omega)) | (refine Or.inr (Or.inr (Or.inl ⟨?_, ?_⟩)) <;> first | rfl | assumption | omega | exact congrArg _ (by omega)) | (refine Or.inr (Or.inr (Or.inr (Or.inl ⟨?_, ?_⟩))) <;> first | rfl | assumption | omega | exact congrArg _ (by omega)) | (refine Or.inr (Or.inr (Or.inr (Or.inr (Or.inl ⟨?_, ?_⟩)))) <;> first | rfl | assumption | omega | exact congrArg _ (by omega)) | (refine Or.inr (Or.inr (Or.inr (Or.inr (Or.inr (Or.inl ⟨?_, ?_⟩))))) <;> first | rfl | assumption | omega | exact congrArg _ (by omega)) | (refine Or.inr (Or.inr (Or.inr (Or.inr (Or.inr (Or.inr (Or.inl ⟨?_, ?_⟩)))))) <;> first | rfl | assumption | omega | exact congrArg _ (by omega)) | (refine Or.inr (Or.inr (Or.inr (Or.inr (Or.inr (Or.inr (Or.inr (Or.inl ⟨?_, ?_⟩))))))) <;> first | rfl | assumption | omega | exact congrArg _ (by omega)) | (refine Or.inr (Or.inr (Or.inr (Or.inr (Or.inr (Or.inr (Or.inr (Or.inr (⟨?_, ?_⟩)))))))) <;> first | rfl | assumption | omega | exact congrArg _ (by omega))
    · skip
      refine x_tin C 1 h20 dX12_told_20 (by constructor <;> decide) (by decide) (by decide) (off := 44) rfl (tgt := 64) (by decide) ?_
      refine x_aload_n C 0 dX12_told_64 rfl rfl ?_
      refine x_getr C ok_Model 42 5 (d := 43) dX12_told_65 (lt67 hn rfl) rfl (by decide) rfl q_4_1 rfl (kz := 5) rfl (lr_42_5 hLR) ?_
      refine x_iconst C dX12_told_68 ?_
      refine x_iload_n C 1 dX12_told_69 rfl rfl ?_
      refine x_imul C dX12_told_70 ?_
      refine x_iload_n C 2 dX12_told_71 rfl rfl ?_
      refine x_iadd C dX12_told_72 ?_
      refine x_iald C 43 dX12_told_73 (lt67 hn rfl) rfl (by refine ⟨?_, ?_⟩ <;> omega) (fun rg73 => ?_)
      refine x_iret C dX12_told_74 ⟨_, rfl, rfl, ?_⟩
      · first | (refine Or.inl ⟨?_, ?_⟩ <;> first | rfl | assumption | omega | exact congrArg _ (by omega)) | (refine Or.inr (Or.inl ⟨?_, ?_⟩) <;> first | rfl | assumption | omega | exact congrArg _ (by omega)) | (refine Or.inr (Or.inr (Or.inl ⟨?_, ?_⟩)) <;> first | rfl | assumption | omega | exact congrArg _ (by omega)) | (refine Or.inr (Or.inr (Or.inr (Or.inl ⟨?_, ?_⟩))) <;> first | rfl | assumption | omega | exact congrArg _ (by omega)) | (refine Or.inr (Or.inr (Or.inr (Or.inr (Or.inl ⟨?_, ?_⟩)))) <;> first | rfl | assumption | omega | exact congrArg _ (by omega)) | (refine Or.inr (Or.inr (Or.inr (Or.inr (Or.inr (Or.inl ⟨?_, ?_⟩))))) <;> first | rfl | assumption | omega | exact congrArg _ (by omega)) | (refine Or.inr (Or.inr (Or.inr (Or.inr (Or.inr (Or.inr (Or.inl ⟨?_, ?_⟩)))))) <;> first | rfl | assumption | omega | exact congrArg _ (by omega)) | (refine Or.inr (Or.inr (Or.inr (Or.inr (Or.inr (Or.inr (Or.inr (Or.inl ⟨?_, ?_⟩))))))) <;> first | rfl | assumption | omega | exact congrArg _ (by omega)) | (refine Or.inr (Or.inr (Or.inr (Or.inr (Or.inr (Or.inr (Or.inr (Or.inr (⟨?_, ?_⟩)))))))) <;> first | rfl | assumption | omega | exact congrArg _ (by omega))
    · skip
      refine x_tin C 2 h20 dX12_told_20 (by constructor <;> decide) (by decide) (by decide) (off := 44) rfl (tgt := 64) (by decide) ?_
      refine x_aload_n C 0 dX12_told_64 rfl rfl ?_
      refine x_getr C ok_Model 42 5 (d := 43) dX12_told_65 (lt67 hn rfl) rfl (by decide) rfl q_4_1 rfl (kz := 5) rfl (lr_42_5 hLR) ?_
      refine x_iconst C dX12_told_68 ?_
      refine x_iload_n C 1 dX12_told_69 rfl rfl ?_
      refine x_imul C dX12_told_70 ?_
      refine x_iload_n C 2 dX12_told_71 rfl rfl ?_
      refine x_iadd C dX12_told_72 ?_
      refine x_iald C 43 dX12_told_73 (lt67 hn rfl) rfl (by refine ⟨?_, ?_⟩ <;> omega) (fun rg73 => ?_)
      refine x_iret C dX12_told_74 ⟨_, rfl, rfl, ?_⟩
      · first | (refine Or.inl ⟨?_, ?_⟩ <;> first | rfl | assumption | omega | exact congrArg _ (by omega)) | (refine Or.inr (Or.inl ⟨?_, ?_⟩) <;> first | rfl | assumption | omega | exact congrArg _ (by omega)) | (refine Or.inr (Or.inr (Or.inl ⟨?_, ?_⟩)) <;> first | rfl | assumption | omega | exact congrArg _ (by omega)) | (refine Or.inr (Or.inr (Or.inr (Or.inl ⟨?_, ?_⟩))) <;> first | rfl | assumption | omega | exact congrArg _ (by omega)) | (refine Or.inr (Or.inr (Or.inr (Or.inr (Or.inl ⟨?_, ?_⟩)))) <;> first | rfl | assumption | omega | exact congrArg _ (by omega)) | (refine Or.inr (Or.inr (Or.inr (Or.inr (Or.inr (Or.inl ⟨?_, ?_⟩))))) <;> first | rfl | assumption | omega | exact congrArg _ (by omega)) | (refine Or.inr (Or.inr (Or.inr (Or.inr (Or.inr (Or.inr (Or.inl ⟨?_, ?_⟩)))))) <;> first | rfl | assumption | omega | exact congrArg _ (by omega)) | (refine Or.inr (Or.inr (Or.inr (Or.inr (Or.inr (Or.inr (Or.inr (Or.inl ⟨?_, ?_⟩))))))) <;> first | rfl | assumption | omega | exact congrArg _ (by omega)) | (refine Or.inr (Or.inr (Or.inr (Or.inr (Or.inr (Or.inr (Or.inr (Or.inr (⟨?_, ?_⟩)))))))) <;> first | rfl | assumption | omega | exact congrArg _ (by omega))
    · skip
      refine x_tin C 3 h20 dX12_told_20 (by constructor <;> decide) (by decide) (by decide) (off := 44) rfl (tgt := 64) (by decide) ?_
      refine x_aload_n C 0 dX12_told_64 rfl rfl ?_
      refine x_getr C ok_Model 42 5 (d := 43) dX12_told_65 (lt67 hn rfl) rfl (by decide) rfl q_4_1 rfl (kz := 5) rfl (lr_42_5 hLR) ?_
      refine x_iconst C dX12_told_68 ?_
      refine x_iload_n C 1 dX12_told_69 rfl rfl ?_
      refine x_imul C dX12_told_70 ?_
      refine x_iload_n C 2 dX12_told_71 rfl rfl ?_
      refine x_iadd C dX12_told_72 ?_
      refine x_iald C 43 dX12_told_73 (lt67 hn rfl) rfl (by refine ⟨?_, ?_⟩ <;> omega) (fun rg73 => ?_)
      refine x_iret C dX12_told_74 ⟨_, rfl, rfl, ?_⟩
      · first | (refine Or.inl ⟨?_, ?_⟩ <;> first | rfl | assumption | omega | exact congrArg _ (by omega)) | (refine Or.inr (Or.inl ⟨?_, ?_⟩) <;> first | rfl | assumption | omega | exact congrArg _ (by omega)) | (refine Or.inr (Or.inr (Or.inl ⟨?_, ?_⟩)) <;> first | rfl | assumption | omega | exact congrArg _ (by omega)) | (refine Or.inr (Or.inr (Or.inr (Or.inl ⟨?_, ?_⟩))) <;> first | rfl | assumption | omega | exact congrArg _ (by omega)) | (refine Or.inr (Or.inr (Or.inr (Or.inr (Or.inl ⟨?_, ?_⟩)))) <;> first | rfl | assumption | omega | exact congrArg _ (by omega)) | (refine Or.inr (Or.inr (Or.inr (Or.inr (Or.inr (Or.inl ⟨?_, ?_⟩))))) <;> first | rfl | assumption | omega | exact congrArg _ (by omega)) | (refine Or.inr (Or.inr (Or.inr (Or.inr (Or.inr (Or.inr (Or.inl ⟨?_, ?_⟩)))))) <;> first | rfl | assumption | omega | exact congrArg _ (by omega)) | (refine Or.inr (Or.inr (Or.inr (Or.inr (Or.inr (Or.inr (Or.inr (Or.inl ⟨?_, ?_⟩))))))) <;> first | rfl | assumption | omega | exact congrArg _ (by omega)) | (refine Or.inr (Or.inr (Or.inr (Or.inr (Or.inr (Or.inr (Or.inr (Or.inr (⟨?_, ?_⟩)))))))) <;> first | rfl | assumption | omega | exact congrArg _ (by omega))
    · skip
      refine x_tin C 4 h20 dX12_told_20 (by constructor <;> decide) (by decide) (by decide) (off := 55) rfl (tgt := 75) (by decide) ?_
      refine x_aload_n C 0 dX12_told_75 rfl rfl ?_
      refine x_iload_n C 1 dX12_told_76 rfl rfl ?_
      refine x_runU (r_callV C ok_Model 42 (lt67 hn rfl) rfl (ce_X12_woodIn) (m_X12_woodIn G n V R (f) hn hLR (by first | assumption | omega | decide) (by first | assumption | omega | decide) (by first | assumption | omega | decide) (by first | assumption | omega | decide) (by first | assumption | omega | decide) (by first | assumption | omega | decide) (by first | assumption | omega | decide) (by first | assumption | omega | decide)) rfl dX12_told_77 q_24_21 q_24_22 q_24_23 rfl rfl ⟨Nat.le_of_ble_eq_true rfl, Nat.le_of_ble_eq_true rfl⟩ ⟨rfl, rfl⟩ ⟨Nat.le_of_ble_eq_true rfl, Nat.le_of_ble_eq_true rfl⟩ (Nat.le_of_ble_eq_true rfl)) (fun v77 u77 hp77 => ?_)
      obtain ⟨rfl, rfl⟩ := hp77
      show Xw K G 0 0 _ n V R 80 [(0, .ref (aG G 42)), (1, .int (iI f)), (2, .int (iI w))] [.int (iI (nWoodIn (V 42 0) (V 42 1) (V 42 2) (V 43 (4 * f)) (V 43 (4 * f + 1)) (V 43 (4 * f + 2)) (V 43 (4 * f + 3))))]
      refine x_iret C dX12_told_80 ⟨_, rfl, rfl, ?_⟩
      · first | (refine Or.inl ⟨?_, ?_⟩ <;> first | rfl | assumption | omega | exact congrArg _ (by omega)) | (refine Or.inr (Or.inl ⟨?_, ?_⟩) <;> first | rfl | assumption | omega | exact congrArg _ (by omega)) | (refine Or.inr (Or.inr (Or.inl ⟨?_, ?_⟩)) <;> first | rfl | assumption | omega | exact congrArg _ (by omega)) | (refine Or.inr (Or.inr (Or.inr (Or.inl ⟨?_, ?_⟩))) <;> first | rfl | assumption | omega | exact congrArg _ (by omega)) | (refine Or.inr (Or.inr (Or.inr (Or.inr (Or.inl ⟨?_, ?_⟩)))) <;> first | rfl | assumption | omega | exact congrArg _ (by omega)) | (refine Or.inr (Or.inr (Or.inr (Or.inr (Or.inr (Or.inl ⟨?_, ?_⟩))))) <;> first | rfl | assumption | omega | exact congrArg _ (by omega)) | (refine Or.inr (Or.inr (Or.inr (Or.inr (Or.inr (Or.inr (Or.inl ⟨?_, ?_⟩)))))) <;> first | rfl | assumption | omega | exact congrArg _ (by omega)) | (refine Or.inr (Or.inr (Or.inr (Or.inr (Or.inr (Or.inr (Or.inr (Or.inl ⟨?_, ?_⟩))))))) <;> first | rfl | assumption | omega | exact congrArg _ (by omega)) | (refine Or.inr (Or.inr (Or.inr (Or.inr (Or.inr (Or.inr (Or.inr (Or.inr (⟨?_, ?_⟩)))))))) <;> first | rfl | assumption | omega | exact congrArg _ (by omega))
    · skip
      refine x_tin C 5 h20 dX12_told_20 (by constructor <;> decide) (by decide) (by decide) (off := 61) rfl (tgt := 81) (by decide) ?_
      refine x_iconst C dX12_told_81 ?_
      refine x_aload_n C 0 dX12_told_82 rfl rfl ?_
      refine x_geti C ok_Model 42 2 dX12_told_83 (lt67 hn rfl) rfl (by decide) rfl q_6_12 rfl (kz := 2) rfl (fun rg83 => ?_)
      refine x_aload_n C 0 dX12_told_86 rfl rfl ?_
      refine x_getr C ok_Model 42 5 (d := 43) dX12_told_87 (lt67 hn rfl) rfl (by decide) rfl q_4_1 rfl (kz := 5) rfl (lr_42_5 hLR) ?_
      refine x_iconst C dX12_told_90 ?_
      refine x_iload_n C 1 dX12_told_91 rfl rfl ?_
      refine x_imul C dX12_told_92 ?_
      refine x_iconst C dX12_told_93 ?_
      refine x_iadd C dX12_told_94 ?_
      refine x_iald C 43 dX12_told_95 (lt67 hn rfl) rfl (by refine ⟨?_, ?_⟩ <;> omega) (fun rg95 => ?_)
      refine x_aload_n C 0 dX12_told_96 rfl rfl ?_
      refine x_iload_n C 1 dX12_told_97 rfl rfl ?_
      refine x_runU (r_callV C ok_Model 42 (lt67 hn rfl) rfl (ce_X12_lasts) (m_X12_lasts G n V R (f) hn hLR (by first | assumption | omega | decide) (by first | assumption | omega | decide) (by first | assumption | omega | decide) (by first | assumption | omega | decide) (by first | assumption | omega | decide)) rfl dX12_told_98 q_25_5 q_25_6 q_25_7 rfl rfl ⟨Nat.le_of_ble_eq_true rfl, Nat.le_of_ble_eq_true rfl⟩ ⟨rfl, rfl⟩ ⟨Nat.le_of_ble_eq_true rfl, Nat.le_of_ble_eq_true rfl⟩ (Nat.le_of_ble_eq_true rfl)) (fun v98 u98 hp98 => ?_)
      obtain ⟨rfl, rfl⟩ := hp98
      show Xw K G 0 0 _ n V R 101 [(0, .ref (aG G 42)), (1, .int (iI f)), (2, .int (iI w))] [.int (iI (lastF (V 43 (4 * f)) (V 43 (4 * f + 3)))), .int (iI (V 43 ((4 * f) + 2))), .int (iI (V 42 2)), .int (iI 0)]
      refine x_iadd C dX12_told_101 ?_
      refine x_min C dX12_told_102 q_24_20 q_10_5 q_5_22 q_10_6 ⟨Nat.le_of_ble_eq_true rfl, Nat.le_of_ble_eq_true rfl⟩ ⟨Nat.zero_le _, Nat.zero_le _⟩ (by first | assumption | (constructor <;> omega)) (by first | assumption | (constructor <;> omega)) ?_
      refine x_aload_n C 0 dX12_told_105 rfl rfl ?_
      refine x_getr C ok_Model 42 5 (d := 43) dX12_told_106 (lt67 hn rfl) rfl (by decide) rfl q_4_1 rfl (kz := 5) rfl (lr_42_5 hLR) ?_
      refine x_iconst C dX12_told_109 ?_
      refine x_iload_n C 1 dX12_told_110 rfl rfl ?_
      refine x_imul C dX12_told_111 ?_
      refine x_iconst C dX12_told_112 ?_
      refine x_iadd C dX12_told_113 ?_
      refine x_iald C 43 dX12_told_114 (lt67 hn rfl) rfl (by refine ⟨?_, ?_⟩ <;> omega) (fun rg114 => ?_)
      refine x_isub C dX12_told_115 ?_
      refine x_max C dX12_told_116 q_7_6 q_5_21 q_5_22 q_5_23 ⟨Nat.le_of_ble_eq_true rfl, Nat.le_of_ble_eq_true rfl⟩ ⟨Nat.zero_le _, Nat.zero_le _⟩ (by first | assumption | (constructor <;> omega)) (by first | assumption | (constructor <;> omega)) ?_
      refine x_iret C dX12_told_119 ⟨_, rfl, rfl, ?_⟩
      · first | (refine Or.inl ⟨?_, ?_⟩ <;> first | rfl | assumption | omega | exact congrArg _ (by omega)) | (refine Or.inr (Or.inl ⟨?_, ?_⟩) <;> first | rfl | assumption | omega | exact congrArg _ (by omega)) | (refine Or.inr (Or.inr (Or.inl ⟨?_, ?_⟩)) <;> first | rfl | assumption | omega | exact congrArg _ (by omega)) | (refine Or.inr (Or.inr (Or.inr (Or.inl ⟨?_, ?_⟩))) <;> first | rfl | assumption | omega | exact congrArg _ (by omega)) | (refine Or.inr (Or.inr (Or.inr (Or.inr (Or.inl ⟨?_, ?_⟩)))) <;> first | rfl | assumption | omega | exact congrArg _ (by omega)) | (refine Or.inr (Or.inr (Or.inr (Or.inr (Or.inr (Or.inl ⟨?_, ?_⟩))))) <;> first | rfl | assumption | omega | exact congrArg _ (by omega)) | (refine Or.inr (Or.inr (Or.inr (Or.inr (Or.inr (Or.inr (Or.inl ⟨?_, ?_⟩)))))) <;> first | rfl | assumption | omega | exact congrArg _ (by omega)) | (refine Or.inr (Or.inr (Or.inr (Or.inr (Or.inr (Or.inr (Or.inr (Or.inl ⟨?_, ?_⟩))))))) <;> first | rfl | assumption | omega | exact congrArg _ (by omega)) | (refine Or.inr (Or.inr (Or.inr (Or.inr (Or.inr (Or.inr (Or.inr (Or.inr (⟨?_, ?_⟩)))))))) <;> first | rfl | assumption | omega | exact congrArg _ (by omega))
    · skip
      refine x_tin C 6 h20 dX12_told_20 (by constructor <;> decide) (by decide) (by decide) (off := 100) rfl (tgt := 120) (by decide) ?_
      refine x_aload_n C 0 dX12_told_120 rfl rfl ?_
      refine x_getr C ok_Model 42 5 (d := 43) dX12_told_121 (lt67 hn rfl) rfl (by decide) rfl q_4_1 rfl (kz := 5) rfl (lr_42_5 hLR) ?_
      refine x_iconst C dX12_told_124 ?_
      refine x_iload_n C 1 dX12_told_125 rfl rfl ?_
      refine x_imul C dX12_told_126 ?_
      refine x_iald C 43 dX12_told_127 (lt67 hn rfl) rfl (by refine ⟨?_, ?_⟩ <;> omega) (fun rg127 => ?_)
      refine x_runU (r_callS C (ce_X12_hurts) (m_X12_hurts G n V R (V 43 (4 * f)) (by first | assumption | omega | decide)) dX12_told_128 q_25_20 q_25_21 rfl rfl ⟨Nat.le_of_ble_eq_true rfl, Nat.le_of_ble_eq_true rfl⟩ ⟨rfl, rfl⟩ ⟨Nat.le_of_ble_eq_true rfl, Nat.le_of_ble_eq_true rfl⟩ (Nat.le_of_ble_eq_true rfl)) (fun v128 u128 hp128 => ?_)
      obtain ⟨rfl, rfl⟩ := hp128
      show Xw K G 0 0 _ n V R 131 [(0, .ref (aG G 42)), (1, .int (iI f)), (2, .int (iI w))] [.int (iI (hurtK (V 43 (4 * f))))]
      refine x_iret C dX12_told_131 ⟨_, rfl, rfl, ?_⟩
      · first | (refine Or.inl ⟨?_, ?_⟩ <;> first | rfl | assumption | omega | exact congrArg _ (by omega)) | (refine Or.inr (Or.inl ⟨?_, ?_⟩) <;> first | rfl | assumption | omega | exact congrArg _ (by omega)) | (refine Or.inr (Or.inr (Or.inl ⟨?_, ?_⟩)) <;> first | rfl | assumption | omega | exact congrArg _ (by omega)) | (refine Or.inr (Or.inr (Or.inr (Or.inl ⟨?_, ?_⟩))) <;> first | rfl | assumption | omega | exact congrArg _ (by omega)) | (refine Or.inr (Or.inr (Or.inr (Or.inr (Or.inl ⟨?_, ?_⟩)))) <;> first | rfl | assumption | omega | exact congrArg _ (by omega)) | (refine Or.inr (Or.inr (Or.inr (Or.inr (Or.inr (Or.inl ⟨?_, ?_⟩))))) <;> first | rfl | assumption | omega | exact congrArg _ (by omega)) | (refine Or.inr (Or.inr (Or.inr (Or.inr (Or.inr (Or.inr (Or.inl ⟨?_, ?_⟩)))))) <;> first | rfl | assumption | omega | exact congrArg _ (by omega)) | (refine Or.inr (Or.inr (Or.inr (Or.inr (Or.inr (Or.inr (Or.inr (Or.inl ⟨?_, ?_⟩))))))) <;> first | rfl | assumption | omega | exact congrArg _ (by omega)) | (refine Or.inr (Or.inr (Or.inr (Or.inr (Or.inr (Or.inr (Or.inr (Or.inr (⟨?_, ?_⟩)))))))) <;> first | rfl | assumption | omega | exact congrArg _ (by omega))
    · skip
      refine x_tout C dX12_told_20 (tgt := 132) (by decide) (by first | assumption | (constructor <;> omega)) h20 ?_
      refine x_bipush C dX12_told_132 (w := -2) (by decide) ?_
      refine x_iret C dX12_told_134 ⟨_, rfl, rfl, ?_⟩
      · first | (refine Or.inl ⟨?_, ?_⟩ <;> first | rfl | assumption | omega | exact congrArg _ (by omega)) | (refine Or.inr (Or.inl ⟨?_, ?_⟩) <;> first | rfl | assumption | omega | exact congrArg _ (by omega)) | (refine Or.inr (Or.inr (Or.inl ⟨?_, ?_⟩)) <;> first | rfl | assumption | omega | exact congrArg _ (by omega)) | (refine Or.inr (Or.inr (Or.inr (Or.inl ⟨?_, ?_⟩))) <;> first | rfl | assumption | omega | exact congrArg _ (by omega)) | (refine Or.inr (Or.inr (Or.inr (Or.inr (Or.inl ⟨?_, ?_⟩)))) <;> first | rfl | assumption | omega | exact congrArg _ (by omega)) | (refine Or.inr (Or.inr (Or.inr (Or.inr (Or.inr (Or.inl ⟨?_, ?_⟩))))) <;> first | rfl | assumption | omega | exact congrArg _ (by omega)) | (refine Or.inr (Or.inr (Or.inr (Or.inr (Or.inr (Or.inr (Or.inl ⟨?_, ?_⟩)))))) <;> first | rfl | assumption | omega | exact congrArg _ (by omega)) | (refine Or.inr (Or.inr (Or.inr (Or.inr (Or.inr (Or.inr (Or.inr (Or.inl ⟨?_, ?_⟩))))))) <;> first | rfl | assumption | omega | exact congrArg _ (by omega)) | (refine Or.inr (Or.inr (Or.inr (Or.inr (Or.inr (Or.inr (Or.inr (Or.inr (⟨?_, ?_⟩)))))))) <;> first | rfl | assumption | omega | exact congrArg _ (by omega))
  · skip
    refine x_bipush C dX12_told_16 (w := -2) (by decide) ?_
    refine x_iret C dX12_told_18 ⟨_, rfl, rfl, ?_⟩
    · first | (refine Or.inl ⟨?_, ?_⟩ <;> first | rfl | assumption | omega | exact congrArg _ (by omega)) | (refine Or.inr (Or.inl ⟨?_, ?_⟩) <;> first | rfl | assumption | omega | exact congrArg _ (by omega)) | (refine Or.inr (Or.inr (Or.inl ⟨?_, ?_⟩)) <;> first | rfl | assumption | omega | exact congrArg _ (by omega)) | (refine Or.inr (Or.inr (Or.inr (Or.inl ⟨?_, ?_⟩))) <;> first | rfl | assumption | omega | exact congrArg _ (by omega)) | (refine Or.inr (Or.inr (Or.inr (Or.inr (Or.inl ⟨?_, ?_⟩)))) <;> first | rfl | assumption | omega | exact congrArg _ (by omega)) | (refine Or.inr (Or.inr (Or.inr (Or.inr (Or.inr (Or.inl ⟨?_, ?_⟩))))) <;> first | rfl | assumption | omega | exact congrArg _ (by omega)) | (refine Or.inr (Or.inr (Or.inr (Or.inr (Or.inr (Or.inr (Or.inl ⟨?_, ?_⟩)))))) <;> first | rfl | assumption | omega | exact congrArg _ (by omega)) | (refine Or.inr (Or.inr (Or.inr (Or.inr (Or.inr (Or.inr (Or.inr (Or.inl ⟨?_, ?_⟩))))))) <;> first | rfl | assumption | omega | exact congrArg _ (by omega)) | (refine Or.inr (Or.inr (Or.inr (Or.inr (Or.inr (Or.inr (Or.inr (Or.inr (⟨?_, ?_⟩)))))))) <;> first | rfl | assumption | omega | exact congrArg _ (by omega))
set_option maxRecDepth 100000 in
set_option maxHeartbeats 4000000 in
theorem m_X12_isUnder (G : GS) (n : Nat) (V : Nat → Int → Int) (R : Nat → Int → Option Nat) (k : Int) (q : Int) (hk : 0 ≤ k ∧ k ≤ 6) (hq : 0 ≤ q ∧ q ≤ 6) : Cn G yX12_isUnder cX12_isUnder 2 (some .boolean) (rmk 1 0 0 16) [.int (iI k), .int (iI q)] n V R 0 0 (fun vv uu => vv = some (.int (iI (bI (underP k q)))) ∧ uu = (n, V, R)) := by
  refine Cn.of (by decide) (Nat.le_of_ble_eq_true rfl) (fun K C hct => ?_)
  show Xw K G 0 0 _ n V R 0 [(0, .int (iI k)), (1, .int (iI q))] []
  refine x_iload_n C 1 dX12_isUnder_0 rfl rfl ?_
  refine x_iconst C dX12_isUnder_1 ?_
  refine x_icmp_ge C dX12_isUnder_2 (tgt := 23) (by decide) (by first | assumption | (constructor <;> omega)) (by first | assumption | (constructor <;> omega)) (fun h2 => ?_) (fun h2 => ?_)
  · skip
    refine x_iload_n C 1 dX12_isUnder_23 rfl rfl ?_
    refine x_iconst C dX12_isUnder_24 ?_
    refine x_icmp_ge C dX12_isUnder_25 (tgt := 46) (by decide) (by first | assumption | (constructor <;> omega)) (by first | assumption | (constructor <;> omega)) (fun h25 => ?_) (fun h25 => ?_)
    · skip
      refine x_iload_n C 0 dX12_isUnder_46 rfl rfl ?_
      refine x_iload_n C 1 dX12_isUnder_47 rfl rfl ?_
      refine x_icmp_lt C dX12_isUnder_48 (tgt := 55) (by decide) (by first | assumption | (constructor <;> omega)) (by first | assumption | (constructor <;> omega)) (fun h48 => ?_) (fun h48 => ?_)
      · skip
        refine x_iconst C dX12_isUnder_55 ?_
        refine x_zret C (Or.inl rfl) dX12_isUnder_56 ⟨bI_rf (by unfold underP; omega), rfl⟩
      · skip
        refine x_iconst C dX12_isUnder_51 ?_
        refine x_goto C dX12_isUnder_52 (tgt := 56) (by decide) ?_
        refine x_zret C (Or.inr rfl) dX12_isUnder_56 ⟨bI_rt (by unfold underP; omega), rfl⟩
    · skip
      refine x_iload_n C 0 dX12_isUnder_28 rfl rfl ?_
      refine x_iload_n C 1 dX12_isUnder_29 rfl rfl ?_
      refine x_icmp_lt C dX12_isUnder_30 (tgt := 42) (by decide) (by first | assumption | (constructor <;> omega)) (by first | assumption | (constructor <;> omega)) (fun h30 => ?_) (fun h30 => ?_)
      · skip
        refine x_iconst C dX12_isUnder_42 ?_
        refine x_goto C dX12_isUnder_43 (tgt := 56) (by decide) ?_
        refine x_zret C (Or.inl rfl) dX12_isUnder_56 ⟨bI_rf (by unfold underP; omega), rfl⟩
      · skip
        refine x_iload_n C 0 dX12_isUnder_33 rfl rfl ?_
        refine x_iconst C dX12_isUnder_34 ?_
        refine x_icmp_ge C dX12_isUnder_35 (tgt := 42) (by decide) (by first | assumption | (constructor <;> omega)) (by first | assumption | (constructor <;> omega)) (fun h35 => ?_) (fun h35 => ?_)
        · skip
          refine x_iconst C dX12_isUnder_42 ?_
          refine x_goto C dX12_isUnder_43 (tgt := 56) (by decide) ?_
          refine x_zret C (Or.inl rfl) dX12_isUnder_56 ⟨bI_rf (by unfold underP; omega), rfl⟩
        · skip
          refine x_iconst C dX12_isUnder_38 ?_
          refine x_goto C dX12_isUnder_39 (tgt := 56) (by decide) ?_
          refine x_zret C (Or.inr rfl) dX12_isUnder_56 ⟨bI_rt (by unfold underP; omega), rfl⟩
  · skip
    refine x_iload_n C 0 dX12_isUnder_5 rfl rfl ?_
    refine x_iload_n C 1 dX12_isUnder_6 rfl rfl ?_
    refine x_icmp_lt C dX12_isUnder_7 (tgt := 19) (by decide) (by first | assumption | (constructor <;> omega)) (by first | assumption | (constructor <;> omega)) (fun h7 => ?_) (fun h7 => ?_)
    · skip
      refine x_iconst C dX12_isUnder_19 ?_
      refine x_goto C dX12_isUnder_20 (tgt := 56) (by decide) ?_
      refine x_zret C (Or.inl rfl) dX12_isUnder_56 ⟨bI_rf (by unfold underP; omega), rfl⟩
    · skip
      refine x_iload_n C 0 dX12_isUnder_10 rfl rfl ?_
      refine x_iconst C dX12_isUnder_11 ?_
      refine x_icmp_ge C dX12_isUnder_12 (tgt := 19) (by decide) (by first | assumption | (constructor <;> omega)) (by first | assumption | (constructor <;> omega)) (fun h12 => ?_) (fun h12 => ?_)
      · skip
        refine x_iconst C dX12_isUnder_19 ?_
        refine x_goto C dX12_isUnder_20 (tgt := 56) (by decide) ?_
        refine x_zret C (Or.inl rfl) dX12_isUnder_56 ⟨bI_rf (by unfold underP; omega), rfl⟩
      · skip
        refine x_iconst C dX12_isUnder_15 ?_
        refine x_goto C dX12_isUnder_16 (tgt := 56) (by decide) ?_
        refine x_zret C (Or.inr rfl) dX12_isUnder_56 ⟨bI_rt (by unfold underP; omega), rfl⟩
set_option maxRecDepth 100000 in
set_option maxHeartbeats 4000000 in
theorem m_X12_taken (G : GS) (n : Nat) (V : Nat → Int → Int) (R : Nat → Int → Option Nat) (f : Int) (q : Int) (hn : 67 ≤ n) (hLR : LR R) (gf : Rg f) (gq : Rg q) (h4 : 0 ≤ V 42 4 ∧ V 42 4 ≤ 8) (hF : ∀ i, 0 ≤ i → i < V 42 4 → okM V i) : Cn G yX12_taken cX12_taken 5 (some .int) (rmk 3 0 0 67) [.ref (aG G 42), .int (iI f), .int (iI q)] n V R 0 0 (fun vv uu => ∃ (r : Int), vv = some (.int (iI r)) ∧ uu = (n, V, R) ∧ (((¬ (0 ≤ f ∧ f ≤ V 42 4 - 1) ∨ ¬ (0 ≤ q ∧ q ≤ 6)) ∧ r = (-2)) ∨ (((0 ≤ f ∧ f ≤ V 42 4 - 1) ∧ (0 ≤ q ∧ q ≤ 6) ∧ ¬ underP (V 43 (4 * f)) q) ∧ r = (-13)) ∨ (((0 ≤ f ∧ f ≤ V 42 4 - 1) ∧ (0 ≤ q ∧ q ≤ 6) ∧ underP (V 43 (4 * f)) q) ∧ r = nIn (V 43 (4 * f)) (V 43 (4 * f + 1)) (V 43 (4 * f + 3))))) := by
  refine Cn.of (by decide) (Nat.le_of_ble_eq_true rfl) (fun K C hct => ?_)
  show Xw K G 0 0 _ n V R 0 [(0, .ref (aG G 42)), (1, .int (iI f)), (2, .int (iI q))] []
  refine x_iload_n C 1 dX12_taken_0 rfl rfl ?_
  refine x_i2l C dX12_taken_1 (by first | assumption | (constructor <;> omega)) ?_
  refine x_lconst C dX12_taken_2 (w := 0) (by decide) ?_
  refine x_aload_n C 0 dX12_taken_3 rfl rfl ?_
  refine x_geti C ok_Model 42 4 dX12_taken_4 (lt67 hn rfl) rfl (by decide) rfl q_6_14 rfl (kz := 4) rfl (fun rg4 => ?_)
  refine x_iconst C dX12_taken_7 ?_
  refine x_isub C dX12_taken_8 ?_
  refine x_i2l C dX12_taken_9 (by first | assumption | (constructor <;> omega)) ?_
  refine x_runU (r_callS C (ce_X12_in) (m_X12_in G n V R (f) (0) ((V 42 4) - 1) (by first | assumption | omega | decide) (by first | assumption | omega | decide) (by first | assumption | omega | decide)) dX12_taken_10 q_6_15 q_6_16 rfl rfl ⟨Nat.le_of_ble_eq_true rfl, Nat.le_of_ble_eq_true rfl⟩ ⟨rfl, rfl⟩ ⟨Nat.le_of_ble_eq_true rfl, Nat.le_of_ble_eq_true rfl⟩ (Nat.le_of_ble_eq_true rfl)) (fun v10 u10 hp10 => ?_)
  obtain ⟨rfl, rfl⟩ := hp10
  show Xw K G 0 0 _ n V R 13 [(0, .ref (aG G 42)), (1, .int (iI f)), (2, .int (iI q))] [.int (iI (bI (0 ≤ f ∧ f ≤ ((V 42 4) - 1))))]
  refine x_ifeq_b C dX12_taken_13 (tgt := 28) (by decide) (fun h13 => ?_) (fun h13 => ?_)
  · skip
    refine x_bipush C dX12_taken_28 (w := -2) (by decide) ?_
    refine x_iret C dX12_taken_30 ⟨_, rfl, rfl, ?_⟩
    · first | (refine Or.inl ⟨?_, ?_⟩ <;> first | rfl | assumption | exact ⟨by omega, by omega, by assumption⟩ | omega | exact congrArg _ (by omega)) | (refine Or.inr (Or.inl ⟨?_, ?_⟩) <;> first | rfl | assumption | exact ⟨by omega, by omega, by assumption⟩ | omega | exact congrArg _ (by omega)) | (refine Or.inr (Or.inr (⟨?_, ?_⟩)) <;> first | rfl | assumption | exact ⟨by omega, by omega, by assumption⟩ | omega | exact congrArg _ (by omega))
  · skip
    obtain ⟨hk, ha, hs, hz⟩ := hF f (by omega) (by omega)
    refine x_iload_n C 2 dX12_taken_16 rfl rfl ?_
    refine x_i2l C dX12_taken_17 (by first | assumption | (constructor <;> omega)) ?_
    refine x_lconst C dX12_taken_18 (w := 0) (by decide) ?_
    refine x_ldc2 C dX12_taken_19 q_6_7 (w := 6) (by decide) ?_
    refine x_runU (r_callS C (ce_X12_in) (m_X12_in G n V R (q) (0) (6) (by first | assumption | omega | decide) (by first | assumption | omega | decide) (by first | assumption | omega | decide)) dX12_taken_22 q_6_15 q_6_16 rfl rfl ⟨Nat.le_of_ble_eq_true rfl, Nat.le_of_ble_eq_true rfl⟩ ⟨rfl, rfl⟩ ⟨Nat.le_of_ble_eq_true rfl, Nat.le_of_ble_eq_true rfl⟩ (Nat.le_of_ble_eq_true rfl)) (fun v22 u22 hp22 => ?_)
    obtain ⟨rfl, rfl⟩ := hp22
    show Xw K G 0 0 _ n V R 25 [(0, .ref (aG G 42)), (1, .int (iI f)), (2, .int (iI q))] [.int (iI (bI (0 ≤ q ∧ q ≤ 6)))]
    refine x_ifne_b C dX12_taken_25 (tgt := 31) (by decide) (fun h25 => ?_) (fun h25 => ?_)
    · skip
      refine x_aload_n C 0 dX12_taken_31 rfl rfl ?_
      refine x_getr C ok_Model 42 5 (d := 43) dX12_taken_32 (lt67 hn rfl) rfl (by decide) rfl q_4_1 rfl (kz := 5) rfl (lr_42_5 hLR) ?_
      refine x_iconst C dX12_taken_35 ?_
      refine x_iload_n C 1 dX12_taken_36 rfl rfl ?_
      refine x_imul C dX12_taken_37 ?_
      refine x_iald C 43 dX12_taken_38 (lt67 hn rfl) rfl (by refine ⟨?_, ?_⟩ <;> omega) (fun rg38 => ?_)
      refine x_iload_n C 2 dX12_taken_39 rfl rfl ?_
      refine x_runU (r_callS C (ce_X12_isUnder) (m_X12_isUnder G n V R (V 43 (4 * f)) (q) (by first | assumption | omega | decide) (by first | assumption | omega | decide)) dX12_taken_40 q_27_5 q_27_6 rfl rfl ⟨Nat.le_of_ble_eq_true rfl, Nat.le_of_ble_eq_true rfl⟩ ⟨rfl, rfl⟩ ⟨Nat.le_of_ble_eq_true rfl, Nat.le_of_ble_eq_true rfl⟩ (Nat.le_of_ble_eq_true rfl)) (fun v40 u40 hp40 => ?_)
      obtain ⟨rfl, rfl⟩ := hp40
      show Xw K G 0 0 _ n V R 43 [(0, .ref (aG G 42)), (1, .int (iI f)), (2, .int (iI q))] [.int (iI (bI (underP (V 43 (4 * f)) q)))]
      refine x_ifne_b C dX12_taken_43 (tgt := 49) (by decide) (fun h43 => ?_) (fun h43 => ?_)
      · skip
        refine x_iconst C dX12_taken_49 ?_
        refine x_istore_n C dX12_taken_50 rfl (by decide) (lv' := [(0, .ref (aG G 42)), (1, .int (iI f)), (2, .int (iI q)), (3, .int (iI 0))]) rfl ?_
        refine x_iconst C dX12_taken_51 ?_
        refine x_istore C dX12_taken_52 (by decide) (lv' := [(0, .ref (aG G 42)), (1, .int (iI f)), (2, .int (iI q)), (3, .int (iI 0)), (4, .int (iI 0))]) rfl ?_
        have lp_54 : ∀ (fuel : Nat) (w : Int) (c : Int), (0 ≤ c ∧ c ≤ 144) → (w = sm (fun c => bI (inF (V 43 (4 * f)) (V 43 (4 * f + 1)) (V 43 (4 * f + 3)) (c % 12) (c / 12))) c) → ((144 : Int) - c) < (fuel : Int) → Xw K G 0 0 (EndQ K G 0 0 (fun vv uu => ∃ (r : Int), vv = some (.int (iI r)) ∧ uu = (n, V, R) ∧ (((¬ (0 ≤ f ∧ f ≤ V 42 4 - 1) ∨ ¬ (0 ≤ q ∧ q ≤ 6)) ∧ r = (-2)) ∨ (((0 ≤ f ∧ f ≤ V 42 4 - 1) ∧ (0 ≤ q ∧ q ≤ 6) ∧ ¬ underP (V 43 (4 * f)) q) ∧ r = (-13)) ∨ (((0 ≤ f ∧ f ≤ V 42 4 - 1) ∧ (0 ≤ q ∧ q ≤ 6) ∧ underP (V 43 (4 * f)) q) ∧ r = nIn (V 43 (4 * f)) (V 43 (4 * f + 1)) (V 43 (4 * f + 3)))))) n V R 54 [(0, .ref (aG G 42)), (1, .int (iI f)), (2, .int (iI q)), (3, .int (iI w)), (4, .int (iI c))] [] := by
          intro fuel54
          induction fuel54 with
          | zero => intro w c hc hw hfu54; exfalso; omega
          | succ fuel54 ih54 =>
            intro w c hc hw hfu54
            have hb := sm_b (f := fun c => bI (inF (V 43 (4 * f)) (V 43 (4 * f + 1)) (V 43 (4 * f + 3)) (c % 12) (c / 12))) (A := 1) hc.1 (fun i _ _ => bI_b _)
            refine x_iload C 4 dX12_taken_54 rfl ?_
            refine x_sipush C dX12_taken_56 (w := 144) (by decide) ?_
            refine x_icmp_ge C dX12_taken_59 (tgt := 94) (by decide) (by first | assumption | (constructor <;> omega)) (by first | assumption | (constructor <;> omega)) (fun h59 => ?_) (fun h59 => ?_)
            · skip
              refine x_iload_n C 3 dX12_taken_94 rfl rfl ?_
              refine x_iret C dX12_taken_95 ⟨_, rfl, rfl, ?_⟩
              · refine Or.inr (Or.inr ⟨⟨by omega, by omega, h43⟩, ?_⟩); rw [hw]; unfold nIn; congr 1; omega
            · skip
              refine x_iload_n C 3 dX12_taken_62 rfl rfl ?_
              refine x_aload_n C 0 dX12_taken_63 rfl rfl ?_
              refine x_iload_n C 1 dX12_taken_64 rfl rfl ?_
              refine x_iload C 4 dX12_taken_65 rfl ?_
              refine x_bipush C dX12_taken_67 (w := 12) (by decide) ?_
              refine x_irem C dX12_taken_69 (by first | assumption | (constructor <;> omega)) (by first | assumption | (constructor <;> omega)) (by omega) (by omega) ?_
              refine x_iload C 4 dX12_taken_70 rfl ?_
              refine x_bipush C dX12_taken_72 (w := 12) (by decide) ?_
              refine x_idiv C dX12_taken_74 (by first | assumption | (constructor <;> omega)) (by first | assumption | (constructor <;> omega)) (by omega) (by omega) ?_
              refine x_runU (r_callV C ok_Model 42 (lt67 hn rfl) rfl (ce_X12_isIn) (m_X12_isIn G n V R (f) (c % 12) (c / 12) hn hLR (by first | assumption | omega | decide) (by first | assumption | omega | decide) (by first | assumption | omega | decide) (by first | assumption | omega | decide) (by first | assumption | omega | decide) (by first | assumption | omega | decide) (by first | assumption | omega | decide)) rfl dX12_taken_75 q_25_9 q_25_10 q_25_11 rfl rfl ⟨Nat.le_of_ble_eq_true rfl, Nat.le_of_ble_eq_true rfl⟩ ⟨rfl, rfl⟩ ⟨Nat.le_of_ble_eq_true rfl, Nat.le_of_ble_eq_true rfl⟩ (Nat.le_of_ble_eq_true rfl)) (fun v75 u75 hp75 => ?_)
              obtain ⟨rfl, rfl⟩ := hp75
              show Xw K G 0 0 _ n V R 78 [(0, .ref (aG G 42)), (1, .int (iI f)), (2, .int (iI q)), (3, .int (iI w)), (4, .int (iI c))] [.int (iI (bI (inF (V 43 (4 * f)) (V 43 (4 * f + 1)) (V 43 (4 * f + 3)) (c % 12) (c / 12)))), .int (iI w)]
              refine x_ifeq_b C dX12_taken_78 (tgt := 85) (by decide) (fun h78 => ?_) (fun h78 => ?_)
              · skip
                refine x_iconst C dX12_taken_85 ?_
                refine x_iadd C dX12_taken_86 ?_
                refine x_istore_n C dX12_taken_87 rfl (by decide) (lv' := [(0, .ref (aG G 42)), (1, .int (iI f)), (2, .int (iI q)), (3, .int (iI (w + 0))), (4, .int (iI c))]) rfl ?_
                refine x_iinc C 4 dX12_taken_88 rfl (by decide) (lv' := [(0, .ref (aG G 42)), (1, .int (iI f)), (2, .int (iI q)), (3, .int (iI (w + 0))), (4, .int (iI (c + 1)))]) rfl ?_
                refine x_goto C dX12_taken_91 (tgt := 54) (by decide) ?_
                exact ih54 ((w + 0)) ((c + 1)) (by first | assumption | omega) (by first | exact sm_st hc.1 hw (bI_t h78).symm | exact sm_st hc.1 hw (bI_f h78).symm) (by omega)
              · skip
                refine x_iconst C dX12_taken_81 ?_
                refine x_goto C dX12_taken_82 (tgt := 86) (by decide) ?_
                refine x_iadd C dX12_taken_86 ?_
                refine x_istore_n C dX12_taken_87 rfl (by decide) (lv' := [(0, .ref (aG G 42)), (1, .int (iI f)), (2, .int (iI q)), (3, .int (iI (w + 1))), (4, .int (iI c))]) rfl ?_
                refine x_iinc C 4 dX12_taken_88 rfl (by decide) (lv' := [(0, .ref (aG G 42)), (1, .int (iI f)), (2, .int (iI q)), (3, .int (iI (w + 1))), (4, .int (iI (c + 1)))]) rfl ?_
                refine x_goto C dX12_taken_91 (tgt := 54) (by decide) ?_
                exact ih54 ((w + 1)) ((c + 1)) (by first | assumption | omega) (by first | exact sm_st hc.1 hw (bI_t h78).symm | exact sm_st hc.1 hw (bI_f h78).symm) (by omega)
        exact lp_54 (((144 : Int) - 0).toNat + 1) (0) (0) (by omega) (by rfl) (by omega)
      · skip
        refine x_bipush C dX12_taken_46 (w := -13) (by decide) ?_
        refine x_iret C dX12_taken_48 ⟨_, rfl, rfl, ?_⟩
        · first | (refine Or.inl ⟨?_, ?_⟩ <;> first | rfl | assumption | exact ⟨by omega, by omega, by assumption⟩ | omega | exact congrArg _ (by omega)) | (refine Or.inr (Or.inl ⟨?_, ?_⟩) <;> first | rfl | assumption | exact ⟨by omega, by omega, by assumption⟩ | omega | exact congrArg _ (by omega)) | (refine Or.inr (Or.inr (⟨?_, ?_⟩)) <;> first | rfl | assumption | exact ⟨by omega, by omega, by assumption⟩ | omega | exact congrArg _ (by omega))
    · skip
      refine x_bipush C dX12_taken_28 (w := -2) (by decide) ?_
      refine x_iret C dX12_taken_30 ⟨_, rfl, rfl, ?_⟩
      · first | (refine Or.inl ⟨?_, ?_⟩ <;> first | rfl | assumption | exact ⟨by omega, by omega, by assumption⟩ | omega | exact congrArg _ (by omega)) | (refine Or.inr (Or.inl ⟨?_, ?_⟩) <;> first | rfl | assumption | exact ⟨by omega, by omega, by assumption⟩ | omega | exact congrArg _ (by omega)) | (refine Or.inr (Or.inr (⟨?_, ?_⟩)) <;> first | rfl | assumption | exact ⟨by omega, by omega, by assumption⟩ | omega | exact congrArg _ (by omega))
set_option maxRecDepth 100000 in
set_option maxHeartbeats 4000000 in
theorem m_X12_turn (G : GS) (n : Nat) (V : Nat → Int → Int) (R : Nat → Int → Option Nat) (t : Int) (hn : 67 ≤ n) (hLR : LR R) (gt : Rg t) : Cn G yX12_turn cX12_turn 3 (some .int) (rmk 2 0 0 41) [.ref (aG G 42), .int (iI t)] n V R 0 0 (fun vv uu => ∃ (r : Int), ∃ (V1 : Nat → Int → Int), vv = some (.int (iI r)) ∧ uu = (n, V1, R) ∧ (((V 42 2 = 0) ∧ r = (-3) ∧ V1 = V) ∨ ((V 42 2 ≠ 0 ∧ ¬ (0 ≤ t ∧ t ≤ 3)) ∧ r = (-2) ∧ V1 = V) ∨ ((V 42 2 ≠ 0 ∧ 0 ≤ t ∧ t ≤ 3) ∧ r = V 42 3 ∧ V1 = u2 V 42 3 t))) := by
  refine Cn.of (by decide) (Nat.le_of_ble_eq_true rfl) (fun K C hct => ?_)
  show Xw K G 0 0 _ n V R 0 [(0, .ref (aG G 42)), (1, .int (iI t))] []
  refine x_aload_n C 0 dX12_turn_0 rfl rfl ?_
  refine x_geti C ok_Model 42 2 dX12_turn_1 (lt67 hn rfl) rfl (by decide) rfl q_6_12 rfl (kz := 2) rfl (fun rg1 => ?_)
  refine x_if_ne C dX12_turn_4 (tgt := 10) (by decide) (by first | assumption | (constructor <;> omega)) (fun h4 => ?_) (fun h4 => ?_)
  · skip
    refine x_iload_n C 1 dX12_turn_10 rfl rfl ?_
    refine x_i2l C dX12_turn_11 (by first | assumption | (constructor <;> omega)) ?_
    refine x_lconst C dX12_turn_12 (w := 0) (by decide) ?_
    refine x_ldc2 C dX12_turn_13 q_27_17 (w := 3) (by decide) ?_
    refine x_runU (r_callS C (ce_X12_in) (m_X12_in G n V R (t) (0) (3) (by first | assumption | omega | decide) (by first | assumption | omega | decide) (by first | assumption | omega | decide)) dX12_turn_16 q_6_15 q_6_16 rfl rfl ⟨Nat.le_of_ble_eq_true rfl, Nat.le_of_ble_eq_true rfl⟩ ⟨rfl, rfl⟩ ⟨Nat.le_of_ble_eq_true rfl, Nat.le_of_ble_eq_true rfl⟩ (Nat.le_of_ble_eq_true rfl)) (fun v16 u16 hp16 => ?_)
    obtain ⟨rfl, rfl⟩ := hp16
    show Xw K G 0 0 _ n V R 19 [(0, .ref (aG G 42)), (1, .int (iI t))] [.int (iI (bI (0 ≤ t ∧ t ≤ 3)))]
    refine x_ifne_b C dX12_turn_19 (tgt := 25) (by decide) (fun h19 => ?_) (fun h19 => ?_)
    · skip
      refine x_aload_n C 0 dX12_turn_25 rfl rfl ?_
      refine x_geti C ok_Model 42 3 dX12_turn_26 (lt67 hn rfl) rfl (by decide) rfl q_6_13 rfl (kz := 3) rfl (fun rg26 => ?_)
      refine x_istore_n C dX12_turn_29 rfl (by decide) (lv' := [(0, .ref (aG G 42)), (1, .int (iI t)), (2, .int (iI (V 42 3)))]) rfl ?_
      refine x_aload_n C 0 dX12_turn_30 rfl rfl ?_
      refine x_iload_n C 1 dX12_turn_31 rfl rfl ?_
      refine x_puti C ok_Model 42 3 dX12_turn_32 (lt67 hn rfl) rfl (by decide) rfl q_6_13 rfl rfl (Or.inl rfl) (by first | assumption | (constructor <;> omega)) (kz := 3) rfl ?_
      refine x_iload_n C 2 dX12_turn_35 rfl rfl ?_
      refine x_iret C dX12_turn_36 ⟨_, _, rfl, rfl, ?_⟩
      · first | (refine Or.inl ⟨?_, ?_, ?_⟩ <;> first | rfl | assumption | omega | exact congrArg _ (by omega)) | (refine Or.inr (Or.inl ⟨?_, ?_, ?_⟩) <;> first | rfl | assumption | omega | exact congrArg _ (by omega)) | (refine Or.inr (Or.inr (⟨?_, ?_, ?_⟩)) <;> first | rfl | assumption | omega | exact congrArg _ (by omega))
    · skip
      refine x_bipush C dX12_turn_22 (w := -2) (by decide) ?_
      refine x_iret C dX12_turn_24 ⟨_, _, rfl, rfl, ?_⟩
      · first | (refine Or.inl ⟨?_, ?_, ?_⟩ <;> first | rfl | assumption | omega | exact congrArg _ (by omega)) | (refine Or.inr (Or.inl ⟨?_, ?_, ?_⟩) <;> first | rfl | assumption | omega | exact congrArg _ (by omega)) | (refine Or.inr (Or.inr (⟨?_, ?_, ?_⟩)) <;> first | rfl | assumption | omega | exact congrArg _ (by omega))
  · skip
    refine x_bipush C dX12_turn_7 (w := -3) (by decide) ?_
    refine x_iret C dX12_turn_9 ⟨_, _, rfl, rfl, ?_⟩
    · first | (refine Or.inl ⟨?_, ?_, ?_⟩ <;> first | rfl | assumption | omega | exact congrArg _ (by omega)) | (refine Or.inr (Or.inl ⟨?_, ?_, ?_⟩) <;> first | rfl | assumption | omega | exact congrArg _ (by omega)) | (refine Or.inr (Or.inr (⟨?_, ?_, ?_⟩)) <;> first | rfl | assumption | omega | exact congrArg _ (by omega))
set_option maxRecDepth 100000 in
set_option maxHeartbeats 4000000 in
theorem m_X12_isRule (G : GS) (n : Nat) (V : Nat → Int → Int) (R : Nat → Int → Option Nat) (w : Int) (v : Int) (hw : 0 ≤ w ∧ w ≤ 6) (gv : Rg v) : Cn G yX12_isRule cX12_isRule 2 (some .boolean) (rmk 2 0 0 41) [.int (iI w), .int (iI v)] n V R 0 0 (fun vv uu => vv = some (.int (iI (bI (((w = 0 ∧ 0 ≤ v ∧ v ≤ 2) ∨ (w = 1 ∧ 0 ≤ v ∧ v ≤ 1) ∨ (w = 6 ∧ 0 ≤ v ∧ v ≤ 30 ∧ v % 2 = 0) ∨ (2 ≤ w ∧ w ≤ 5 ∧ 0 ≤ v ∧ v ≤ 99)))))) ∧ uu = (n, V, R)) := by
  refine Cn.of (by decide) (Nat.le_of_ble_eq_true rfl) (fun K C hct => ?_)
  show Xw K G 0 0 _ n V R 0 [(0, .int (iI w)), (1, .int (iI v))] []
  refine x_iload_n C 0 dX12_isRule_0 rfl rfl ?_
  rcases (show w = 0 ∨ w = 1 ∨ w = 6 ∨ (w ≠ 0 ∧ w ≠ 1 ∧ w ≠ 6) by omega) with h1 | h1 | h1 | h1
  · skip
    refine x_look C dX12_isRule_1 (by decide) (by first | assumption | (constructor <;> omega)) (off := 35) (by rw [h1]; decide) (tgt := 36) (by decide) ?_
    refine x_iload_n C 1 dX12_isRule_36 rfl rfl ?_
    refine x_i2l C dX12_isRule_37 (by first | assumption | (constructor <;> omega)) ?_
    refine x_lconst C dX12_isRule_38 (w := 0) (by decide) ?_
    refine x_ldc2 C dX12_isRule_39 q_6_6 (w := 2) (by decide) ?_
    refine x_runU (r_callS C (ce_X12_in) (m_X12_in G n V R (v) (0) (2) (by first | assumption | omega | decide) (by first | assumption | omega | decide) (by first | assumption | omega | decide)) dX12_isRule_42 q_6_15 q_6_16 rfl rfl ⟨Nat.le_of_ble_eq_true rfl, Nat.le_of_ble_eq_true rfl⟩ ⟨rfl, rfl⟩ ⟨Nat.le_of_ble_eq_true rfl, Nat.le_of_ble_eq_true rfl⟩ (Nat.le_of_ble_eq_true rfl)) (fun v42 u42 hp42 => ?_)
    obtain ⟨rfl, rfl⟩ := hp42
    show Xw K G 0 0 _ n V R 45 [(0, .int (iI w)), (1, .int (iI v))] [.int (iI (bI (0 ≤ v ∧ v ≤ 2)))]
    refine x_zret C (bI_01 _) dX12_isRule_45 ⟨bI_rc (by omega), rfl⟩
  · skip
    refine x_look C dX12_isRule_1 (by decide) (by first | assumption | (constructor <;> omega)) (off := 45) (by rw [h1]; decide) (tgt := 46) (by decide) ?_
    refine x_iload_n C 1 dX12_isRule_46 rfl rfl ?_
    refine x_i2l C dX12_isRule_47 (by first | assumption | (constructor <;> omega)) ?_
    refine x_lconst C dX12_isRule_48 (w := 0) (by decide) ?_
    refine x_lconst C dX12_isRule_49 (w := 1) (by decide) ?_
    refine x_runU (r_callS C (ce_X12_in) (m_X12_in G n V R (v) (0) (1) (by first | assumption | omega | decide) (by first | assumption | omega | decide) (by first | assumption | omega | decide)) dX12_isRule_50 q_6_15 q_6_16 rfl rfl ⟨Nat.le_of_ble_eq_true rfl, Nat.le_of_ble_eq_true rfl⟩ ⟨rfl, rfl⟩ ⟨Nat.le_of_ble_eq_true rfl, Nat.le_of_ble_eq_true rfl⟩ (Nat.le_of_ble_eq_true rfl)) (fun v50 u50 hp50 => ?_)
    obtain ⟨rfl, rfl⟩ := hp50
    show Xw K G 0 0 _ n V R 53 [(0, .int (iI w)), (1, .int (iI v))] [.int (iI (bI (0 ≤ v ∧ v ≤ 1)))]
    refine x_zret C (bI_01 _) dX12_isRule_53 ⟨bI_rc (by omega), rfl⟩
  · skip
    refine x_look C dX12_isRule_1 (by decide) (by first | assumption | (constructor <;> omega)) (off := 53) (by rw [h1]; decide) (tgt := 54) (by decide) ?_
    refine x_iload_n C 1 dX12_isRule_54 rfl rfl ?_
    refine x_i2l C dX12_isRule_55 (by first | assumption | (constructor <;> omega)) ?_
    refine x_lconst C dX12_isRule_56 (w := 0) (by decide) ?_
    refine x_ldc2 C dX12_isRule_57 q_28_7 (w := 30) (by decide) ?_
    refine x_runU (r_callS C (ce_X12_in) (m_X12_in G n V R (v) (0) (30) (by first | assumption | omega | decide) (by first | assumption | omega | decide) (by first | assumption | omega | decide)) dX12_isRule_60 q_6_15 q_6_16 rfl rfl ⟨Nat.le_of_ble_eq_true rfl, Nat.le_of_ble_eq_true rfl⟩ ⟨rfl, rfl⟩ ⟨Nat.le_of_ble_eq_true rfl, Nat.le_of_ble_eq_true rfl⟩ (Nat.le_of_ble_eq_true rfl)) (fun v60 u60 hp60 => ?_)
    obtain ⟨rfl, rfl⟩ := hp60
    show Xw K G 0 0 _ n V R 63 [(0, .int (iI w)), (1, .int (iI v))] [.int (iI (bI (0 ≤ v ∧ v ≤ 30)))]
    refine x_ifeq_b C dX12_isRule_63 (tgt := 76) (by decide) (fun h63 => ?_) (fun h63 => ?_)
    · skip
      refine x_iconst C dX12_isRule_76 ?_
      refine x_zret C (Or.inl rfl) dX12_isRule_77 ⟨bI_rf (by omega), rfl⟩
    · skip
      refine x_iload_n C 1 dX12_isRule_66 rfl rfl ?_
      refine x_iconst C dX12_isRule_67 ?_
      refine x_irem C dX12_isRule_68 (by first | assumption | (constructor <;> omega)) (by first | assumption | (constructor <;> omega)) (by omega) (by omega) ?_
      refine x_if_ne C dX12_isRule_69 (tgt := 76) (by decide) (by first | assumption | (constructor <;> omega)) (fun h69 => ?_) (fun h69 => ?_)
      · skip
        refine x_iconst C dX12_isRule_76 ?_
        refine x_zret C (Or.inl rfl) dX12_isRule_77 ⟨bI_rf (by omega), rfl⟩
      · skip
        refine x_iconst C dX12_isRule_72 ?_
        refine x_goto C dX12_isRule_73 (tgt := 77) (by decide) ?_
        refine x_zret C (Or.inr rfl) dX12_isRule_77 ⟨bI_rt (by omega), rfl⟩
  · skip
    refine x_look C dX12_isRule_1 (by decide) (by first | assumption | (constructor <;> omega)) (off := 77) (by simp [Op.lookupswitch.offset, h1]; try omega) (tgt := 78) (by decide) ?_
    refine x_iload_n C 1 dX12_isRule_78 rfl rfl ?_
    refine x_i2l C dX12_isRule_79 (by first | assumption | (constructor <;> omega)) ?_
    refine x_lconst C dX12_isRule_80 (w := 0) (by decide) ?_
    refine x_ldc2 C dX12_isRule_81 q_28_8 (w := 99) (by decide) ?_
    refine x_runU (r_callS C (ce_X12_in) (m_X12_in G n V R (v) (0) (99) (by first | assumption | omega | decide) (by first | assumption | omega | decide) (by first | assumption | omega | decide)) dX12_isRule_84 q_6_15 q_6_16 rfl rfl ⟨Nat.le_of_ble_eq_true rfl, Nat.le_of_ble_eq_true rfl⟩ ⟨rfl, rfl⟩ ⟨Nat.le_of_ble_eq_true rfl, Nat.le_of_ble_eq_true rfl⟩ (Nat.le_of_ble_eq_true rfl)) (fun v84 u84 hp84 => ?_)
    obtain ⟨rfl, rfl⟩ := hp84
    show Xw K G 0 0 _ n V R 87 [(0, .int (iI w)), (1, .int (iI v))] [.int (iI (bI (0 ≤ v ∧ v ≤ 99)))]
    refine x_zret C (bI_01 _) dX12_isRule_87 ⟨bI_rc (by omega), rfl⟩
set_option maxRecDepth 100000 in
set_option maxHeartbeats 4000000 in
theorem m_X12_rule (G : GS) (n : Nat) (V : Nat → Int → Int) (R : Nat → Int → Option Nat) (w : Int) (v : Int) (hn : 67 ≤ n) (hLR : LR R) (gw : Rg w) (gv : Rg v) : Cn G yX12_rule cX12_rule 4 (some .int) (rmk 3 0 0 62) [.ref (aG G 42), .int (iI w), .int (iI v)] n V R 0 0 (fun vv uu => ∃ (r : Int), ∃ (V1 : Nat → Int → Int), vv = some (.int (iI r)) ∧ uu = (n, V1, R) ∧ (((¬ ((w = 0 ∧ 0 ≤ v ∧ v ≤ 2) ∨ (w = 1 ∧ 0 ≤ v ∧ v ≤ 1) ∨ (w = 6 ∧ 0 ≤ v ∧ v ≤ 30 ∧ v % 2 = 0) ∨ (2 ≤ w ∧ w ≤ 5 ∧ 0 ≤ v ∧ v ≤ 99))) ∧ r = (-2) ∧ V1 = V) ∨ ((((w = 0 ∧ 0 ≤ v ∧ v ≤ 2) ∨ (w = 1 ∧ 0 ≤ v ∧ v ≤ 1) ∨ (w = 6 ∧ 0 ≤ v ∧ v ≤ 30 ∧ v % 2 = 0) ∨ (2 ≤ w ∧ w ≤ 5 ∧ 0 ≤ v ∧ v ≤ 99))) ∧ r = V 44 w ∧ V1 = u2 V 44 w v))) := by
  refine Cn.of (by decide) (Nat.le_of_ble_eq_true rfl) (fun K C hct => ?_)
  show Xw K G 0 0 _ n V R 0 [(0, .ref (aG G 42)), (1, .int (iI w)), (2, .int (iI v))] []
  refine x_iload_n C 1 dX12_rule_0 rfl rfl ?_
  refine x_i2l C dX12_rule_1 (by first | assumption | (constructor <;> omega)) ?_
  refine x_lconst C dX12_rule_2 (w := 0) (by decide) ?_
  refine x_ldc2 C dX12_rule_3 q_6_7 (w := 6) (by decide) ?_
  refine x_runU (r_callS C (ce_X12_in) (m_X12_in G n V R (w) (0) (6) (by first | assumption | omega | decide) (by first | assumption | omega | decide) (by first | assumption | omega | decide)) dX12_rule_6 q_6_15 q_6_16 rfl rfl ⟨Nat.le_of_ble_eq_true rfl, Nat.le_of_ble_eq_true rfl⟩ ⟨rfl, rfl⟩ ⟨Nat.le_of_ble_eq_true rfl, Nat.le_of_ble_eq_true rfl⟩ (Nat.le_of_ble_eq_true rfl)) (fun v6 u6 hp6 => ?_)
  obtain ⟨rfl, rfl⟩ := hp6
  show Xw K G 0 0 _ n V R 9 [(0, .ref (aG G 42)), (1, .int (iI w)), (2, .int (iI v))] [.int (iI (bI (0 ≤ w ∧ w ≤ 6)))]
  refine x_ifeq_b C dX12_rule_9 (tgt := 20) (by decide) (fun h9 => ?_) (fun h9 => ?_)
  · skip
    refine x_bipush C dX12_rule_20 (w := -2) (by decide) ?_
    refine x_iret C dX12_rule_22 ⟨_, _, rfl, rfl, ?_⟩
    · first | (refine Or.inl ⟨?_, ?_, ?_⟩ <;> first | rfl | assumption | omega | exact congrArg _ (by omega)) | (refine Or.inr (⟨?_, ?_, ?_⟩) <;> first | rfl | assumption | omega | exact congrArg _ (by omega))
  · skip
    refine x_iload_n C 1 dX12_rule_12 rfl rfl ?_
    refine x_iload_n C 2 dX12_rule_13 rfl rfl ?_
    refine x_runU (r_callS C (ce_X12_isRule) (m_X12_isRule G n V R (w) (v) (by first | assumption | omega | decide) (by first | assumption | omega | decide)) dX12_rule_14 q_28_4 q_28_5 rfl rfl ⟨Nat.le_of_ble_eq_true rfl, Nat.le_of_ble_eq_true rfl⟩ ⟨rfl, rfl⟩ ⟨Nat.le_of_ble_eq_true rfl, Nat.le_of_ble_eq_true rfl⟩ (Nat.le_of_ble_eq_true rfl)) (fun v14 u14 hp14 => ?_)
    obtain ⟨rfl, rfl⟩ := hp14
    show Xw K G 0 0 _ n V R 17 [(0, .ref (aG G 42)), (1, .int (iI w)), (2, .int (iI v))] [.int (iI (bI (((w = 0 ∧ 0 ≤ v ∧ v ≤ 2) ∨ (w = 1 ∧ 0 ≤ v ∧ v ≤ 1) ∨ (w = 6 ∧ 0 ≤ v ∧ v ≤ 30 ∧ v % 2 = 0) ∨ (2 ≤ w ∧ w ≤ 5 ∧ 0 ≤ v ∧ v ≤ 99)))))]
    refine x_ifne_b C dX12_rule_17 (tgt := 23) (by decide) (fun h17 => ?_) (fun h17 => ?_)
    · skip
      refine x_aload_n C 0 dX12_rule_23 rfl rfl ?_
      refine x_getr C ok_Model 42 6 (d := 44) dX12_rule_24 (lt67 hn rfl) rfl (by decide) rfl q_4_2 rfl (kz := 6) rfl (lr_42_6 hLR) ?_
      refine x_iload_n C 1 dX12_rule_27 rfl rfl ?_
      refine x_iald C 44 dX12_rule_28 (lt67 hn rfl) rfl (by refine ⟨?_, ?_⟩ <;> omega) (fun rg28 => ?_)
      refine x_istore_n C dX12_rule_29 rfl (by decide) (lv' := [(0, .ref (aG G 42)), (1, .int (iI w)), (2, .int (iI v)), (3, .int (iI (V 44 w)))]) rfl ?_
      refine x_aload_n C 0 dX12_rule_30 rfl rfl ?_
      refine x_getr C ok_Model 42 6 (d := 44) dX12_rule_31 (lt67 hn rfl) rfl (by decide) rfl q_4_2 rfl (kz := 6) rfl (lr_42_6 hLR) ?_
      refine x_iload_n C 1 dX12_rule_34 rfl rfl ?_
      refine x_iload_n C 2 dX12_rule_35 rfl rfl ?_
      refine x_iast C 44 dX12_rule_36 (lt67 hn rfl) rfl (by refine ⟨?_, ?_⟩ <;> omega) (by first | assumption | (constructor <;> omega)) ?_
      refine x_iload_n C 3 dX12_rule_37 rfl rfl ?_
      refine x_iret C dX12_rule_38 ⟨_, _, rfl, rfl, ?_⟩
      · first | (refine Or.inl ⟨?_, ?_, ?_⟩ <;> first | rfl | assumption | omega | exact congrArg _ (by omega)) | (refine Or.inr (⟨?_, ?_, ?_⟩) <;> first | rfl | assumption | omega | exact congrArg _ (by omega))
    · skip
      refine x_bipush C dX12_rule_20 (w := -2) (by decide) ?_
      refine x_iret C dX12_rule_22 ⟨_, _, rfl, rfl, ?_⟩
      · first | (refine Or.inl ⟨?_, ?_, ?_⟩ <;> first | rfl | assumption | omega | exact congrArg _ (by omega)) | (refine Or.inr (⟨?_, ?_, ?_⟩) <;> first | rfl | assumption | omega | exact congrArg _ (by omega))
set_option maxRecDepth 100000 in
set_option maxHeartbeats 4000000 in
theorem m_X12_ownX (G : GS) (n : Nat) (V : Nat → Int → Int) (R : Nat → Int → Option Nat) (x : Int) (y : Int) (t : Int) (gt : Rg t) : Cn G yX12_ownX cX12_ownX 3 (some .int) (rmk 1 0 0 16) [.int (iI x), .int (iI y), .int (iI t)] n V R 0 0 (fun vv uu => vv = some (.int (iI (oX x y t))) ∧ uu = (n, V, R)) := by
  refine Cn.of (by decide) (Nat.le_of_ble_eq_true rfl) (fun K C hct => ?_)
  show Xw K G 0 0 _ n V R 0 [(0, .int (iI x)), (1, .int (iI y)), (2, .int (iI t))] []
  refine x_iload_n C 2 dX12_ownX_0 rfl rfl ?_
  refine x_if_ne C dX12_ownX_1 (tgt := 8) (by decide) (by first | assumption | (constructor <;> omega)) (fun h1 => ?_) (fun h1 => ?_)
  · skip
    refine x_iload_n C 2 dX12_ownX_8 rfl rfl ?_
    refine x_iconst C dX12_ownX_9 ?_
    refine x_icmp_ne C dX12_ownX_10 (tgt := 17) (by decide) (by first | assumption | (constructor <;> omega)) (by first | assumption | (constructor <;> omega)) (fun h10 => ?_) (fun h10 => ?_)
    · skip
      refine x_iload_n C 2 dX12_ownX_17 rfl rfl ?_
      refine x_iconst C dX12_ownX_18 ?_
      refine x_icmp_ne C dX12_ownX_19 (tgt := 29) (by decide) (by first | assumption | (constructor <;> omega)) (by first | assumption | (constructor <;> omega)) (fun h19 => ?_) (fun h19 => ?_)
      · skip
        refine x_bipush C dX12_ownX_29 (w := 11) (by decide) ?_
        refine x_iload_n C 1 dX12_ownX_31 rfl rfl ?_
        refine x_isub C dX12_ownX_32 ?_
        refine x_iret C dX12_ownX_33 ⟨congrArg (fun z => some (Value.int (iI z))) (by unfold oX; repeat' split <;> omega), rfl⟩
      · skip
        refine x_bipush C dX12_ownX_22 (w := 11) (by decide) ?_
        refine x_iload_n C 0 dX12_ownX_24 rfl rfl ?_
        refine x_isub C dX12_ownX_25 ?_
        refine x_goto C dX12_ownX_26 (tgt := 33) (by decide) ?_
        refine x_iret C dX12_ownX_33 ⟨congrArg (fun z => some (Value.int (iI z))) (by unfold oX; repeat' split <;> omega), rfl⟩
    · skip
      refine x_iload_n C 1 dX12_ownX_13 rfl rfl ?_
      refine x_goto C dX12_ownX_14 (tgt := 33) (by decide) ?_
      refine x_iret C dX12_ownX_33 ⟨congrArg (fun z => some (Value.int (iI z))) (by unfold oX; repeat' split <;> omega), rfl⟩
  · skip
    refine x_iload_n C 0 dX12_ownX_4 rfl rfl ?_
    refine x_goto C dX12_ownX_5 (tgt := 33) (by decide) ?_
    refine x_iret C dX12_ownX_33 ⟨congrArg (fun z => some (Value.int (iI z))) (by unfold oX; repeat' split <;> omega), rfl⟩
set_option maxRecDepth 100000 in
set_option maxHeartbeats 4000000 in
theorem m_X12_ownY (G : GS) (n : Nat) (V : Nat → Int → Int) (R : Nat → Int → Option Nat) (x : Int) (y : Int) (t : Int) (gt : Rg t) : Cn G yX12_ownY cX12_ownY 3 (some .int) (rmk 1 0 0 16) [.int (iI x), .int (iI y), .int (iI t)] n V R 0 0 (fun vv uu => vv = some (.int (iI (oY x y t))) ∧ uu = (n, V, R)) := by
  refine Cn.of (by decide) (Nat.le_of_ble_eq_true rfl) (fun K C hct => ?_)
  show Xw K G 0 0 _ n V R 0 [(0, .int (iI x)), (1, .int (iI y)), (2, .int (iI t))] []
  refine x_iload_n C 2 dX12_ownY_0 rfl rfl ?_
  refine x_if_ne C dX12_ownY_1 (tgt := 8) (by decide) (by first | assumption | (constructor <;> omega)) (fun h1 => ?_) (fun h1 => ?_)
  · skip
    refine x_iload_n C 2 dX12_ownY_8 rfl rfl ?_
    refine x_iconst C dX12_ownY_9 ?_
    refine x_icmp_ne C dX12_ownY_10 (tgt := 20) (by decide) (by first | assumption | (constructor <;> omega)) (by first | assumption | (constructor <;> omega)) (fun h10 => ?_) (fun h10 => ?_)
    · skip
      refine x_iload_n C 2 dX12_ownY_20 rfl rfl ?_
      refine x_iconst C dX12_ownY_21 ?_
      refine x_icmp_ne C dX12_ownY_22 (tgt := 32) (by decide) (by first | assumption | (constructor <;> omega)) (by first | assumption | (constructor <;> omega)) (fun h22 => ?_) (fun h22 => ?_)
      · skip
        refine x_iload_n C 0 dX12_ownY_32 rfl rfl ?_
        refine x_iret C dX12_ownY_33 ⟨congrArg (fun z => some (Value.int (iI z))) (by unfold oY; repeat' split <;> omega), rfl⟩
      · skip
        refine x_bipush C dX12_ownY_25 (w := 11) (by decide) ?_
        refine x_iload_n C 1 dX12_ownY_27 rfl rfl ?_
        refine x_isub C dX12_ownY_28 ?_
        refine x_goto C dX12_ownY_29 (tgt := 33) (by decide) ?_
        refine x_iret C dX12_ownY_33 ⟨congrArg (fun z => some (Value.int (iI z))) (by unfold oY; repeat' split <;> omega), rfl⟩
    · skip
      refine x_bipush C dX12_ownY_13 (w := 11) (by decide) ?_
      refine x_iload_n C 0 dX12_ownY_15 rfl rfl ?_
      refine x_isub C dX12_ownY_16 ?_
      refine x_goto C dX12_ownY_17 (tgt := 33) (by decide) ?_
      refine x_iret C dX12_ownY_33 ⟨congrArg (fun z => some (Value.int (iI z))) (by unfold oY; repeat' split <;> omega), rfl⟩
  · skip
    refine x_iload_n C 1 dX12_ownY_4 rfl rfl ?_
    refine x_goto C dX12_ownY_5 (tgt := 33) (by decide) ?_
    refine x_iret C dX12_ownY_33 ⟨congrArg (fun z => some (Value.int (iI z))) (by unfold oY; repeat' split <;> omega), rfl⟩
set_option maxRecDepth 100000 in
set_option maxHeartbeats 4000000 in
theorem m_X12_hurtOf (G : GS) (n : Nat) (V : Nat → Int → Int) (R : Nat → Int → Option Nat) (x : Int) (y : Int) (s : Int) (t : Int) (hn : 67 ≤ n) (hLR : LR R) (hx : 0 ≤ x ∧ x ≤ 11) (hy : 0 ≤ y ∧ y ≤ 11) (h0 : 0 ≤ s ∧ s ≤ 7) (ht : 0 ≤ t ∧ t ≤ 3) (h4 : 0 ≤ V 42 4 ∧ V 42 4 ≤ 8) (hF : ∀ i, 0 ≤ i → i < V 42 4 → okM V i) : Cn G yX12_hurtOf cX12_hurtOf 7 (some .int) (rmk 3 0 0 67) [.ref (aG G 42), .int (iI x), .int (iI y), .int (iI s), .int (iI t)] n V R 0 0 (fun vv uu => vv = some (.int (iI (hurtS (FM V) (V 42 4) x y s t))) ∧ uu = (n, V, R)) := by
  refine Cn.of (by decide) (Nat.le_of_ble_eq_true rfl) (fun K C hct => ?_)
  show Xw K G 0 0 _ n V R 0 [(0, .ref (aG G 42)), (1, .int (iI x)), (2, .int (iI y)), (3, .int (iI s)), (4, .int (iI t))] []
  refine x_iconst C dX12_hurtOf_0 ?_
  refine x_istore C dX12_hurtOf_1 (by decide) (lv' := [(0, .ref (aG G 42)), (1, .int (iI x)), (2, .int (iI y)), (3, .int (iI s)), (4, .int (iI t)), (5, .int (iI 0))]) rfl ?_
  refine x_iconst C dX12_hurtOf_3 ?_
  refine x_istore C dX12_hurtOf_4 (by decide) (lv' := [(0, .ref (aG G 42)), (1, .int (iI x)), (2, .int (iI y)), (3, .int (iI s)), (4, .int (iI t)), (5, .int (iI 0)), (6, .int (iI 0))]) rfl ?_
  have lp_6 : ∀ (fuel : Nat) (w : Int) (f : Int), (0 ≤ f ∧ f ≤ V 42 4) → (w = hurtS (FM V) f x y s t) → (V 42 4 - f) < (fuel : Int) → Xw K G 0 0 (EndQ K G 0 0 (fun vv uu => vv = some (.int (iI (hurtS (FM V) (V 42 4) x y s t))) ∧ uu = (n, V, R))) n V R 6 [(0, .ref (aG G 42)), (1, .int (iI x)), (2, .int (iI y)), (3, .int (iI s)), (4, .int (iI t)), (5, .int (iI w)), (6, .int (iI f))] [] := by
    intro fuel6
    induction fuel6 with
    | zero => intro w f hf0 hw hfu6; exfalso; omega
    | succ fuel6 ih6 =>
      intro w f hf0 hw hfu6
      have hwb := hurtS_b (FM V) f x y s t
      have hob := o_b (t := t) hx hy
      refine x_iload C 6 dX12_hurtOf_6 rfl ?_
      refine x_aload_n C 0 dX12_hurtOf_8 rfl rfl ?_
      refine x_geti C ok_Model 42 4 dX12_hurtOf_9 (lt67 hn rfl) rfl (by decide) rfl q_6_14 rfl (kz := 4) rfl (fun rg9 => ?_)
      refine x_icmp_ge C dX12_hurtOf_12 (tgt := 73) (by decide) (by first | assumption | (constructor <;> omega)) (by first | assumption | (constructor <;> omega)) (fun h12 => ?_) (fun h12 => ?_)
      · skip
        refine x_iload C 5 dX12_hurtOf_73 rfl ?_
        refine x_iret C dX12_hurtOf_75 ⟨congrArg (fun z => some (Value.int (iI z))) (by rw [hw]; congr 1; omega), rfl⟩
      · skip
        refine x_aload_n C 0 dX12_hurtOf_15 rfl rfl ?_
        obtain ⟨hk, ha, hs, hz⟩ := hF f (by omega) (by omega)
        refine x_iload C 6 dX12_hurtOf_16 rfl ?_
        refine x_iload_n C 3 dX12_hurtOf_18 rfl rfl ?_
        refine x_runU (r_callV C ok_Model 42 (lt67 hn rfl) rfl (ce_X12_isAt) (m_X12_isAt G n V R (f) (s) hn hLR (by first | assumption | omega | decide) (by first | assumption | omega | decide) (by first | assumption | omega | decide) (by first | assumption | omega | decide) (by first | assumption | omega | decide) (by first | assumption | omega | decide)) rfl dX12_hurtOf_19 q_25_1 q_25_2 q_25_3 rfl rfl ⟨Nat.le_of_ble_eq_true rfl, Nat.le_of_ble_eq_true rfl⟩ ⟨rfl, rfl⟩ ⟨Nat.le_of_ble_eq_true rfl, Nat.le_of_ble_eq_true rfl⟩ (Nat.le_of_ble_eq_true rfl)) (fun v19 u19 hp19 => ?_)
        obtain ⟨rfl, rfl⟩ := hp19
        show Xw K G 0 0 _ n V R 22 [(0, .ref (aG G 42)), (1, .int (iI x)), (2, .int (iI y)), (3, .int (iI s)), (4, .int (iI t)), (5, .int (iI w)), (6, .int (iI f))] [.int (iI (bI (atF (V 43 (4 * f)) (V 43 (4 * f + 2)) (V 43 (4 * f + 3)) s)))]
        refine x_ifeq_b C dX12_hurtOf_22 (tgt := 67) (by decide) (fun h22 => ?_) (fun h22 => ?_)
        · skip
          refine x_iinc C 6 dX12_hurtOf_67 rfl (by decide) (lv' := [(0, .ref (aG G 42)), (1, .int (iI x)), (2, .int (iI y)), (3, .int (iI s)), (4, .int (iI t)), (5, .int (iI w)), (6, .int (iI (f + 1)))]) rfl ?_
          refine x_goto C dX12_hurtOf_70 (tgt := 6) (by decide) ?_
          exact ih6 (w) ((f + 1)) (by first | assumption | omega) (by first | exact hurtM_t hf0.1 hw h22 h45 | exact hurtM_f hf0.1 hw (fun q => h22 q.1) | exact hurtM_f hf0.1 hw (fun q => h45 q.2)) (by omega)
        · skip
          refine x_aload_n C 0 dX12_hurtOf_25 rfl rfl ?_
          refine x_iload C 6 dX12_hurtOf_26 rfl ?_
          refine x_iload_n C 1 dX12_hurtOf_28 rfl rfl ?_
          refine x_iload_n C 2 dX12_hurtOf_29 rfl rfl ?_
          refine x_iload C 4 dX12_hurtOf_30 rfl ?_
          refine x_runU (r_callS C (ce_X12_ownX) (m_X12_ownX G n V R (x) (y) (t) (by first | assumption | omega | decide)) dX12_hurtOf_32 q_31_9 q_31_10 rfl rfl ⟨Nat.le_of_ble_eq_true rfl, Nat.le_of_ble_eq_true rfl⟩ ⟨rfl, rfl⟩ ⟨Nat.le_of_ble_eq_true rfl, Nat.le_of_ble_eq_true rfl⟩ (Nat.le_of_ble_eq_true rfl)) (fun v32 u32 hp32 => ?_)
          obtain ⟨rfl, rfl⟩ := hp32
          show Xw K G 0 0 _ n V R 35 [(0, .ref (aG G 42)), (1, .int (iI x)), (2, .int (iI y)), (3, .int (iI s)), (4, .int (iI t)), (5, .int (iI w)), (6, .int (iI f))] [.int (iI (oX x y t)), .int (iI f), .ref (aG G 42)]
          refine x_iload_n C 1 dX12_hurtOf_35 rfl rfl ?_
          refine x_iload_n C 2 dX12_hurtOf_36 rfl rfl ?_
          refine x_iload C 4 dX12_hurtOf_37 rfl ?_
          refine x_runU (r_callS C (ce_X12_ownY) (m_X12_ownY G n V R (x) (y) (t) (by first | assumption | omega | decide)) dX12_hurtOf_39 q_31_12 q_31_13 rfl rfl ⟨Nat.le_of_ble_eq_true rfl, Nat.le_of_ble_eq_true rfl⟩ ⟨rfl, rfl⟩ ⟨Nat.le_of_ble_eq_true rfl, Nat.le_of_ble_eq_true rfl⟩ (Nat.le_of_ble_eq_true rfl)) (fun v39 u39 hp39 => ?_)
          obtain ⟨rfl, rfl⟩ := hp39
          show Xw K G 0 0 _ n V R 42 [(0, .ref (aG G 42)), (1, .int (iI x)), (2, .int (iI y)), (3, .int (iI s)), (4, .int (iI t)), (5, .int (iI w)), (6, .int (iI f))] [.int (iI (oY x y t)), .int (iI (oX x y t)), .int (iI f), .ref (aG G 42)]
          refine x_runU (r_callV C ok_Model 42 (lt67 hn rfl) rfl (ce_X12_isIn) (m_X12_isIn G n V R (f) (oX x y t) (oY x y t) hn hLR (by first | assumption | omega | decide) (by first | assumption | omega | decide) (by first | assumption | omega | decide) (by first | assumption | omega | decide) (by first | assumption | omega | decide) (by first | assumption | omega | decide) (by first | assumption | omega | decide)) rfl dX12_hurtOf_42 q_25_9 q_25_10 q_25_11 rfl rfl ⟨Nat.le_of_ble_eq_true rfl, Nat.le_of_ble_eq_true rfl⟩ ⟨rfl, rfl⟩ ⟨Nat.le_of_ble_eq_true rfl, Nat.le_of_ble_eq_true rfl⟩ (Nat.le_of_ble_eq_true rfl)) (fun v42 u42 hp42 => ?_)
          obtain ⟨rfl, rfl⟩ := hp42
          show Xw K G 0 0 _ n V R 45 [(0, .ref (aG G 42)), (1, .int (iI x)), (2, .int (iI y)), (3, .int (iI s)), (4, .int (iI t)), (5, .int (iI w)), (6, .int (iI f))] [.int (iI (bI (inF (V 43 (4 * f)) (V 43 (4 * f + 1)) (V 43 (4 * f + 3)) (oX x y t) (oY x y t))))]
          refine x_ifeq_b C dX12_hurtOf_45 (tgt := 67) (by decide) (fun h45 => ?_) (fun h45 => ?_)
          · skip
            refine x_iinc C 6 dX12_hurtOf_67 rfl (by decide) (lv' := [(0, .ref (aG G 42)), (1, .int (iI x)), (2, .int (iI y)), (3, .int (iI s)), (4, .int (iI t)), (5, .int (iI w)), (6, .int (iI (f + 1)))]) rfl ?_
            refine x_goto C dX12_hurtOf_70 (tgt := 6) (by decide) ?_
            exact ih6 (w) ((f + 1)) (by first | assumption | omega) (by first | exact hurtM_t hf0.1 hw h22 h45 | exact hurtM_f hf0.1 hw (fun q => h22 q.1) | exact hurtM_f hf0.1 hw (fun q => h45 q.2)) (by omega)
          · skip
            refine x_iload C 5 dX12_hurtOf_48 rfl ?_
            refine x_aload_n C 0 dX12_hurtOf_50 rfl rfl ?_
            refine x_getr C ok_Model 42 5 (d := 43) dX12_hurtOf_51 (lt67 hn rfl) rfl (by decide) rfl q_4_1 rfl (kz := 5) rfl (lr_42_5 hLR) ?_
            refine x_iconst C dX12_hurtOf_54 ?_
            refine x_iload C 6 dX12_hurtOf_55 rfl ?_
            refine x_imul C dX12_hurtOf_57 ?_
            refine x_iald C 43 dX12_hurtOf_58 (lt67 hn rfl) rfl (by refine ⟨?_, ?_⟩ <;> omega) (fun rg58 => ?_)
            have hhk := hurtK_b (V 43 (4 * f))
            refine x_runU (r_callS C (ce_X12_hurts) (m_X12_hurts G n V R (V 43 (4 * f)) (by first | assumption | omega | decide)) dX12_hurtOf_59 q_25_20 q_25_21 rfl rfl ⟨Nat.le_of_ble_eq_true rfl, Nat.le_of_ble_eq_true rfl⟩ ⟨rfl, rfl⟩ ⟨Nat.le_of_ble_eq_true rfl, Nat.le_of_ble_eq_true rfl⟩ (Nat.le_of_ble_eq_true rfl)) (fun v59 u59 hp59 => ?_)
            obtain ⟨rfl, rfl⟩ := hp59
            show Xw K G 0 0 _ n V R 62 [(0, .ref (aG G 42)), (1, .int (iI x)), (2, .int (iI y)), (3, .int (iI s)), (4, .int (iI t)), (5, .int (iI w)), (6, .int (iI f))] [.int (iI (hurtK (V 43 (4 * f)))), .int (iI w)]
            refine x_max C dX12_hurtOf_62 q_7_6 q_5_21 q_5_22 q_5_23 ⟨Nat.le_of_ble_eq_true rfl, Nat.le_of_ble_eq_true rfl⟩ ⟨Nat.zero_le _, Nat.zero_le _⟩ (by first | assumption | (constructor <;> omega)) (by first | assumption | (constructor <;> omega)) ?_
            refine x_istore C dX12_hurtOf_65 (by decide) (lv' := [(0, .ref (aG G 42)), (1, .int (iI x)), (2, .int (iI y)), (3, .int (iI s)), (4, .int (iI t)), (5, .int (iI (max w (hurtK (V 43 (4 * f)))))), (6, .int (iI f))]) rfl ?_
            refine x_iinc C 6 dX12_hurtOf_67 rfl (by decide) (lv' := [(0, .ref (aG G 42)), (1, .int (iI x)), (2, .int (iI y)), (3, .int (iI s)), (4, .int (iI t)), (5, .int (iI (max w (hurtK (V 43 (4 * f)))))), (6, .int (iI (f + 1)))]) rfl ?_
            refine x_goto C dX12_hurtOf_70 (tgt := 6) (by decide) ?_
            exact ih6 ((max w (hurtK (V 43 (4 * f))))) ((f + 1)) (by first | assumption | omega) (by first | exact hurtM_t hf0.1 hw h22 h45 | exact hurtM_f hf0.1 hw (fun q => h22 q.1) | exact hurtM_f hf0.1 hw (fun q => h45 q.2)) (by omega)
  exact lp_6 ((V 42 4 - 0).toNat + 1) (0) (0) (by first | assumption | omega) (by rfl) (by omega)
set_option maxRecDepth 100000 in
set_option maxHeartbeats 4000000 in
theorem m_X12_cell (G : GS) (n : Nat) (V : Nat → Int → Int) (R : Nat → Int → Option Nat) (x : Int) (y : Int) (s : Int) (w : Int) (hn : 67 ≤ n) (hLR : LR R) (gx : Rg x) (gy : Rg y) (gs : Rg s) (gw : Rg w) (h3 : 0 ≤ V 42 2 ∧ V 42 2 ≤ 8) (h1 : 0 ≤ V 42 0 ∧ V 42 0 ≤ 6) (h2 : 0 ≤ V 42 1 ∧ V 42 1 ≤ 4) (h4 : 0 ≤ V 42 4 ∧ V 42 4 ≤ 8) (hF : ∀ i, 0 ≤ i → i < V 42 4 → okM V i) (h5 : 0 ≤ V 42 3 ∧ V 42 3 ≤ 3) : Cn G yX12_cell cX12_cell 6 (some .int) (rmk 4 0 0 93) [.ref (aG G 42), .int (iI x), .int (iI y), .int (iI s), .int (iI w)] n V R 0 0 (fun vv uu => ∃ (r : Int), vv = some (.int (iI r)) ∧ uu = (n, V, R) ∧ (((V 42 2 = 0) ∧ r = (-3)) ∨ ((V 42 2 ≠ 0 ∧ ¬ ((0 ≤ x ∧ x ≤ 11) ∧ (0 ≤ y ∧ y ≤ 11) ∧ (0 ≤ s ∧ s ≤ V 42 2 - 1) ∧ (0 ≤ w ∧ w ≤ 2))) ∧ r = (-2)) ∨ (V 42 2 ≠ 0 ∧ (0 ≤ x ∧ x ≤ 11) ∧ (0 ≤ y ∧ y ≤ 11) ∧ (0 ≤ s ∧ s ≤ V 42 2 - 1) ∧ w = 0 ∧ r = bI (woodP (V 42 0) (V 42 1) x y s)) ∨ (V 42 2 ≠ 0 ∧ (0 ≤ x ∧ x ≤ 11) ∧ (0 ≤ y ∧ y ≤ 11) ∧ (0 ≤ s ∧ s ≤ V 42 2 - 1) ∧ w = 1 ∧ r = hurtS (FM V) (V 42 4) x y s (V 42 3)) ∨ (V 42 2 ≠ 0 ∧ (0 ≤ x ∧ x ≤ 11) ∧ (0 ≤ y ∧ y ≤ 11) ∧ (0 ≤ s ∧ s ≤ V 42 2 - 1) ∧ w = 2 ∧ leastP (FM V) (V 42 4) (oX x y (V 42 3)) (oY x y (V 42 3)) s r))) := by
  refine Cn.of (by decide) (Nat.le_of_ble_eq_true rfl) (fun K C hct => ?_)
  show Xw K G 0 0 _ n V R 0 [(0, .ref (aG G 42)), (1, .int (iI x)), (2, .int (iI y)), (3, .int (iI s)), (4, .int (iI w))] []
  refine x_aload_n C 0 dX12_cell_0 rfl rfl ?_
  refine x_geti C ok_Model 42 2 dX12_cell_1 (lt67 hn rfl) rfl (by decide) rfl q_6_12 rfl (kz := 2) rfl (fun rg1 => ?_)
  refine x_if_ne C dX12_cell_4 (tgt := 10) (by decide) (by first | assumption | (constructor <;> omega)) (fun h4 => ?_) (fun h4 => ?_)
  · skip
    refine x_iload_n C 1 dX12_cell_10 rfl rfl ?_
    refine x_i2l C dX12_cell_11 (by first | assumption | (constructor <;> omega)) ?_
    refine x_lconst C dX12_cell_12 (w := 0) (by decide) ?_
    refine x_ldc2 C dX12_cell_13 q_31_4 (w := 11) (by decide) ?_
    refine x_runU (r_callS C (ce_X12_in) (m_X12_in G n V R (x) (0) (11) (by first | assumption | omega | decide) (by first | assumption | omega | decide) (by first | assumption | omega | decide)) dX12_cell_16 q_6_15 q_6_16 rfl rfl ⟨Nat.le_of_ble_eq_true rfl, Nat.le_of_ble_eq_true rfl⟩ ⟨rfl, rfl⟩ ⟨Nat.le_of_ble_eq_true rfl, Nat.le_of_ble_eq_true rfl⟩ (Nat.le_of_ble_eq_true rfl)) (fun v16 u16 hp16 => ?_)
    obtain ⟨rfl, rfl⟩ := hp16
    show Xw K G 0 0 _ n V R 19 [(0, .ref (aG G 42)), (1, .int (iI x)), (2, .int (iI y)), (3, .int (iI s)), (4, .int (iI w))] [.int (iI (bI (0 ≤ x ∧ x ≤ 11)))]
    refine x_ifeq_b C dX12_cell_19 (tgt := 63) (by decide) (fun h19 => ?_) (fun h19 => ?_)
    · skip
      refine x_bipush C dX12_cell_63 (w := -2) (by decide) ?_
      refine x_iret C dX12_cell_65 ⟨_, rfl, rfl, ?_⟩
      · first | (refine Or.inl ⟨?_, rfl⟩; omega) | (refine Or.inr (Or.inl ⟨?_, rfl⟩); omega)
    · skip
      refine x_iload_n C 2 dX12_cell_22 rfl rfl ?_
      refine x_i2l C dX12_cell_23 (by first | assumption | (constructor <;> omega)) ?_
      refine x_lconst C dX12_cell_24 (w := 0) (by decide) ?_
      refine x_ldc2 C dX12_cell_25 q_31_4 (w := 11) (by decide) ?_
      refine x_runU (r_callS C (ce_X12_in) (m_X12_in G n V R (y) (0) (11) (by first | assumption | omega | decide) (by first | assumption | omega | decide) (by first | assumption | omega | decide)) dX12_cell_28 q_6_15 q_6_16 rfl rfl ⟨Nat.le_of_ble_eq_true rfl, Nat.le_of_ble_eq_true rfl⟩ ⟨rfl, rfl⟩ ⟨Nat.le_of_ble_eq_true rfl, Nat.le_of_ble_eq_true rfl⟩ (Nat.le_of_ble_eq_true rfl)) (fun v28 u28 hp28 => ?_)
      obtain ⟨rfl, rfl⟩ := hp28
      show Xw K G 0 0 _ n V R 31 [(0, .ref (aG G 42)), (1, .int (iI x)), (2, .int (iI y)), (3, .int (iI s)), (4, .int (iI w))] [.int (iI (bI (0 ≤ y ∧ y ≤ 11)))]
      refine x_ifeq_b C dX12_cell_31 (tgt := 63) (by decide) (fun h31 => ?_) (fun h31 => ?_)
      · skip
        refine x_bipush C dX12_cell_63 (w := -2) (by decide) ?_
        refine x_iret C dX12_cell_65 ⟨_, rfl, rfl, ?_⟩
        · first | (refine Or.inl ⟨?_, rfl⟩; omega) | (refine Or.inr (Or.inl ⟨?_, rfl⟩); omega)
      · skip
        refine x_iload_n C 3 dX12_cell_34 rfl rfl ?_
        refine x_i2l C dX12_cell_35 (by first | assumption | (constructor <;> omega)) ?_
        refine x_lconst C dX12_cell_36 (w := 0) (by decide) ?_
        refine x_aload_n C 0 dX12_cell_37 rfl rfl ?_
        refine x_geti C ok_Model 42 2 dX12_cell_38 (lt67 hn rfl) rfl (by decide) rfl q_6_12 rfl (kz := 2) rfl (fun rg38 => ?_)
        refine x_iconst C dX12_cell_41 ?_
        refine x_isub C dX12_cell_42 ?_
        refine x_i2l C dX12_cell_43 (by first | assumption | (constructor <;> omega)) ?_
        refine x_runU (r_callS C (ce_X12_in) (m_X12_in G n V R (s) (0) ((V 42 2) - 1) (by first | assumption | omega | decide) (by first | assumption | omega | decide) (by first | assumption | omega | decide)) dX12_cell_44 q_6_15 q_6_16 rfl rfl ⟨Nat.le_of_ble_eq_true rfl, Nat.le_of_ble_eq_true rfl⟩ ⟨rfl, rfl⟩ ⟨Nat.le_of_ble_eq_true rfl, Nat.le_of_ble_eq_true rfl⟩ (Nat.le_of_ble_eq_true rfl)) (fun v44 u44 hp44 => ?_)
        obtain ⟨rfl, rfl⟩ := hp44
        show Xw K G 0 0 _ n V R 47 [(0, .ref (aG G 42)), (1, .int (iI x)), (2, .int (iI y)), (3, .int (iI s)), (4, .int (iI w))] [.int (iI (bI (0 ≤ s ∧ s ≤ ((V 42 2) - 1))))]
        refine x_ifeq_b C dX12_cell_47 (tgt := 63) (by decide) (fun h47 => ?_) (fun h47 => ?_)
        · skip
          refine x_bipush C dX12_cell_63 (w := -2) (by decide) ?_
          refine x_iret C dX12_cell_65 ⟨_, rfl, rfl, ?_⟩
          · first | (refine Or.inl ⟨?_, rfl⟩; omega) | (refine Or.inr (Or.inl ⟨?_, rfl⟩); omega)
        · skip
          refine x_iload C 4 dX12_cell_50 rfl ?_
          refine x_i2l C dX12_cell_52 (by first | assumption | (constructor <;> omega)) ?_
          refine x_lconst C dX12_cell_53 (w := 0) (by decide) ?_
          refine x_ldc2 C dX12_cell_54 q_6_6 (w := 2) (by decide) ?_
          refine x_runU (r_callS C (ce_X12_in) (m_X12_in G n V R (w) (0) (2) (by first | assumption | omega | decide) (by first | assumption | omega | decide) (by first | assumption | omega | decide)) dX12_cell_57 q_6_15 q_6_16 rfl rfl ⟨Nat.le_of_ble_eq_true rfl, Nat.le_of_ble_eq_true rfl⟩ ⟨rfl, rfl⟩ ⟨Nat.le_of_ble_eq_true rfl, Nat.le_of_ble_eq_true rfl⟩ (Nat.le_of_ble_eq_true rfl)) (fun v57 u57 hp57 => ?_)
          obtain ⟨rfl, rfl⟩ := hp57
          show Xw K G 0 0 _ n V R 60 [(0, .ref (aG G 42)), (1, .int (iI x)), (2, .int (iI y)), (3, .int (iI s)), (4, .int (iI w))] [.int (iI (bI (0 ≤ w ∧ w ≤ 2)))]
          refine x_ifne_b C dX12_cell_60 (tgt := 66) (by decide) (fun h60 => ?_) (fun h60 => ?_)
          · skip
            refine x_iload C 4 dX12_cell_66 rfl ?_
            refine x_if_ne C dX12_cell_68 (tgt := 87) (by decide) (by first | assumption | (constructor <;> omega)) (fun h68 => ?_) (fun h68 => ?_)
            · skip
              refine x_iload C 4 dX12_cell_87 rfl ?_
              refine x_iconst C dX12_cell_89 ?_
              refine x_icmp_ne C dX12_cell_90 (tgt := 105) (by decide) (by first | assumption | (constructor <;> omega)) (by first | assumption | (constructor <;> omega)) (fun h90 => ?_) (fun h90 => ?_)
              · skip
                refine x_iconst C dX12_cell_105 ?_
                refine x_istore C dX12_cell_106 (by decide) (lv' := [(0, .ref (aG G 42)), (1, .int (iI x)), (2, .int (iI y)), (3, .int (iI s)), (4, .int (iI w)), (5, .int (iI 0))]) rfl ?_
                have lp_108 : ∀ (fuel : Nat) (f : Int), (0 ≤ f ∧ f ≤ V 42 4) → (∀ i, 0 ≤ i → i < f → ¬ hitF (FM V) i (oX x y (V 42 3)) (oY x y (V 42 3)) s) → (V 42 4 - f) < (fuel : Int) → Xw K G 0 0 (EndQ K G 0 0 (fun vv uu => ∃ (r : Int), vv = some (.int (iI r)) ∧ uu = (n, V, R) ∧ (((V 42 2 = 0) ∧ r = (-3)) ∨ ((V 42 2 ≠ 0 ∧ ¬ ((0 ≤ x ∧ x ≤ 11) ∧ (0 ≤ y ∧ y ≤ 11) ∧ (0 ≤ s ∧ s ≤ V 42 2 - 1) ∧ (0 ≤ w ∧ w ≤ 2))) ∧ r = (-2)) ∨ (V 42 2 ≠ 0 ∧ (0 ≤ x ∧ x ≤ 11) ∧ (0 ≤ y ∧ y ≤ 11) ∧ (0 ≤ s ∧ s ≤ V 42 2 - 1) ∧ w = 0 ∧ r = bI (woodP (V 42 0) (V 42 1) x y s)) ∨ (V 42 2 ≠ 0 ∧ (0 ≤ x ∧ x ≤ 11) ∧ (0 ≤ y ∧ y ≤ 11) ∧ (0 ≤ s ∧ s ≤ V 42 2 - 1) ∧ w = 1 ∧ r = hurtS (FM V) (V 42 4) x y s (V 42 3)) ∨ (V 42 2 ≠ 0 ∧ (0 ≤ x ∧ x ≤ 11) ∧ (0 ≤ y ∧ y ≤ 11) ∧ (0 ≤ s ∧ s ≤ V 42 2 - 1) ∧ w = 2 ∧ leastP (FM V) (V 42 4) (oX x y (V 42 3)) (oY x y (V 42 3)) s r)))) n V R 108 [(0, .ref (aG G 42)), (1, .int (iI x)), (2, .int (iI y)), (3, .int (iI s)), (4, .int (iI w)), (5, .int (iI f))] [] := by
                  intro fuel108
                  induction fuel108 with
                  | zero => intro f hf0 hno hfu108; exfalso; omega
                  | succ fuel108 ih108 =>
                    intro f hf0 hno hfu108
                    have hob := o_b (x := x) (y := y) (t := V 42 3) (by omega) (by omega)
                    refine x_iload C 5 dX12_cell_108 rfl ?_
                    refine x_aload_n C 0 dX12_cell_110 rfl rfl ?_
                    refine x_geti C ok_Model 42 4 dX12_cell_111 (lt67 hn rfl) rfl (by decide) rfl q_6_14 rfl (kz := 4) rfl (fun rg111 => ?_)
                    refine x_icmp_ge C dX12_cell_114 (tgt := 163) (by decide) (by first | assumption | (constructor <;> omega)) (by first | assumption | (constructor <;> omega)) (fun h114 => ?_) (fun h114 => ?_)
                    · skip
                      refine x_iconst C dX12_cell_163 ?_
                      refine x_iret C dX12_cell_164 ⟨_, rfl, rfl, ?_⟩
                      · exact Or.inr (Or.inr (Or.inr (Or.inr ⟨by omega, by omega, by omega, by omega, by omega, Or.inl ⟨rfl, fun i a b => hno i a (by omega)⟩⟩)))
                    · skip
                      refine x_aload_n C 0 dX12_cell_117 rfl rfl ?_
                      obtain ⟨hk, ha, hs, hz⟩ := hF f (by omega) (by omega)
                      refine x_iload C 5 dX12_cell_118 rfl ?_
                      refine x_iload_n C 3 dX12_cell_120 rfl rfl ?_
                      refine x_runU (r_callV C ok_Model 42 (lt67 hn rfl) rfl (ce_X12_isAt) (m_X12_isAt G n V R (f) (s) hn hLR (by first | assumption | omega | decide) (by first | assumption | omega | decide) (by first | assumption | omega | decide) (by first | assumption | omega | decide) (by first | assumption | omega | decide) (by first | assumption | omega | decide)) rfl dX12_cell_121 q_25_1 q_25_2 q_25_3 rfl rfl ⟨Nat.le_of_ble_eq_true rfl, Nat.le_of_ble_eq_true rfl⟩ ⟨rfl, rfl⟩ ⟨Nat.le_of_ble_eq_true rfl, Nat.le_of_ble_eq_true rfl⟩ (Nat.le_of_ble_eq_true rfl)) (fun v121 u121 hp121 => ?_)
                      obtain ⟨rfl, rfl⟩ := hp121
                      show Xw K G 0 0 _ n V R 124 [(0, .ref (aG G 42)), (1, .int (iI x)), (2, .int (iI y)), (3, .int (iI s)), (4, .int (iI w)), (5, .int (iI f))] [.int (iI (bI (atF (V 43 (4 * f)) (V 43 (4 * f + 2)) (V 43 (4 * f + 3)) s)))]
                      refine x_ifeq_b C dX12_cell_124 (tgt := 157) (by decide) (fun h124 => ?_) (fun h124 => ?_)
                      · skip
                        refine x_iinc C 5 dX12_cell_157 rfl (by decide) (lv' := [(0, .ref (aG G 42)), (1, .int (iI x)), (2, .int (iI y)), (3, .int (iI s)), (4, .int (iI w)), (5, .int (iI (f + 1)))]) rfl ?_
                        refine x_goto C dX12_cell_160 (tgt := 108) (by decide) ?_
                        exact ih108 ((f + 1)) (by first | assumption | omega) (by first | exact ext_lt hno (fun z => h124 (hitM.mp z).1) | exact ext_lt hno (fun z => h151 (hitM.mp z).2)) (by omega)
                      · skip
                        refine x_aload_n C 0 dX12_cell_127 rfl rfl ?_
                        refine x_iload C 5 dX12_cell_128 rfl ?_
                        refine x_iload_n C 1 dX12_cell_130 rfl rfl ?_
                        refine x_iload_n C 2 dX12_cell_131 rfl rfl ?_
                        refine x_aload_n C 0 dX12_cell_132 rfl rfl ?_
                        refine x_geti C ok_Model 42 3 dX12_cell_133 (lt67 hn rfl) rfl (by decide) rfl q_6_13 rfl (kz := 3) rfl (fun rg133 => ?_)
                        refine x_runU (r_callS C (ce_X12_ownX) (m_X12_ownX G n V R (x) (y) (V 42 3) (by first | assumption | omega | decide)) dX12_cell_136 q_31_9 q_31_10 rfl rfl ⟨Nat.le_of_ble_eq_true rfl, Nat.le_of_ble_eq_true rfl⟩ ⟨rfl, rfl⟩ ⟨Nat.le_of_ble_eq_true rfl, Nat.le_of_ble_eq_true rfl⟩ (Nat.le_of_ble_eq_true rfl)) (fun v136 u136 hp136 => ?_)
                        obtain ⟨rfl, rfl⟩ := hp136
                        show Xw K G 0 0 _ n V R 139 [(0, .ref (aG G 42)), (1, .int (iI x)), (2, .int (iI y)), (3, .int (iI s)), (4, .int (iI w)), (5, .int (iI f))] [.int (iI (oX x y (V 42 3))), .int (iI f), .ref (aG G 42)]
                        refine x_iload_n C 1 dX12_cell_139 rfl rfl ?_
                        refine x_iload_n C 2 dX12_cell_140 rfl rfl ?_
                        refine x_aload_n C 0 dX12_cell_141 rfl rfl ?_
                        refine x_geti C ok_Model 42 3 dX12_cell_142 (lt67 hn rfl) rfl (by decide) rfl q_6_13 rfl (kz := 3) rfl (fun rg142 => ?_)
                        refine x_runU (r_callS C (ce_X12_ownY) (m_X12_ownY G n V R (x) (y) (V 42 3) (by first | assumption | omega | decide)) dX12_cell_145 q_31_12 q_31_13 rfl rfl ⟨Nat.le_of_ble_eq_true rfl, Nat.le_of_ble_eq_true rfl⟩ ⟨rfl, rfl⟩ ⟨Nat.le_of_ble_eq_true rfl, Nat.le_of_ble_eq_true rfl⟩ (Nat.le_of_ble_eq_true rfl)) (fun v145 u145 hp145 => ?_)
                        obtain ⟨rfl, rfl⟩ := hp145
                        show Xw K G 0 0 _ n V R 148 [(0, .ref (aG G 42)), (1, .int (iI x)), (2, .int (iI y)), (3, .int (iI s)), (4, .int (iI w)), (5, .int (iI f))] [.int (iI (oY x y (V 42 3))), .int (iI (oX x y (V 42 3))), .int (iI f), .ref (aG G 42)]
                        refine x_runU (r_callV C ok_Model 42 (lt67 hn rfl) rfl (ce_X12_isIn) (m_X12_isIn G n V R (f) (oX x y (V 42 3)) (oY x y (V 42 3)) hn hLR (by first | assumption | omega | decide) (by first | assumption | omega | decide) (by first | assumption | omega | decide) (by first | assumption | omega | decide) (by first | assumption | omega | decide) (by first | assumption | omega | decide) (by first | assumption | omega | decide)) rfl dX12_cell_148 q_25_9 q_25_10 q_25_11 rfl rfl ⟨Nat.le_of_ble_eq_true rfl, Nat.le_of_ble_eq_true rfl⟩ ⟨rfl, rfl⟩ ⟨Nat.le_of_ble_eq_true rfl, Nat.le_of_ble_eq_true rfl⟩ (Nat.le_of_ble_eq_true rfl)) (fun v148 u148 hp148 => ?_)
                        obtain ⟨rfl, rfl⟩ := hp148
                        show Xw K G 0 0 _ n V R 151 [(0, .ref (aG G 42)), (1, .int (iI x)), (2, .int (iI y)), (3, .int (iI s)), (4, .int (iI w)), (5, .int (iI f))] [.int (iI (bI (inF (V 43 (4 * f)) (V 43 (4 * f + 1)) (V 43 (4 * f + 3)) (oX x y (V 42 3)) (oY x y (V 42 3)))))]
                        refine x_ifeq_b C dX12_cell_151 (tgt := 157) (by decide) (fun h151 => ?_) (fun h151 => ?_)
                        · skip
                          refine x_iinc C 5 dX12_cell_157 rfl (by decide) (lv' := [(0, .ref (aG G 42)), (1, .int (iI x)), (2, .int (iI y)), (3, .int (iI s)), (4, .int (iI w)), (5, .int (iI (f + 1)))]) rfl ?_
                          refine x_goto C dX12_cell_160 (tgt := 108) (by decide) ?_
                          exact ih108 ((f + 1)) (by first | assumption | omega) (by first | exact ext_lt hno (fun z => h124 (hitM.mp z).1) | exact ext_lt hno (fun z => h151 (hitM.mp z).2)) (by omega)
                        · skip
                          refine x_iload C 5 dX12_cell_154 rfl ?_
                          refine x_iret C dX12_cell_156 ⟨_, rfl, rfl, ?_⟩
                          · exact Or.inr (Or.inr (Or.inr (Or.inr ⟨by omega, by omega, by omega, by omega, by omega, Or.inr ⟨by omega, by omega, hitM.mpr ⟨h124, h151⟩, hno⟩⟩)))
                exact lp_108 ((V 42 4 - 0).toNat + 1) (0) (by first | assumption | omega) (by intro i a b; omega) (by omega)
              · skip
                refine x_aload_n C 0 dX12_cell_93 rfl rfl ?_
                refine x_iload_n C 1 dX12_cell_94 rfl rfl ?_
                refine x_iload_n C 2 dX12_cell_95 rfl rfl ?_
                refine x_iload_n C 3 dX12_cell_96 rfl rfl ?_
                refine x_aload_n C 0 dX12_cell_97 rfl rfl ?_
                refine x_geti C ok_Model 42 3 dX12_cell_98 (lt67 hn rfl) rfl (by decide) rfl q_6_13 rfl (kz := 3) rfl (fun rg98 => ?_)
                refine x_runU (r_callV C ok_Model 42 (lt67 hn rfl) rfl (ce_X12_hurtOf) (m_X12_hurtOf G n V R (x) (y) (s) (V 42 3) hn hLR (by first | assumption | omega | decide) (by first | assumption | omega | decide) (by first | assumption | omega | decide) (by first | assumption | omega | decide) (by first | assumption | omega | decide) (by first | assumption | omega | decide)) rfl dX12_cell_101 q_31_5 q_31_6 q_31_7 rfl rfl ⟨Nat.le_of_ble_eq_true rfl, Nat.le_of_ble_eq_true rfl⟩ ⟨rfl, rfl⟩ ⟨Nat.le_of_ble_eq_true rfl, Nat.le_of_ble_eq_true rfl⟩ (Nat.le_of_ble_eq_true rfl)) (fun v101 u101 hp101 => ?_)
                obtain ⟨rfl, rfl⟩ := hp101
                show Xw K G 0 0 _ n V R 104 [(0, .ref (aG G 42)), (1, .int (iI x)), (2, .int (iI y)), (3, .int (iI s)), (4, .int (iI w))] [.int (iI (hurtS (FM V) (V 42 4) x y s (V 42 3)))]
                refine x_iret C dX12_cell_104 ⟨_, rfl, rfl, ?_⟩
                · exact Or.inr (Or.inr (Or.inr (Or.inl ⟨by omega, by omega, by omega, by omega, by omega, rfl⟩)))
            · skip
              refine x_aload_n C 0 dX12_cell_71 rfl rfl ?_
              refine x_iload_n C 1 dX12_cell_72 rfl rfl ?_
              refine x_iload_n C 2 dX12_cell_73 rfl rfl ?_
              refine x_iload_n C 3 dX12_cell_74 rfl rfl ?_
              refine x_runU (r_callV C ok_Model 42 (lt67 hn rfl) rfl (ce_X12_isWood) (m_X12_isWood G n V R (x) (y) (s) hn hLR (by first | assumption | omega | decide) (by first | assumption | omega | decide) (by first | assumption | omega | decide) (by first | assumption | omega | decide) (by first | assumption | omega | decide)) rfl dX12_cell_75 q_6_22 q_6_23 q_7_0 rfl rfl ⟨Nat.le_of_ble_eq_true rfl, Nat.le_of_ble_eq_true rfl⟩ ⟨rfl, rfl⟩ ⟨Nat.le_of_ble_eq_true rfl, Nat.le_of_ble_eq_true rfl⟩ (Nat.le_of_ble_eq_true rfl)) (fun v75 u75 hp75 => ?_)
              obtain ⟨rfl, rfl⟩ := hp75
              show Xw K G 0 0 _ n V R 78 [(0, .ref (aG G 42)), (1, .int (iI x)), (2, .int (iI y)), (3, .int (iI s)), (4, .int (iI w))] [.int (iI (bI (woodP (V 42 0) (V 42 1) x y s)))]
              refine x_ifeq_b C dX12_cell_78 (tgt := 85) (by decide) (fun h78 => ?_) (fun h78 => ?_)
              · skip
                refine x_iconst C dX12_cell_85 ?_
                refine x_iret C dX12_cell_86 ⟨_, rfl, rfl, ?_⟩
                · refine Or.inr (Or.inr (Or.inl ⟨by omega, by omega, by omega, by omega, by omega, ?_⟩)); first | rw [bI_t h78] | rw [bI_f h78]
              · skip
                refine x_iconst C dX12_cell_81 ?_
                refine x_goto C dX12_cell_82 (tgt := 86) (by decide) ?_
                refine x_iret C dX12_cell_86 ⟨_, rfl, rfl, ?_⟩
                · refine Or.inr (Or.inr (Or.inl ⟨by omega, by omega, by omega, by omega, by omega, ?_⟩)); first | rw [bI_t h78] | rw [bI_f h78]
          · skip
            refine x_bipush C dX12_cell_63 (w := -2) (by decide) ?_
            refine x_iret C dX12_cell_65 ⟨_, rfl, rfl, ?_⟩
            · first | (refine Or.inl ⟨?_, rfl⟩; omega) | (refine Or.inr (Or.inl ⟨?_, rfl⟩); omega)
  · skip
    refine x_bipush C dX12_cell_7 (w := -3) (by decide) ?_
    refine x_iret C dX12_cell_9 ⟨_, rfl, rfl, ?_⟩
    · first | (refine Or.inl ⟨?_, rfl⟩; omega) | (refine Or.inr (Or.inl ⟨?_, rfl⟩); omega)
