
set_option maxRecDepth 100000 in
set_option maxHeartbeats 4000000 in
theorem m_J1_canEncode_9a6ad (G : GS) (n : Nat) (V : Nat → Int → Int) (R : Nat → Int → Option Nat) (c : Int) (gc : Rg c) : Cn G yJ1_canEncode_9a6ad cJ1_canEncode_9a6ad 1 (some .boolean) (rmk 1 0 0 16) [.int (iI c)] n V R 0 0 (fun vv uu => vv = some (.int (iI (bI (0 ≤ c ∧ c ≤ 255)))) ∧ uu = (n, V, R)) := by
  refine Cn.of (by decide) (Nat.le_of_ble_eq_true rfl) (fun K C hct => ?_)
  show Xw K G 0 0 _ n V R 0 [(0, .int (iI c))] []
  refine x_iload_n C 0 dJ1_canEncode_9a6ad_0 rfl rfl ?_
  refine x_if_lt C dJ1_canEncode_9a6ad_1 (tgt := 15) (by decide) (by first | assumption | (constructor <;> omega)) (fun h1 => ?_) (fun h1 => ?_)
  · skip
    refine x_iconst C dJ1_canEncode_9a6ad_15 ?_
    refine x_zret C (Or.inl rfl) dJ1_canEncode_9a6ad_16 ⟨bI_rf (by omega), rfl⟩
  · skip
    refine x_iload_n C 0 dJ1_canEncode_9a6ad_4 rfl rfl ?_
    refine x_sipush C dJ1_canEncode_9a6ad_5 (w := 255) (by decide) ?_
    refine x_icmp_gt C dJ1_canEncode_9a6ad_8 (tgt := 15) (by decide) (by first | assumption | (constructor <;> omega)) (by first | assumption | (constructor <;> omega)) (fun h8 => ?_) (fun h8 => ?_)
    · skip
      refine x_iconst C dJ1_canEncode_9a6ad_15 ?_
      refine x_zret C (Or.inl rfl) dJ1_canEncode_9a6ad_16 ⟨bI_rf (by omega), rfl⟩
    · skip
      refine x_iconst C dJ1_canEncode_9a6ad_11 ?_
      refine x_goto C dJ1_canEncode_9a6ad_12 (tgt := 16) (by decide) ?_
      refine x_zret C (Or.inr rfl) dJ1_canEncode_9a6ad_16 ⟨bI_rt (by omega), rfl⟩
set_option maxRecDepth 100000 in
set_option maxHeartbeats 4000000 in
theorem m_J1_indexOfChar_4cfef (G : GS) (n : Nat) (V : Nat → Int → Int) (R : Nat → Int → Option Nat) (c : Int) (fr : Int) (to : Int) (hc : 0 ≤ c ∧ c ≤ 255) (hfr : fr = 0) (hto : to = 7) : Cn G yJ1_indexOfChar_4cfef cJ1_indexOfChar_4cfef 6 (some .int) (rmk 1 0 0 16) [.ref (yG G 10), .int (iI c), .int (iI fr), .int (iI to)] n V R 0 0 (fun vv uu => vv = some (.int (iI (kbT c))) ∧ uu = (n, V, R)) := by
  refine Cn.of (by decide) (Nat.le_of_ble_eq_true rfl) (fun K C hct => ?_)
  show Xw K G 0 0 _ n V R 0 [(0, .ref (yG G 10)), (1, .int (iI c)), (2, .int (iI fr)), (3, .int (iI to))] []
  refine x_iload_n C 1 dJ1_indexOfChar_4cfef_0 rfl rfl ?_
  refine x_i2b C dJ1_indexOfChar_4cfef_1 ?_
  have hsb := sB_c hc
  refine x_istore C dJ1_indexOfChar_4cfef_2 (by decide) (lv' := [(0, .ref (yG G 10)), (1, .int (iI c)), (2, .int (iI fr)), (3, .int (iI to)), (4, .int (iI (sB c)))]) rfl ?_
  refine x_iload_n C 2 dJ1_indexOfChar_4cfef_4 rfl rfl ?_
  refine x_istore C dJ1_indexOfChar_4cfef_5 (by decide) (lv' := [(0, .ref (yG G 10)), (1, .int (iI c)), (2, .int (iI fr)), (3, .int (iI to)), (4, .int (iI (sB c))), (5, .int (iI fr))]) rfl ?_
  have lp_7 : ∀ (fuel : Nat) (j : Int), (0 ≤ j ∧ j ≤ 7) → (∀ x, 0 ≤ x → x < j → tat tLT x ≠ sB c) → ((8 : Int) - j) < (fuel : Int) → Xw K G 0 0 (EndQ K G 0 0 (fun vv uu => vv = some (.int (iI (kbT c))) ∧ uu = (n, V, R))) n V R 7 [(0, .ref (yG G 10)), (1, .int (iI c)), (2, .int (iI fr)), (3, .int (iI to)), (4, .int (iI (sB c))), (5, .int (iI j))] [] := by
    intro fuel7
    induction fuel7 with
    | zero => intro j hj hN hfu7; exfalso; omega
    | succ fuel7 ih7 =>
      intro j hj hN hfu7
      have htl := tLT_b j
      have hsr : -256 ≤ sB c ∧ sB c ≤ 255 := by (rw [hsb]; split <;> omega)
      refine x_iload C 5 dJ1_indexOfChar_4cfef_7 rfl ?_
      refine x_iload_n C 3 dJ1_indexOfChar_4cfef_9 rfl rfl ?_
      refine x_icmp_ge C dJ1_indexOfChar_4cfef_10 (tgt := 31) (by decide) (by first | assumption | (constructor <;> omega)) (by first | assumption | (constructor <;> omega)) (fun h10 => ?_) (fun h10 => ?_)
      · skip
        refine x_iconst C dJ1_indexOfChar_4cfef_31 ?_
        refine x_iret C dJ1_indexOfChar_4cfef_32 ⟨congrArg (fun z => some (Value.int (iI z))) (by exact kb_n hc (fun x a b => hN x a (by omega))), rfl⟩
      · skip
        refine x_aload_n C 0 dJ1_indexOfChar_4cfef_13 rfl rfl ?_
        refine x_iload C 5 dJ1_indexOfChar_4cfef_14 rfl ?_
        refine x_bald C dJ1_indexOfChar_4cfef_16 (by refine ⟨?_, ?_⟩ <;> omega) ?_
        refine x_iload C 4 dJ1_indexOfChar_4cfef_17 rfl ?_
        refine x_icmp_ne C dJ1_indexOfChar_4cfef_19 (tgt := 25) (by decide) (by first | assumption | (constructor <;> omega)) (by first | assumption | (constructor <;> omega)) (fun h19 => ?_) (fun h19 => ?_)
        · skip
          refine x_iinc C 5 dJ1_indexOfChar_4cfef_25 rfl (by decide) (lv' := [(0, .ref (yG G 10)), (1, .int (iI c)), (2, .int (iI fr)), (3, .int (iI to)), (4, .int (iI (sB c))), (5, .int (iI (j + 1)))]) rfl ?_
          refine x_goto C dJ1_indexOfChar_4cfef_28 (tgt := 7) (by decide) ?_
          exact ih7 ((j + 1)) (by omega) (by exact fun x a b => by (by_cases e : x = j; (rw [e]; assumption); exact hN x a (by omega))) (by omega)
        · skip
          refine x_iload C 5 dJ1_indexOfChar_4cfef_22 rfl ?_
          refine x_iret C dJ1_indexOfChar_4cfef_24 ⟨congrArg (fun z => some (Value.int (iI z))) (by exact kb_y hc (by omega) (by assumption)), rfl⟩
  exact lp_7 (((8 : Int) - fr).toNat + 1) (fr) (by omega) (by exact fun x a b => by omega) (by omega)
set_option maxRecDepth 100000 in
set_option maxHeartbeats 4000000 in
theorem m_J1_indexOf_4cfef (G : GS) (n : Nat) (V : Nat → Int → Int) (R : Nat → Int → Option Nat) (c : Int) (fr : Int) (to : Int) (hc : 0 ≤ c ∧ c ≤ 255) (hfr : fr = 0) (hto : to = 7) : Cn G yJ1_indexOf_4cfef cJ1_indexOf_4cfef 4 (some .int) (rmk 2 0 0 41) [.ref (yG G 10), .int (iI c), .int (iI fr), .int (iI to)] n V R 0 0 (fun vv uu => vv = some (.int (iI (kbT c))) ∧ uu = (n, V, R)) := by
  refine Cn.of (by decide) (Nat.le_of_ble_eq_true rfl) (fun K C hct => ?_)
  show Xw K G 0 0 _ n V R 0 [(0, .ref (yG G 10)), (1, .int (iI c)), (2, .int (iI fr)), (3, .int (iI to))] []
  refine x_iload_n C 1 dJ1_indexOf_4cfef_0 rfl rfl ?_
  refine x_runU (r_callS C (ce_J1_canEncode_9a6ad) (m_J1_canEncode_9a6ad G n V R (c) (by first | assumption | omega | decide)) dJ1_indexOf_4cfef_1 q_10_7 q_10_8 rfl rfl ⟨Nat.le_of_ble_eq_true rfl, Nat.le_of_ble_eq_true rfl⟩ ⟨rfl, rfl⟩ ⟨Nat.le_of_ble_eq_true rfl, Nat.le_of_ble_eq_true rfl⟩ (Nat.le_of_ble_eq_true rfl)) (fun v1 u1 hp1 => ?_)
  obtain ⟨rfl, rfl⟩ := hp1
  show Xw K G 0 0 _ n V R 4 [(0, .ref (yG G 10)), (1, .int (iI c)), (2, .int (iI fr)), (3, .int (iI to))] [.int (iI (bI (0 ≤ c ∧ c ≤ 255)))]
  refine x_ifne_b C dJ1_indexOf_4cfef_4 (tgt := 9) (by decide) (fun h4 => ?_) (fun h4 => ?_)
  · skip
    refine x_iload_n C 2 dJ1_indexOf_4cfef_9 rfl rfl ?_
    refine x_iconst C dJ1_indexOf_4cfef_10 ?_
    refine x_max C dJ1_indexOf_4cfef_11 q_10_3 q_5_21 q_5_22 q_5_23 ⟨Nat.le_of_ble_eq_true rfl, Nat.le_of_ble_eq_true rfl⟩ ⟨Nat.zero_le _, Nat.zero_le _⟩ (by first | assumption | (constructor <;> omega)) (by first | assumption | (constructor <;> omega)) ?_
    refine x_istore_n C dJ1_indexOf_4cfef_14 rfl (by decide) (lv' := [(0, .ref (yG G 10)), (1, .int (iI c)), (2, .int (iI (max fr 0))), (3, .int (iI to))]) rfl ?_
    refine x_iload_n C 3 dJ1_indexOf_4cfef_15 rfl rfl ?_
    refine x_aload_n C 0 dJ1_indexOf_4cfef_16 rfl rfl ?_
    refine x_blen C dJ1_indexOf_4cfef_17 ?_
    refine x_min C dJ1_indexOf_4cfef_18 q_10_4 q_10_5 q_5_22 q_10_6 ⟨Nat.le_of_ble_eq_true rfl, Nat.le_of_ble_eq_true rfl⟩ ⟨Nat.zero_le _, Nat.zero_le _⟩ (by first | assumption | (constructor <;> omega)) (by first | assumption | (constructor <;> omega)) ?_
    refine x_istore_n C dJ1_indexOf_4cfef_21 rfl (by decide) (lv' := [(0, .ref (yG G 10)), (1, .int (iI c)), (2, .int (iI (max fr 0))), (3, .int (iI (min to 7)))]) rfl ?_
    refine x_iload_n C 2 dJ1_indexOf_4cfef_22 rfl rfl ?_
    refine x_iload_n C 3 dJ1_indexOf_4cfef_23 rfl rfl ?_
    refine x_icmp_lt C dJ1_indexOf_4cfef_24 (tgt := 29) (by decide) (by first | assumption | (constructor <;> omega)) (by first | assumption | (constructor <;> omega)) (fun h24 => ?_) (fun h24 => ?_)
    · skip
      refine x_aload_n C 0 dJ1_indexOf_4cfef_29 rfl rfl ?_
      refine x_iload_n C 1 dJ1_indexOf_4cfef_30 rfl rfl ?_
      refine x_iload_n C 2 dJ1_indexOf_4cfef_31 rfl rfl ?_
      refine x_iload_n C 3 dJ1_indexOf_4cfef_32 rfl rfl ?_
      refine x_runU (r_callS C (ce_J1_indexOfChar_4cfef) (m_J1_indexOfChar_4cfef G n V R (c) (max fr 0) (min to 7) (by first | assumption | omega | decide) (by first | assumption | omega | decide) (by first | assumption | omega | decide)) dJ1_indexOf_4cfef_33 q_10_10 q_10_11 rfl rfl ⟨Nat.le_of_ble_eq_true rfl, Nat.le_of_ble_eq_true rfl⟩ ⟨rfl, rfl⟩ ⟨Nat.le_of_ble_eq_true rfl, Nat.le_of_ble_eq_true rfl⟩ (Nat.le_of_ble_eq_true rfl)) (fun v33 u33 hp33 => ?_)
      obtain ⟨rfl, rfl⟩ := hp33
      show Xw K G 0 0 _ n V R 36 [(0, .ref (yG G 10)), (1, .int (iI c)), (2, .int (iI (max fr 0))), (3, .int (iI (min to 7)))] [.int (iI (kbT c))]
      refine x_iret C dJ1_indexOf_4cfef_36 ⟨rfl, rfl⟩
    · skip
      exfalso; omega
  · skip
    exfalso; omega
set_option maxRecDepth 100000 in
set_option maxHeartbeats 4000000 in
theorem m_J0_isLatin1_aae02 (G : GS) (n : Nat) (V : Nat → Int → Int) (R : Nat → Int → Option Nat) : Cn G yJ0_isLatin1_aae02 cJ0_isLatin1_aae02 1 (some .boolean) (rmk 1 0 0 16) [.ref (yG G 9)] n V R 0 0 (fun vv uu => vv = some (.int (iI 1)) ∧ uu = (n, V, R)) := by
  refine Cn.of (by decide) (Nat.le_of_ble_eq_true rfl) (fun K C hct => ?_)
  show Xw K G 0 0 _ n V R 0 [(0, .ref (yG G 9))] []
  refine x_getsZ C dJ0_isLatin1_aae02_0 q_9_13 rfl ?_
  refine x_if_eq C dJ0_isLatin1_aae02_3 (tgt := 17) (by decide) (by first | assumption | (constructor <;> omega)) (fun h3 => (by exfalso; omega)) (fun h3 => ?_)
  refine x_aload_n C 0 dJ0_isLatin1_aae02_6 rfl rfl ?_
  refine x_strc C dJ0_isLatin1_aae02_7 q_9_14 rfl ?_
  refine x_if_ne C dJ0_isLatin1_aae02_10 (tgt := 17) (by decide) (by first | assumption | (constructor <;> omega)) (fun h10 => (by exfalso; omega)) (fun h10 => ?_)
  refine x_iconst C dJ0_isLatin1_aae02_13 ?_
  refine x_goto C dJ0_isLatin1_aae02_14 (tgt := 18) (by decide) ?_
  refine x_zret C (Or.inr rfl) dJ0_isLatin1_aae02_18 ⟨rfl, rfl⟩
set_option maxRecDepth 100000 in
set_option maxHeartbeats 4000000 in
theorem m_J0_coder_7d493 (G : GS) (n : Nat) (V : Nat → Int → Int) (R : Nat → Int → Option Nat) : Cn G yJ0_coder_7d493 cJ0_coder_7d493 1 (some .byte) (rmk 1 0 0 16) [.ref (yG G 9)] n V R 0 0 (fun vv uu => vv = some (.int (iI 0)) ∧ uu = (n, V, R)) := by
  refine Cn.of (by decide) (Nat.le_of_ble_eq_true rfl) (fun K C hct => ?_)
  show Xw K G 0 0 _ n V R 0 [(0, .ref (yG G 9))] []
  refine x_getsZ C dJ0_coder_7d493_0 q_9_13 rfl ?_
  refine x_if_eq C dJ0_coder_7d493_3 (tgt := 13) (by decide) (by first | assumption | (constructor <;> omega)) (fun h3 => (by exfalso; omega)) (fun h3 => ?_)
  refine x_aload_n C 0 dJ0_coder_7d493_6 rfl rfl ?_
  refine x_strc C dJ0_coder_7d493_7 q_9_14 rfl ?_
  refine x_goto C dJ0_coder_7d493_10 (tgt := 14) (by decide) ?_
  refine x_bret C (Or.inl rfl) dJ0_coder_7d493_14 ⟨rfl, rfl⟩
set_option maxRecDepth 100000 in
set_option maxHeartbeats 4000000 in
theorem m_J0_length_8abf5 (G : GS) (n : Nat) (V : Nat → Int → Int) (R : Nat → Int → Option Nat) : Cn G yJ0_length_8abf5 cJ0_length_8abf5 1 (some .int) (rmk 2 0 0 36) [.ref (yG G 9)] n V R 0 0 (fun vv uu => vv = some (.int (iI 7)) ∧ uu = (n, V, R)) := by
  refine Cn.of (by decide) (Nat.le_of_ble_eq_true rfl) (fun K C hct => ?_)
  show Xw K G 0 0 _ n V R 0 [(0, .ref (yG G 9))] []
  refine x_aload_n C 0 dJ0_length_8abf5_0 rfl rfl ?_
  refine x_strv C dJ0_length_8abf5_1 q_9_8 rfl ?_
  refine x_blen C dJ0_length_8abf5_4 ?_
  refine x_aload_n C 0 dJ0_length_8abf5_5 rfl rfl ?_
  refine x_runU (r_callT C (ce_J0_coder_7d493) (m_J0_coder_7d493 G n V R ) rfl dJ0_length_8abf5_6 q_9_19 q_9_20 q_9_21 rfl rfl ⟨Nat.le_of_ble_eq_true rfl, Nat.le_of_ble_eq_true rfl⟩ ⟨rfl, rfl⟩ ⟨Nat.le_of_ble_eq_true rfl, Nat.le_of_ble_eq_true rfl⟩ (Nat.le_of_ble_eq_true rfl)) (fun v6 u6 hp6 => ?_)
  obtain ⟨rfl, rfl⟩ := hp6
  show Xw K G 0 0 _ n V R 9 [(0, .ref (yG G 9))] [.int (iI 0), .int (iI 7)]
  refine x_ishr C dJ0_length_8abf5_9 ?_
  refine x_top (b := 7) (by decide) ?_
  refine x_iret C dJ0_length_8abf5_10 ⟨rfl, rfl⟩
set_option maxRecDepth 100000 in
set_option maxHeartbeats 4000000 in
theorem m_J0_indexOf_7cf53 (G : GS) (n : Nat) (V : Nat → Int → Int) (R : Nat → Int → Option Nat) (c : Int) (fr : Int) (hc : 0 ≤ c ∧ c ≤ 255) (hfr : fr = 0) : Cn G yJ0_indexOf_7cf53 cJ0_indexOf_7cf53 3 (some .int) (rmk 3 0 0 64) [.ref (yG G 9), .int (iI c), .int (iI fr)] n V R 0 0 (fun vv uu => vv = some (.int (iI (kbT c))) ∧ uu = (n, V, R)) := by
  refine Cn.of (by decide) (Nat.le_of_ble_eq_true rfl) (fun K C hct => ?_)
  show Xw K G 0 0 _ n V R 0 [(0, .ref (yG G 9)), (1, .int (iI c)), (2, .int (iI fr))] []
  refine x_aload_n C 0 dJ0_indexOf_7cf53_0 rfl rfl ?_
  refine x_runU (r_callT C (ce_J0_isLatin1_aae02) (m_J0_isLatin1_aae02 G n V R ) rfl dJ0_indexOf_7cf53_1 q_9_9 q_9_10 q_9_11 rfl rfl ⟨Nat.le_of_ble_eq_true rfl, Nat.le_of_ble_eq_true rfl⟩ ⟨rfl, rfl⟩ ⟨Nat.le_of_ble_eq_true rfl, Nat.le_of_ble_eq_true rfl⟩ (Nat.le_of_ble_eq_true rfl)) (fun v1 u1 hp1 => ?_)
  obtain ⟨rfl, rfl⟩ := hp1
  show Xw K G 0 0 _ n V R 4 [(0, .ref (yG G 9)), (1, .int (iI c)), (2, .int (iI fr))] [.int (iI 1)]
  refine x_if_eq C dJ0_indexOf_7cf53_4 (tgt := 23) (by decide) (by first | assumption | (constructor <;> omega)) (fun h4 => (by exfalso; omega)) (fun h4 => ?_)
  refine x_aload_n C 0 dJ0_indexOf_7cf53_7 rfl rfl ?_
  refine x_strv C dJ0_indexOf_7cf53_8 q_9_8 rfl ?_
  refine x_iload_n C 1 dJ0_indexOf_7cf53_11 rfl rfl ?_
  refine x_iload_n C 2 dJ0_indexOf_7cf53_12 rfl rfl ?_
  refine x_aload_n C 0 dJ0_indexOf_7cf53_13 rfl rfl ?_
  refine x_runU (r_callT C (ce_J0_length_8abf5) (m_J0_length_8abf5 G n V R ) rfl dJ0_indexOf_7cf53_14 q_9_15 q_9_16 q_9_17 rfl rfl ⟨Nat.le_of_ble_eq_true rfl, Nat.le_of_ble_eq_true rfl⟩ ⟨rfl, rfl⟩ ⟨Nat.le_of_ble_eq_true rfl, Nat.le_of_ble_eq_true rfl⟩ (Nat.le_of_ble_eq_true rfl)) (fun v14 u14 hp14 => ?_)
  obtain ⟨rfl, rfl⟩ := hp14
  show Xw K G 0 0 _ n V R 17 [(0, .ref (yG G 9)), (1, .int (iI c)), (2, .int (iI fr))] [.int (iI 7), .int (iI fr), .int (iI c), .ref (yG G 10)]
  refine x_runU (r_callS C (ce_J1_indexOf_4cfef) (m_J1_indexOf_4cfef G n V R (c) (fr) (7) (by first | assumption | omega | decide) (by first | assumption | omega | decide) (by first | assumption | omega | decide)) dJ0_indexOf_7cf53_17 q_9_23 q_10_0 rfl rfl ⟨Nat.le_of_ble_eq_true rfl, Nat.le_of_ble_eq_true rfl⟩ ⟨rfl, rfl⟩ ⟨Nat.le_of_ble_eq_true rfl, Nat.le_of_ble_eq_true rfl⟩ (Nat.le_of_ble_eq_true rfl)) (fun v17 u17 hp17 => ?_)
  obtain ⟨rfl, rfl⟩ := hp17
  show Xw K G 0 0 _ n V R 20 [(0, .ref (yG G 9)), (1, .int (iI c)), (2, .int (iI fr))] [.int (iI (kbT c))]
  refine x_goto C dJ0_indexOf_7cf53_20 (tgt := 36) (by decide) ?_
  refine x_iret C dJ0_indexOf_7cf53_36 ⟨rfl, rfl⟩
set_option maxRecDepth 100000 in
set_option maxHeartbeats 4000000 in
theorem m_J0_indexOf_0f7a4 (G : GS) (n : Nat) (V : Nat → Int → Int) (R : Nat → Int → Option Nat) (c : Int) (hc : 0 ≤ c ∧ c ≤ 255) : Cn G yJ0_indexOf_0f7a4 cJ0_indexOf_0f7a4 2 (some .int) (rmk 4 0 0 86) [.ref (yG G 9), .int (iI c)] n V R 0 0 (fun vv uu => vv = some (.int (iI (kbT c))) ∧ uu = (n, V, R)) := by
  refine Cn.of (by decide) (Nat.le_of_ble_eq_true rfl) (fun K C hct => ?_)
  show Xw K G 0 0 _ n V R 0 [(0, .ref (yG G 9)), (1, .int (iI c))] []
  refine x_aload_n C 0 dJ0_indexOf_0f7a4_0 rfl rfl ?_
  refine x_iload_n C 1 dJ0_indexOf_0f7a4_1 rfl rfl ?_
  refine x_iconst C dJ0_indexOf_0f7a4_2 ?_
  refine x_runU (r_callT C (ce_J0_indexOf_7cf53) (m_J0_indexOf_7cf53 G n V R (c) (0) (by first | assumption | omega | decide) (by first | assumption | omega | decide)) rfl dJ0_indexOf_0f7a4_3 q_9_4 q_9_5 q_9_6 rfl rfl ⟨Nat.le_of_ble_eq_true rfl, Nat.le_of_ble_eq_true rfl⟩ ⟨rfl, rfl⟩ ⟨Nat.le_of_ble_eq_true rfl, Nat.le_of_ble_eq_true rfl⟩ (Nat.le_of_ble_eq_true rfl)) (fun v3 u3 hp3 => ?_)
  obtain ⟨rfl, rfl⟩ := hp3
  show Xw K G 0 0 _ n V R 6 [(0, .ref (yG G 9)), (1, .int (iI c))] [.int (iI (kbT c))]
  refine x_iret C dJ0_indexOf_0f7a4_6 ⟨rfl, rfl⟩
set_option maxRecDepth 100000 in
set_option maxHeartbeats 4000000 in
theorem m_X11_kindOf (G : GS) (n : Nat) (V : Nat → Int → Int) (R : Nat → Int → Option Nat) (v : Int) (hv : 0 ≤ v ∧ v ≤ 255) : Cn G yX11_kindOf cX11_kindOf 1 (some .int) (rmk 5 0 0 107) [.int (iI v)] n V R 0 0 (fun vv uu => vv = some (.int (iI (kbT v))) ∧ uu = (n, V, R)) := by
  refine Cn.of (by decide) (Nat.le_of_ble_eq_true rfl) (fun K C hct => ?_)
  show Xw K G 0 0 _ n V R 0 [(0, .int (iI v))] []
  refine x_ldcS C rfl dX11_kindOf_0 ?_
  refine x_iload_n C 0 dX11_kindOf_2 rfl rfl ?_
  refine x_i2c C dX11_kindOf_3 (by omega) ?_
  refine x_runU (r_callT C (ce_J0_indexOf_0f7a4) (m_J0_indexOf_0f7a4 G n V R (v) (by first | assumption | omega | decide)) rfl dX11_kindOf_4 q_8_23 q_9_0 q_9_1 rfl rfl ⟨Nat.le_of_ble_eq_true rfl, Nat.le_of_ble_eq_true rfl⟩ ⟨rfl, rfl⟩ ⟨Nat.le_of_ble_eq_true rfl, Nat.le_of_ble_eq_true rfl⟩ (Nat.le_of_ble_eq_true rfl)) (fun v4 u4 hp4 => ?_)
  obtain ⟨rfl, rfl⟩ := hp4
  show Xw K G 0 0 _ n V R 7 [(0, .int (iI v))] [.int (iI (kbT v))]
  refine x_iret C dX11_kindOf_7 ⟨rfl, rfl⟩
set_option maxRecDepth 100000 in
set_option maxHeartbeats 4000000 in
theorem m_X11_isBlank (G : GS) (n : Nat) (V : Nat → Int → Int) (R : Nat → Int → Option Nat) (v : Int) (hv : 0 ≤ v ∧ v ≤ 255) : Cn G yX11_isBlank cX11_isBlank 1 (some .boolean) (rmk 1 0 0 16) [.int (iI v)] n V R 0 0 (fun vv uu => vv = some (.int (iI (bI (v = 32 ∨ v = 10)))) ∧ uu = (n, V, R)) := by
  refine Cn.of (by decide) (Nat.le_of_ble_eq_true rfl) (fun K C hct => ?_)
  show Xw K G 0 0 _ n V R 0 [(0, .int (iI v))] []
  refine x_iload_n C 0 dX11_isBlank_0 rfl rfl ?_
  refine x_bipush C dX11_isBlank_1 (w := 32) (by decide) ?_
  refine x_icmp_eq C dX11_isBlank_3 (tgt := 12) (by decide) (by first | assumption | (constructor <;> omega)) (by first | assumption | (constructor <;> omega)) (fun h3 => ?_) (fun h3 => ?_)
  · skip
    refine x_iconst C dX11_isBlank_12 ?_
    refine x_goto C dX11_isBlank_13 (tgt := 17) (by decide) ?_
    refine x_zret C (Or.inr rfl) dX11_isBlank_17 ⟨bI_rt (by omega), rfl⟩
  · skip
    refine x_iload_n C 0 dX11_isBlank_6 rfl rfl ?_
    refine x_bipush C dX11_isBlank_7 (w := 10) (by decide) ?_
    refine x_icmp_ne C dX11_isBlank_9 (tgt := 16) (by decide) (by first | assumption | (constructor <;> omega)) (by first | assumption | (constructor <;> omega)) (fun h9 => ?_) (fun h9 => ?_)
    · skip
      refine x_iconst C dX11_isBlank_16 ?_
      refine x_zret C (Or.inl rfl) dX11_isBlank_17 ⟨bI_rf (by omega), rfl⟩
    · skip
      refine x_iconst C dX11_isBlank_12 ?_
      refine x_goto C dX11_isBlank_13 (tgt := 17) (by decide) ?_
      refine x_zret C (Or.inr rfl) dX11_isBlank_17 ⟨bI_rt (by omega), rfl⟩
set_option maxRecDepth 100000 in
set_option maxHeartbeats 4000000 in
theorem m_X11_canBePart (G : GS) (n : Nat) (V : Nat → Int → Int) (R : Nat → Int → Option Nat) (v : Int) (q : Int) (hv : 0 ≤ v ∧ v ≤ 255) (hq : 0 ≤ q ∧ q ≤ 3) : Cn G yX11_canBePart cX11_canBePart 2 (some .boolean) (rmk 6 0 0 127) [.int (iI v), .int (iI q)] n V R 0 0 (fun vv uu => vv = some (.int (iI (bI (canP v q)))) ∧ uu = (n, V, R)) := by
  have hkb := kbT_b (v := v)
  refine Cn.of (by decide) (Nat.le_of_ble_eq_true rfl) (fun K C hct => ?_)
  show Xw K G 0 0 _ n V R 0 [(0, .int (iI v)), (1, .int (iI q))] []
  refine x_iload_n C 1 dX11_canBePart_0 rfl rfl ?_
  refine x_if_ne C dX11_canBePart_1 (tgt := 17) (by decide) (by first | assumption | (constructor <;> omega)) (fun h1 => ?_) (fun h1 => ?_)
  · skip
    refine x_iload_n C 1 dX11_canBePart_17 rfl rfl ?_
    refine x_iconst C dX11_canBePart_18 ?_
    refine x_icmp_ne C dX11_canBePart_19 (tgt := 33) (by decide) (by first | assumption | (constructor <;> omega)) (by first | assumption | (constructor <;> omega)) (fun h19 => ?_) (fun h19 => ?_)
    · skip
      refine x_iload_n C 0 dX11_canBePart_33 rfl rfl ?_
      refine x_bipush C dX11_canBePart_34 (w := 48) (by decide) ?_
      refine x_bipush C dX11_canBePart_36 (w := 55) (by decide) ?_
      refine x_runU (r_callS C (ce_X11_within) (m_X11_within G n V R (v) (48) (55) (by first | assumption | omega | decide) (by first | assumption | omega | decide) (by first | assumption | omega | decide)) dX11_canBePart_38 q_5_4 q_5_5 rfl rfl ⟨Nat.le_of_ble_eq_true rfl, Nat.le_of_ble_eq_true rfl⟩ ⟨rfl, rfl⟩ ⟨Nat.le_of_ble_eq_true rfl, Nat.le_of_ble_eq_true rfl⟩ (Nat.le_of_ble_eq_true rfl)) (fun v38 u38 hp38 => ?_)
      obtain ⟨rfl, rfl⟩ := hp38
      show Xw K G 0 0 _ n V R 41 [(0, .int (iI v)), (1, .int (iI q))] [.int (iI (bI (48 ≤ v ∧ v ≤ 55)))]
      refine x_zret C (bI_01 _) dX11_canBePart_41 ⟨bI_rc (by unfold canP; omega), rfl⟩
    · skip
      refine x_iload_n C 0 dX11_canBePart_22 rfl rfl ?_
      refine x_bipush C dX11_canBePart_23 (w := 49) (by decide) ?_
      refine x_bipush C dX11_canBePart_25 (w := 52) (by decide) ?_
      refine x_runU (r_callS C (ce_X11_within) (m_X11_within G n V R (v) (49) (52) (by first | assumption | omega | decide) (by first | assumption | omega | decide) (by first | assumption | omega | decide)) dX11_canBePart_27 q_5_4 q_5_5 rfl rfl ⟨Nat.le_of_ble_eq_true rfl, Nat.le_of_ble_eq_true rfl⟩ ⟨rfl, rfl⟩ ⟨Nat.le_of_ble_eq_true rfl, Nat.le_of_ble_eq_true rfl⟩ (Nat.le_of_ble_eq_true rfl)) (fun v27 u27 hp27 => ?_)
      obtain ⟨rfl, rfl⟩ := hp27
      show Xw K G 0 0 _ n V R 30 [(0, .int (iI v)), (1, .int (iI q))] [.int (iI (bI (49 ≤ v ∧ v ≤ 52)))]
      refine x_goto C dX11_canBePart_30 (tgt := 41) (by decide) ?_
      refine x_zret C (bI_01 _) dX11_canBePart_41 ⟨bI_rc (by unfold canP; omega), rfl⟩
  · skip
    refine x_iload_n C 0 dX11_canBePart_4 rfl rfl ?_
    refine x_runU (r_callS C (ce_X11_kindOf) (m_X11_kindOf G n V R (v) (by first | assumption | omega | decide)) dX11_canBePart_5 q_8_20 q_8_21 rfl rfl ⟨Nat.le_of_ble_eq_true rfl, Nat.le_of_ble_eq_true rfl⟩ ⟨rfl, rfl⟩ ⟨Nat.le_of_ble_eq_true rfl, Nat.le_of_ble_eq_true rfl⟩ (Nat.le_of_ble_eq_true rfl)) (fun v5 u5 hp5 => ?_)
    obtain ⟨rfl, rfl⟩ := hp5
    show Xw K G 0 0 _ n V R 8 [(0, .int (iI v)), (1, .int (iI q))] [.int (iI (kbT v))]
    refine x_if_lt C dX11_canBePart_8 (tgt := 15) (by decide) (by first | assumption | (constructor <;> omega)) (fun h8 => ?_) (fun h8 => ?_)
    · skip
      refine x_iconst C dX11_canBePart_15 ?_
      refine x_zret C (Or.inl rfl) dX11_canBePart_16 ⟨bI_rf (by unfold canP; omega), rfl⟩
    · skip
      refine x_iconst C dX11_canBePart_11 ?_
      refine x_goto C dX11_canBePart_12 (tgt := 16) (by decide) ?_
      refine x_zret C (Or.inr rfl) dX11_canBePart_16 ⟨bI_rt (by unfold canP; omega), rfl⟩
