
set_option maxRecDepth 100000 in
set_option maxHeartbeats 4000000 in
theorem m_X11_woodOfLog (G : GS) (n : Nat) (V : Nat → Int → Int) (R : Nat → Int → Option Nat) (hn : 67 ≤ n) (hLR : LR R) (hr : 0 ≤ V 1 0 ∧ V 1 0 ≤ 6) (hta : 0 ≤ V 1 1 ∧ V 1 1 ≤ 4) (hL : 0 ≤ V 1 2 ∧ V 1 2 ≤ 8) : Cn G yX11_woodOfLog cX11_woodOfLog 4 (some .int) (rmk 3 0 0 62) [.ref (aG G 0)] n V R 0 0 (fun vv uu => vv = some (.int (iI (nWood (V 1 0) (V 1 1) (V 1 2)))) ∧ uu = (n, V, R)) := by
  refine Cn.of (by decide) (Nat.le_of_ble_eq_true rfl) (fun K C hct => ?_)
  show Xw K G 0 0 _ n V R 0 [(0, .ref (aG G 0))] []
  refine x_iconst C dX11_woodOfLog_0 ?_
  refine x_istore_n C dX11_woodOfLog_1 rfl (by decide) (lv' := [(0, .ref (aG G 0)), (1, .int (iI 0))]) rfl ?_
  refine x_iconst C dX11_woodOfLog_2 ?_
  refine x_istore_n C dX11_woodOfLog_3 rfl (by decide) (lv' := [(0, .ref (aG G 0)), (1, .int (iI 0)), (2, .int (iI 0))]) rfl ?_
  have lp_4 : ∀ (fuel : Nat) (s : Int) (w : Int), (0 ≤ s ∧ s ≤ V 1 2) → (w = sm (gW (V 1 0) (V 1 1)) (144 * s)) → ((9 : Int) - s) < (fuel : Int) → Xw K G 0 0 (EndQ K G 0 0 (fun vv uu => vv = some (.int (iI (nWood (V 1 0) (V 1 1) (V 1 2)))) ∧ uu = (n, V, R))) n V R 4 [(0, .ref (aG G 0)), (1, .int (iI w)), (2, .int (iI s))] [] := by
    intro fuel4
    induction fuel4 with
    | zero => intro s w hs2 hw hfu4; exfalso; omega
    | succ fuel4 ih4 =>
      intro s w hs2 hw hfu4
      have hwb := sm_b (f := (gW (V 1 0) (V 1 1))) (A := 1) (z := 144 * s) (by omega) (fun i _ _ => bI_b _)
      refine x_iload_n C 2 dX11_woodOfLog_4 rfl rfl ?_
      refine x_aload_n C 0 dX11_woodOfLog_5 rfl rfl ?_
      refine x_getr C ok_Class 0 0 (d := 1) dX11_woodOfLog_6 (lt67 hn rfl) rfl (by decide) rfl q_0_16 rfl (kz := 0) rfl (lr_0_0 hLR) ?_
      refine x_geti C ok_Yard 1 2 dX11_woodOfLog_9 (lt67 hn rfl) rfl (by decide) rfl q_5_15 rfl (kz := 2) rfl (fun rg9 => ?_)
      refine x_icmp_ge C dX11_woodOfLog_12 (tgt := 58) (by decide) (by first | assumption | (constructor <;> omega)) (by first | assumption | (constructor <;> omega)) (fun h12 => ?_) (fun h12 => ?_)
      · skip
        refine x_iload_n C 1 dX11_woodOfLog_58 rfl rfl ?_
        refine x_iret C dX11_woodOfLog_59 ⟨congrArg (fun z => some (Value.int (iI z))) (by rw [hw, show s = V 1 2 by omega]; rfl), rfl⟩
      · skip
        refine x_iconst C dX11_woodOfLog_15 ?_
        refine x_istore_n C dX11_woodOfLog_16 rfl (by decide) (lv' := [(0, .ref (aG G 0)), (1, .int (iI w)), (2, .int (iI s)), (3, .int (iI 0))]) rfl ?_
        have lp_17 : ∀ (fuel : Nat) (q : Int) (w2 : Int), (0 ≤ q ∧ q ≤ 144) → (w2 = sm (gW (V 1 0) (V 1 1)) (144 * s + q)) → ((145 : Int) - q) < (fuel : Int) → Xw K G 0 0 (EndQ K G 0 0 (fun vv uu => vv = some (.int (iI (nWood (V 1 0) (V 1 1) (V 1 2)))) ∧ uu = (n, V, R))) n V R 17 [(0, .ref (aG G 0)), (1, .int (iI w2)), (2, .int (iI s)), (3, .int (iI q))] [] := by
          intro fuel17
          induction fuel17 with
          | zero => intro q w2 hq hw2 hfu17; exfalso; omega
          | succ fuel17 ih17 =>
            intro q w2 hq hw2 hfu17
            have hwb2 := sm_b (f := (gW (V 1 0) (V 1 1))) (A := 1) (z := 144 * s + q) (by omega) (fun i _ _ => bI_b _)
            refine x_iload_n C 3 dX11_woodOfLog_17 rfl rfl ?_
            refine x_sipush C dX11_woodOfLog_18 (w := 144) (by decide) ?_
            refine x_icmp_ge C dX11_woodOfLog_21 (tgt := 52) (by decide) (by first | assumption | (constructor <;> omega)) (by first | assumption | (constructor <;> omega)) (fun h21 => ?_) (fun h21 => ?_)
            · skip
              refine x_iinc C 2 dX11_woodOfLog_52 rfl (by decide) (lv' := [(0, .ref (aG G 0)), (1, .int (iI w2)), (2, .int (iI (s + 1))), (3, .int (iI q))]) rfl ?_
              refine x_goto C dX11_woodOfLog_55 (tgt := 4) (by decide) ?_
              refine x_sub [0, 1, 2] (lv' := [(0, .ref (aG G 0)), (1, .int (iI w2)), (2, .int (iI (s + 1)))]) rfl ?_
              exact ih4 ((s + 1)) (w2) (by omega) (by rw [hw2]; congr 1; omega) (by omega)
            · skip
              have d1 := gW_s (r := V 1 0) (t := V 1 1) (s := s) hq.1 (by omega) (by omega)
              refine x_aload_n C 0 dX11_woodOfLog_24 rfl rfl ?_
              refine x_getr C ok_Class 0 0 (d := 1) dX11_woodOfLog_25 (lt67 hn rfl) rfl (by decide) rfl q_0_16 rfl (kz := 0) rfl (lr_0_0 hLR) ?_
              refine x_iload_n C 3 dX11_woodOfLog_28 rfl rfl ?_
              refine x_bipush C dX11_woodOfLog_29 (w := 12) (by decide) ?_
              refine x_irem C dX11_woodOfLog_31 (by first | assumption | (constructor <;> omega)) (by first | assumption | (constructor <;> omega)) (by omega) (by omega) ?_
              refine x_iload_n C 3 dX11_woodOfLog_32 rfl rfl ?_
              refine x_bipush C dX11_woodOfLog_33 (w := 12) (by decide) ?_
              refine x_idiv C dX11_woodOfLog_35 (by first | assumption | (constructor <;> omega)) (by first | assumption | (constructor <;> omega)) (by omega) (by omega) ?_
              refine x_iload_n C 2 dX11_woodOfLog_36 rfl rfl ?_
              refine x_runU (r_callV C ok_Yard 1 (lt67 hn rfl) rfl (ce_X10_isWood) (m_X10_isWood G n V R (1) (q % 12) (q / 12) (s) hn hLR (by first | assumption | omega | decide) (by first | assumption | omega | decide) (by first | assumption | omega | decide) (by first | assumption | omega | decide) (by exact hr) (by exact hta)) rfl dX11_woodOfLog_37 q_5_16 q_5_17 q_5_18 rfl rfl ⟨Nat.le_of_ble_eq_true rfl, Nat.le_of_ble_eq_true rfl⟩ ⟨rfl, rfl⟩ ⟨Nat.le_of_ble_eq_true rfl, Nat.le_of_ble_eq_true rfl⟩ (Nat.le_of_ble_eq_true rfl)) (fun v37 u37 hp37 => ?_)
              obtain ⟨rfl, rfl⟩ := hp37
              show Xw K G 0 0 _ n V R 40 [(0, .ref (aG G 0)), (1, .int (iI w2)), (2, .int (iI s)), (3, .int (iI q))] [.int (iI (bI (woodP (V 1 0) (V 1 1) (q % 12) (q / 12) s)))]
              refine x_ifeq_b C dX11_woodOfLog_40 (tgt := 46) (by decide) (fun h40 => ?_) (fun h40 => ?_)
              · skip
                refine x_iinc C 3 dX11_woodOfLog_46 rfl (by decide) (lv' := [(0, .ref (aG G 0)), (1, .int (iI w2)), (2, .int (iI s)), (3, .int (iI (q + 1)))]) rfl ?_
                refine x_goto C dX11_woodOfLog_49 (tgt := 17) (by decide) ?_
                exact ih17 ((q + 1)) (w2) (by omega) (by rw [d1, ← hw2]; first | (rw [bI_t (by assumption)]) | (rw [bI_f (by assumption)]; omega)) (by omega)
              · skip
                refine x_iinc C 1 dX11_woodOfLog_43 rfl (by decide) (lv' := [(0, .ref (aG G 0)), (1, .int (iI (w2 + 1))), (2, .int (iI s)), (3, .int (iI q))]) rfl ?_
                refine x_iinc C 3 dX11_woodOfLog_46 rfl (by decide) (lv' := [(0, .ref (aG G 0)), (1, .int (iI (w2 + 1))), (2, .int (iI s)), (3, .int (iI (q + 1)))]) rfl ?_
                refine x_goto C dX11_woodOfLog_49 (tgt := 17) (by decide) ?_
                exact ih17 ((q + 1)) ((w2 + 1)) (by omega) (by rw [d1, ← hw2]; first | (rw [bI_t (by assumption)]) | (rw [bI_f (by assumption)]; omega)) (by omega)
        exact lp_17 (((145 : Int) - 0).toNat + 1) (0) (w) (by omega) (by rw [hw]; congr 1; omega) (by omega)
  exact lp_4 (((9 : Int) - 0).toNat + 1) (0) (0) (by omega) (by rfl) (by omega)
set_option maxRecDepth 100000 in
set_option maxHeartbeats 4000000 in
theorem m_X11_log (G : GS) (n : Nat) (V : Nat → Int → Int) (R : Nat → Int → Option Nat) (a : Int) (b : Int) (c : Int) (hn : 67 ≤ n) (hLR : LR R) (ga : Rg a) (gb : Rg b) (gc : Rg c) : Cn G yX11_log cX11_log 4 (some .int) (rmk 4 0 0 85) [.ref (aG G 0), .int (iI a), .int (iI b), .int (iI c)] n V R 0 0 (fun vv uu => ∃ (r : Int), ∃ (V1 : Nat → Int → Int), ∃ (R1 : Nat → Int → Option Nat), vv = some (.int (iI r)) ∧ uu = (n, V1, R1) ∧ ((¬ ((2 ≤ a ∧ a ≤ 6) ∧ (0 ≤ b ∧ b ≤ 4) ∧ (1 ≤ c ∧ c ≤ 8)) ∧ r = -2 ∧ V1 = V ∧ R1 = R) ∨ (((2 ≤ a ∧ a ≤ 6) ∧ (0 ≤ b ∧ b ≤ 4) ∧ (1 ≤ c ∧ c ≤ 8)) ∧ r = nWood a b c ∧ V1 = u2 (u2 (u2 (u2 (u2 (u2 V 1 0 a) 1 1 b) 1 2 c) 1 3 0) 1 5 0) 11 0 0 ∧ (∀ q, q ≠ 2 → R1 q = R q) ∧ ∀ z, 0 ≤ z → z < 8 → R1 2 z = none))) := by
  refine Cn.of (by decide) (Nat.le_of_ble_eq_true rfl) (fun K C hct => ?_)
  show Xw K G 0 0 _ n V R 0 [(0, .ref (aG G 0)), (1, .int (iI a)), (2, .int (iI b)), (3, .int (iI c))] []
  refine x_iload_n C 1 dX11_log_0 rfl rfl ?_
  refine x_iconst C dX11_log_1 ?_
  refine x_bipush C dX11_log_2 (w := 6) (by decide) ?_
  refine x_runU (r_callS C (ce_X11_within) (m_X11_within G n V R (a) (2) (6) (by first | assumption | omega | decide) (by first | assumption | omega | decide) (by first | assumption | omega | decide)) dX11_log_4 q_5_4 q_5_5 rfl rfl ⟨Nat.le_of_ble_eq_true rfl, Nat.le_of_ble_eq_true rfl⟩ ⟨rfl, rfl⟩ ⟨Nat.le_of_ble_eq_true rfl, Nat.le_of_ble_eq_true rfl⟩ (Nat.le_of_ble_eq_true rfl)) (fun v4 u4 hp4 => ?_)
  obtain ⟨rfl, rfl⟩ := hp4
  show Xw K G 0 0 _ n V R 7 [(0, .ref (aG G 0)), (1, .int (iI a)), (2, .int (iI b)), (3, .int (iI c))] [.int (iI (bI (2 ≤ a ∧ a ≤ 6)))]
  refine x_ifeq_b C dX11_log_7 (tgt := 29) (by decide) (fun h7 => ?_) (fun h7 => ?_)
  · skip
    refine x_bipush C dX11_log_29 (w := -2) (by decide) ?_
    refine x_iret C dX11_log_31 ⟨_, _, _, rfl, rfl, ?_⟩
    · first | exact Or.inl ⟨by omega, rfl, rfl, rfl⟩ | exact Or.inr ⟨by omega, rfl, rfl, hq39_0, hq39_1⟩
  · skip
    refine x_iload_n C 2 dX11_log_10 rfl rfl ?_
    refine x_iconst C dX11_log_11 ?_
    refine x_iconst C dX11_log_12 ?_
    refine x_runU (r_callS C (ce_X11_within) (m_X11_within G n V R (b) (0) (4) (by first | assumption | omega | decide) (by first | assumption | omega | decide) (by first | assumption | omega | decide)) dX11_log_13 q_5_4 q_5_5 rfl rfl ⟨Nat.le_of_ble_eq_true rfl, Nat.le_of_ble_eq_true rfl⟩ ⟨rfl, rfl⟩ ⟨Nat.le_of_ble_eq_true rfl, Nat.le_of_ble_eq_true rfl⟩ (Nat.le_of_ble_eq_true rfl)) (fun v13 u13 hp13 => ?_)
    obtain ⟨rfl, rfl⟩ := hp13
    show Xw K G 0 0 _ n V R 16 [(0, .ref (aG G 0)), (1, .int (iI a)), (2, .int (iI b)), (3, .int (iI c))] [.int (iI (bI (0 ≤ b ∧ b ≤ 4)))]
    refine x_ifeq_b C dX11_log_16 (tgt := 29) (by decide) (fun h16 => ?_) (fun h16 => ?_)
    · skip
      refine x_bipush C dX11_log_29 (w := -2) (by decide) ?_
      refine x_iret C dX11_log_31 ⟨_, _, _, rfl, rfl, ?_⟩
      · first | exact Or.inl ⟨by omega, rfl, rfl, rfl⟩ | exact Or.inr ⟨by omega, rfl, rfl, hq39_0, hq39_1⟩
    · skip
      refine x_iload_n C 3 dX11_log_19 rfl rfl ?_
      refine x_iconst C dX11_log_20 ?_
      refine x_bipush C dX11_log_21 (w := 8) (by decide) ?_
      refine x_runU (r_callS C (ce_X11_within) (m_X11_within G n V R (c) (1) (8) (by first | assumption | omega | decide) (by first | assumption | omega | decide) (by first | assumption | omega | decide)) dX11_log_23 q_5_4 q_5_5 rfl rfl ⟨Nat.le_of_ble_eq_true rfl, Nat.le_of_ble_eq_true rfl⟩ ⟨rfl, rfl⟩ ⟨Nat.le_of_ble_eq_true rfl, Nat.le_of_ble_eq_true rfl⟩ (Nat.le_of_ble_eq_true rfl)) (fun v23 u23 hp23 => ?_)
      obtain ⟨rfl, rfl⟩ := hp23
      show Xw K G 0 0 _ n V R 26 [(0, .ref (aG G 0)), (1, .int (iI a)), (2, .int (iI b)), (3, .int (iI c))] [.int (iI (bI (1 ≤ c ∧ c ≤ 8)))]
      refine x_ifne_b C dX11_log_26 (tgt := 32) (by decide) (fun h26 => ?_) (fun h26 => ?_)
      · skip
        refine x_aload_n C 0 dX11_log_32 rfl rfl ?_
        refine x_getr C ok_Class 0 0 (d := 1) dX11_log_33 (lt67 hn rfl) rfl (by decide) rfl q_0_16 rfl (kz := 0) rfl (lr_0_0 hLR) ?_
        refine x_iload_n C 1 dX11_log_36 rfl rfl ?_
        refine x_iload_n C 2 dX11_log_37 rfl rfl ?_
        refine x_iload_n C 3 dX11_log_38 rfl rfl ?_
        refine x_runU (r_callV C ok_Yard 1 (lt67 hn rfl) rfl (ce_X10_lay) (m_X10_lay G n V R (1) (a) (b) (c) hn hLR (by first | assumption | omega | decide) (by first | assumption | omega | decide) (by first | assumption | omega | decide) (by first | assumption | omega | decide)) rfl dX11_log_39 q_5_7 q_5_8 q_5_9 rfl rfl ⟨Nat.le_of_ble_eq_true rfl, Nat.le_of_ble_eq_true rfl⟩ ⟨rfl, rfl⟩ ⟨Nat.le_of_ble_eq_true rfl, Nat.le_of_ble_eq_true rfl⟩ (Nat.le_of_ble_eq_true rfl)) (fun v39 u39 hp39 => ?_)
        obtain ⟨R1_39, rfl, rfl, hq39_0, hq39_1⟩ := hp39
        show Xw K G 0 0 _ n (u2 (u2 (u2 (u2 (u2 V 1 0 a) 1 1 b) 1 2 c) 1 3 0) 1 5 0) R1_39 42 [(0, .ref (aG G 0)), (1, .int (iI a)), (2, .int (iI b)), (3, .int (iI c))] []
        have hLR2 : LR R1_39 := LR_fr (a := 1) (by omega) hLR hq39_0
        refine x_aload_n C 0 dX11_log_42 rfl rfl ?_
        refine x_getr C ok_Class 0 3 (d := 11) dX11_log_43 (lt67 hn rfl) rfl (by decide) rfl q_0_22 rfl (kz := 3) rfl (by exact (lr_0_3 hLR2)) ?_
        refine x_iconst C dX11_log_46 ?_
        refine x_puti C ok_Saw 11 0 dX11_log_47 (lt67 hn rfl) rfl (by decide) rfl q_5_3 rfl rfl (Or.inr ⟨rfl, by first | exact Or.inl rfl | exact Or.inr rfl | omega⟩) (by first | assumption | (constructor <;> omega)) (kz := 0) rfl ?_
        refine x_aload_n C 0 dX11_log_50 rfl rfl ?_
        refine x_runU (r_callV C ok_Class 0 (lt67 hn rfl) rfl (ce_X11_woodOfLog) (m_X11_woodOfLog G n (u2 (u2 (u2 (u2 (u2 (u2 V 1 0 a) 1 1 b) 1 2 c) 1 3 0) 1 5 0) 11 0 0) R1_39 hn (by exact hLR2) (by simp [u2_at]; omega) (by simp [u2_at]; omega) (by simp [u2_at]; omega)) rfl dX11_log_51 q_5_11 q_5_12 q_5_13 rfl rfl ⟨Nat.le_of_ble_eq_true rfl, Nat.le_of_ble_eq_true rfl⟩ ⟨rfl, rfl⟩ ⟨Nat.le_of_ble_eq_true rfl, Nat.le_of_ble_eq_true rfl⟩ (Nat.le_of_ble_eq_true rfl)) (fun v51 u51 hp51 => ?_)
        obtain ⟨rfl, rfl⟩ := hp51
        show Xw K G 0 0 _ n (u2 (u2 (u2 (u2 (u2 (u2 V 1 0 a) 1 1 b) 1 2 c) 1 3 0) 1 5 0) 11 0 0) R1_39 54 [(0, .ref (aG G 0)), (1, .int (iI a)), (2, .int (iI b)), (3, .int (iI c))] [.int (iI (nWood ((u2 (u2 (u2 (u2 (u2 (u2 V 1 0 a) 1 1 b) 1 2 c) 1 3 0) 1 5 0) 11 0 0) 1 0) ((u2 (u2 (u2 (u2 (u2 (u2 V 1 0 a) 1 1 b) 1 2 c) 1 3 0) 1 5 0) 11 0 0) 1 1) ((u2 (u2 (u2 (u2 (u2 (u2 V 1 0 a) 1 1 b) 1 2 c) 1 3 0) 1 5 0) 11 0 0) 1 2)))]
        refine x_top (b := (nWood a b c)) (by simp [u2_at]) ?_
        refine x_iret C dX11_log_54 ⟨_, _, _, rfl, rfl, ?_⟩
        · first | exact Or.inl ⟨by omega, rfl, rfl, rfl⟩ | exact Or.inr ⟨by omega, rfl, rfl, hq39_0, hq39_1⟩
      · skip
        refine x_bipush C dX11_log_29 (w := -2) (by decide) ?_
        refine x_iret C dX11_log_31 ⟨_, _, _, rfl, rfl, ?_⟩
        · first | exact Or.inl ⟨by omega, rfl, rfl, rfl⟩ | exact Or.inr ⟨by omega, rfl, rfl, hq39_0, hq39_1⟩
set_option maxRecDepth 100000 in
set_option maxHeartbeats 4000000 in
theorem m_X11_turn (G : GS) (n : Nat) (V : Nat → Int → Int) (R : Nat → Int → Option Nat) (t : Int) (hn : 67 ≤ n) (hLR : LR R) (gt : Rg t) (hr : 0 ≤ V 1 0 ∧ V 1 0 ≤ 6) (hta : 0 ≤ V 1 1 ∧ V 1 1 ≤ 4) (hL : 0 ≤ V 1 2 ∧ V 1 2 ≤ 8) : Cn G yX11_turn cX11_turn 3 (some .int) (rmk 2 0 0 38) [.ref (aG G 0), .int (iI t)] n V R 0 0 (fun vv uu => ∃ (r : Int), ∃ (V1 : Nat → Int → Int), vv = some (.int (iI r)) ∧ uu = (n, V1, R) ∧ ((V 1 2 = 0 ∧ r = -3 ∧ V1 = V) ∨ (V 1 2 ≠ 0 ∧ ¬ (0 ≤ t ∧ t ≤ 3) ∧ r = -2 ∧ V1 = V) ∨ (V 1 2 ≠ 0 ∧ (0 ≤ t ∧ t ≤ 3) ∧ r = V 1 3 ∧ V1 = u2 (u2 V 1 3 t) 11 0 0))) := by
  refine Cn.of (by decide) (Nat.le_of_ble_eq_true rfl) (fun K C hct => ?_)
  show Xw K G 0 0 _ n V R 0 [(0, .ref (aG G 0)), (1, .int (iI t))] []
  refine x_aload_n C 0 dX11_turn_0 rfl rfl ?_
  refine x_getr C ok_Class 0 0 (d := 1) dX11_turn_1 (lt67 hn rfl) rfl (by decide) rfl q_0_16 rfl (kz := 0) rfl (lr_0_0 hLR) ?_
  refine x_runU (r_callV C ok_Yard 1 (lt67 hn rfl) rfl (ce_X10_hasLog) (m_X10_hasLog G n V R (1) hn hLR (by first | assumption | omega | decide)) rfl dX11_turn_4 q_8_6 q_8_7 q_8_8 rfl rfl ⟨Nat.le_of_ble_eq_true rfl, Nat.le_of_ble_eq_true rfl⟩ ⟨rfl, rfl⟩ ⟨Nat.le_of_ble_eq_true rfl, Nat.le_of_ble_eq_true rfl⟩ (Nat.le_of_ble_eq_true rfl)) (fun v4 u4 hp4 => ?_)
  obtain ⟨rfl, rfl⟩ := hp4
  show Xw K G 0 0 _ n V R 7 [(0, .ref (aG G 0)), (1, .int (iI t))] [.int (iI (bI (0 < V 1 2)))]
  refine x_ifne_b C dX11_turn_7 (tgt := 13) (by decide) (fun h7 => ?_) (fun h7 => ?_)
  · skip
    refine x_iload_n C 1 dX11_turn_13 rfl rfl ?_
    refine x_iconst C dX11_turn_14 ?_
    refine x_iconst C dX11_turn_15 ?_
    refine x_runU (r_callS C (ce_X11_within) (m_X11_within G n V R (t) (0) (3) (by first | assumption | omega | decide) (by first | assumption | omega | decide) (by first | assumption | omega | decide)) dX11_turn_16 q_5_4 q_5_5 rfl rfl ⟨Nat.le_of_ble_eq_true rfl, Nat.le_of_ble_eq_true rfl⟩ ⟨rfl, rfl⟩ ⟨Nat.le_of_ble_eq_true rfl, Nat.le_of_ble_eq_true rfl⟩ (Nat.le_of_ble_eq_true rfl)) (fun v16 u16 hp16 => ?_)
    obtain ⟨rfl, rfl⟩ := hp16
    show Xw K G 0 0 _ n V R 19 [(0, .ref (aG G 0)), (1, .int (iI t))] [.int (iI (bI (0 ≤ t ∧ t ≤ 3)))]
    refine x_ifne_b C dX11_turn_19 (tgt := 25) (by decide) (fun h19 => ?_) (fun h19 => ?_)
    · skip
      refine x_aload_n C 0 dX11_turn_25 rfl rfl ?_
      refine x_getr C ok_Class 0 0 (d := 1) dX11_turn_26 (lt67 hn rfl) rfl (by decide) rfl q_0_16 rfl (kz := 0) rfl (lr_0_0 hLR) ?_
      refine x_geti C ok_Yard 1 3 dX11_turn_29 (lt67 hn rfl) rfl (by decide) rfl q_27_12 rfl (kz := 3) rfl (fun rg29 => ?_)
      refine x_istore_n C dX11_turn_32 rfl (by decide) (lv' := [(0, .ref (aG G 0)), (1, .int (iI t)), (2, .int (iI (V 1 3)))]) rfl ?_
      refine x_aload_n C 0 dX11_turn_33 rfl rfl ?_
      refine x_getr C ok_Class 0 0 (d := 1) dX11_turn_34 (lt67 hn rfl) rfl (by decide) rfl q_0_16 rfl (kz := 0) rfl (lr_0_0 hLR) ?_
      refine x_iload_n C 1 dX11_turn_37 rfl rfl ?_
      refine x_puti C ok_Yard 1 3 dX11_turn_38 (lt67 hn rfl) rfl (by decide) rfl q_27_12 rfl rfl (Or.inl rfl) (by first | assumption | (constructor <;> omega)) (kz := 3) rfl ?_
      refine x_aload_n C 0 dX11_turn_41 rfl rfl ?_
      refine x_getr C ok_Class 0 3 (d := 11) dX11_turn_42 (lt67 hn rfl) rfl (by decide) rfl q_0_22 rfl (kz := 3) rfl (lr_0_3 hLR) ?_
      refine x_iconst C dX11_turn_45 ?_
      refine x_puti C ok_Saw 11 0 dX11_turn_46 (lt67 hn rfl) rfl (by decide) rfl q_5_3 rfl rfl (Or.inr ⟨rfl, by first | exact Or.inl rfl | exact Or.inr rfl | omega⟩) (by first | assumption | (constructor <;> omega)) (kz := 0) rfl ?_
      refine x_iload_n C 2 dX11_turn_49 rfl rfl ?_
      refine x_iret C dX11_turn_50 ⟨_, _, rfl, rfl, ?_⟩
      · first | exact Or.inl ⟨by omega, rfl, rfl⟩ | exact Or.inr (Or.inl ⟨by omega, by omega, rfl, rfl⟩) | exact Or.inr (Or.inr ⟨by omega, by omega, rfl, rfl⟩)
    · skip
      refine x_bipush C dX11_turn_22 (w := -2) (by decide) ?_
      refine x_iret C dX11_turn_24 ⟨_, _, rfl, rfl, ?_⟩
      · first | exact Or.inl ⟨by omega, rfl, rfl⟩ | exact Or.inr (Or.inl ⟨by omega, by omega, rfl, rfl⟩) | exact Or.inr (Or.inr ⟨by omega, by omega, rfl, rfl⟩)
  · skip
    refine x_bipush C dX11_turn_10 (w := -3) (by decide) ?_
    refine x_iret C dX11_turn_12 ⟨_, _, rfl, rfl, ?_⟩
    · first | exact Or.inl ⟨by omega, rfl, rfl⟩ | exact Or.inr (Or.inl ⟨by omega, by omega, rfl, rfl⟩) | exact Or.inr (Or.inr ⟨by omega, by omega, rfl, rfl⟩)
set_option maxRecDepth 100000 in
set_option maxHeartbeats 4000000 in
theorem m_X11_isByte (G : GS) (n : Nat) (V : Nat → Int → Int) (R : Nat → Int → Option Nat) (v : Int) (gv : Rg v) : Cn G yX11_isByte cX11_isByte 1 (some .boolean) (rmk 2 0 0 38) [.int (iI v)] n V R 0 0 (fun vv uu => vv = some (.int (iI (bI (0 ≤ v ∧ v ≤ 255)))) ∧ uu = (n, V, R)) := by
  refine Cn.of (by decide) (Nat.le_of_ble_eq_true rfl) (fun K C hct => ?_)
  show Xw K G 0 0 _ n V R 0 [(0, .int (iI v))] []
  refine x_iload_n C 0 dX11_isByte_0 rfl rfl ?_
  refine x_iconst C dX11_isByte_1 ?_
  refine x_sipush C dX11_isByte_2 (w := 255) (by decide) ?_
  refine x_runU (r_callS C (ce_X11_within) (m_X11_within G n V R (v) (0) (255) (by first | assumption | omega | decide) (by first | assumption | omega | decide) (by first | assumption | omega | decide)) dX11_isByte_5 q_5_4 q_5_5 rfl rfl ⟨Nat.le_of_ble_eq_true rfl, Nat.le_of_ble_eq_true rfl⟩ ⟨rfl, rfl⟩ ⟨Nat.le_of_ble_eq_true rfl, Nat.le_of_ble_eq_true rfl⟩ (Nat.le_of_ble_eq_true rfl)) (fun v5 u5 hp5 => ?_)
  obtain ⟨rfl, rfl⟩ := hp5
  show Xw K G 0 0 _ n V R 8 [(0, .int (iI v))] [.int (iI (bI (0 ≤ v ∧ v ≤ 255)))]
  refine x_zret C (bI_01 _) dX11_isByte_8 ⟨rfl, rfl⟩
set_option maxRecDepth 100000 in
set_option maxHeartbeats 4000000 in
theorem m_X11_heal (G : GS) (n : Nat) (V : Nat → Int → Int) (R : Nat → Int → Option Nat) (f : Int) (hn : 67 ≤ n) (hLR : LR R) (gf : Rg f) (h5 : 0 ≤ V 1 5 ∧ V 1 5 ≤ 8) (hF : FsOk n V R 2 (V 1 5)) : Cn G yX11_heal cX11_heal 2 (some .int) (rmk 3 0 0 59) [.ref (aG G 0), .int (iI f)] n V R 0 0 (fun vv uu => ∃ (r : Int), ∃ (V1 : Nat → Int → Int), ∃ (R1 : Nat → Int → Option Nat), vv = some (.int (iI r)) ∧ uu = (n, V1, R1) ∧ ((¬ (0 ≤ f ∧ f ≤ V 1 5 - 1) ∧ r = -2 ∧ V1 = V ∧ R1 = R) ∨ ((0 ≤ f ∧ f ≤ V 1 5 - 1) ∧ r = V 1 5 - 1 ∧ V1 = u2 (u2 V 1 5 (V 1 5 - 1)) 11 0 0 ∧ (∀ q, q ≠ 2 → R1 q = R q) ∧ (∀ i : Int, 0 ≤ i → i < V 1 5 - 1 → R1 2 i = R 2 (if i < f then i else i + 1)) ∧ ∀ i : Int, V 1 5 - 1 ≤ i → R1 2 i = R 2 i ∨ R1 2 i = none))) := by
  refine Cn.of (by decide) (Nat.le_of_ble_eq_true rfl) (fun K C hct => ?_)
  show Xw K G 0 0 _ n V R 0 [(0, .ref (aG G 0)), (1, .int (iI f))] []
  refine x_aload_n C 0 dX11_heal_0 rfl rfl ?_
  refine x_getr C ok_Class 0 0 (d := 1) dX11_heal_1 (lt67 hn rfl) rfl (by decide) rfl q_0_16 rfl (kz := 0) rfl (lr_0_0 hLR) ?_
  refine x_iload_n C 1 dX11_heal_4 rfl rfl ?_
  refine x_runU (r_callV C ok_Yard 1 (lt67 hn rfl) rfl (ce_X10_faultOf) (m_X10_faultOf G n V R (1) (f) hn hLR (by first | assumption | omega | decide) (by first | assumption | omega | decide) (by first | assumption | omega | decide)) rfl dX11_heal_5 q_17_6 q_17_7 q_17_8 rfl rfl ⟨Nat.le_of_ble_eq_true rfl, Nat.le_of_ble_eq_true rfl⟩ ⟨rfl, rfl⟩ ⟨Nat.le_of_ble_eq_true rfl, Nat.le_of_ble_eq_true rfl⟩ (Nat.le_of_ble_eq_true rfl)) (fun v5 u5 hp5 => ?_)
  obtain ⟨rfl, rfl⟩ := hp5
  show Xw K G 0 0 _ n V R 8 [(0, .ref (aG G 0)), (1, .int (iI f))] [rv G.2.1 (cif (0 ≤ f ∧ f ≤ V 1 5 - 1) (R (1 + 1) f) none)]
  by_cases hin : 0 ≤ f ∧ f ≤ V 1 5 - 1
  · skip
    obtain ⟨c, hRc, hFc⟩ := hF f hin.1 (by omega)
    obtain ⟨f1, f2, hk7, ha, hs, hz⟩ := hFc
    have htc := tb_dyn f1
    have hcc := f2
    obtain ⟨er0, er1, er2, er3⟩ := FR_e (V := V) hRc
    rw [cif_t hin, hRc]
    show Xw K G 0 0 _ n V R 8 [(0, .ref (aG G 0)), (1, .int (iI f))] [.ref (aG G c)]
    refine x_ifnonnull C dX11_heal_8 (tgt := 14) (by decide) ?_
    refine x_aload_n C 0 dX11_heal_14 rfl rfl ?_
    refine x_getr C ok_Class 0 0 (d := 1) dX11_heal_15 (lt67 hn rfl) rfl (by decide) rfl q_0_16 rfl (kz := 0) rfl (lr_0_0 hLR) ?_
    refine x_iload_n C 1 dX11_heal_18 rfl rfl ?_
    refine x_runU (r_callV C ok_Yard 1 (lt67 hn rfl) rfl (ce_X10_dropFault) (m_X10_dropFault G n V R (1) (f) hn hLR (by first | assumption | omega | decide) (by first | assumption | omega | decide) (by exact hF) (by first | assumption | omega | decide)) rfl dX11_heal_19 q_17_10 q_17_11 q_17_12 rfl rfl ⟨Nat.le_of_ble_eq_true rfl, Nat.le_of_ble_eq_true rfl⟩ ⟨rfl, rfl⟩ ⟨Nat.le_of_ble_eq_true rfl, Nat.le_of_ble_eq_true rfl⟩ (Nat.le_of_ble_eq_true rfl)) (fun v19 u19 hp19 => ?_)
    obtain ⟨R1_19, rfl, rfl, hq19_0, hq19_1, hq19_2⟩ := hp19
    show Xw K G 0 0 _ n (u2 V 1 5 (V 1 5 - 1)) R1_19 22 [(0, .ref (aG G 0)), (1, .int (iI f))] []
    have hLR2 : LR R1_19 := LR_fr (a := 1) (by omega) hLR hq19_0
    refine x_aload_n C 0 dX11_heal_22 rfl rfl ?_
    refine x_getr C ok_Class 0 3 (d := 11) dX11_heal_23 (lt67 hn rfl) rfl (by decide) rfl q_0_22 rfl (kz := 3) rfl (by exact (lr_0_3 hLR2)) ?_
    refine x_iconst C dX11_heal_26 ?_
    refine x_puti C ok_Saw 11 0 dX11_heal_27 (lt67 hn rfl) rfl (by decide) rfl q_5_3 rfl rfl (Or.inr ⟨rfl, by first | exact Or.inl rfl | exact Or.inr rfl | omega⟩) (by first | assumption | (constructor <;> omega)) (kz := 0) rfl ?_
    refine x_aload_n C 0 dX11_heal_30 rfl rfl ?_
    refine x_getr C ok_Class 0 0 (d := 1) dX11_heal_31 (lt67 hn rfl) rfl (by decide) rfl q_0_16 rfl (kz := 0) rfl (by exact (lr_0_0 hLR2)) ?_
    refine x_geti C ok_Yard 1 5 dX11_heal_34 (lt67 hn rfl) rfl (by decide) rfl q_8_5 rfl (kz := 5) rfl (fun rg34 => ?_)
    refine x_top (b := (V 1 5 - 1)) (by first | rfl | (simp only [u2_at]; simp) | (simp only [u2_at]; first | (rw [if_neg (by omega)]) | omega) | (repeat rw [u2_at, if_neg (by omega)])) ?_
    refine x_iret C dX11_heal_37 ⟨_, _, _, rfl, rfl, ?_⟩
    · first | exact Or.inl ⟨by omega, rfl, rfl, rfl⟩ | exact Or.inr ⟨by omega, rfl, rfl, hq19_0, hq19_1, hq19_2⟩
  · skip
    rw [cif_f hin]
    show Xw K G 0 0 _ n V R 8 [(0, .ref (aG G 0)), (1, .int (iI f))] [.null]
    refine x_ifnonnullN C dX11_heal_8 ?_
    refine x_bipush C dX11_heal_11 (w := -2) (by decide) ?_
    refine x_iret C dX11_heal_13 ⟨_, _, _, rfl, rfl, ?_⟩
    · first | exact Or.inl ⟨by omega, rfl, rfl, rfl⟩ | exact Or.inr ⟨by omega, rfl, rfl, hq19_0, hq19_1, hq19_2⟩
set_option maxRecDepth 100000 in
set_option maxHeartbeats 4000000 in
theorem m_X11_told (G : GS) (n : Nat) (V : Nat → Int → Int) (R : Nat → Int → Option Nat) (f : Int) (w : Int) (hn : 67 ≤ n) (hLR : LR R) (gf : Rg f) (gw : Rg w) (h5 : 0 ≤ V 1 5 ∧ V 1 5 ≤ 8) (hF : FsOk n V R 2 (V 1 5)) (hr : 0 ≤ V 1 0 ∧ V 1 0 ≤ 6) (hta : 0 ≤ V 1 1 ∧ V 1 1 ≤ 4) (hL : 0 ≤ V 1 2 ∧ V 1 2 ≤ 8) : Cn G yX11_told cX11_told 4 (some .int) (rmk 5 0 0 106) [.ref (aG G 0), .int (iI f), .int (iI w)] n V R 0 0 (fun vv uu => ∃ (r : Int), vv = some (.int (iI r)) ∧ uu = (n, V, R) ∧ ((¬ (0 ≤ f ∧ f ≤ V 1 5 - 1) ∧ r = -2) ∨ ((0 ≤ f ∧ f ≤ V 1 5 - 1) ∧ w = 0 ∧ r = (FR V R 2 f 0)) ∨ ((0 ≤ f ∧ f ≤ V 1 5 - 1) ∧ w = 1 ∧ r = (FR V R 2 f 1)) ∨ ((0 ≤ f ∧ f ≤ V 1 5 - 1) ∧ w = 2 ∧ r = (FR V R 2 f 2)) ∨ ((0 ≤ f ∧ f ≤ V 1 5 - 1) ∧ w = 3 ∧ r = (FR V R 2 f 3)) ∨ ((0 ≤ f ∧ f ≤ V 1 5 - 1) ∧ w = 4 ∧ r = nWoodIn (V 1 0) (V 1 1) (V 1 2) (FR V R 2 f 0) (FR V R 2 f 1) (FR V R 2 f 2) (FR V R 2 f 3)) ∨ ((0 ≤ f ∧ f ≤ V 1 5 - 1) ∧ w = 5 ∧ r = max 0 (min (V 1 2) ((FR V R 2 f 2) + lastF (FR V R 2 f 0) (FR V R 2 f 3)) - (FR V R 2 f 2))) ∨ ((0 ≤ f ∧ f ≤ V 1 5 - 1) ∧ w = 6 ∧ r = hurtK (FR V R 2 f 0)) ∨ ((0 ≤ f ∧ f ≤ V 1 5 - 1) ∧ ¬ (0 ≤ w ∧ w ≤ 6) ∧ r = -2))) := by
  refine Cn.of (by decide) (Nat.le_of_ble_eq_true rfl) (fun K C hct => ?_)
  show Xw K G 0 0 _ n V R 0 [(0, .ref (aG G 0)), (1, .int (iI f)), (2, .int (iI w))] []
  refine x_aload_n C 0 dX11_told_0 rfl rfl ?_
  refine x_getr C ok_Class 0 0 (d := 1) dX11_told_1 (lt67 hn rfl) rfl (by decide) rfl q_0_16 rfl (kz := 0) rfl (lr_0_0 hLR) ?_
  refine x_iload_n C 1 dX11_told_4 rfl rfl ?_
  refine x_runU (r_callV C ok_Yard 1 (lt67 hn rfl) rfl (ce_X10_faultOf) (m_X10_faultOf G n V R (1) (f) hn hLR (by first | assumption | omega | decide) (by first | assumption | omega | decide) (by first | assumption | omega | decide)) rfl dX11_told_5 q_17_6 q_17_7 q_17_8 rfl rfl ⟨Nat.le_of_ble_eq_true rfl, Nat.le_of_ble_eq_true rfl⟩ ⟨rfl, rfl⟩ ⟨Nat.le_of_ble_eq_true rfl, Nat.le_of_ble_eq_true rfl⟩ (Nat.le_of_ble_eq_true rfl)) (fun v5 u5 hp5 => ?_)
  obtain ⟨rfl, rfl⟩ := hp5
  show Xw K G 0 0 _ n V R 8 [(0, .ref (aG G 0)), (1, .int (iI f)), (2, .int (iI w))] [rv G.2.1 (cif (0 ≤ f ∧ f ≤ V 1 5 - 1) (R (1 + 1) f) none)]
  by_cases hin : 0 ≤ f ∧ f ≤ V 1 5 - 1
  · skip
    obtain ⟨c, hRc, hFc⟩ := hF f hin.1 (by omega)
    obtain ⟨f1, f2, hk7, ha, hs, hz⟩ := hFc
    have htc := tb_dyn f1
    have hcc := f2
    obtain ⟨er0, er1, er2, er3⟩ := FR_e (V := V) hRc
    rw [cif_t hin, hRc]
    show Xw K G 0 0 _ n V R 8 [(0, .ref (aG G 0)), (1, .int (iI f)), (2, .int (iI w))] [.ref (aG G c)]
    refine x_astore_n C dX11_told_8 rfl (by decide) (lv' := [(0, .ref (aG G 0)), (1, .int (iI f)), (2, .int (iI w)), (3, .ref (aG G c))]) rfl ?_
    refine x_aload_n C 3 dX11_told_9 rfl rfl ?_
    refine x_ifnonnull C dX11_told_10 (tgt := 16) (by decide) ?_
    refine x_iload_n C 2 dX11_told_16 rfl rfl ?_
    rcases (show w = 0 ∨ w = 1 ∨ w = 2 ∨ w = 3 ∨ w = 4 ∨ w = 5 ∨ w = 6 ∨ (w < 0 ∨ 6 < w) by omega) with h17 | h17 | h17 | h17 | h17 | h17 | h17 | h17
    · skip
      refine x_tin C 0 h17 dX11_told_17 (by constructor <;> decide) (by decide) (by decide) (off := 43) rfl (tgt := 60) (by decide) ?_
      refine x_aload_n C 3 dX11_told_60 rfl rfl ?_
      refine x_runU (mc := 0) (ms := 0) (st := []) (post := (fun vv uu => vv = some (.int (iI (V c 3))) ∧ uu = (n, V, R))) ?_ (fun v61 u61 hp61 => ?_)
      · rcases (show V c 3 = 0 ∨ V c 3 = 1 ∨ V c 3 = 2 ∨ V c 3 = 3 ∨ V c 3 = 4 ∨ V c 3 = 5 ∨ V c 3 = 6 by omega) with e | e | e | e | e | e | e
        · exact XRun.mono (r_callF C c hcc htc (r := (RX1, TX1, 3)) (by rw [e]; rfl) (owner := "LogSawyer$Fault") ce_X1_kind (m_X1_kind G n V R (c) hn hLR (by first | assumption | omega | decide) (by first | assumption | omega | decide) (by first | assumption | omega | decide)) rfl dX11_told_61 q_18_5 q_18_6 ⟨by decide, by decide⟩ (Or.inl (List.mem_of_getElem? (i := 12) rfl)) rfl q_18_7 q_18_8 rfl rfl ⟨Nat.le_of_ble_eq_true rfl, Nat.le_of_ble_eq_true rfl⟩ ⟨rfl, rfl⟩ ⟨Nat.le_of_ble_eq_true rfl, Nat.le_of_ble_eq_true rfl⟩ (Nat.le_of_ble_eq_true rfl)) (fun vv uu h => by first | exact h | (exact ⟨h.1.trans (by rw [e]; rfl), h.2⟩))
        · exact XRun.mono (r_callF C c hcc htc (r := (RX2, TX2, 3)) (by rw [e]; rfl) (owner := "LogSawyer$Fault") ce_X2_kind (m_X2_kind G n V R (c) hn hLR (by first | assumption | omega | decide) (by first | assumption | omega | decide) (by first | assumption | omega | decide)) rfl dX11_told_61 q_18_5 q_18_6 ⟨by decide, by decide⟩ (Or.inl (List.mem_of_getElem? (i := 12) rfl)) rfl q_18_10 q_18_11 rfl rfl ⟨Nat.le_of_ble_eq_true rfl, Nat.le_of_ble_eq_true rfl⟩ ⟨rfl, rfl⟩ ⟨Nat.le_of_ble_eq_true rfl, Nat.le_of_ble_eq_true rfl⟩ (Nat.le_of_ble_eq_true rfl)) (fun vv uu h => by first | exact h | (exact ⟨h.1.trans (by rw [e]; rfl), h.2⟩))
        · exact XRun.mono (r_callF C c hcc htc (r := (RX8, TX8, 3)) (by rw [e]; rfl) (owner := "LogSawyer$Fault") ce_X8_kind (m_X8_kind G n V R (c) hn hLR (by first | assumption | omega | decide) (by first | assumption | omega | decide) (by first | assumption | omega | decide)) rfl dX11_told_61 q_18_5 q_18_6 ⟨by decide, by decide⟩ (Or.inl (List.mem_of_getElem? (i := 12) rfl)) rfl q_18_22 q_18_23 rfl rfl ⟨Nat.le_of_ble_eq_true rfl, Nat.le_of_ble_eq_true rfl⟩ ⟨rfl, rfl⟩ ⟨Nat.le_of_ble_eq_true rfl, Nat.le_of_ble_eq_true rfl⟩ (Nat.le_of_ble_eq_true rfl)) (fun vv uu h => by first | exact h | (exact ⟨h.1.trans (by rw [e]; rfl), h.2⟩))
        · exact XRun.mono (r_callF C c hcc htc (r := (RX7, TX7, 3)) (by rw [e]; rfl) (owner := "LogSawyer$Fault") ce_X7_kind (m_X7_kind G n V R (c) hn hLR (by first | assumption | omega | decide) (by first | assumption | omega | decide) (by first | assumption | omega | decide)) rfl dX11_told_61 q_18_5 q_18_6 ⟨by decide, by decide⟩ (Or.inl (List.mem_of_getElem? (i := 12) rfl)) rfl q_18_19 q_18_20 rfl rfl ⟨Nat.le_of_ble_eq_true rfl, Nat.le_of_ble_eq_true rfl⟩ ⟨rfl, rfl⟩ ⟨Nat.le_of_ble_eq_true rfl, Nat.le_of_ble_eq_true rfl⟩ (Nat.le_of_ble_eq_true rfl)) (fun vv uu h => by first | exact h | (exact ⟨h.1.trans (by rw [e]; rfl), h.2⟩))
        · exact XRun.mono (r_callF C c hcc htc (r := (RX4, TX4, 3)) (by rw [e]; rfl) (owner := "LogSawyer$Fault") ce_X4_kind (m_X4_kind G n V R (c) hn hLR (by first | assumption | omega | decide) (by first | assumption | omega | decide) (by first | assumption | omega | decide)) rfl dX11_told_61 q_18_5 q_18_6 ⟨by decide, by decide⟩ (Or.inl (List.mem_of_getElem? (i := 12) rfl)) rfl q_18_13 q_18_14 rfl rfl ⟨Nat.le_of_ble_eq_true rfl, Nat.le_of_ble_eq_true rfl⟩ ⟨rfl, rfl⟩ ⟨Nat.le_of_ble_eq_true rfl, Nat.le_of_ble_eq_true rfl⟩ (Nat.le_of_ble_eq_true rfl)) (fun vv uu h => by first | exact h | (exact ⟨h.1.trans (by rw [e]; rfl), h.2⟩))
        · exact XRun.mono (r_callF C c hcc htc (r := (RX5, TX5, 3)) (by rw [e]; rfl) (owner := "LogSawyer$Fault") ce_X5_kind (m_X5_kind G n V R (c) hn hLR (by first | assumption | omega | decide) (by first | assumption | omega | decide) (by first | assumption | omega | decide)) rfl dX11_told_61 q_18_5 q_18_6 ⟨by decide, by decide⟩ (Or.inl (List.mem_of_getElem? (i := 12) rfl)) rfl q_18_16 q_18_17 rfl rfl ⟨Nat.le_of_ble_eq_true rfl, Nat.le_of_ble_eq_true rfl⟩ ⟨rfl, rfl⟩ ⟨Nat.le_of_ble_eq_true rfl, Nat.le_of_ble_eq_true rfl⟩ (Nat.le_of_ble_eq_true rfl)) (fun vv uu h => by first | exact h | (exact ⟨h.1.trans (by rw [e]; rfl), h.2⟩))
        · exact XRun.mono (r_callF C c hcc htc (r := (RX9, TX9, 3)) (by rw [e]; rfl) (owner := "LogSawyer$Fault") ce_X9_kind (m_X9_kind G n V R (c) hn hLR (by first | assumption | omega | decide) (by first | assumption | omega | decide) (by first | assumption | omega | decide)) rfl dX11_told_61 q_18_5 q_18_6 ⟨by decide, by decide⟩ (Or.inl (List.mem_of_getElem? (i := 12) rfl)) rfl q_19_1 q_19_2 rfl rfl ⟨Nat.le_of_ble_eq_true rfl, Nat.le_of_ble_eq_true rfl⟩ ⟨rfl, rfl⟩ ⟨Nat.le_of_ble_eq_true rfl, Nat.le_of_ble_eq_true rfl⟩ (Nat.le_of_ble_eq_true rfl)) (fun vv uu h => by first | exact h | (exact ⟨h.1.trans (by rw [e]; rfl), h.2⟩))
      obtain ⟨rfl, rfl⟩ := hp61
      show Xw K G 0 0 _ n V R 64 [(0, .ref (aG G 0)), (1, .int (iI f)), (2, .int (iI w)), (3, .ref (aG G c))] [.int (iI (V c 3))]
      refine x_iret C dX11_told_64 ⟨_, rfl, rfl, ?_⟩
      · first | exact Or.inl (⟨by omega, rfl⟩) | exact Or.inr (Or.inl (⟨by omega, by omega, by first | omega | exact told_4 er0 er1 er2 er3 | exact told_5 er0 er2 er3 hs hz hL | (rw [er0])⟩)) | exact Or.inr (Or.inr (Or.inl (⟨by omega, by omega, by first | omega | exact told_4 er0 er1 er2 er3 | exact told_5 er0 er2 er3 hs hz hL | (rw [er0])⟩))) | exact Or.inr (Or.inr (Or.inr (Or.inl (⟨by omega, by omega, by first | omega | exact told_4 er0 er1 er2 er3 | exact told_5 er0 er2 er3 hs hz hL | (rw [er0])⟩)))) | exact Or.inr (Or.inr (Or.inr (Or.inr (Or.inl (⟨by omega, by omega, by first | omega | exact told_4 er0 er1 er2 er3 | exact told_5 er0 er2 er3 hs hz hL | (rw [er0])⟩))))) | exact Or.inr (Or.inr (Or.inr (Or.inr (Or.inr (Or.inl (⟨by omega, by omega, by first | omega | exact told_4 er0 er1 er2 er3 | exact told_5 er0 er2 er3 hs hz hL | (rw [er0])⟩)))))) | exact Or.inr (Or.inr (Or.inr (Or.inr (Or.inr (Or.inr (Or.inl (⟨by omega, by omega, by first | omega | exact told_4 er0 er1 er2 er3 | exact told_5 er0 er2 er3 hs hz hL | (rw [er0])⟩))))))) | exact Or.inr (Or.inr (Or.inr (Or.inr (Or.inr (Or.inr (Or.inr (Or.inl (⟨by omega, by omega, by first | omega | exact told_4 er0 er1 er2 er3 | exact told_5 er0 er2 er3 hs hz hL | (rw [er0])⟩)))))))) | exact Or.inr (Or.inr (Or.inr (Or.inr (Or.inr (Or.inr (Or.inr (Or.inr (⟨by omega, by omega, rfl⟩))))))))
    · skip
      refine x_tin C 1 h17 dX11_told_17 (by constructor <;> decide) (by decide) (by decide) (off := 48) rfl (tgt := 65) (by decide) ?_
      refine x_aload_n C 3 dX11_told_65 rfl rfl ?_
      refine x_getF C c 0 dX11_told_66 hcc htc (by decide) q_18_2 (Or.inl rfl) (kz := 0) rfl (fun rg66 => ?_)
      refine x_iret C dX11_told_69 ⟨_, rfl, rfl, ?_⟩
      · first | exact Or.inl (⟨by omega, rfl⟩) | exact Or.inr (Or.inl (⟨by omega, by omega, by first | omega | exact told_4 er0 er1 er2 er3 | exact told_5 er0 er2 er3 hs hz hL | (rw [er0])⟩)) | exact Or.inr (Or.inr (Or.inl (⟨by omega, by omega, by first | omega | exact told_4 er0 er1 er2 er3 | exact told_5 er0 er2 er3 hs hz hL | (rw [er0])⟩))) | exact Or.inr (Or.inr (Or.inr (Or.inl (⟨by omega, by omega, by first | omega | exact told_4 er0 er1 er2 er3 | exact told_5 er0 er2 er3 hs hz hL | (rw [er0])⟩)))) | exact Or.inr (Or.inr (Or.inr (Or.inr (Or.inl (⟨by omega, by omega, by first | omega | exact told_4 er0 er1 er2 er3 | exact told_5 er0 er2 er3 hs hz hL | (rw [er0])⟩))))) | exact Or.inr (Or.inr (Or.inr (Or.inr (Or.inr (Or.inl (⟨by omega, by omega, by first | omega | exact told_4 er0 er1 er2 er3 | exact told_5 er0 er2 er3 hs hz hL | (rw [er0])⟩)))))) | exact Or.inr (Or.inr (Or.inr (Or.inr (Or.inr (Or.inr (Or.inl (⟨by omega, by omega, by first | omega | exact told_4 er0 er1 er2 er3 | exact told_5 er0 er2 er3 hs hz hL | (rw [er0])⟩))))))) | exact Or.inr (Or.inr (Or.inr (Or.inr (Or.inr (Or.inr (Or.inr (Or.inl (⟨by omega, by omega, by first | omega | exact told_4 er0 er1 er2 er3 | exact told_5 er0 er2 er3 hs hz hL | (rw [er0])⟩)))))))) | exact Or.inr (Or.inr (Or.inr (Or.inr (Or.inr (Or.inr (Or.inr (Or.inr (⟨by omega, by omega, rfl⟩))))))))
    · skip
      refine x_tin C 2 h17 dX11_told_17 (by constructor <;> decide) (by decide) (by decide) (off := 53) rfl (tgt := 70) (by decide) ?_
      refine x_aload_n C 3 dX11_told_70 rfl rfl ?_
      refine x_getF C c 1 dX11_told_71 hcc htc (by decide) q_18_3 (Or.inl rfl) (kz := 1) rfl (fun rg71 => ?_)
      refine x_iret C dX11_told_74 ⟨_, rfl, rfl, ?_⟩
      · first | exact Or.inl (⟨by omega, rfl⟩) | exact Or.inr (Or.inl (⟨by omega, by omega, by first | omega | exact told_4 er0 er1 er2 er3 | exact told_5 er0 er2 er3 hs hz hL | (rw [er0])⟩)) | exact Or.inr (Or.inr (Or.inl (⟨by omega, by omega, by first | omega | exact told_4 er0 er1 er2 er3 | exact told_5 er0 er2 er3 hs hz hL | (rw [er0])⟩))) | exact Or.inr (Or.inr (Or.inr (Or.inl (⟨by omega, by omega, by first | omega | exact told_4 er0 er1 er2 er3 | exact told_5 er0 er2 er3 hs hz hL | (rw [er0])⟩)))) | exact Or.inr (Or.inr (Or.inr (Or.inr (Or.inl (⟨by omega, by omega, by first | omega | exact told_4 er0 er1 er2 er3 | exact told_5 er0 er2 er3 hs hz hL | (rw [er0])⟩))))) | exact Or.inr (Or.inr (Or.inr (Or.inr (Or.inr (Or.inl (⟨by omega, by omega, by first | omega | exact told_4 er0 er1 er2 er3 | exact told_5 er0 er2 er3 hs hz hL | (rw [er0])⟩)))))) | exact Or.inr (Or.inr (Or.inr (Or.inr (Or.inr (Or.inr (Or.inl (⟨by omega, by omega, by first | omega | exact told_4 er0 er1 er2 er3 | exact told_5 er0 er2 er3 hs hz hL | (rw [er0])⟩))))))) | exact Or.inr (Or.inr (Or.inr (Or.inr (Or.inr (Or.inr (Or.inr (Or.inl (⟨by omega, by omega, by first | omega | exact told_4 er0 er1 er2 er3 | exact told_5 er0 er2 er3 hs hz hL | (rw [er0])⟩)))))))) | exact Or.inr (Or.inr (Or.inr (Or.inr (Or.inr (Or.inr (Or.inr (Or.inr (⟨by omega, by omega, rfl⟩))))))))
    · skip
      refine x_tin C 3 h17 dX11_told_17 (by constructor <;> decide) (by decide) (by decide) (off := 58) rfl (tgt := 75) (by decide) ?_
      refine x_aload_n C 3 dX11_told_75 rfl rfl ?_
      refine x_getF C c 2 dX11_told_76 hcc htc (by decide) q_18_4 (Or.inl rfl) (kz := 2) rfl (fun rg76 => ?_)
      refine x_iret C dX11_told_79 ⟨_, rfl, rfl, ?_⟩
      · first | exact Or.inl (⟨by omega, rfl⟩) | exact Or.inr (Or.inl (⟨by omega, by omega, by first | omega | exact told_4 er0 er1 er2 er3 | exact told_5 er0 er2 er3 hs hz hL | (rw [er0])⟩)) | exact Or.inr (Or.inr (Or.inl (⟨by omega, by omega, by first | omega | exact told_4 er0 er1 er2 er3 | exact told_5 er0 er2 er3 hs hz hL | (rw [er0])⟩))) | exact Or.inr (Or.inr (Or.inr (Or.inl (⟨by omega, by omega, by first | omega | exact told_4 er0 er1 er2 er3 | exact told_5 er0 er2 er3 hs hz hL | (rw [er0])⟩)))) | exact Or.inr (Or.inr (Or.inr (Or.inr (Or.inl (⟨by omega, by omega, by first | omega | exact told_4 er0 er1 er2 er3 | exact told_5 er0 er2 er3 hs hz hL | (rw [er0])⟩))))) | exact Or.inr (Or.inr (Or.inr (Or.inr (Or.inr (Or.inl (⟨by omega, by omega, by first | omega | exact told_4 er0 er1 er2 er3 | exact told_5 er0 er2 er3 hs hz hL | (rw [er0])⟩)))))) | exact Or.inr (Or.inr (Or.inr (Or.inr (Or.inr (Or.inr (Or.inl (⟨by omega, by omega, by first | omega | exact told_4 er0 er1 er2 er3 | exact told_5 er0 er2 er3 hs hz hL | (rw [er0])⟩))))))) | exact Or.inr (Or.inr (Or.inr (Or.inr (Or.inr (Or.inr (Or.inr (Or.inl (⟨by omega, by omega, by first | omega | exact told_4 er0 er1 er2 er3 | exact told_5 er0 er2 er3 hs hz hL | (rw [er0])⟩)))))))) | exact Or.inr (Or.inr (Or.inr (Or.inr (Or.inr (Or.inr (Or.inr (Or.inr (⟨by omega, by omega, rfl⟩))))))))
    · skip
      refine x_tin C 4 h17 dX11_told_17 (by constructor <;> decide) (by decide) (by decide) (off := 63) rfl (tgt := 80) (by decide) ?_
      refine x_aload_n C 0 dX11_told_80 rfl rfl ?_
      refine x_getr C ok_Class 0 0 (d := 1) dX11_told_81 (lt67 hn rfl) rfl (by decide) rfl q_0_16 rfl (kz := 0) rfl (lr_0_0 hLR) ?_
      refine x_aload_n C 3 dX11_told_84 rfl rfl ?_
      refine x_runU (r_callV C ok_Yard 1 (lt67 hn rfl) rfl (ce_X10_woodIn) (m_X10_woodIn G n V R (1) (c) hn hLR (by first | assumption | omega | decide) (by first | assumption | omega | decide) (by first | assumption | omega | decide) (by first | assumption | omega | decide) (by first | assumption | omega | decide) (by first | assumption | omega | decide) (by first | assumption | omega | decide) (by first | assumption | omega | decide) (by first | assumption | omega | decide) (by first | assumption | omega | decide)) rfl dX11_told_85 q_19_4 q_19_5 q_19_6 rfl rfl ⟨Nat.le_of_ble_eq_true rfl, Nat.le_of_ble_eq_true rfl⟩ ⟨rfl, rfl⟩ ⟨Nat.le_of_ble_eq_true rfl, Nat.le_of_ble_eq_true rfl⟩ (Nat.le_of_ble_eq_true rfl)) (fun v85 u85 hp85 => ?_)
      obtain ⟨rfl, rfl⟩ := hp85
      show Xw K G 0 0 _ n V R 88 [(0, .ref (aG G 0)), (1, .int (iI f)), (2, .int (iI w)), (3, .ref (aG G c))] [.int (iI (nWoodIn (V 1 0) (V 1 1) (V 1 2) (V c 3) (V c 0) (V c 1) (V c 2)))]
      refine x_iret C dX11_told_88 ⟨_, rfl, rfl, ?_⟩
      · first | exact Or.inl (⟨by omega, rfl⟩) | exact Or.inr (Or.inl (⟨by omega, by omega, by first | omega | exact told_4 er0 er1 er2 er3 | exact told_5 er0 er2 er3 hs hz hL | (rw [er0])⟩)) | exact Or.inr (Or.inr (Or.inl (⟨by omega, by omega, by first | omega | exact told_4 er0 er1 er2 er3 | exact told_5 er0 er2 er3 hs hz hL | (rw [er0])⟩))) | exact Or.inr (Or.inr (Or.inr (Or.inl (⟨by omega, by omega, by first | omega | exact told_4 er0 er1 er2 er3 | exact told_5 er0 er2 er3 hs hz hL | (rw [er0])⟩)))) | exact Or.inr (Or.inr (Or.inr (Or.inr (Or.inl (⟨by omega, by omega, by first | omega | exact told_4 er0 er1 er2 er3 | exact told_5 er0 er2 er3 hs hz hL | (rw [er0])⟩))))) | exact Or.inr (Or.inr (Or.inr (Or.inr (Or.inr (Or.inl (⟨by omega, by omega, by first | omega | exact told_4 er0 er1 er2 er3 | exact told_5 er0 er2 er3 hs hz hL | (rw [er0])⟩)))))) | exact Or.inr (Or.inr (Or.inr (Or.inr (Or.inr (Or.inr (Or.inl (⟨by omega, by omega, by first | omega | exact told_4 er0 er1 er2 er3 | exact told_5 er0 er2 er3 hs hz hL | (rw [er0])⟩))))))) | exact Or.inr (Or.inr (Or.inr (Or.inr (Or.inr (Or.inr (Or.inr (Or.inl (⟨by omega, by omega, by first | omega | exact told_4 er0 er1 er2 er3 | exact told_5 er0 er2 er3 hs hz hL | (rw [er0])⟩)))))))) | exact Or.inr (Or.inr (Or.inr (Or.inr (Or.inr (Or.inr (Or.inr (Or.inr (⟨by omega, by omega, rfl⟩))))))))
    · skip
      refine x_tin C 5 h17 dX11_told_17 (by constructor <;> decide) (by decide) (by decide) (off := 72) rfl (tgt := 89) (by decide) ?_
      refine x_aload_n C 3 dX11_told_89 rfl rfl ?_
      refine x_aload_n C 0 dX11_told_90 rfl rfl ?_
      refine x_getr C ok_Class 0 0 (d := 1) dX11_told_91 (lt67 hn rfl) rfl (by decide) rfl q_0_16 rfl (kz := 0) rfl (lr_0_0 hLR) ?_
      refine x_geti C ok_Yard 1 2 dX11_told_94 (lt67 hn rfl) rfl (by decide) rfl q_5_15 rfl (kz := 2) rfl (fun rg94 => ?_)
      refine x_runU (mc := 0) (ms := 0) (st := []) (post := (fun vv uu => vv = some (.int (iI (max 0 (min (lastC (V c 3) (V c 1) (V c 2) (V 1 2)) ((V 1 2) - V c 1))))) ∧ uu = (n, V, R))) ?_ (fun v97 u97 hp97 => ?_)
      · rcases (show V c 3 = 0 ∨ V c 3 = 1 ∨ V c 3 = 2 ∨ V c 3 = 3 ∨ V c 3 = 4 ∨ V c 3 = 5 ∨ V c 3 = 6 by omega) with e | e | e | e | e | e | e
        · exact XRun.mono (r_callF C c hcc htc (r := (RX1, TX1, 3)) (by rw [e]; rfl) (owner := "LogSawyer$Fault") ce_X0_slicesOf (m_X0_slicesOf G n V R (c) (V 1 2) hn hLR (by first | assumption | omega | decide) (by first | assumption | omega | decide) (by first | assumption | omega | decide) (by first | assumption | omega | decide) (by first | assumption | omega | decide) (by first | assumption | omega | decide)) rfl dX11_told_97 q_23_13 q_19_10 ⟨by decide, by decide⟩ (Or.inr ⟨_, _, _, q_19_13, q_19_12⟩) rfl q_19_11 q_19_12 rfl rfl ⟨Nat.le_of_ble_eq_true rfl, Nat.le_of_ble_eq_true rfl⟩ ⟨rfl, rfl⟩ ⟨Nat.le_of_ble_eq_true rfl, Nat.le_of_ble_eq_true rfl⟩ (Nat.le_of_ble_eq_true rfl)) (fun vv uu h => by first | exact h | (exact ⟨h.1.trans (by rw [e]; rfl), h.2⟩))
        · exact XRun.mono (r_callF C c hcc htc (r := (RX2, TX2, 3)) (by rw [e]; rfl) (owner := "LogSawyer$Fault") ce_X0_slicesOf (m_X0_slicesOf G n V R (c) (V 1 2) hn hLR (by first | assumption | omega | decide) (by first | assumption | omega | decide) (by first | assumption | omega | decide) (by first | assumption | omega | decide) (by first | assumption | omega | decide) (by first | assumption | omega | decide)) rfl dX11_told_97 q_23_13 q_19_10 ⟨by decide, by decide⟩ (Or.inr ⟨_, _, _, q_19_13, q_19_12⟩) rfl q_20_15 q_19_12 rfl rfl ⟨Nat.le_of_ble_eq_true rfl, Nat.le_of_ble_eq_true rfl⟩ ⟨rfl, rfl⟩ ⟨Nat.le_of_ble_eq_true rfl, Nat.le_of_ble_eq_true rfl⟩ (Nat.le_of_ble_eq_true rfl)) (fun vv uu h => by first | exact h | (exact ⟨h.1.trans (by rw [e]; rfl), h.2⟩))
        · exact XRun.mono (r_callF C c hcc htc (r := (RX8, TX8, 3)) (by rw [e]; rfl) (owner := "LogSawyer$Fault") ce_X0_slicesOf (m_X0_slicesOf G n V R (c) (V 1 2) hn hLR (by first | assumption | omega | decide) (by first | assumption | omega | decide) (by first | assumption | omega | decide) (by first | assumption | omega | decide) (by first | assumption | omega | decide) (by first | assumption | omega | decide)) rfl dX11_told_97 q_23_13 q_19_10 ⟨by decide, by decide⟩ (Or.inr ⟨_, _, _, q_19_13, q_19_12⟩) rfl q_20_19 q_19_12 rfl rfl ⟨Nat.le_of_ble_eq_true rfl, Nat.le_of_ble_eq_true rfl⟩ ⟨rfl, rfl⟩ ⟨Nat.le_of_ble_eq_true rfl, Nat.le_of_ble_eq_true rfl⟩ (Nat.le_of_ble_eq_true rfl)) (fun vv uu h => by first | exact h | (exact ⟨h.1.trans (by rw [e]; rfl), h.2⟩))
        · exact XRun.mono (r_callF C c hcc htc (r := (RX7, TX7, 3)) (by rw [e]; rfl) (owner := "LogSawyer$Fault") ce_X0_slicesOf (m_X0_slicesOf G n V R (c) (V 1 2) hn hLR (by first | assumption | omega | decide) (by first | assumption | omega | decide) (by first | assumption | omega | decide) (by first | assumption | omega | decide) (by first | assumption | omega | decide) (by first | assumption | omega | decide)) rfl dX11_told_97 q_23_13 q_19_10 ⟨by decide, by decide⟩ (Or.inr ⟨_, _, _, q_19_13, q_19_12⟩) rfl q_20_18 q_19_12 rfl rfl ⟨Nat.le_of_ble_eq_true rfl, Nat.le_of_ble_eq_true rfl⟩ ⟨rfl, rfl⟩ ⟨Nat.le_of_ble_eq_true rfl, Nat.le_of_ble_eq_true rfl⟩ (Nat.le_of_ble_eq_true rfl)) (fun vv uu h => by first | exact h | (exact ⟨h.1.trans (by rw [e]; rfl), h.2⟩))
        · exact XRun.mono (r_callF C c hcc htc (r := (RX4, TX4, 3)) (by rw [e]; rfl) (owner := "LogSawyer$Fault") ce_X0_slicesOf (m_X0_slicesOf G n V R (c) (V 1 2) hn hLR (by first | assumption | omega | decide) (by first | assumption | omega | decide) (by first | assumption | omega | decide) (by first | assumption | omega | decide) (by first | assumption | omega | decide) (by first | assumption | omega | decide)) rfl dX11_told_97 q_23_13 q_19_10 ⟨by decide, by decide⟩ (Or.inr ⟨_, _, _, q_19_13, q_19_12⟩) rfl q_20_16 q_19_12 rfl rfl ⟨Nat.le_of_ble_eq_true rfl, Nat.le_of_ble_eq_true rfl⟩ ⟨rfl, rfl⟩ ⟨Nat.le_of_ble_eq_true rfl, Nat.le_of_ble_eq_true rfl⟩ (Nat.le_of_ble_eq_true rfl)) (fun vv uu h => by first | exact h | (exact ⟨h.1.trans (by rw [e]; rfl), h.2⟩))
        · exact XRun.mono (r_callF C c hcc htc (r := (RX5, TX5, 3)) (by rw [e]; rfl) (owner := "LogSawyer$Fault") ce_X0_slicesOf (m_X0_slicesOf G n V R (c) (V 1 2) hn hLR (by first | assumption | omega | decide) (by first | assumption | omega | decide) (by first | assumption | omega | decide) (by first | assumption | omega | decide) (by first | assumption | omega | decide) (by first | assumption | omega | decide)) rfl dX11_told_97 q_23_13 q_19_10 ⟨by decide, by decide⟩ (Or.inr ⟨_, _, _, q_19_13, q_19_12⟩) rfl q_20_17 q_19_12 rfl rfl ⟨Nat.le_of_ble_eq_true rfl, Nat.le_of_ble_eq_true rfl⟩ ⟨rfl, rfl⟩ ⟨Nat.le_of_ble_eq_true rfl, Nat.le_of_ble_eq_true rfl⟩ (Nat.le_of_ble_eq_true rfl)) (fun vv uu h => by first | exact h | (exact ⟨h.1.trans (by rw [e]; rfl), h.2⟩))
        · exact XRun.mono (r_callF C c hcc htc (r := (RX9, TX9, 3)) (by rw [e]; rfl) (owner := "LogSawyer$Fault") ce_X0_slicesOf (m_X0_slicesOf G n V R (c) (V 1 2) hn hLR (by first | assumption | omega | decide) (by first | assumption | omega | decide) (by first | assumption | omega | decide) (by first | assumption | omega | decide) (by first | assumption | omega | decide) (by first | assumption | omega | decide)) rfl dX11_told_97 q_23_13 q_19_10 ⟨by decide, by decide⟩ (Or.inr ⟨_, _, _, q_19_13, q_19_12⟩) rfl q_20_20 q_19_12 rfl rfl ⟨Nat.le_of_ble_eq_true rfl, Nat.le_of_ble_eq_true rfl⟩ ⟨rfl, rfl⟩ ⟨Nat.le_of_ble_eq_true rfl, Nat.le_of_ble_eq_true rfl⟩ (Nat.le_of_ble_eq_true rfl)) (fun vv uu h => by first | exact h | (exact ⟨h.1.trans (by rw [e]; rfl), h.2⟩))
      obtain ⟨rfl, rfl⟩ := hp97
      show Xw K G 0 0 _ n V R 100 [(0, .ref (aG G 0)), (1, .int (iI f)), (2, .int (iI w)), (3, .ref (aG G c))] [.int (iI (max 0 (min (lastC (V c 3) (V c 1) (V c 2) (V 1 2)) ((V 1 2) - V c 1))))]
      refine x_iret C dX11_told_100 ⟨_, rfl, rfl, ?_⟩
      · first | exact Or.inl (⟨by omega, rfl⟩) | exact Or.inr (Or.inl (⟨by omega, by omega, by first | omega | exact told_4 er0 er1 er2 er3 | exact told_5 er0 er2 er3 hs hz hL | (rw [er0])⟩)) | exact Or.inr (Or.inr (Or.inl (⟨by omega, by omega, by first | omega | exact told_4 er0 er1 er2 er3 | exact told_5 er0 er2 er3 hs hz hL | (rw [er0])⟩))) | exact Or.inr (Or.inr (Or.inr (Or.inl (⟨by omega, by omega, by first | omega | exact told_4 er0 er1 er2 er3 | exact told_5 er0 er2 er3 hs hz hL | (rw [er0])⟩)))) | exact Or.inr (Or.inr (Or.inr (Or.inr (Or.inl (⟨by omega, by omega, by first | omega | exact told_4 er0 er1 er2 er3 | exact told_5 er0 er2 er3 hs hz hL | (rw [er0])⟩))))) | exact Or.inr (Or.inr (Or.inr (Or.inr (Or.inr (Or.inl (⟨by omega, by omega, by first | omega | exact told_4 er0 er1 er2 er3 | exact told_5 er0 er2 er3 hs hz hL | (rw [er0])⟩)))))) | exact Or.inr (Or.inr (Or.inr (Or.inr (Or.inr (Or.inr (Or.inl (⟨by omega, by omega, by first | omega | exact told_4 er0 er1 er2 er3 | exact told_5 er0 er2 er3 hs hz hL | (rw [er0])⟩))))))) | exact Or.inr (Or.inr (Or.inr (Or.inr (Or.inr (Or.inr (Or.inr (Or.inl (⟨by omega, by omega, by first | omega | exact told_4 er0 er1 er2 er3 | exact told_5 er0 er2 er3 hs hz hL | (rw [er0])⟩)))))))) | exact Or.inr (Or.inr (Or.inr (Or.inr (Or.inr (Or.inr (Or.inr (Or.inr (⟨by omega, by omega, rfl⟩))))))))
    · skip
      refine x_tin C 6 h17 dX11_told_17 (by constructor <;> decide) (by decide) (by decide) (off := 84) rfl (tgt := 101) (by decide) ?_
      refine x_aload_n C 3 dX11_told_101 rfl rfl ?_
      refine x_runU (mc := 0) (ms := 0) (st := []) (post := (fun vv uu => vv = some (.int (iI (hurtK (V c 3)))) ∧ uu = (n, V, R))) ?_ (fun v102 u102 hp102 => ?_)
      · rcases (show V c 3 = 0 ∨ V c 3 = 1 ∨ V c 3 = 2 ∨ V c 3 = 3 ∨ V c 3 = 4 ∨ V c 3 = 5 ∨ V c 3 = 6 by omega) with e | e | e | e | e | e | e
        · exact XRun.mono (r_callF C c hcc htc (r := (RX1, TX1, 3)) (by rw [e]; rfl) (owner := "LogSawyer$Fault") ce_X1_hurts (m_X1_hurts G n V R (c) hn hLR (by first | assumption | omega | decide) (by first | assumption | omega | decide)) rfl dX11_told_102 q_23_14 q_23_15 ⟨by decide, by decide⟩ (Or.inl (List.mem_of_getElem? (i := 15) rfl)) rfl q_23_16 q_23_17 rfl rfl ⟨Nat.le_of_ble_eq_true rfl, Nat.le_of_ble_eq_true rfl⟩ ⟨rfl, rfl⟩ ⟨Nat.le_of_ble_eq_true rfl, Nat.le_of_ble_eq_true rfl⟩ (Nat.le_of_ble_eq_true rfl)) (fun vv uu h => by first | exact h | (exact ⟨h.1.trans (by rw [e]; rfl), h.2⟩))
        · exact XRun.mono (r_callF C c hcc htc (r := (RX2, TX2, 3)) (by rw [e]; rfl) (owner := "LogSawyer$Fault") ce_X2_hurts (m_X2_hurts G n V R (c) hn hLR (by first | assumption | omega | decide) (by first | assumption | omega | decide) (by first | assumption | omega | decide)) rfl dX11_told_102 q_23_14 q_23_15 ⟨by decide, by decide⟩ (Or.inl (List.mem_of_getElem? (i := 15) rfl)) rfl q_23_19 q_23_20 rfl rfl ⟨Nat.le_of_ble_eq_true rfl, Nat.le_of_ble_eq_true rfl⟩ ⟨rfl, rfl⟩ ⟨Nat.le_of_ble_eq_true rfl, Nat.le_of_ble_eq_true rfl⟩ (Nat.le_of_ble_eq_true rfl)) (fun vv uu h => by first | exact h | (exact ⟨h.1.trans (by rw [e]; rfl), h.2⟩))
        · exact XRun.mono (r_callF C c hcc htc (r := (RX8, TX8, 3)) (by rw [e]; rfl) (owner := "LogSawyer$Fault") ce_X2_hurts (m_X2_hurts G n V R (c) hn hLR (by first | assumption | omega | decide) (by first | assumption | omega | decide) (by first | assumption | omega | decide)) rfl dX11_told_102 q_23_14 q_23_15 ⟨by decide, by decide⟩ (Or.inl (List.mem_of_getElem? (i := 15) rfl)) rfl q_24_12 q_23_20 rfl rfl ⟨Nat.le_of_ble_eq_true rfl, Nat.le_of_ble_eq_true rfl⟩ ⟨rfl, rfl⟩ ⟨Nat.le_of_ble_eq_true rfl, Nat.le_of_ble_eq_true rfl⟩ (Nat.le_of_ble_eq_true rfl)) (fun vv uu h => by first | exact h | (exact ⟨h.1.trans (by rw [e]; rfl), h.2⟩))
        · exact XRun.mono (r_callF C c hcc htc (r := (RX7, TX7, 3)) (by rw [e]; rfl) (owner := "LogSawyer$Fault") ce_X7_hurts (m_X7_hurts G n V R (c) hn hLR (by first | assumption | omega | decide) (by first | assumption | omega | decide)) rfl dX11_told_102 q_23_14 q_23_15 ⟨by decide, by decide⟩ (Or.inl (List.mem_of_getElem? (i := 15) rfl)) rfl q_24_11 q_24_6 rfl rfl ⟨Nat.le_of_ble_eq_true rfl, Nat.le_of_ble_eq_true rfl⟩ ⟨rfl, rfl⟩ ⟨Nat.le_of_ble_eq_true rfl, Nat.le_of_ble_eq_true rfl⟩ (Nat.le_of_ble_eq_true rfl)) (fun vv uu h => by first | exact h | (exact ⟨h.1.trans (by rw [e]; rfl), h.2⟩))
        · exact XRun.mono (r_callF C c hcc htc (r := (RX4, TX4, 3)) (by rw [e]; rfl) (owner := "LogSawyer$Fault") ce_X4_hurts (m_X4_hurts G n V R (c) hn hLR (by first | assumption | omega | decide) (by first | assumption | omega | decide) (by first | assumption | omega | decide)) rfl dX11_told_102 q_23_14 q_23_15 ⟨by decide, by decide⟩ (Or.inl (List.mem_of_getElem? (i := 15) rfl)) rfl q_24_0 q_24_1 rfl rfl ⟨Nat.le_of_ble_eq_true rfl, Nat.le_of_ble_eq_true rfl⟩ ⟨rfl, rfl⟩ ⟨Nat.le_of_ble_eq_true rfl, Nat.le_of_ble_eq_true rfl⟩ (Nat.le_of_ble_eq_true rfl)) (fun vv uu h => by first | exact h | (exact ⟨h.1.trans (by rw [e]; rfl), h.2⟩))
        · exact XRun.mono (r_callF C c hcc htc (r := (RX5, TX5, 3)) (by rw [e]; rfl) (owner := "LogSawyer$Fault") ce_X5_hurts (m_X5_hurts G n V R (c) hn hLR (by first | assumption | omega | decide) (by first | assumption | omega | decide)) rfl dX11_told_102 q_23_14 q_23_15 ⟨by decide, by decide⟩ (Or.inl (List.mem_of_getElem? (i := 15) rfl)) rfl q_24_8 q_24_9 rfl rfl ⟨Nat.le_of_ble_eq_true rfl, Nat.le_of_ble_eq_true rfl⟩ ⟨rfl, rfl⟩ ⟨Nat.le_of_ble_eq_true rfl, Nat.le_of_ble_eq_true rfl⟩ (Nat.le_of_ble_eq_true rfl)) (fun vv uu h => by first | exact h | (exact ⟨h.1.trans (by rw [e]; rfl), h.2⟩))
        · exact XRun.mono (r_callF C c hcc htc (r := (RX9, TX9, 3)) (by rw [e]; rfl) (owner := "LogSawyer$Fault") ce_X9_hurts (m_X9_hurts G n V R (c) hn hLR (by first | assumption | omega | decide) (by first | assumption | omega | decide)) rfl dX11_told_102 q_23_14 q_23_15 ⟨by decide, by decide⟩ (Or.inl (List.mem_of_getElem? (i := 15) rfl)) rfl q_24_13 q_24_14 rfl rfl ⟨Nat.le_of_ble_eq_true rfl, Nat.le_of_ble_eq_true rfl⟩ ⟨rfl, rfl⟩ ⟨Nat.le_of_ble_eq_true rfl, Nat.le_of_ble_eq_true rfl⟩ (Nat.le_of_ble_eq_true rfl)) (fun vv uu h => by first | exact h | (exact ⟨h.1.trans (by rw [e]; rfl), h.2⟩))
      obtain ⟨rfl, rfl⟩ := hp102
      show Xw K G 0 0 _ n V R 105 [(0, .ref (aG G 0)), (1, .int (iI f)), (2, .int (iI w)), (3, .ref (aG G c))] [.int (iI (hurtK (V c 3)))]
      refine x_iret C dX11_told_105 ⟨_, rfl, rfl, ?_⟩
      · first | exact Or.inl (⟨by omega, rfl⟩) | exact Or.inr (Or.inl (⟨by omega, by omega, by first | omega | exact told_4 er0 er1 er2 er3 | exact told_5 er0 er2 er3 hs hz hL | (rw [er0])⟩)) | exact Or.inr (Or.inr (Or.inl (⟨by omega, by omega, by first | omega | exact told_4 er0 er1 er2 er3 | exact told_5 er0 er2 er3 hs hz hL | (rw [er0])⟩))) | exact Or.inr (Or.inr (Or.inr (Or.inl (⟨by omega, by omega, by first | omega | exact told_4 er0 er1 er2 er3 | exact told_5 er0 er2 er3 hs hz hL | (rw [er0])⟩)))) | exact Or.inr (Or.inr (Or.inr (Or.inr (Or.inl (⟨by omega, by omega, by first | omega | exact told_4 er0 er1 er2 er3 | exact told_5 er0 er2 er3 hs hz hL | (rw [er0])⟩))))) | exact Or.inr (Or.inr (Or.inr (Or.inr (Or.inr (Or.inl (⟨by omega, by omega, by first | omega | exact told_4 er0 er1 er2 er3 | exact told_5 er0 er2 er3 hs hz hL | (rw [er0])⟩)))))) | exact Or.inr (Or.inr (Or.inr (Or.inr (Or.inr (Or.inr (Or.inl (⟨by omega, by omega, by first | omega | exact told_4 er0 er1 er2 er3 | exact told_5 er0 er2 er3 hs hz hL | (rw [er0])⟩))))))) | exact Or.inr (Or.inr (Or.inr (Or.inr (Or.inr (Or.inr (Or.inr (Or.inl (⟨by omega, by omega, by first | omega | exact told_4 er0 er1 er2 er3 | exact told_5 er0 er2 er3 hs hz hL | (rw [er0])⟩)))))))) | exact Or.inr (Or.inr (Or.inr (Or.inr (Or.inr (Or.inr (Or.inr (Or.inr (⟨by omega, by omega, rfl⟩))))))))
    · skip
      refine x_tout C dX11_told_17 (tgt := 106) (by decide) (by first | assumption | (constructor <;> omega)) h17 ?_
      refine x_bipush C dX11_told_106 (w := -2) (by decide) ?_
      refine x_iret C dX11_told_108 ⟨_, rfl, rfl, ?_⟩
      · first | exact Or.inl (⟨by omega, rfl⟩) | exact Or.inr (Or.inl (⟨by omega, by omega, by first | omega | exact told_4 er0 er1 er2 er3 | exact told_5 er0 er2 er3 hs hz hL | (rw [er0])⟩)) | exact Or.inr (Or.inr (Or.inl (⟨by omega, by omega, by first | omega | exact told_4 er0 er1 er2 er3 | exact told_5 er0 er2 er3 hs hz hL | (rw [er0])⟩))) | exact Or.inr (Or.inr (Or.inr (Or.inl (⟨by omega, by omega, by first | omega | exact told_4 er0 er1 er2 er3 | exact told_5 er0 er2 er3 hs hz hL | (rw [er0])⟩)))) | exact Or.inr (Or.inr (Or.inr (Or.inr (Or.inl (⟨by omega, by omega, by first | omega | exact told_4 er0 er1 er2 er3 | exact told_5 er0 er2 er3 hs hz hL | (rw [er0])⟩))))) | exact Or.inr (Or.inr (Or.inr (Or.inr (Or.inr (Or.inl (⟨by omega, by omega, by first | omega | exact told_4 er0 er1 er2 er3 | exact told_5 er0 er2 er3 hs hz hL | (rw [er0])⟩)))))) | exact Or.inr (Or.inr (Or.inr (Or.inr (Or.inr (Or.inr (Or.inl (⟨by omega, by omega, by first | omega | exact told_4 er0 er1 er2 er3 | exact told_5 er0 er2 er3 hs hz hL | (rw [er0])⟩))))))) | exact Or.inr (Or.inr (Or.inr (Or.inr (Or.inr (Or.inr (Or.inr (Or.inl (⟨by omega, by omega, by first | omega | exact told_4 er0 er1 er2 er3 | exact told_5 er0 er2 er3 hs hz hL | (rw [er0])⟩)))))))) | exact Or.inr (Or.inr (Or.inr (Or.inr (Or.inr (Or.inr (Or.inr (Or.inr (⟨by omega, by omega, rfl⟩))))))))
  · skip
    rw [cif_f hin]
    show Xw K G 0 0 _ n V R 8 [(0, .ref (aG G 0)), (1, .int (iI f)), (2, .int (iI w))] [.null]
    refine x_astore_nN C dX11_told_8 rfl (by decide) (lv' := [(0, .ref (aG G 0)), (1, .int (iI f)), (2, .int (iI w)), (3, .null)]) rfl ?_
    refine x_aload_nN C 3 dX11_told_9 rfl rfl ?_
    refine x_ifnonnullN C dX11_told_10 ?_
    refine x_bipush C dX11_told_13 (w := -2) (by decide) ?_
    refine x_iret C dX11_told_15 ⟨_, rfl, rfl, ?_⟩
    · first | exact Or.inl (⟨by omega, rfl⟩) | exact Or.inr (Or.inl (⟨by omega, by omega, by first | omega | exact told_4 er0 er1 er2 er3 | exact told_5 er0 er2 er3 hs hz hL | (rw [er0])⟩)) | exact Or.inr (Or.inr (Or.inl (⟨by omega, by omega, by first | omega | exact told_4 er0 er1 er2 er3 | exact told_5 er0 er2 er3 hs hz hL | (rw [er0])⟩))) | exact Or.inr (Or.inr (Or.inr (Or.inl (⟨by omega, by omega, by first | omega | exact told_4 er0 er1 er2 er3 | exact told_5 er0 er2 er3 hs hz hL | (rw [er0])⟩)))) | exact Or.inr (Or.inr (Or.inr (Or.inr (Or.inl (⟨by omega, by omega, by first | omega | exact told_4 er0 er1 er2 er3 | exact told_5 er0 er2 er3 hs hz hL | (rw [er0])⟩))))) | exact Or.inr (Or.inr (Or.inr (Or.inr (Or.inr (Or.inl (⟨by omega, by omega, by first | omega | exact told_4 er0 er1 er2 er3 | exact told_5 er0 er2 er3 hs hz hL | (rw [er0])⟩)))))) | exact Or.inr (Or.inr (Or.inr (Or.inr (Or.inr (Or.inr (Or.inl (⟨by omega, by omega, by first | omega | exact told_4 er0 er1 er2 er3 | exact told_5 er0 er2 er3 hs hz hL | (rw [er0])⟩))))))) | exact Or.inr (Or.inr (Or.inr (Or.inr (Or.inr (Or.inr (Or.inr (Or.inl (⟨by omega, by omega, by first | omega | exact told_4 er0 er1 er2 er3 | exact told_5 er0 er2 er3 hs hz hL | (rw [er0])⟩)))))))) | exact Or.inr (Or.inr (Or.inr (Or.inr (Or.inr (Or.inr (Or.inr (Or.inr (⟨by omega, by omega, rfl⟩))))))))
set_option maxRecDepth 100000 in
set_option maxHeartbeats 4000000 in
theorem m_X11_isUnder (G : GS) (n : Nat) (V : Nat → Int → Int) (R : Nat → Int → Option Nat) (c : Nat) (q : Int) (hn : 67 ≤ n) (hLR : LR R) (hc : c < n) (ht : tb c = (99, 0)) (hk : 0 ≤ V c 3 ∧ V c 3 ≤ 6) (hq : 0 ≤ q ∧ q ≤ 6) : Cn G yX11_isUnder cX11_isUnder 2 (some .boolean) (rmk 1 0 0 16) [.ref (aG G c), .int (iI q)] n V R 0 0 (fun vv uu => vv = some (.int (iI (bI (underP (V c 3) q)))) ∧ uu = (n, V, R)) := by
  refine Cn.of (by decide) (Nat.le_of_ble_eq_true rfl) (fun K C hct => ?_)
  show Xw K G 0 0 _ n V R 0 [(0, .ref (aG G c)), (1, .int (iI q))] []
  refine x_iload_n C 1 dX11_isUnder_0 rfl rfl ?_
  rcases (show q = 0 ∨ q = 1 ∨ q = 2 ∨ q = 3 ∨ q = 4 ∨ q = 5 ∨ (q < 0 ∨ 5 < q) by omega) with h1 | h1 | h1 | h1 | h1 | h1 | h1
  · skip
    refine x_tin C 0 h1 dX11_isUnder_1 (by constructor <;> decide) (by decide) (by decide) (off := 39) rfl (tgt := 40) (by decide) ?_
    refine x_aload_n C 0 dX11_isUnder_40 rfl rfl ?_
    rcases (show V c 3 = 0 ∨ V c 3 = 1 ∨ V c 3 = 2 ∨ V c 3 = 3 ∨ V c 3 = 4 ∨ V c 3 = 5 ∨ V c 3 = 6 by omega) with hk41 | hk41 | hk41 | hk41 | hk41 | hk41 | hk41
    · skip
      refine x_instY (r := (RX1, TX1, 3)) C c hc ht (by rw [hk41]; rfl) dX11_isUnder_41 q_26_6 (Or.inr rfl) ?_
      refine x_zret C (Or.inr rfl) dX11_isUnder_44 ⟨bI_rt (by unfold underP; omega), rfl⟩
    · skip
      refine x_instY (r := (RX2, TX2, 3)) C c hc ht (by rw [hk41]; rfl) dX11_isUnder_41 q_26_6 (Or.inl (List.mem_of_getElem? (i := 7) rfl)) ?_
      refine x_zret C (Or.inr rfl) dX11_isUnder_44 ⟨bI_rt (by unfold underP; omega), rfl⟩
    · skip
      refine x_instY (r := (RX8, TX8, 3)) C c hc ht (by rw [hk41]; rfl) dX11_isUnder_41 q_26_6 (Or.inl (List.mem_of_getElem? (i := 8) rfl)) ?_
      refine x_zret C (Or.inr rfl) dX11_isUnder_44 ⟨bI_rt (by unfold underP; omega), rfl⟩
    · skip
      refine x_instN (r := (RX7, TX7, 3)) C c hc ht (by rw [hk41]; rfl) dX11_isUnder_41 q_26_6 (by decide) ?_
      refine x_zret C (Or.inl rfl) dX11_isUnder_44 ⟨bI_rf (by unfold underP; omega), rfl⟩
    · skip
      refine x_instN (r := (RX4, TX4, 3)) C c hc ht (by rw [hk41]; rfl) dX11_isUnder_41 q_26_6 (by decide) ?_
      refine x_zret C (Or.inl rfl) dX11_isUnder_44 ⟨bI_rf (by unfold underP; omega), rfl⟩
    · skip
      refine x_instN (r := (RX5, TX5, 3)) C c hc ht (by rw [hk41]; rfl) dX11_isUnder_41 q_26_6 (by decide) ?_
      refine x_zret C (Or.inl rfl) dX11_isUnder_44 ⟨bI_rf (by unfold underP; omega), rfl⟩
    · skip
      refine x_instN (r := (RX9, TX9, 3)) C c hc ht (by rw [hk41]; rfl) dX11_isUnder_41 q_26_6 (by decide) ?_
      refine x_zret C (Or.inl rfl) dX11_isUnder_44 ⟨bI_rf (by unfold underP; omega), rfl⟩
  · skip
    refine x_tin C 1 h1 dX11_isUnder_1 (by constructor <;> decide) (by decide) (by decide) (off := 44) rfl (tgt := 45) (by decide) ?_
    refine x_aload_n C 0 dX11_isUnder_45 rfl rfl ?_
    rcases (show V c 3 = 0 ∨ V c 3 = 1 ∨ V c 3 = 2 ∨ V c 3 = 3 ∨ V c 3 = 4 ∨ V c 3 = 5 ∨ V c 3 = 6 by omega) with hk46 | hk46 | hk46 | hk46 | hk46 | hk46 | hk46
    · skip
      refine x_instN (r := (RX1, TX1, 3)) C c hc ht (by rw [hk46]; rfl) dX11_isUnder_46 q_26_7 (by decide) ?_
      refine x_zret C (Or.inl rfl) dX11_isUnder_49 ⟨bI_rf (by unfold underP; omega), rfl⟩
    · skip
      refine x_instY (r := (RX2, TX2, 3)) C c hc ht (by rw [hk46]; rfl) dX11_isUnder_46 q_26_7 (Or.inr rfl) ?_
      refine x_zret C (Or.inr rfl) dX11_isUnder_49 ⟨bI_rt (by unfold underP; omega), rfl⟩
    · skip
      refine x_instY (r := (RX8, TX8, 3)) C c hc ht (by rw [hk46]; rfl) dX11_isUnder_46 q_26_7 (Or.inl (List.mem_of_getElem? (i := 9) rfl)) ?_
      refine x_zret C (Or.inr rfl) dX11_isUnder_49 ⟨bI_rt (by unfold underP; omega), rfl⟩
    · skip
      refine x_instN (r := (RX7, TX7, 3)) C c hc ht (by rw [hk46]; rfl) dX11_isUnder_46 q_26_7 (by decide) ?_
      refine x_zret C (Or.inl rfl) dX11_isUnder_49 ⟨bI_rf (by unfold underP; omega), rfl⟩
    · skip
      refine x_instN (r := (RX4, TX4, 3)) C c hc ht (by rw [hk46]; rfl) dX11_isUnder_46 q_26_7 (by decide) ?_
      refine x_zret C (Or.inl rfl) dX11_isUnder_49 ⟨bI_rf (by unfold underP; omega), rfl⟩
    · skip
      refine x_instN (r := (RX5, TX5, 3)) C c hc ht (by rw [hk46]; rfl) dX11_isUnder_46 q_26_7 (by decide) ?_
      refine x_zret C (Or.inl rfl) dX11_isUnder_49 ⟨bI_rf (by unfold underP; omega), rfl⟩
    · skip
      refine x_instN (r := (RX9, TX9, 3)) C c hc ht (by rw [hk46]; rfl) dX11_isUnder_46 q_26_7 (by decide) ?_
      refine x_zret C (Or.inl rfl) dX11_isUnder_49 ⟨bI_rf (by unfold underP; omega), rfl⟩
  · skip
    refine x_tin C 2 h1 dX11_isUnder_1 (by constructor <;> decide) (by decide) (by decide) (off := 49) rfl (tgt := 50) (by decide) ?_
    refine x_aload_n C 0 dX11_isUnder_50 rfl rfl ?_
    rcases (show V c 3 = 0 ∨ V c 3 = 1 ∨ V c 3 = 2 ∨ V c 3 = 3 ∨ V c 3 = 4 ∨ V c 3 = 5 ∨ V c 3 = 6 by omega) with hk51 | hk51 | hk51 | hk51 | hk51 | hk51 | hk51
    · skip
      refine x_instN (r := (RX1, TX1, 3)) C c hc ht (by rw [hk51]; rfl) dX11_isUnder_51 q_26_8 (by decide) ?_
      refine x_zret C (Or.inl rfl) dX11_isUnder_54 ⟨bI_rf (by unfold underP; omega), rfl⟩
    · skip
      refine x_instN (r := (RX2, TX2, 3)) C c hc ht (by rw [hk51]; rfl) dX11_isUnder_51 q_26_8 (by decide) ?_
      refine x_zret C (Or.inl rfl) dX11_isUnder_54 ⟨bI_rf (by unfold underP; omega), rfl⟩
    · skip
      refine x_instY (r := (RX8, TX8, 3)) C c hc ht (by rw [hk51]; rfl) dX11_isUnder_51 q_26_8 (Or.inr rfl) ?_
      refine x_zret C (Or.inr rfl) dX11_isUnder_54 ⟨bI_rt (by unfold underP; omega), rfl⟩
    · skip
      refine x_instN (r := (RX7, TX7, 3)) C c hc ht (by rw [hk51]; rfl) dX11_isUnder_51 q_26_8 (by decide) ?_
      refine x_zret C (Or.inl rfl) dX11_isUnder_54 ⟨bI_rf (by unfold underP; omega), rfl⟩
    · skip
      refine x_instN (r := (RX4, TX4, 3)) C c hc ht (by rw [hk51]; rfl) dX11_isUnder_51 q_26_8 (by decide) ?_
      refine x_zret C (Or.inl rfl) dX11_isUnder_54 ⟨bI_rf (by unfold underP; omega), rfl⟩
    · skip
      refine x_instN (r := (RX5, TX5, 3)) C c hc ht (by rw [hk51]; rfl) dX11_isUnder_51 q_26_8 (by decide) ?_
      refine x_zret C (Or.inl rfl) dX11_isUnder_54 ⟨bI_rf (by unfold underP; omega), rfl⟩
    · skip
      refine x_instN (r := (RX9, TX9, 3)) C c hc ht (by rw [hk51]; rfl) dX11_isUnder_51 q_26_8 (by decide) ?_
      refine x_zret C (Or.inl rfl) dX11_isUnder_54 ⟨bI_rf (by unfold underP; omega), rfl⟩
  · skip
    refine x_tin C 3 h1 dX11_isUnder_1 (by constructor <;> decide) (by decide) (by decide) (off := 54) rfl (tgt := 55) (by decide) ?_
    refine x_aload_n C 0 dX11_isUnder_55 rfl rfl ?_
    rcases (show V c 3 = 0 ∨ V c 3 = 1 ∨ V c 3 = 2 ∨ V c 3 = 3 ∨ V c 3 = 4 ∨ V c 3 = 5 ∨ V c 3 = 6 by omega) with hk56 | hk56 | hk56 | hk56 | hk56 | hk56 | hk56
    · skip
      refine x_instN (r := (RX1, TX1, 3)) C c hc ht (by rw [hk56]; rfl) dX11_isUnder_56 q_26_9 (by decide) ?_
      refine x_zret C (Or.inl rfl) dX11_isUnder_59 ⟨bI_rf (by unfold underP; omega), rfl⟩
    · skip
      refine x_instN (r := (RX2, TX2, 3)) C c hc ht (by rw [hk56]; rfl) dX11_isUnder_56 q_26_9 (by decide) ?_
      refine x_zret C (Or.inl rfl) dX11_isUnder_59 ⟨bI_rf (by unfold underP; omega), rfl⟩
    · skip
      refine x_instN (r := (RX8, TX8, 3)) C c hc ht (by rw [hk56]; rfl) dX11_isUnder_56 q_26_9 (by decide) ?_
      refine x_zret C (Or.inl rfl) dX11_isUnder_59 ⟨bI_rf (by unfold underP; omega), rfl⟩
    · skip
      refine x_instY (r := (RX7, TX7, 3)) C c hc ht (by rw [hk56]; rfl) dX11_isUnder_56 q_26_9 (Or.inr rfl) ?_
      refine x_zret C (Or.inr rfl) dX11_isUnder_59 ⟨bI_rt (by unfold underP; omega), rfl⟩
    · skip
      refine x_instY (r := (RX4, TX4, 3)) C c hc ht (by rw [hk56]; rfl) dX11_isUnder_56 q_26_9 (Or.inl (List.mem_of_getElem? (i := 10) rfl)) ?_
      refine x_zret C (Or.inr rfl) dX11_isUnder_59 ⟨bI_rt (by unfold underP; omega), rfl⟩
    · skip
      refine x_instN (r := (RX5, TX5, 3)) C c hc ht (by rw [hk56]; rfl) dX11_isUnder_56 q_26_9 (by decide) ?_
      refine x_zret C (Or.inl rfl) dX11_isUnder_59 ⟨bI_rf (by unfold underP; omega), rfl⟩
    · skip
      refine x_instN (r := (RX9, TX9, 3)) C c hc ht (by rw [hk56]; rfl) dX11_isUnder_56 q_26_9 (by decide) ?_
      refine x_zret C (Or.inl rfl) dX11_isUnder_59 ⟨bI_rf (by unfold underP; omega), rfl⟩
  · skip
    refine x_tin C 4 h1 dX11_isUnder_1 (by constructor <;> decide) (by decide) (by decide) (off := 59) rfl (tgt := 60) (by decide) ?_
    refine x_aload_n C 0 dX11_isUnder_60 rfl rfl ?_
    rcases (show V c 3 = 0 ∨ V c 3 = 1 ∨ V c 3 = 2 ∨ V c 3 = 3 ∨ V c 3 = 4 ∨ V c 3 = 5 ∨ V c 3 = 6 by omega) with hk61 | hk61 | hk61 | hk61 | hk61 | hk61 | hk61
    · skip
      refine x_instN (r := (RX1, TX1, 3)) C c hc ht (by rw [hk61]; rfl) dX11_isUnder_61 q_26_10 (by decide) ?_
      refine x_zret C (Or.inl rfl) dX11_isUnder_64 ⟨bI_rf (by unfold underP; omega), rfl⟩
    · skip
      refine x_instN (r := (RX2, TX2, 3)) C c hc ht (by rw [hk61]; rfl) dX11_isUnder_61 q_26_10 (by decide) ?_
      refine x_zret C (Or.inl rfl) dX11_isUnder_64 ⟨bI_rf (by unfold underP; omega), rfl⟩
    · skip
      refine x_instN (r := (RX8, TX8, 3)) C c hc ht (by rw [hk61]; rfl) dX11_isUnder_61 q_26_10 (by decide) ?_
      refine x_zret C (Or.inl rfl) dX11_isUnder_64 ⟨bI_rf (by unfold underP; omega), rfl⟩
    · skip
      refine x_instN (r := (RX7, TX7, 3)) C c hc ht (by rw [hk61]; rfl) dX11_isUnder_61 q_26_10 (by decide) ?_
      refine x_zret C (Or.inl rfl) dX11_isUnder_64 ⟨bI_rf (by unfold underP; omega), rfl⟩
    · skip
      refine x_instY (r := (RX4, TX4, 3)) C c hc ht (by rw [hk61]; rfl) dX11_isUnder_61 q_26_10 (Or.inr rfl) ?_
      refine x_zret C (Or.inr rfl) dX11_isUnder_64 ⟨bI_rt (by unfold underP; omega), rfl⟩
    · skip
      refine x_instN (r := (RX5, TX5, 3)) C c hc ht (by rw [hk61]; rfl) dX11_isUnder_61 q_26_10 (by decide) ?_
      refine x_zret C (Or.inl rfl) dX11_isUnder_64 ⟨bI_rf (by unfold underP; omega), rfl⟩
    · skip
      refine x_instN (r := (RX9, TX9, 3)) C c hc ht (by rw [hk61]; rfl) dX11_isUnder_61 q_26_10 (by decide) ?_
      refine x_zret C (Or.inl rfl) dX11_isUnder_64 ⟨bI_rf (by unfold underP; omega), rfl⟩
  · skip
    refine x_tin C 5 h1 dX11_isUnder_1 (by constructor <;> decide) (by decide) (by decide) (off := 64) rfl (tgt := 65) (by decide) ?_
    refine x_aload_n C 0 dX11_isUnder_65 rfl rfl ?_
    rcases (show V c 3 = 0 ∨ V c 3 = 1 ∨ V c 3 = 2 ∨ V c 3 = 3 ∨ V c 3 = 4 ∨ V c 3 = 5 ∨ V c 3 = 6 by omega) with hk66 | hk66 | hk66 | hk66 | hk66 | hk66 | hk66
    · skip
      refine x_instN (r := (RX1, TX1, 3)) C c hc ht (by rw [hk66]; rfl) dX11_isUnder_66 q_26_11 (by decide) ?_
      refine x_zret C (Or.inl rfl) dX11_isUnder_69 ⟨bI_rf (by unfold underP; omega), rfl⟩
    · skip
      refine x_instN (r := (RX2, TX2, 3)) C c hc ht (by rw [hk66]; rfl) dX11_isUnder_66 q_26_11 (by decide) ?_
      refine x_zret C (Or.inl rfl) dX11_isUnder_69 ⟨bI_rf (by unfold underP; omega), rfl⟩
    · skip
      refine x_instN (r := (RX8, TX8, 3)) C c hc ht (by rw [hk66]; rfl) dX11_isUnder_66 q_26_11 (by decide) ?_
      refine x_zret C (Or.inl rfl) dX11_isUnder_69 ⟨bI_rf (by unfold underP; omega), rfl⟩
    · skip
      refine x_instN (r := (RX7, TX7, 3)) C c hc ht (by rw [hk66]; rfl) dX11_isUnder_66 q_26_11 (by decide) ?_
      refine x_zret C (Or.inl rfl) dX11_isUnder_69 ⟨bI_rf (by unfold underP; omega), rfl⟩
    · skip
      refine x_instN (r := (RX4, TX4, 3)) C c hc ht (by rw [hk66]; rfl) dX11_isUnder_66 q_26_11 (by decide) ?_
      refine x_zret C (Or.inl rfl) dX11_isUnder_69 ⟨bI_rf (by unfold underP; omega), rfl⟩
    · skip
      refine x_instY (r := (RX5, TX5, 3)) C c hc ht (by rw [hk66]; rfl) dX11_isUnder_66 q_26_11 (Or.inr rfl) ?_
      refine x_zret C (Or.inr rfl) dX11_isUnder_69 ⟨bI_rt (by unfold underP; omega), rfl⟩
    · skip
      refine x_instY (r := (RX9, TX9, 3)) C c hc ht (by rw [hk66]; rfl) dX11_isUnder_66 q_26_11 (Or.inl (List.mem_of_getElem? (i := 11) rfl)) ?_
      refine x_zret C (Or.inr rfl) dX11_isUnder_69 ⟨bI_rt (by unfold underP; omega), rfl⟩
  · skip
    refine x_tout C dX11_isUnder_1 (tgt := 70) (by decide) (by first | assumption | (constructor <;> omega)) h1 ?_
    refine x_aload_n C 0 dX11_isUnder_70 rfl rfl ?_
    rcases (show V c 3 = 0 ∨ V c 3 = 1 ∨ V c 3 = 2 ∨ V c 3 = 3 ∨ V c 3 = 4 ∨ V c 3 = 5 ∨ V c 3 = 6 by omega) with hk71 | hk71 | hk71 | hk71 | hk71 | hk71 | hk71
    · skip
      refine x_instN (r := (RX1, TX1, 3)) C c hc ht (by rw [hk71]; rfl) dX11_isUnder_71 q_26_12 (by decide) ?_
      refine x_zret C (Or.inl rfl) dX11_isUnder_74 ⟨bI_rf (by unfold underP; omega), rfl⟩
    · skip
      refine x_instN (r := (RX2, TX2, 3)) C c hc ht (by rw [hk71]; rfl) dX11_isUnder_71 q_26_12 (by decide) ?_
      refine x_zret C (Or.inl rfl) dX11_isUnder_74 ⟨bI_rf (by unfold underP; omega), rfl⟩
    · skip
      refine x_instN (r := (RX8, TX8, 3)) C c hc ht (by rw [hk71]; rfl) dX11_isUnder_71 q_26_12 (by decide) ?_
      refine x_zret C (Or.inl rfl) dX11_isUnder_74 ⟨bI_rf (by unfold underP; omega), rfl⟩
    · skip
      refine x_instN (r := (RX7, TX7, 3)) C c hc ht (by rw [hk71]; rfl) dX11_isUnder_71 q_26_12 (by decide) ?_
      refine x_zret C (Or.inl rfl) dX11_isUnder_74 ⟨bI_rf (by unfold underP; omega), rfl⟩
    · skip
      refine x_instN (r := (RX4, TX4, 3)) C c hc ht (by rw [hk71]; rfl) dX11_isUnder_71 q_26_12 (by decide) ?_
      refine x_zret C (Or.inl rfl) dX11_isUnder_74 ⟨bI_rf (by unfold underP; omega), rfl⟩
    · skip
      refine x_instN (r := (RX5, TX5, 3)) C c hc ht (by rw [hk71]; rfl) dX11_isUnder_71 q_26_12 (by decide) ?_
      refine x_zret C (Or.inl rfl) dX11_isUnder_74 ⟨bI_rf (by unfold underP; omega), rfl⟩
    · skip
      refine x_instY (r := (RX9, TX9, 3)) C c hc ht (by rw [hk71]; rfl) dX11_isUnder_71 q_26_12 (Or.inr rfl) ?_
      refine x_zret C (Or.inr rfl) dX11_isUnder_74 ⟨bI_rt (by unfold underP; omega), rfl⟩
set_option maxRecDepth 100000 in
set_option maxHeartbeats 4000000 in
theorem m_X11_taken (G : GS) (n : Nat) (V : Nat → Int → Int) (R : Nat → Int → Option Nat) (f : Int) (q : Int) (hn : 67 ≤ n) (hLR : LR R) (gf : Rg f) (gq : Rg q) (h5 : 0 ≤ V 1 5 ∧ V 1 5 ≤ 8) (hF : FsOk n V R 2 (V 1 5)) : Cn G yX11_taken cX11_taken 4 (some .int) (rmk 5 0 0 100) [.ref (aG G 0), .int (iI f), .int (iI q)] n V R 0 0 (fun vv uu => ∃ (r : Int), vv = some (.int (iI r)) ∧ uu = (n, V, R) ∧ (((¬ (0 ≤ f ∧ f ≤ V 1 5 - 1) ∨ ¬ (0 ≤ q ∧ q ≤ 6)) ∧ r = -2) ∨ (((0 ≤ f ∧ f ≤ V 1 5 - 1) ∧ (0 ≤ q ∧ q ≤ 6) ∧ ¬ underP (FR V R 2 f 0) q) ∧ r = -13) ∨ (((0 ≤ f ∧ f ≤ V 1 5 - 1) ∧ (0 ≤ q ∧ q ≤ 6) ∧ underP (FR V R 2 f 0) q) ∧ r = nIn (FR V R 2 f 0) (FR V R 2 f 1) (FR V R 2 f 3)))) := by
  refine Cn.of (by decide) (Nat.le_of_ble_eq_true rfl) (fun K C hct => ?_)
  show Xw K G 0 0 _ n V R 0 [(0, .ref (aG G 0)), (1, .int (iI f)), (2, .int (iI q))] []
  refine x_aload_n C 0 dX11_taken_0 rfl rfl ?_
  refine x_getr C ok_Class 0 0 (d := 1) dX11_taken_1 (lt67 hn rfl) rfl (by decide) rfl q_0_16 rfl (kz := 0) rfl (lr_0_0 hLR) ?_
  refine x_iload_n C 1 dX11_taken_4 rfl rfl ?_
  refine x_runU (r_callV C ok_Yard 1 (lt67 hn rfl) rfl (ce_X10_faultOf) (m_X10_faultOf G n V R (1) (f) hn hLR (by first | assumption | omega | decide) (by first | assumption | omega | decide) (by first | assumption | omega | decide)) rfl dX11_taken_5 q_17_6 q_17_7 q_17_8 rfl rfl ⟨Nat.le_of_ble_eq_true rfl, Nat.le_of_ble_eq_true rfl⟩ ⟨rfl, rfl⟩ ⟨Nat.le_of_ble_eq_true rfl, Nat.le_of_ble_eq_true rfl⟩ (Nat.le_of_ble_eq_true rfl)) (fun v5 u5 hp5 => ?_)
  obtain ⟨rfl, rfl⟩ := hp5
  show Xw K G 0 0 _ n V R 8 [(0, .ref (aG G 0)), (1, .int (iI f)), (2, .int (iI q))] [rv G.2.1 (cif (0 ≤ f ∧ f ≤ V 1 5 - 1) (R (1 + 1) f) none)]
  by_cases hin : 0 ≤ f ∧ f ≤ V 1 5 - 1
  · skip
    obtain ⟨c, hRc, hFc⟩ := hF f hin.1 (by omega)
    obtain ⟨f1, f2, hk7, ha, hs, hz⟩ := hFc
    have htc := tb_dyn f1
    have hcc := f2
    obtain ⟨er0, er1, er2, er3⟩ := FR_e (V := V) hRc
    rw [cif_t hin, hRc]
    show Xw K G 0 0 _ n V R 8 [(0, .ref (aG G 0)), (1, .int (iI f)), (2, .int (iI q))] [.ref (aG G c)]
    refine x_astore_n C dX11_taken_8 rfl (by decide) (lv' := [(0, .ref (aG G 0)), (1, .int (iI f)), (2, .int (iI q)), (3, .ref (aG G c))]) rfl ?_
    refine x_aload_n C 3 dX11_taken_9 rfl rfl ?_
    refine x_ifnull C dX11_taken_10 ?_
    refine x_iload_n C 2 dX11_taken_13 rfl rfl ?_
    refine x_iconst C dX11_taken_14 ?_
    refine x_bipush C dX11_taken_15 (w := 6) (by decide) ?_
    refine x_runU (r_callS C (ce_X11_within) (m_X11_within G n V R (q) (0) (6) (by first | assumption | omega | decide) (by first | assumption | omega | decide) (by first | assumption | omega | decide)) dX11_taken_17 q_5_4 q_5_5 rfl rfl ⟨Nat.le_of_ble_eq_true rfl, Nat.le_of_ble_eq_true rfl⟩ ⟨rfl, rfl⟩ ⟨Nat.le_of_ble_eq_true rfl, Nat.le_of_ble_eq_true rfl⟩ (Nat.le_of_ble_eq_true rfl)) (fun v17 u17 hp17 => ?_)
    obtain ⟨rfl, rfl⟩ := hp17
    show Xw K G 0 0 _ n V R 20 [(0, .ref (aG G 0)), (1, .int (iI f)), (2, .int (iI q)), (3, .ref (aG G c))] [.int (iI (bI (0 ≤ q ∧ q ≤ 6)))]
    refine x_ifne_b C dX11_taken_20 (tgt := 26) (by decide) (fun h20 => ?_) (fun h20 => ?_)
    · skip
      refine x_aload_n C 3 dX11_taken_26 rfl rfl ?_
      refine x_iload_n C 2 dX11_taken_27 rfl rfl ?_
      refine x_runU (r_callS C (ce_X11_isUnder) (m_X11_isUnder G n V R (c) (q) hn hLR (by first | assumption | omega | decide) (by first | assumption | omega | decide) (by first | assumption | omega | decide) (by first | assumption | omega | decide)) dX11_taken_28 q_26_3 q_26_4 rfl rfl ⟨Nat.le_of_ble_eq_true rfl, Nat.le_of_ble_eq_true rfl⟩ ⟨rfl, rfl⟩ ⟨Nat.le_of_ble_eq_true rfl, Nat.le_of_ble_eq_true rfl⟩ (Nat.le_of_ble_eq_true rfl)) (fun v28 u28 hp28 => ?_)
      obtain ⟨rfl, rfl⟩ := hp28
      show Xw K G 0 0 _ n V R 31 [(0, .ref (aG G 0)), (1, .int (iI f)), (2, .int (iI q)), (3, .ref (aG G c))] [.int (iI (bI (underP (V c 3) q)))]
      refine x_ifeq_b C dX11_taken_31 (tgt := 41) (by decide) (fun h31 => ?_) (fun h31 => ?_)
      · skip
        refine x_bipush C dX11_taken_41 (w := -13) (by decide) ?_
        refine x_iret C dX11_taken_43 ⟨_, rfl, rfl, ?_⟩
        · first | exact Or.inl ⟨by omega, rfl⟩ | exact Or.inr (Or.inl ⟨⟨hin, by omega, by rw [er0]; assumption⟩, rfl⟩) | exact Or.inr (Or.inr ⟨⟨hin, by omega, by rw [er0]; assumption⟩, by rw [er0, er1, er3]⟩)
      · skip
        refine x_aload_n C 3 dX11_taken_34 rfl rfl ?_
        refine x_runU (mc := 0) (ms := 0) (st := []) (post := (fun vv uu => vv = some (.int (iI (nIn (V c 3) (V c 0) (V c 2)))) ∧ uu = (n, V, R))) ?_ (fun v35 u35 hp35 => ?_)
        · rcases (show V c 3 = 0 ∨ V c 3 = 1 ∨ V c 3 = 2 ∨ V c 3 = 3 ∨ V c 3 = 4 ∨ V c 3 = 5 ∨ V c 3 = 6 by omega) with e | e | e | e | e | e | e
          · exact XRun.mono (r_callF C c hcc htc (r := (RX1, TX1, 3)) (by rw [e]; rfl) (owner := "LogSawyer$Fault") ce_X0_cellsOfSlice (m_X0_cellsOfSlice G n V R (c) hn hLR (by first | assumption | omega | decide) (by first | assumption | omega | decide) (by first | assumption | omega | decide) (by first | assumption | omega | decide) (by first | assumption | omega | decide)) rfl dX11_taken_35 q_26_13 q_26_14 ⟨by decide, by decide⟩ (Or.inr ⟨_, _, _, q_26_17, q_26_16⟩) rfl q_26_15 q_26_16 rfl rfl ⟨Nat.le_of_ble_eq_true rfl, Nat.le_of_ble_eq_true rfl⟩ ⟨rfl, rfl⟩ ⟨Nat.le_of_ble_eq_true rfl, Nat.le_of_ble_eq_true rfl⟩ (Nat.le_of_ble_eq_true rfl)) (fun vv uu h => by first | exact h | (exact ⟨h.1.trans (by rw [e]; rfl), h.2⟩))
          · exact XRun.mono (r_callF C c hcc htc (r := (RX2, TX2, 3)) (by rw [e]; rfl) (owner := "LogSawyer$Fault") ce_X0_cellsOfSlice (m_X0_cellsOfSlice G n V R (c) hn hLR (by first | assumption | omega | decide) (by first | assumption | omega | decide) (by first | assumption | omega | decide) (by first | assumption | omega | decide) (by first | assumption | omega | decide)) rfl dX11_taken_35 q_26_13 q_26_14 ⟨by decide, by decide⟩ (Or.inr ⟨_, _, _, q_26_17, q_26_16⟩) rfl q_26_19 q_26_16 rfl rfl ⟨Nat.le_of_ble_eq_true rfl, Nat.le_of_ble_eq_true rfl⟩ ⟨rfl, rfl⟩ ⟨Nat.le_of_ble_eq_true rfl, Nat.le_of_ble_eq_true rfl⟩ (Nat.le_of_ble_eq_true rfl)) (fun vv uu h => by first | exact h | (exact ⟨h.1.trans (by rw [e]; rfl), h.2⟩))
          · exact XRun.mono (r_callF C c hcc htc (r := (RX8, TX8, 3)) (by rw [e]; rfl) (owner := "LogSawyer$Fault") ce_X0_cellsOfSlice (m_X0_cellsOfSlice G n V R (c) hn hLR (by first | assumption | omega | decide) (by first | assumption | omega | decide) (by first | assumption | omega | decide) (by first | assumption | omega | decide) (by first | assumption | omega | decide)) rfl dX11_taken_35 q_26_13 q_26_14 ⟨by decide, by decide⟩ (Or.inr ⟨_, _, _, q_26_17, q_26_16⟩) rfl q_26_23 q_26_16 rfl rfl ⟨Nat.le_of_ble_eq_true rfl, Nat.le_of_ble_eq_true rfl⟩ ⟨rfl, rfl⟩ ⟨Nat.le_of_ble_eq_true rfl, Nat.le_of_ble_eq_true rfl⟩ (Nat.le_of_ble_eq_true rfl)) (fun vv uu h => by first | exact h | (exact ⟨h.1.trans (by rw [e]; rfl), h.2⟩))
          · exact XRun.mono (r_callF C c hcc htc (r := (RX7, TX7, 3)) (by rw [e]; rfl) (owner := "LogSawyer$Fault") ce_X0_cellsOfSlice (m_X0_cellsOfSlice G n V R (c) hn hLR (by first | assumption | omega | decide) (by first | assumption | omega | decide) (by first | assumption | omega | decide) (by first | assumption | omega | decide) (by first | assumption | omega | decide)) rfl dX11_taken_35 q_26_13 q_26_14 ⟨by decide, by decide⟩ (Or.inr ⟨_, _, _, q_26_17, q_26_16⟩) rfl q_26_22 q_26_16 rfl rfl ⟨Nat.le_of_ble_eq_true rfl, Nat.le_of_ble_eq_true rfl⟩ ⟨rfl, rfl⟩ ⟨Nat.le_of_ble_eq_true rfl, Nat.le_of_ble_eq_true rfl⟩ (Nat.le_of_ble_eq_true rfl)) (fun vv uu h => by first | exact h | (exact ⟨h.1.trans (by rw [e]; rfl), h.2⟩))
          · exact XRun.mono (r_callF C c hcc htc (r := (RX4, TX4, 3)) (by rw [e]; rfl) (owner := "LogSawyer$Fault") ce_X0_cellsOfSlice (m_X0_cellsOfSlice G n V R (c) hn hLR (by first | assumption | omega | decide) (by first | assumption | omega | decide) (by first | assumption | omega | decide) (by first | assumption | omega | decide) (by first | assumption | omega | decide)) rfl dX11_taken_35 q_26_13 q_26_14 ⟨by decide, by decide⟩ (Or.inr ⟨_, _, _, q_26_17, q_26_16⟩) rfl q_26_20 q_26_16 rfl rfl ⟨Nat.le_of_ble_eq_true rfl, Nat.le_of_ble_eq_true rfl⟩ ⟨rfl, rfl⟩ ⟨Nat.le_of_ble_eq_true rfl, Nat.le_of_ble_eq_true rfl⟩ (Nat.le_of_ble_eq_true rfl)) (fun vv uu h => by first | exact h | (exact ⟨h.1.trans (by rw [e]; rfl), h.2⟩))
          · exact XRun.mono (r_callF C c hcc htc (r := (RX5, TX5, 3)) (by rw [e]; rfl) (owner := "LogSawyer$Fault") ce_X0_cellsOfSlice (m_X0_cellsOfSlice G n V R (c) hn hLR (by first | assumption | omega | decide) (by first | assumption | omega | decide) (by first | assumption | omega | decide) (by first | assumption | omega | decide) (by first | assumption | omega | decide)) rfl dX11_taken_35 q_26_13 q_26_14 ⟨by decide, by decide⟩ (Or.inr ⟨_, _, _, q_26_17, q_26_16⟩) rfl q_26_21 q_26_16 rfl rfl ⟨Nat.le_of_ble_eq_true rfl, Nat.le_of_ble_eq_true rfl⟩ ⟨rfl, rfl⟩ ⟨Nat.le_of_ble_eq_true rfl, Nat.le_of_ble_eq_true rfl⟩ (Nat.le_of_ble_eq_true rfl)) (fun vv uu h => by first | exact h | (exact ⟨h.1.trans (by rw [e]; rfl), h.2⟩))
          · exact XRun.mono (r_callF C c hcc htc (r := (RX9, TX9, 3)) (by rw [e]; rfl) (owner := "LogSawyer$Fault") ce_X0_cellsOfSlice (m_X0_cellsOfSlice G n V R (c) hn hLR (by first | assumption | omega | decide) (by first | assumption | omega | decide) (by first | assumption | omega | decide) (by first | assumption | omega | decide) (by first | assumption | omega | decide)) rfl dX11_taken_35 q_26_13 q_26_14 ⟨by decide, by decide⟩ (Or.inr ⟨_, _, _, q_26_17, q_26_16⟩) rfl q_27_0 q_26_16 rfl rfl ⟨Nat.le_of_ble_eq_true rfl, Nat.le_of_ble_eq_true rfl⟩ ⟨rfl, rfl⟩ ⟨Nat.le_of_ble_eq_true rfl, Nat.le_of_ble_eq_true rfl⟩ (Nat.le_of_ble_eq_true rfl)) (fun vv uu h => by first | exact h | (exact ⟨h.1.trans (by rw [e]; rfl), h.2⟩))
        obtain ⟨rfl, rfl⟩ := hp35
        show Xw K G 0 0 _ n V R 38 [(0, .ref (aG G 0)), (1, .int (iI f)), (2, .int (iI q)), (3, .ref (aG G c))] [.int (iI (nIn (V c 3) (V c 0) (V c 2)))]
        refine x_goto C dX11_taken_38 (tgt := 43) (by decide) ?_
        refine x_iret C dX11_taken_43 ⟨_, rfl, rfl, ?_⟩
        · first | exact Or.inl ⟨by omega, rfl⟩ | exact Or.inr (Or.inl ⟨⟨hin, by omega, by rw [er0]; assumption⟩, rfl⟩) | exact Or.inr (Or.inr ⟨⟨hin, by omega, by rw [er0]; assumption⟩, by rw [er0, er1, er3]⟩)
    · skip
      refine x_bipush C dX11_taken_23 (w := -2) (by decide) ?_
      refine x_iret C dX11_taken_25 ⟨_, rfl, rfl, ?_⟩
      · first | exact Or.inl ⟨by omega, rfl⟩ | exact Or.inr (Or.inl ⟨⟨hin, by omega, by rw [er0]; assumption⟩, rfl⟩) | exact Or.inr (Or.inr ⟨⟨hin, by omega, by rw [er0]; assumption⟩, by rw [er0, er1, er3]⟩)
  · skip
    rw [cif_f hin]
    show Xw K G 0 0 _ n V R 8 [(0, .ref (aG G 0)), (1, .int (iI f)), (2, .int (iI q))] [.null]
    refine x_astore_nN C dX11_taken_8 rfl (by decide) (lv' := [(0, .ref (aG G 0)), (1, .int (iI f)), (2, .int (iI q)), (3, .null)]) rfl ?_
    refine x_aload_nN C 3 dX11_taken_9 rfl rfl ?_
    refine x_ifnullN C dX11_taken_10 (tgt := 23) (by decide) ?_
    refine x_bipush C dX11_taken_23 (w := -2) (by decide) ?_
    refine x_iret C dX11_taken_25 ⟨_, rfl, rfl, ?_⟩
    · first | exact Or.inl ⟨by omega, rfl⟩ | exact Or.inr (Or.inl ⟨⟨hin, by omega, by rw [er0]; assumption⟩, rfl⟩) | exact Or.inr (Or.inr ⟨⟨hin, by omega, by rw [er0]; assumption⟩, by rw [er0, er1, er3]⟩)
