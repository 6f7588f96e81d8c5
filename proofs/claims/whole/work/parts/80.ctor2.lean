
set_option maxRecDepth 100000 in
set_option maxHeartbeats 4000000 in
theorem m_piece18 (G : GS) (n : Nat) (V : Nat → Int → Int) (R : Nat → Int → Option Nat) (hn0 : n = 19) (hV0 : ∀ z, V 18 z = 0) : Cn G yX3_init cX3_init 1 none (rmk 1 0 0 16) [.ref (aG G 18)] n V R 0 0 (fun vv uu => ∃ (V1 : Nat → Int → Int), ∃ (R1 : Nat → Int → Option Nat), vv = none ∧ uu = (19, V1, R1) ∧ ((∀ c, c < 18 → V1 c = V c)) ∧ ((∀ c, c < 18 → R1 c = R c)) ∧ ((∀ (c : Nat) (z : Int), 18 ≤ c → c < 19 → (tb c).1 ≠ 23 → (tb c).1 ≠ 24 → V1 c z = iniV c z))) := by
  subst hn0
  refine Cn.of (by decide) (Nat.le_of_ble_eq_true rfl) (fun K C hct => ?_)
  show Xw K G 0 0 _ 19 V R 0 [(0, .ref (aG G 18))] []
  refine x_aload_n C 0 dX3_init_0 rfl rfl ?_
  refine x_oinit C dX3_init_1 q_3_7 q_0_11 q_0_12 ⟨Nat.le_of_ble_eq_true rfl, Nat.le_of_ble_eq_true rfl⟩ ?_
  refine x_aload_n C 0 dX3_init_4 rfl rfl ?_
  refine x_iconst C dX3_init_5 ?_
  refine x_puti C ok_Piece 18 0 dX3_init_6 (by omega) rfl (by decide) rfl q_3_8 rfl rfl (Or.inl rfl) (by first | assumption | (constructor <;> omega)) (kz := 0) rfl ?_
  refine x_aload_n C 0 dX3_init_9 rfl rfl ?_
  refine x_iconst C dX3_init_10 ?_
  refine x_puti C ok_Piece 18 1 dX3_init_11 (by omega) rfl (by decide) rfl q_3_9 rfl rfl (Or.inl rfl) (by first | assumption | (constructor <;> omega)) (kz := 1) rfl ?_
  refine x_aload_n C 0 dX3_init_14 rfl rfl ?_
  refine x_iconst C dX3_init_15 ?_
  refine x_puti C ok_Piece 18 2 dX3_init_16 (by omega) rfl (by decide) rfl q_3_10 rfl rfl (Or.inl rfl) (by first | assumption | (constructor <;> omega)) (kz := 2) rfl ?_
  refine x_aload_n C 0 dX3_init_19 rfl rfl ?_
  refine x_iconst C dX3_init_20 ?_
  refine x_puti C ok_Piece 18 3 dX3_init_21 (by omega) rfl (by decide) rfl q_3_11 rfl rfl (Or.inl rfl) (by first | assumption | (constructor <;> omega)) (kz := 3) rfl ?_
  refine x_aload_n C 0 dX3_init_24 rfl rfl ?_
  refine x_iconst C dX3_init_25 ?_
  refine x_puti C ok_Piece 18 4 dX3_init_26 (by omega) rfl (by decide) rfl q_3_12 rfl rfl (Or.inl rfl) (by first | assumption | (constructor <;> omega)) (kz := 4) rfl ?_
  refine x_aload_n C 0 dX3_init_29 rfl rfl ?_
  refine x_iconst C dX3_init_30 ?_
  refine x_puti C ok_Piece 18 5 dX3_init_31 (by omega) rfl (by decide) rfl q_3_13 rfl rfl (Or.inl rfl) (by first | assumption | (constructor <;> omega)) (kz := 5) rfl ?_
  refine x_aload_n C 0 dX3_init_34 rfl rfl ?_
  refine x_iconst C dX3_init_35 ?_
  refine x_puti C ok_Piece 18 6 dX3_init_36 (by omega) rfl (by decide) rfl q_3_14 rfl rfl (Or.inl rfl) (by first | assumption | (constructor <;> omega)) (kz := 6) rfl ?_
  refine x_aload_n C 0 dX3_init_39 rfl rfl ?_
  refine x_iconst C dX3_init_40 ?_
  refine x_puti C ok_Piece 18 7 dX3_init_41 (by omega) rfl (by decide) rfl q_3_15 rfl rfl (Or.inl rfl) (by first | assumption | (constructor <;> omega)) (kz := 7) rfl ?_
  refine x_aload_n C 0 dX3_init_44 rfl rfl ?_
  refine x_iconst C dX3_init_45 ?_
  refine x_puti C ok_Piece 18 8 dX3_init_46 (by omega) rfl (by decide) rfl q_3_16 rfl rfl (Or.inl rfl) (by first | assumption | (constructor <;> omega)) (kz := 8) rfl ?_
  refine x_vret C dX3_init_49 ⟨_, _, rfl, rfl, ?_, ?_, ?_⟩
  · intro c hc; repeat (first | rw [u2_n (by omega)] | rw [uC_n (by omega)] | rw [mV_n (by omega)])
  · intro c hc; (repeat (first | rw [u2_n (by omega)] | rw [uC_n (by omega)])) <;> rfl
  · intro c z ha hb h3 h4; obtain rfl : c = 18 := (by omega); all_goals first | exact absurd rfl h3 | exact absurd rfl h4 | (simp [u2, u1, uC, mV, iniV, hV0]; done)
set_option maxRecDepth 100000 in
set_option maxHeartbeats 4000000 in
theorem m_piece30 (G : GS) (n : Nat) (V : Nat → Int → Int) (R : Nat → Int → Option Nat) (hn0 : n = 31) (hV0 : ∀ z, V 30 z = 0) : Cn G yX3_init cX3_init 1 none (rmk 1 0 0 16) [.ref (aG G 30)] n V R 0 0 (fun vv uu => ∃ (V1 : Nat → Int → Int), ∃ (R1 : Nat → Int → Option Nat), vv = none ∧ uu = (31, V1, R1) ∧ ((∀ c, c < 30 → V1 c = V c)) ∧ ((∀ c, c < 30 → R1 c = R c)) ∧ ((∀ (c : Nat) (z : Int), 30 ≤ c → c < 31 → (tb c).1 ≠ 23 → (tb c).1 ≠ 24 → V1 c z = iniV c z))) := by
  subst hn0
  refine Cn.of (by decide) (Nat.le_of_ble_eq_true rfl) (fun K C hct => ?_)
  show Xw K G 0 0 _ 31 V R 0 [(0, .ref (aG G 30))] []
  refine x_aload_n C 0 dX3_init_0 rfl rfl ?_
  refine x_oinit C dX3_init_1 q_3_7 q_0_11 q_0_12 ⟨Nat.le_of_ble_eq_true rfl, Nat.le_of_ble_eq_true rfl⟩ ?_
  refine x_aload_n C 0 dX3_init_4 rfl rfl ?_
  refine x_iconst C dX3_init_5 ?_
  refine x_puti C ok_Piece 30 0 dX3_init_6 (by omega) rfl (by decide) rfl q_3_8 rfl rfl (Or.inl rfl) (by first | assumption | (constructor <;> omega)) (kz := 0) rfl ?_
  refine x_aload_n C 0 dX3_init_9 rfl rfl ?_
  refine x_iconst C dX3_init_10 ?_
  refine x_puti C ok_Piece 30 1 dX3_init_11 (by omega) rfl (by decide) rfl q_3_9 rfl rfl (Or.inl rfl) (by first | assumption | (constructor <;> omega)) (kz := 1) rfl ?_
  refine x_aload_n C 0 dX3_init_14 rfl rfl ?_
  refine x_iconst C dX3_init_15 ?_
  refine x_puti C ok_Piece 30 2 dX3_init_16 (by omega) rfl (by decide) rfl q_3_10 rfl rfl (Or.inl rfl) (by first | assumption | (constructor <;> omega)) (kz := 2) rfl ?_
  refine x_aload_n C 0 dX3_init_19 rfl rfl ?_
  refine x_iconst C dX3_init_20 ?_
  refine x_puti C ok_Piece 30 3 dX3_init_21 (by omega) rfl (by decide) rfl q_3_11 rfl rfl (Or.inl rfl) (by first | assumption | (constructor <;> omega)) (kz := 3) rfl ?_
  refine x_aload_n C 0 dX3_init_24 rfl rfl ?_
  refine x_iconst C dX3_init_25 ?_
  refine x_puti C ok_Piece 30 4 dX3_init_26 (by omega) rfl (by decide) rfl q_3_12 rfl rfl (Or.inl rfl) (by first | assumption | (constructor <;> omega)) (kz := 4) rfl ?_
  refine x_aload_n C 0 dX3_init_29 rfl rfl ?_
  refine x_iconst C dX3_init_30 ?_
  refine x_puti C ok_Piece 30 5 dX3_init_31 (by omega) rfl (by decide) rfl q_3_13 rfl rfl (Or.inl rfl) (by first | assumption | (constructor <;> omega)) (kz := 5) rfl ?_
  refine x_aload_n C 0 dX3_init_34 rfl rfl ?_
  refine x_iconst C dX3_init_35 ?_
  refine x_puti C ok_Piece 30 6 dX3_init_36 (by omega) rfl (by decide) rfl q_3_14 rfl rfl (Or.inl rfl) (by first | assumption | (constructor <;> omega)) (kz := 6) rfl ?_
  refine x_aload_n C 0 dX3_init_39 rfl rfl ?_
  refine x_iconst C dX3_init_40 ?_
  refine x_puti C ok_Piece 30 7 dX3_init_41 (by omega) rfl (by decide) rfl q_3_15 rfl rfl (Or.inl rfl) (by first | assumption | (constructor <;> omega)) (kz := 7) rfl ?_
  refine x_aload_n C 0 dX3_init_44 rfl rfl ?_
  refine x_iconst C dX3_init_45 ?_
  refine x_puti C ok_Piece 30 8 dX3_init_46 (by omega) rfl (by decide) rfl q_3_16 rfl rfl (Or.inl rfl) (by first | assumption | (constructor <;> omega)) (kz := 8) rfl ?_
  refine x_vret C dX3_init_49 ⟨_, _, rfl, rfl, ?_, ?_, ?_⟩
  · intro c hc; repeat (first | rw [u2_n (by omega)] | rw [uC_n (by omega)] | rw [mV_n (by omega)])
  · intro c hc; (repeat (first | rw [u2_n (by omega)] | rw [uC_n (by omega)])) <;> rfl
  · intro c z ha hb h3 h4; obtain rfl : c = 30 := (by omega); all_goals first | exact absurd rfl h3 | exact absurd rfl h4 | (simp [u2, u1, uC, mV, iniV, hV0]; done)
set_option maxRecDepth 100000 in
set_option maxHeartbeats 4000000 in
theorem m_yard1 (G : GS) (n : Nat) (V : Nat → Int → Int) (R : Nat → Int → Option Nat) (hn0 : n = 2) (hV0 : ∀ z, V 1 z = 0) : Cn G yX10_init cX10_init 1 none (rmk 1 4 103 64) [.ref (aG G 1)] n V R 4 103 (fun vv uu => ∃ (V1 : Nat → Int → Int), ∃ (R1 : Nat → Int → Option Nat), vv = none ∧ uu = (6, V1, R1) ∧ ((∀ c, c < 1 → V1 c = V c)) ∧ ((∀ c, c < 1 → R1 c = R c)) ∧ ((∀ (c : Nat) (z : Int), 1 ≤ c → c < 6 → (tb c).1 ≠ 23 → (tb c).1 ≠ 24 → V1 c z = iniV c z)) ∧ (R1 1 4 = some 2 ∧ R1 1 6 = some 3 ∧ R1 1 7 = some 4 ∧ R1 1 9 = some 5) ∧ ((∀ z : Int, R1 2 z = none))) := by
  subst hn0
  refine Cn.of (by decide) (Nat.le_of_ble_eq_true rfl) (fun K C hct => ?_)
  show Xw K G 0 0 _ 2 V R 0 [(0, .ref (aG G 1))] []
  refine x_aload_n C 0 dX10_init_0 rfl rfl ?_
  refine x_oinit C dX10_init_1 q_1_14 q_0_11 q_0_12 ⟨Nat.le_of_ble_eq_true rfl, Nat.le_of_ble_eq_true rfl⟩ ?_
  refine x_aload_n C 0 dX10_init_4 rfl rfl ?_
  refine x_iconst C dX10_init_5 ?_
  refine x_puti C ok_Yard 1 0 dX10_init_6 (by omega) rfl (by decide) rfl q_1_15 rfl rfl (Or.inl rfl) (by first | assumption | (constructor <;> omega)) (kz := 0) rfl ?_
  refine x_aload_n C 0 dX10_init_9 rfl rfl ?_
  refine x_iconst C dX10_init_10 ?_
  refine x_puti C ok_Yard 1 1 dX10_init_11 (by omega) rfl (by decide) rfl q_1_16 rfl rfl (Or.inl rfl) (by first | assumption | (constructor <;> omega)) (kz := 1) rfl ?_
  refine x_aload_n C 0 dX10_init_14 rfl rfl ?_
  refine x_iconst C dX10_init_15 ?_
  refine x_puti C ok_Yard 1 2 dX10_init_16 (by omega) rfl (by decide) rfl q_1_17 rfl rfl (Or.inl rfl) (by first | assumption | (constructor <;> omega)) (kz := 2) rfl ?_
  refine x_aload_n C 0 dX10_init_19 rfl rfl ?_
  refine x_iconst C dX10_init_20 ?_
  refine x_puti C ok_Yard 1 3 dX10_init_21 (by omega) rfl (by decide) rfl q_1_18 rfl rfl (Or.inl rfl) (by first | assumption | (constructor <;> omega)) (kz := 3) rfl ?_
  refine x_aload_n C 0 dX10_init_24 rfl rfl ?_
  refine x_bipush C dX10_init_25 (w := 8) (by decide) ?_
  refine x_newR C (z := 8) rfl dX10_init_27 rfl q_1_19 (Nat.le_of_ble_eq_true rfl) (Nat.le_of_ble_eq_true rfl) ?_
  refine x_putr C (hct rfl) ok_Yard 1 4 (d := 2) dX10_init_30 (by omega) rfl (by decide) rfl q_1_20 rfl rfl (fun _ => ⟨rfl, rfl⟩) (kz := 4) rfl ?_
  refine x_aload_n C 0 dX10_init_33 rfl rfl ?_
  refine x_iconst C dX10_init_34 ?_
  refine x_puti C ok_Yard 1 5 dX10_init_35 (by omega) rfl (by decide) rfl q_1_21 rfl rfl (Or.inl rfl) (by first | assumption | (constructor <;> omega)) (kz := 5) rfl ?_
  refine x_aload_n C 0 dX10_init_38 rfl rfl ?_
  refine x_bipush C dX10_init_39 (w := 7) (by decide) ?_
  refine x_newI C (z := 7) (N := 7) rfl (by decide) dX10_init_41 rfl q_1_2 (Nat.le_of_ble_eq_true rfl) (Nat.le_of_ble_eq_true rfl) ?_
  refine x_putr C (hct rfl) ok_Yard 1 6 (d := 3) dX10_init_43 (by omega) rfl (by decide) rfl q_1_22 rfl rfl (fun _ => ⟨rfl, rfl⟩) (kz := 6) rfl ?_
  refine x_aload_n C 0 dX10_init_46 rfl rfl ?_
  refine x_bipush C dX10_init_47 (w := 64) (by decide) ?_
  refine x_newI C (z := 64) (N := 64) rfl (by decide) dX10_init_49 rfl q_1_2 (Nat.le_of_ble_eq_true rfl) (Nat.le_of_ble_eq_true rfl) ?_
  refine x_putr C (hct rfl) ok_Yard 1 7 (d := 4) dX10_init_51 (by omega) rfl (by decide) rfl q_1_23 rfl rfl (fun _ => ⟨rfl, rfl⟩) (kz := 7) rfl ?_
  refine x_aload_n C 0 dX10_init_54 rfl rfl ?_
  refine x_iconst C dX10_init_55 ?_
  refine x_puti C ok_Yard 1 8 dX10_init_56 (by omega) rfl (by decide) rfl q_2_0 rfl rfl (Or.inl rfl) (by first | assumption | (constructor <;> omega)) (kz := 8) rfl ?_
  refine x_aload_n C 0 dX10_init_59 rfl rfl ?_
  refine x_bipush C dX10_init_60 (w := 24) (by decide) ?_
  refine x_newI C (z := 24) (N := 24) rfl (by decide) dX10_init_62 rfl q_1_2 (Nat.le_of_ble_eq_true rfl) (Nat.le_of_ble_eq_true rfl) ?_
  refine x_putr C (hct rfl) ok_Yard 1 9 (d := 5) dX10_init_64 (by omega) rfl (by decide) rfl q_2_1 rfl rfl (fun _ => ⟨rfl, rfl⟩) (kz := 9) rfl ?_
  refine x_aload_n C 0 dX10_init_67 rfl rfl ?_
  refine x_iconst C dX10_init_68 ?_
  refine x_puti C ok_Yard 1 10 dX10_init_69 (by omega) rfl (by decide) rfl q_2_2 rfl rfl (Or.inl rfl) (by first | assumption | (constructor <;> omega)) (kz := 10) rfl ?_
  refine x_gets C 6 dX10_init_72 (by decide) (Or.inr ⟨"LogSawyer", List.mem_of_getElem? (i := 27) rfl⟩) rfl ?_
  refine x_iconst C dX10_init_75 ?_
  refine x_aload_n C 0 dX10_init_76 rfl rfl ?_
  refine x_getr C ok_Yard 1 6 (d := 3) dX10_init_77 (by omega) rfl (by decide) rfl q_1_22 rfl (kz := 6) rfl (by first | rfl | simp [u2, u1, uC]) ?_
  refine x_iconst C dX10_init_80 ?_
  refine x_bipush C dX10_init_81 (w := 7) (by decide) ?_
  refine x_acpT C 3 dX10_init_83 (by omega) rfl q_2_3 q_2_4 q_2_5 q_2_6 (Nat.le_of_ble_eq_true rfl) (Nat.le_of_ble_eq_true rfl) ?_
  refine x_wid (cells' := 4) (slots' := 103) (by first | decide | omega) (by first | decide | omega) ?_
  refine x_vret C dX10_init_86 ⟨_, _, rfl, rfl, ?_, ?_, ?_, ?_, ?_⟩
  · intro c hc; repeat (first | rw [u2_n (by omega)] | rw [uC_n (by omega)] | rw [mV_n (by omega)])
  · intro c hc; (repeat (first | rw [u2_n (by omega)] | rw [uC_n (by omega)])) <;> rfl
  · intro c z ha hb h3 h4; obtain rfl | rfl | rfl | rfl | rfl : c = 1 ∨ c = 2 ∨ c = 3 ∨ c = 4 ∨ c = 5 := (by omega); all_goals first | exact absurd rfl h3 | exact absurd rfl h4 | (simp [u2, u1, uC, mV, iniV, hV0]; done)
  · refine ⟨?_, ?_, ?_, ?_⟩ <;> (rfl)
  · (intro z; rfl)
set_option maxRecDepth 100000 in
set_option maxHeartbeats 4000000 in
theorem m_yard6 (G : GS) (n : Nat) (V : Nat → Int → Int) (R : Nat → Int → Option Nat) (hn0 : n = 7) (hV0 : ∀ z, V 6 z = 0) : Cn G yX10_init cX10_init 1 none (rmk 1 4 103 64) [.ref (aG G 6)] n V R 4 103 (fun vv uu => ∃ (V1 : Nat → Int → Int), ∃ (R1 : Nat → Int → Option Nat), vv = none ∧ uu = (11, V1, R1) ∧ ((∀ c, c < 6 → V1 c = V c)) ∧ ((∀ c, c < 6 → R1 c = R c)) ∧ ((∀ (c : Nat) (z : Int), 6 ≤ c → c < 11 → (tb c).1 ≠ 23 → (tb c).1 ≠ 24 → V1 c z = iniV c z)) ∧ (R1 6 4 = some 7 ∧ R1 6 6 = some 8 ∧ R1 6 7 = some 9 ∧ R1 6 9 = some 10) ∧ ((∀ z : Int, R1 7 z = none))) := by
  subst hn0
  refine Cn.of (by decide) (Nat.le_of_ble_eq_true rfl) (fun K C hct => ?_)
  show Xw K G 0 0 _ 7 V R 0 [(0, .ref (aG G 6))] []
  refine x_aload_n C 0 dX10_init_0 rfl rfl ?_
  refine x_oinit C dX10_init_1 q_1_14 q_0_11 q_0_12 ⟨Nat.le_of_ble_eq_true rfl, Nat.le_of_ble_eq_true rfl⟩ ?_
  refine x_aload_n C 0 dX10_init_4 rfl rfl ?_
  refine x_iconst C dX10_init_5 ?_
  refine x_puti C ok_Yard 6 0 dX10_init_6 (by omega) rfl (by decide) rfl q_1_15 rfl rfl (Or.inl rfl) (by first | assumption | (constructor <;> omega)) (kz := 0) rfl ?_
  refine x_aload_n C 0 dX10_init_9 rfl rfl ?_
  refine x_iconst C dX10_init_10 ?_
  refine x_puti C ok_Yard 6 1 dX10_init_11 (by omega) rfl (by decide) rfl q_1_16 rfl rfl (Or.inl rfl) (by first | assumption | (constructor <;> omega)) (kz := 1) rfl ?_
  refine x_aload_n C 0 dX10_init_14 rfl rfl ?_
  refine x_iconst C dX10_init_15 ?_
  refine x_puti C ok_Yard 6 2 dX10_init_16 (by omega) rfl (by decide) rfl q_1_17 rfl rfl (Or.inl rfl) (by first | assumption | (constructor <;> omega)) (kz := 2) rfl ?_
  refine x_aload_n C 0 dX10_init_19 rfl rfl ?_
  refine x_iconst C dX10_init_20 ?_
  refine x_puti C ok_Yard 6 3 dX10_init_21 (by omega) rfl (by decide) rfl q_1_18 rfl rfl (Or.inl rfl) (by first | assumption | (constructor <;> omega)) (kz := 3) rfl ?_
  refine x_aload_n C 0 dX10_init_24 rfl rfl ?_
  refine x_bipush C dX10_init_25 (w := 8) (by decide) ?_
  refine x_newR C (z := 8) rfl dX10_init_27 rfl q_1_19 (Nat.le_of_ble_eq_true rfl) (Nat.le_of_ble_eq_true rfl) ?_
  refine x_putr C (hct rfl) ok_Yard 6 4 (d := 7) dX10_init_30 (by omega) rfl (by decide) rfl q_1_20 rfl rfl (fun _ => ⟨rfl, rfl⟩) (kz := 4) rfl ?_
  refine x_aload_n C 0 dX10_init_33 rfl rfl ?_
  refine x_iconst C dX10_init_34 ?_
  refine x_puti C ok_Yard 6 5 dX10_init_35 (by omega) rfl (by decide) rfl q_1_21 rfl rfl (Or.inl rfl) (by first | assumption | (constructor <;> omega)) (kz := 5) rfl ?_
  refine x_aload_n C 0 dX10_init_38 rfl rfl ?_
  refine x_bipush C dX10_init_39 (w := 7) (by decide) ?_
  refine x_newI C (z := 7) (N := 7) rfl (by decide) dX10_init_41 rfl q_1_2 (Nat.le_of_ble_eq_true rfl) (Nat.le_of_ble_eq_true rfl) ?_
  refine x_putr C (hct rfl) ok_Yard 6 6 (d := 8) dX10_init_43 (by omega) rfl (by decide) rfl q_1_22 rfl rfl (fun _ => ⟨rfl, rfl⟩) (kz := 6) rfl ?_
  refine x_aload_n C 0 dX10_init_46 rfl rfl ?_
  refine x_bipush C dX10_init_47 (w := 64) (by decide) ?_
  refine x_newI C (z := 64) (N := 64) rfl (by decide) dX10_init_49 rfl q_1_2 (Nat.le_of_ble_eq_true rfl) (Nat.le_of_ble_eq_true rfl) ?_
  refine x_putr C (hct rfl) ok_Yard 6 7 (d := 9) dX10_init_51 (by omega) rfl (by decide) rfl q_1_23 rfl rfl (fun _ => ⟨rfl, rfl⟩) (kz := 7) rfl ?_
  refine x_aload_n C 0 dX10_init_54 rfl rfl ?_
  refine x_iconst C dX10_init_55 ?_
  refine x_puti C ok_Yard 6 8 dX10_init_56 (by omega) rfl (by decide) rfl q_2_0 rfl rfl (Or.inl rfl) (by first | assumption | (constructor <;> omega)) (kz := 8) rfl ?_
  refine x_aload_n C 0 dX10_init_59 rfl rfl ?_
  refine x_bipush C dX10_init_60 (w := 24) (by decide) ?_
  refine x_newI C (z := 24) (N := 24) rfl (by decide) dX10_init_62 rfl q_1_2 (Nat.le_of_ble_eq_true rfl) (Nat.le_of_ble_eq_true rfl) ?_
  refine x_putr C (hct rfl) ok_Yard 6 9 (d := 10) dX10_init_64 (by omega) rfl (by decide) rfl q_2_1 rfl rfl (fun _ => ⟨rfl, rfl⟩) (kz := 9) rfl ?_
  refine x_aload_n C 0 dX10_init_67 rfl rfl ?_
  refine x_iconst C dX10_init_68 ?_
  refine x_puti C ok_Yard 6 10 dX10_init_69 (by omega) rfl (by decide) rfl q_2_2 rfl rfl (Or.inl rfl) (by first | assumption | (constructor <;> omega)) (kz := 10) rfl ?_
  refine x_gets C 6 dX10_init_72 (by decide) (Or.inr ⟨"LogSawyer", List.mem_of_getElem? (i := 27) rfl⟩) rfl ?_
  refine x_iconst C dX10_init_75 ?_
  refine x_aload_n C 0 dX10_init_76 rfl rfl ?_
  refine x_getr C ok_Yard 6 6 (d := 8) dX10_init_77 (by omega) rfl (by decide) rfl q_1_22 rfl (kz := 6) rfl (by first | rfl | simp [u2, u1, uC]) ?_
  refine x_iconst C dX10_init_80 ?_
  refine x_bipush C dX10_init_81 (w := 7) (by decide) ?_
  refine x_acpT C 8 dX10_init_83 (by omega) rfl q_2_3 q_2_4 q_2_5 q_2_6 (Nat.le_of_ble_eq_true rfl) (Nat.le_of_ble_eq_true rfl) ?_
  refine x_wid (cells' := 4) (slots' := 103) (by first | decide | omega) (by first | decide | omega) ?_
  refine x_vret C dX10_init_86 ⟨_, _, rfl, rfl, ?_, ?_, ?_, ?_, ?_⟩
  · intro c hc; repeat (first | rw [u2_n (by omega)] | rw [uC_n (by omega)] | rw [mV_n (by omega)])
  · intro c hc; (repeat (first | rw [u2_n (by omega)] | rw [uC_n (by omega)])) <;> rfl
  · intro c z ha hb h3 h4; obtain rfl | rfl | rfl | rfl | rfl : c = 6 ∨ c = 7 ∨ c = 8 ∨ c = 9 ∨ c = 10 := (by omega); all_goals first | exact absurd rfl h3 | exact absurd rfl h4 | (simp [u2, u1, uC, mV, iniV, hV0]; done)
  · refine ⟨?_, ?_, ?_, ?_⟩ <;> (rfl)
  · (intro z; rfl)
set_option maxRecDepth 100000 in
set_option maxHeartbeats 4000000 in
theorem m_saw11 (G : GS) (n : Nat) (V : Nat → Int → Int) (R : Nat → Int → Option Nat) (hn0 : n = 12) (hV0 : ∀ z, V 11 z = 0) : Cn G yX6_init cX6_init 1 none (rmk 2 11 4129 36) [.ref (aG G 11)] n V R 11 4129 (fun vv uu => ∃ (V1 : Nat → Int → Int), ∃ (R1 : Nat → Int → Option Nat), vv = none ∧ uu = (23, V1, R1) ∧ ((∀ c, c < 11 → V1 c = V c)) ∧ ((∀ c, c < 11 → R1 c = R c)) ∧ ((∀ (c : Nat) (z : Int), 11 ≤ c → c < 23 → (tb c).1 ≠ 23 → (tb c).1 ≠ 24 → V1 c z = iniV c z)) ∧ (R1 11 5 = some 12 ∧ R1 11 6 = some 13 ∧ R1 11 7 = some 14 ∧ R1 11 8 = some 15 ∧ R1 11 9 = some 16 ∧ R1 11 10 = some 17 ∧ R1 11 11 = some 18 ∧ R1 11 12 = some 19 ∧ R1 11 13 = some 20 ∧ R1 11 14 = some 21 ∧ R1 11 15 = some 22)) := by
  subst hn0
  refine Cn.of (by decide) (Nat.le_of_ble_eq_true rfl) (fun K C hct => ?_)
  show Xw K G 0 0 _ 12 V R 0 [(0, .ref (aG G 11))] []
  refine x_aload_n C 0 dX6_init_0 rfl rfl ?_
  refine x_oinit C dX6_init_1 q_2_9 q_0_11 q_0_12 ⟨Nat.le_of_ble_eq_true rfl, Nat.le_of_ble_eq_true rfl⟩ ?_
  refine x_aload_n C 0 dX6_init_4 rfl rfl ?_
  refine x_iconst C dX6_init_5 ?_
  refine x_puti C ok_Saw 11 0 dX6_init_6 (by omega) rfl (by decide) rfl q_2_10 rfl rfl (Or.inr ⟨rfl, by first | exact Or.inl rfl | exact Or.inr rfl | omega⟩) (by first | assumption | (constructor <;> omega)) (kz := 0) rfl ?_
  refine x_aload_n C 0 dX6_init_9 rfl rfl ?_
  refine x_iconst C dX6_init_10 ?_
  refine x_puti C ok_Saw 11 1 dX6_init_11 (by omega) rfl (by decide) rfl q_2_11 rfl rfl (Or.inr ⟨rfl, by first | exact Or.inl rfl | exact Or.inr rfl | omega⟩) (by first | assumption | (constructor <;> omega)) (kz := 1) rfl ?_
  refine x_aload_n C 0 dX6_init_14 rfl rfl ?_
  refine x_iconst C dX6_init_15 ?_
  refine x_puti C ok_Saw 11 2 dX6_init_16 (by omega) rfl (by decide) rfl q_2_12 rfl rfl (Or.inl rfl) (by first | assumption | (constructor <;> omega)) (kz := 2) rfl ?_
  refine x_aload_n C 0 dX6_init_19 rfl rfl ?_
  refine x_iconst C dX6_init_20 ?_
  refine x_puti C ok_Saw 11 3 dX6_init_21 (by omega) rfl (by decide) rfl q_2_13 rfl rfl (Or.inl rfl) (by first | assumption | (constructor <;> omega)) (kz := 3) rfl ?_
  refine x_aload_n C 0 dX6_init_24 rfl rfl ?_
  refine x_iconst C dX6_init_25 ?_
  refine x_puti C ok_Saw 11 4 dX6_init_26 (by omega) rfl (by decide) rfl q_2_14 rfl rfl (Or.inl rfl) (by first | assumption | (constructor <;> omega)) (kz := 4) rfl ?_
  refine x_aload_n C 0 dX6_init_29 rfl rfl ?_
  refine x_bipush C dX6_init_30 (w := 7) (by decide) ?_
  refine x_newI C (z := 7) (N := 7) rfl (by decide) dX6_init_32 rfl q_1_2 (Nat.le_of_ble_eq_true rfl) (Nat.le_of_ble_eq_true rfl) ?_
  refine x_putr C (hct rfl) ok_Saw 11 5 (d := 12) dX6_init_34 (by omega) rfl (by decide) rfl q_2_15 rfl rfl (fun _ => ⟨rfl, rfl⟩) (kz := 5) rfl ?_
  refine x_aload_n C 0 dX6_init_37 rfl rfl ?_
  refine x_bipush C dX6_init_38 (w := 96) (by decide) ?_
  refine x_newI C (z := 96) (N := 96) rfl (by decide) dX6_init_40 rfl q_1_2 (Nat.le_of_ble_eq_true rfl) (Nat.le_of_ble_eq_true rfl) ?_
  refine x_putr C (hct rfl) ok_Saw 11 6 (d := 13) dX6_init_42 (by omega) rfl (by decide) rfl q_2_16 rfl rfl (fun _ => ⟨rfl, rfl⟩) (kz := 6) rfl ?_
  refine x_aload_n C 0 dX6_init_45 rfl rfl ?_
  refine x_sipush C dX6_init_46 (w := 1152) (by decide) ?_
  refine x_newI C (z := 1152) (N := 1152) rfl (by decide) dX6_init_49 rfl q_1_2 (Nat.le_of_ble_eq_true rfl) (Nat.le_of_ble_eq_true rfl) ?_
  refine x_putr C (hct rfl) ok_Saw 11 7 (d := 14) dX6_init_51 (by omega) rfl (by decide) rfl q_2_17 rfl rfl (fun _ => ⟨rfl, rfl⟩) (kz := 7) rfl ?_
  refine x_aload_n C 0 dX6_init_54 rfl rfl ?_
  refine x_sipush C dX6_init_55 (w := 1404) (by decide) ?_
  refine x_newI C (z := 1404) (N := 1404) rfl (by decide) dX6_init_58 rfl q_1_2 (Nat.le_of_ble_eq_true rfl) (Nat.le_of_ble_eq_true rfl) ?_
  refine x_putr C (hct rfl) ok_Saw 11 8 (d := 15) dX6_init_60 (by omega) rfl (by decide) rfl q_2_18 rfl rfl (fun _ => ⟨rfl, rfl⟩) (kz := 8) rfl ?_
  refine x_aload_n C 0 dX6_init_63 rfl rfl ?_
  refine x_sipush C dX6_init_64 (w := 1404) (by decide) ?_
  refine x_newI C (z := 1404) (N := 1404) rfl (by decide) dX6_init_67 rfl q_1_2 (Nat.le_of_ble_eq_true rfl) (Nat.le_of_ble_eq_true rfl) ?_
  refine x_putr C (hct rfl) ok_Saw 11 9 (d := 16) dX6_init_69 (by omega) rfl (by decide) rfl q_2_19 rfl rfl (fun _ => ⟨rfl, rfl⟩) (kz := 9) rfl ?_
  refine x_aload_n C 0 dX6_init_72 rfl rfl ?_
  refine x_bipush C dX6_init_73 (w := 8) (by decide) ?_
  refine x_newI C (z := 8) (N := 8) rfl (by decide) dX6_init_75 rfl q_1_2 (Nat.le_of_ble_eq_true rfl) (Nat.le_of_ble_eq_true rfl) ?_
  refine x_putr C (hct rfl) ok_Saw 11 10 (d := 17) dX6_init_77 (by omega) rfl (by decide) rfl q_2_20 rfl rfl (fun _ => ⟨rfl, rfl⟩) (kz := 10) rfl ?_
  refine x_aload_n C 0 dX6_init_80 rfl rfl ?_
  refine x_newO (ci := 2) C ok_Piece (by decide) dX6_init_81 rfl q_2_21 q_2_22 q_2_23 (Nat.le_of_ble_eq_true rfl) (Nat.le_of_ble_eq_true rfl) ?_
  refine x_dup C dX6_init_84 rfl ?_
  refine x_runU (r_callIN C (ce_X3_init) (m_piece18 G 19 (uC (uC (uC (uC (uC (uC (uC (u2 (u2 (u2 (u2 (u2 V 11 0 0) 11 1 0) 11 2 0) 11 3 0) 11 4 0) 12 (fun _ => 0)) 13 (fun _ => 0)) 14 (fun _ => 0)) 15 (fun _ => 0)) 16 (fun _ => 0)) 17 (fun _ => 0)) 18 (fun _ => 0)) (uC (u2 (u2 (u2 (u2 (u2 (u2 R 11 5 (some 12)) 11 6 (some 13)) 11 7 (some 14)) 11 8 (some 15)) 11 9 (some 16)) 11 10 (some 17)) 18 (fun _ => none)) (by first | assumption | omega | decide) (by exact fun _ => rfl)) rfl rfl dX6_init_85 (List.mem_of_getElem? (i := 17) rfl) q_3_5 rfl rfl rfl ⟨Nat.le_of_ble_eq_true rfl, Nat.le_of_ble_eq_true rfl⟩ ⟨rfl, rfl⟩ ⟨Nat.le_of_ble_eq_true rfl, Nat.le_of_ble_eq_true rfl⟩ (Nat.le_of_ble_eq_true rfl)) (fun v85 u85 hp85 => ?_)
  obtain ⟨V1_85, R1_85, rfl, rfl, hq85_0, hq85_1, hq85_2⟩ := hp85
  show Xw K G 7 4080 _ 19 V1_85 R1_85 88 [(0, .ref (aG G 11))] [.ref (aG G 18), .ref (aG G 11)]
  refine x_putr C (hct rfl) ok_Saw 11 11 (d := 18) dX6_init_88 (by omega) rfl (by decide) rfl q_3_0 rfl rfl (fun _ => ⟨rfl, rfl⟩) (kz := 11) rfl ?_
  refine x_aload_n C 0 dX6_init_91 rfl rfl ?_
  refine x_bipush C dX6_init_92 (w := 13) (by decide) ?_
  refine x_newI C (z := 13) (N := 13) rfl (by decide) dX6_init_94 rfl q_1_2 (Nat.le_of_ble_eq_true rfl) (Nat.le_of_ble_eq_true rfl) ?_
  refine x_putr C (hct rfl) ok_Saw 11 12 (d := 19) dX6_init_96 (by omega) rfl (by decide) rfl q_3_1 rfl rfl (fun _ => ⟨rfl, rfl⟩) (kz := 12) rfl ?_
  refine x_aload_n C 0 dX6_init_99 rfl rfl ?_
  refine x_bipush C dX6_init_100 (w := 12) (by decide) ?_
  refine x_newI C (z := 12) (N := 12) rfl (by decide) dX6_init_102 rfl q_1_2 (Nat.le_of_ble_eq_true rfl) (Nat.le_of_ble_eq_true rfl) ?_
  refine x_putr C (hct rfl) ok_Saw 11 13 (d := 20) dX6_init_104 (by omega) rfl (by decide) rfl q_3_2 rfl rfl (fun _ => ⟨rfl, rfl⟩) (kz := 13) rfl ?_
  refine x_aload_n C 0 dX6_init_107 rfl rfl ?_
  refine x_bipush C dX6_init_108 (w := 12) (by decide) ?_
  refine x_newI C (z := 12) (N := 12) rfl (by decide) dX6_init_110 rfl q_1_2 (Nat.le_of_ble_eq_true rfl) (Nat.le_of_ble_eq_true rfl) ?_
  refine x_putr C (hct rfl) ok_Saw 11 14 (d := 21) dX6_init_112 (by omega) rfl (by decide) rfl q_3_3 rfl rfl (fun _ => ⟨rfl, rfl⟩) (kz := 14) rfl ?_
  refine x_aload_n C 0 dX6_init_115 rfl rfl ?_
  refine x_bipush C dX6_init_116 (w := 12) (by decide) ?_
  refine x_newI C (z := 12) (N := 12) rfl (by decide) dX6_init_118 rfl q_1_2 (Nat.le_of_ble_eq_true rfl) (Nat.le_of_ble_eq_true rfl) ?_
  refine x_putr C (hct rfl) ok_Saw 11 15 (d := 22) dX6_init_120 (by omega) rfl (by decide) rfl q_3_4 rfl rfl (fun _ => ⟨rfl, rfl⟩) (kz := 15) rfl ?_
  refine x_wid (cells' := 11) (slots' := 4129) (by first | decide | omega) (by first | decide | omega) ?_
  refine x_vret C dX6_init_123 ⟨_, _, rfl, rfl, ?_, ?_, ?_, ?_⟩
  · intro c hc; repeat (first | rw [u2_n (by omega)] | rw [uC_n (by omega)] | rw [mV_n (by omega)] | rw [hq85_0 c (by omega)])
  · intro c hc; (repeat (first | rw [u2_n (by omega)] | rw [uC_n (by omega)] | rw [hq85_1 c (by omega)])) <;> rfl
  · intro c z ha hb h3 h4; obtain rfl | rfl | rfl | rfl | rfl | rfl | rfl | rfl | rfl | rfl | rfl | rfl : c = 11 ∨ c = 12 ∨ c = 13 ∨ c = 14 ∨ c = 15 ∨ c = 16 ∨ c = 17 ∨ c = 18 ∨ c = 19 ∨ c = 20 ∨ c = 21 ∨ c = 22 := (by omega); all_goals first | exact absurd rfl h3 | exact absurd rfl h4 | (simp [u2, u1, uC, mV, iniV, hV0, hq85_0 11 (by omega), hq85_0 12 (by omega), hq85_0 13 (by omega), hq85_0 14 (by omega), hq85_0 15 (by omega), hq85_0 16 (by omega), hq85_0 17 (by omega), hq85_2 18 z (by omega) (by omega) (by decide) (by decide)]; done)
  · refine ⟨?_, ?_, ?_, ?_, ?_, ?_, ?_, ?_, ?_, ?_, ?_⟩ <;> (first | rfl | simp [u2, u1, uC, hq85_1 11 (by omega), hq85_1 12 (by omega), hq85_1 13 (by omega), hq85_1 14 (by omega), hq85_1 15 (by omega), hq85_1 16 (by omega), hq85_1 17 (by omega)])
set_option maxRecDepth 100000 in
set_option maxHeartbeats 4000000 in
theorem m_saw23 (G : GS) (n : Nat) (V : Nat → Int → Int) (R : Nat → Int → Option Nat) (hn0 : n = 24) (hV0 : ∀ z, V 23 z = 0) : Cn G yX6_init cX6_init 1 none (rmk 2 11 4129 36) [.ref (aG G 23)] n V R 11 4129 (fun vv uu => ∃ (V1 : Nat → Int → Int), ∃ (R1 : Nat → Int → Option Nat), vv = none ∧ uu = (35, V1, R1) ∧ ((∀ c, c < 23 → V1 c = V c)) ∧ ((∀ c, c < 23 → R1 c = R c)) ∧ ((∀ (c : Nat) (z : Int), 23 ≤ c → c < 35 → (tb c).1 ≠ 23 → (tb c).1 ≠ 24 → V1 c z = iniV c z)) ∧ (R1 23 5 = some 24 ∧ R1 23 6 = some 25 ∧ R1 23 7 = some 26 ∧ R1 23 8 = some 27 ∧ R1 23 9 = some 28 ∧ R1 23 10 = some 29 ∧ R1 23 11 = some 30 ∧ R1 23 12 = some 31 ∧ R1 23 13 = some 32 ∧ R1 23 14 = some 33 ∧ R1 23 15 = some 34)) := by
  subst hn0
  refine Cn.of (by decide) (Nat.le_of_ble_eq_true rfl) (fun K C hct => ?_)
  show Xw K G 0 0 _ 24 V R 0 [(0, .ref (aG G 23))] []
  refine x_aload_n C 0 dX6_init_0 rfl rfl ?_
  refine x_oinit C dX6_init_1 q_2_9 q_0_11 q_0_12 ⟨Nat.le_of_ble_eq_true rfl, Nat.le_of_ble_eq_true rfl⟩ ?_
  refine x_aload_n C 0 dX6_init_4 rfl rfl ?_
  refine x_iconst C dX6_init_5 ?_
  refine x_puti C ok_Saw 23 0 dX6_init_6 (by omega) rfl (by decide) rfl q_2_10 rfl rfl (Or.inr ⟨rfl, by first | exact Or.inl rfl | exact Or.inr rfl | omega⟩) (by first | assumption | (constructor <;> omega)) (kz := 0) rfl ?_
  refine x_aload_n C 0 dX6_init_9 rfl rfl ?_
  refine x_iconst C dX6_init_10 ?_
  refine x_puti C ok_Saw 23 1 dX6_init_11 (by omega) rfl (by decide) rfl q_2_11 rfl rfl (Or.inr ⟨rfl, by first | exact Or.inl rfl | exact Or.inr rfl | omega⟩) (by first | assumption | (constructor <;> omega)) (kz := 1) rfl ?_
  refine x_aload_n C 0 dX6_init_14 rfl rfl ?_
  refine x_iconst C dX6_init_15 ?_
  refine x_puti C ok_Saw 23 2 dX6_init_16 (by omega) rfl (by decide) rfl q_2_12 rfl rfl (Or.inl rfl) (by first | assumption | (constructor <;> omega)) (kz := 2) rfl ?_
  refine x_aload_n C 0 dX6_init_19 rfl rfl ?_
  refine x_iconst C dX6_init_20 ?_
  refine x_puti C ok_Saw 23 3 dX6_init_21 (by omega) rfl (by decide) rfl q_2_13 rfl rfl (Or.inl rfl) (by first | assumption | (constructor <;> omega)) (kz := 3) rfl ?_
  refine x_aload_n C 0 dX6_init_24 rfl rfl ?_
  refine x_iconst C dX6_init_25 ?_
  refine x_puti C ok_Saw 23 4 dX6_init_26 (by omega) rfl (by decide) rfl q_2_14 rfl rfl (Or.inl rfl) (by first | assumption | (constructor <;> omega)) (kz := 4) rfl ?_
  refine x_aload_n C 0 dX6_init_29 rfl rfl ?_
  refine x_bipush C dX6_init_30 (w := 7) (by decide) ?_
  refine x_newI C (z := 7) (N := 7) rfl (by decide) dX6_init_32 rfl q_1_2 (Nat.le_of_ble_eq_true rfl) (Nat.le_of_ble_eq_true rfl) ?_
  refine x_putr C (hct rfl) ok_Saw 23 5 (d := 24) dX6_init_34 (by omega) rfl (by decide) rfl q_2_15 rfl rfl (fun _ => ⟨rfl, rfl⟩) (kz := 5) rfl ?_
  refine x_aload_n C 0 dX6_init_37 rfl rfl ?_
  refine x_bipush C dX6_init_38 (w := 96) (by decide) ?_
  refine x_newI C (z := 96) (N := 96) rfl (by decide) dX6_init_40 rfl q_1_2 (Nat.le_of_ble_eq_true rfl) (Nat.le_of_ble_eq_true rfl) ?_
  refine x_putr C (hct rfl) ok_Saw 23 6 (d := 25) dX6_init_42 (by omega) rfl (by decide) rfl q_2_16 rfl rfl (fun _ => ⟨rfl, rfl⟩) (kz := 6) rfl ?_
  refine x_aload_n C 0 dX6_init_45 rfl rfl ?_
  refine x_sipush C dX6_init_46 (w := 1152) (by decide) ?_
  refine x_newI C (z := 1152) (N := 1152) rfl (by decide) dX6_init_49 rfl q_1_2 (Nat.le_of_ble_eq_true rfl) (Nat.le_of_ble_eq_true rfl) ?_
  refine x_putr C (hct rfl) ok_Saw 23 7 (d := 26) dX6_init_51 (by omega) rfl (by decide) rfl q_2_17 rfl rfl (fun _ => ⟨rfl, rfl⟩) (kz := 7) rfl ?_
  refine x_aload_n C 0 dX6_init_54 rfl rfl ?_
  refine x_sipush C dX6_init_55 (w := 1404) (by decide) ?_
  refine x_newI C (z := 1404) (N := 1404) rfl (by decide) dX6_init_58 rfl q_1_2 (Nat.le_of_ble_eq_true rfl) (Nat.le_of_ble_eq_true rfl) ?_
  refine x_putr C (hct rfl) ok_Saw 23 8 (d := 27) dX6_init_60 (by omega) rfl (by decide) rfl q_2_18 rfl rfl (fun _ => ⟨rfl, rfl⟩) (kz := 8) rfl ?_
  refine x_aload_n C 0 dX6_init_63 rfl rfl ?_
  refine x_sipush C dX6_init_64 (w := 1404) (by decide) ?_
  refine x_newI C (z := 1404) (N := 1404) rfl (by decide) dX6_init_67 rfl q_1_2 (Nat.le_of_ble_eq_true rfl) (Nat.le_of_ble_eq_true rfl) ?_
  refine x_putr C (hct rfl) ok_Saw 23 9 (d := 28) dX6_init_69 (by omega) rfl (by decide) rfl q_2_19 rfl rfl (fun _ => ⟨rfl, rfl⟩) (kz := 9) rfl ?_
  refine x_aload_n C 0 dX6_init_72 rfl rfl ?_
  refine x_bipush C dX6_init_73 (w := 8) (by decide) ?_
  refine x_newI C (z := 8) (N := 8) rfl (by decide) dX6_init_75 rfl q_1_2 (Nat.le_of_ble_eq_true rfl) (Nat.le_of_ble_eq_true rfl) ?_
  refine x_putr C (hct rfl) ok_Saw 23 10 (d := 29) dX6_init_77 (by omega) rfl (by decide) rfl q_2_20 rfl rfl (fun _ => ⟨rfl, rfl⟩) (kz := 10) rfl ?_
  refine x_aload_n C 0 dX6_init_80 rfl rfl ?_
  refine x_newO (ci := 2) C ok_Piece (by decide) dX6_init_81 rfl q_2_21 q_2_22 q_2_23 (Nat.le_of_ble_eq_true rfl) (Nat.le_of_ble_eq_true rfl) ?_
  refine x_dup C dX6_init_84 rfl ?_
  refine x_runU (r_callIN C (ce_X3_init) (m_piece30 G 31 (uC (uC (uC (uC (uC (uC (uC (u2 (u2 (u2 (u2 (u2 V 23 0 0) 23 1 0) 23 2 0) 23 3 0) 23 4 0) 24 (fun _ => 0)) 25 (fun _ => 0)) 26 (fun _ => 0)) 27 (fun _ => 0)) 28 (fun _ => 0)) 29 (fun _ => 0)) 30 (fun _ => 0)) (uC (u2 (u2 (u2 (u2 (u2 (u2 R 23 5 (some 24)) 23 6 (some 25)) 23 7 (some 26)) 23 8 (some 27)) 23 9 (some 28)) 23 10 (some 29)) 30 (fun _ => none)) (by first | assumption | omega | decide) (by exact fun _ => rfl)) rfl rfl dX6_init_85 (List.mem_of_getElem? (i := 17) rfl) q_3_5 rfl rfl rfl ⟨Nat.le_of_ble_eq_true rfl, Nat.le_of_ble_eq_true rfl⟩ ⟨rfl, rfl⟩ ⟨Nat.le_of_ble_eq_true rfl, Nat.le_of_ble_eq_true rfl⟩ (Nat.le_of_ble_eq_true rfl)) (fun v85 u85 hp85 => ?_)
  obtain ⟨V1_85, R1_85, rfl, rfl, hq85_0, hq85_1, hq85_2⟩ := hp85
  show Xw K G 7 4080 _ 31 V1_85 R1_85 88 [(0, .ref (aG G 23))] [.ref (aG G 30), .ref (aG G 23)]
  refine x_putr C (hct rfl) ok_Saw 23 11 (d := 30) dX6_init_88 (by omega) rfl (by decide) rfl q_3_0 rfl rfl (fun _ => ⟨rfl, rfl⟩) (kz := 11) rfl ?_
  refine x_aload_n C 0 dX6_init_91 rfl rfl ?_
  refine x_bipush C dX6_init_92 (w := 13) (by decide) ?_
  refine x_newI C (z := 13) (N := 13) rfl (by decide) dX6_init_94 rfl q_1_2 (Nat.le_of_ble_eq_true rfl) (Nat.le_of_ble_eq_true rfl) ?_
  refine x_putr C (hct rfl) ok_Saw 23 12 (d := 31) dX6_init_96 (by omega) rfl (by decide) rfl q_3_1 rfl rfl (fun _ => ⟨rfl, rfl⟩) (kz := 12) rfl ?_
  refine x_aload_n C 0 dX6_init_99 rfl rfl ?_
  refine x_bipush C dX6_init_100 (w := 12) (by decide) ?_
  refine x_newI C (z := 12) (N := 12) rfl (by decide) dX6_init_102 rfl q_1_2 (Nat.le_of_ble_eq_true rfl) (Nat.le_of_ble_eq_true rfl) ?_
  refine x_putr C (hct rfl) ok_Saw 23 13 (d := 32) dX6_init_104 (by omega) rfl (by decide) rfl q_3_2 rfl rfl (fun _ => ⟨rfl, rfl⟩) (kz := 13) rfl ?_
  refine x_aload_n C 0 dX6_init_107 rfl rfl ?_
  refine x_bipush C dX6_init_108 (w := 12) (by decide) ?_
  refine x_newI C (z := 12) (N := 12) rfl (by decide) dX6_init_110 rfl q_1_2 (Nat.le_of_ble_eq_true rfl) (Nat.le_of_ble_eq_true rfl) ?_
  refine x_putr C (hct rfl) ok_Saw 23 14 (d := 33) dX6_init_112 (by omega) rfl (by decide) rfl q_3_3 rfl rfl (fun _ => ⟨rfl, rfl⟩) (kz := 14) rfl ?_
  refine x_aload_n C 0 dX6_init_115 rfl rfl ?_
  refine x_bipush C dX6_init_116 (w := 12) (by decide) ?_
  refine x_newI C (z := 12) (N := 12) rfl (by decide) dX6_init_118 rfl q_1_2 (Nat.le_of_ble_eq_true rfl) (Nat.le_of_ble_eq_true rfl) ?_
  refine x_putr C (hct rfl) ok_Saw 23 15 (d := 34) dX6_init_120 (by omega) rfl (by decide) rfl q_3_4 rfl rfl (fun _ => ⟨rfl, rfl⟩) (kz := 15) rfl ?_
  refine x_wid (cells' := 11) (slots' := 4129) (by first | decide | omega) (by first | decide | omega) ?_
  refine x_vret C dX6_init_123 ⟨_, _, rfl, rfl, ?_, ?_, ?_, ?_⟩
  · intro c hc; repeat (first | rw [u2_n (by omega)] | rw [uC_n (by omega)] | rw [mV_n (by omega)] | rw [hq85_0 c (by omega)])
  · intro c hc; (repeat (first | rw [u2_n (by omega)] | rw [uC_n (by omega)] | rw [hq85_1 c (by omega)])) <;> rfl
  · intro c z ha hb h3 h4; obtain rfl | rfl | rfl | rfl | rfl | rfl | rfl | rfl | rfl | rfl | rfl | rfl : c = 23 ∨ c = 24 ∨ c = 25 ∨ c = 26 ∨ c = 27 ∨ c = 28 ∨ c = 29 ∨ c = 30 ∨ c = 31 ∨ c = 32 ∨ c = 33 ∨ c = 34 := (by omega); all_goals first | exact absurd rfl h3 | exact absurd rfl h4 | (simp [u2, u1, uC, mV, iniV, hV0, hq85_0 23 (by omega), hq85_0 24 (by omega), hq85_0 25 (by omega), hq85_0 26 (by omega), hq85_0 27 (by omega), hq85_0 28 (by omega), hq85_0 29 (by omega), hq85_2 30 z (by omega) (by omega) (by decide) (by decide)]; done)
  · refine ⟨?_, ?_, ?_, ?_, ?_, ?_, ?_, ?_, ?_, ?_, ?_⟩ <;> (first | rfl | simp [u2, u1, uC, hq85_1 23 (by omega), hq85_1 24 (by omega), hq85_1 25 (by omega), hq85_1 26 (by omega), hq85_1 27 (by omega), hq85_1 28 (by omega), hq85_1 29 (by omega)])
