
set_option maxRecDepth 100000 in
set_option maxHeartbeats 4000000 in
theorem m_model42 (G : GS) (n : Nat) (V : Nat → Int → Int) (R : Nat → Int → Option Nat) (hn0 : n = 43) (hV0 : ∀ z, V 42 z = 0) : Cn G yX12_init cX12_init 1 none (rmk 1 24 3334 16) [.ref (aG G 42)] n V R 24 3334 (fun vv uu => ∃ (V1 : Nat → Int → Int), ∃ (R1 : Nat → Int → Option Nat), vv = none ∧ uu = (67, V1, R1) ∧ ((∀ c, c < 42 → V1 c = V c)) ∧ ((∀ c, c < 42 → R1 c = R c)) ∧ ((∀ (c : Nat) (z : Int), 42 ≤ c → c < 67 → (tb c).1 ≠ 23 → (tb c).1 ≠ 24 → V1 c z = iniV c z)) ∧ (R1 42 5 = some 43 ∧ R1 42 6 = some 44 ∧ R1 42 8 = some 45 ∧ R1 42 10 = some 46 ∧ R1 42 11 = some 47 ∧ R1 42 13 = some 48 ∧ R1 42 19 = some 49 ∧ R1 42 20 = some 50 ∧ R1 42 21 = some 51 ∧ R1 42 29 = some 52 ∧ R1 42 30 = some 53 ∧ R1 42 32 = some 54 ∧ R1 42 33 = some 55 ∧ R1 42 34 = some 56 ∧ R1 42 35 = some 57 ∧ R1 42 36 = some 58 ∧ R1 42 38 = some 59 ∧ R1 42 39 = some 64 ∧ R1 42 40 = some 65 ∧ R1 42 41 = some 66 ∧ R1 59 0 = some 60 ∧ R1 59 1 = some 61 ∧ R1 59 2 = some 62 ∧ R1 59 3 = some 63)) := by
  subst hn0
  refine Cn.of (by decide) (Nat.le_of_ble_eq_true rfl) (fun K C hct => ?_)
  show Xw K G 0 0 _ 43 V R 0 [(0, .ref (aG G 42))] []
  refine x_aload_n C 0 dX12_init_0 rfl rfl ?_
  refine x_oinit C dX12_init_1 q_4_0 q_0_11 q_0_12 ⟨Nat.le_of_ble_eq_true rfl, Nat.le_of_ble_eq_true rfl⟩ ?_
  refine x_aload_n C 0 dX12_init_4 rfl rfl ?_
  refine x_bipush C dX12_init_5 (w := 32) (by decide) ?_
  refine x_newI C (z := 32) (N := 32) rfl (by decide) dX12_init_7 rfl q_1_2 (Nat.le_of_ble_eq_true rfl) (Nat.le_of_ble_eq_true rfl) ?_
  refine x_putr C (hct rfl) ok_Model 42 5 (d := 43) dX12_init_9 (by omega) rfl (by decide) rfl q_4_1 rfl rfl (fun _ => ⟨rfl, rfl⟩) (kz := 5) rfl ?_
  refine x_aload_n C 0 dX12_init_12 rfl rfl ?_
  refine x_bipush C dX12_init_13 (w := 7) (by decide) ?_
  refine x_newI C (z := 7) (N := 7) rfl (by decide) dX12_init_15 rfl q_1_2 (Nat.le_of_ble_eq_true rfl) (Nat.le_of_ble_eq_true rfl) ?_
  refine x_dup C dX12_init_17 rfl ?_
  refine x_iconst C dX12_init_18 ?_
  refine x_iconst C dX12_init_19 ?_
  refine x_iast C 44 dX12_init_20 (by omega) rfl (by refine ⟨?_, ?_⟩ <;> omega) (by first | assumption | (constructor <;> omega)) ?_
  refine x_dup C dX12_init_21 rfl ?_
  refine x_iconst C dX12_init_22 ?_
  refine x_iconst C dX12_init_23 ?_
  refine x_iast C 44 dX12_init_24 (by omega) rfl (by refine ⟨?_, ?_⟩ <;> omega) (by first | assumption | (constructor <;> omega)) ?_
  refine x_dup C dX12_init_25 rfl ?_
  refine x_iconst C dX12_init_26 ?_
  refine x_bipush C dX12_init_27 (w := 9) (by decide) ?_
  refine x_iast C 44 dX12_init_29 (by omega) rfl (by refine ⟨?_, ?_⟩ <;> omega) (by first | assumption | (constructor <;> omega)) ?_
  refine x_dup C dX12_init_30 rfl ?_
  refine x_iconst C dX12_init_31 ?_
  refine x_bipush C dX12_init_32 (w := 6) (by decide) ?_
  refine x_iast C 44 dX12_init_34 (by omega) rfl (by refine ⟨?_, ?_⟩ <;> omega) (by first | assumption | (constructor <;> omega)) ?_
  refine x_dup C dX12_init_35 rfl ?_
  refine x_iconst C dX12_init_36 ?_
  refine x_iconst C dX12_init_37 ?_
  refine x_iast C 44 dX12_init_38 (by omega) rfl (by refine ⟨?_, ?_⟩ <;> omega) (by first | assumption | (constructor <;> omega)) ?_
  refine x_dup C dX12_init_39 rfl ?_
  refine x_iconst C dX12_init_40 ?_
  refine x_iconst C dX12_init_41 ?_
  refine x_iast C 44 dX12_init_42 (by omega) rfl (by refine ⟨?_, ?_⟩ <;> omega) (by first | assumption | (constructor <;> omega)) ?_
  refine x_dup C dX12_init_43 rfl ?_
  refine x_bipush C dX12_init_44 (w := 6) (by decide) ?_
  refine x_bipush C dX12_init_46 (w := 12) (by decide) ?_
  refine x_iast C 44 dX12_init_48 (by omega) rfl (by refine ⟨?_, ?_⟩ <;> omega) (by first | assumption | (constructor <;> omega)) ?_
  refine x_putr C (hct rfl) ok_Model 42 6 (d := 44) dX12_init_49 (by omega) rfl (by decide) rfl q_4_2 rfl rfl (fun _ => ⟨rfl, rfl⟩) (kz := 6) rfl ?_
  refine x_aload_n C 0 dX12_init_52 rfl rfl ?_
  refine x_bipush C dX12_init_53 (w := 64) (by decide) ?_
  refine x_newI C (z := 64) (N := 64) rfl (by decide) dX12_init_55 rfl q_1_2 (Nat.le_of_ble_eq_true rfl) (Nat.le_of_ble_eq_true rfl) ?_
  refine x_putr C (hct rfl) ok_Model 42 8 (d := 45) dX12_init_57 (by omega) rfl (by decide) rfl q_4_3 rfl rfl (fun _ => ⟨rfl, rfl⟩) (kz := 8) rfl ?_
  refine x_aload_n C 0 dX12_init_60 rfl rfl ?_
  refine x_bipush C dX12_init_61 (w := 24) (by decide) ?_
  refine x_newI C (z := 24) (N := 24) rfl (by decide) dX12_init_63 rfl q_1_2 (Nat.le_of_ble_eq_true rfl) (Nat.le_of_ble_eq_true rfl) ?_
  refine x_putr C (hct rfl) ok_Model 42 10 (d := 46) dX12_init_65 (by omega) rfl (by decide) rfl q_4_4 rfl rfl (fun _ => ⟨rfl, rfl⟩) (kz := 10) rfl ?_
  refine x_aload_n C 0 dX12_init_68 rfl rfl ?_
  refine x_bipush C dX12_init_69 (w := 40) (by decide) ?_
  refine x_newI C (z := 40) (N := 40) rfl (by decide) dX12_init_71 rfl q_1_2 (Nat.le_of_ble_eq_true rfl) (Nat.le_of_ble_eq_true rfl) ?_
  refine x_putr C (hct rfl) ok_Model 42 11 (d := 47) dX12_init_73 (by omega) rfl (by decide) rfl q_4_5 rfl rfl (fun _ => ⟨rfl, rfl⟩) (kz := 11) rfl ?_
  refine x_aload_n C 0 dX12_init_76 rfl rfl ?_
  refine x_sipush C dX12_init_77 (w := 180) (by decide) ?_
  refine x_newI C (z := 180) (N := 180) rfl (by decide) dX12_init_80 rfl q_1_2 (Nat.le_of_ble_eq_true rfl) (Nat.le_of_ble_eq_true rfl) ?_
  refine x_putr C (hct rfl) ok_Model 42 13 (d := 48) dX12_init_82 (by omega) rfl (by decide) rfl q_4_6 rfl rfl (fun _ => ⟨rfl, rfl⟩) (kz := 13) rfl ?_
  refine x_aload_n C 0 dX12_init_85 rfl rfl ?_
  refine x_sipush C dX12_init_86 (w := 160) (by decide) ?_
  refine x_newI C (z := 160) (N := 160) rfl (by decide) dX12_init_89 rfl q_1_2 (Nat.le_of_ble_eq_true rfl) (Nat.le_of_ble_eq_true rfl) ?_
  refine x_putr C (hct rfl) ok_Model 42 19 (d := 49) dX12_init_91 (by omega) rfl (by decide) rfl q_4_7 rfl rfl (fun _ => ⟨rfl, rfl⟩) (kz := 19) rfl ?_
  refine x_aload_n C 0 dX12_init_94 rfl rfl ?_
  refine x_sipush C dX12_init_95 (w := 1248) (by decide) ?_
  refine x_newI C (z := 1248) (N := 1248) rfl (by decide) dX12_init_98 rfl q_1_2 (Nat.le_of_ble_eq_true rfl) (Nat.le_of_ble_eq_true rfl) ?_
  refine x_putr C (hct rfl) ok_Model 42 20 (d := 50) dX12_init_100 (by omega) rfl (by decide) rfl q_4_8 rfl rfl (fun _ => ⟨rfl, rfl⟩) (kz := 20) rfl ?_
  refine x_aload_n C 0 dX12_init_103 rfl rfl ?_
  refine x_sipush C dX12_init_104 (w := 1248) (by decide) ?_
  refine x_newI C (z := 1248) (N := 1248) rfl (by decide) dX12_init_107 rfl q_1_2 (Nat.le_of_ble_eq_true rfl) (Nat.le_of_ble_eq_true rfl) ?_
  refine x_putr C (hct rfl) ok_Model 42 21 (d := 51) dX12_init_109 (by omega) rfl (by decide) rfl q_4_9 rfl rfl (fun _ => ⟨rfl, rfl⟩) (kz := 21) rfl ?_
  refine x_aload_n C 0 dX12_init_112 rfl rfl ?_
  refine x_bipush C dX12_init_113 (w := 19) (by decide) ?_
  refine x_newI C (z := 19) (N := 19) rfl (by decide) dX12_init_115 rfl q_1_2 (Nat.le_of_ble_eq_true rfl) (Nat.le_of_ble_eq_true rfl) ?_
  refine x_putr C (hct rfl) ok_Model 42 29 (d := 52) dX12_init_117 (by omega) rfl (by decide) rfl q_4_10 rfl rfl (fun _ => ⟨rfl, rfl⟩) (kz := 29) rfl ?_
  refine x_aload_n C 0 dX12_init_120 rfl rfl ?_
  refine x_bipush C dX12_init_121 (w := 12) (by decide) ?_
  refine x_newI C (z := 12) (N := 12) rfl (by decide) dX12_init_123 rfl q_1_2 (Nat.le_of_ble_eq_true rfl) (Nat.le_of_ble_eq_true rfl) ?_
  refine x_putr C (hct rfl) ok_Model 42 30 (d := 53) dX12_init_125 (by omega) rfl (by decide) rfl q_4_11 rfl rfl (fun _ => ⟨rfl, rfl⟩) (kz := 30) rfl ?_
  refine x_aload_n C 0 dX12_init_128 rfl rfl ?_
  refine x_bipush C dX12_init_129 (w := 12) (by decide) ?_
  refine x_newI C (z := 12) (N := 12) rfl (by decide) dX12_init_131 rfl q_1_2 (Nat.le_of_ble_eq_true rfl) (Nat.le_of_ble_eq_true rfl) ?_
  refine x_putr C (hct rfl) ok_Model 42 32 (d := 54) dX12_init_133 (by omega) rfl (by decide) rfl q_4_12 rfl rfl (fun _ => ⟨rfl, rfl⟩) (kz := 32) rfl ?_
  refine x_aload_n C 0 dX12_init_136 rfl rfl ?_
  refine x_bipush C dX12_init_137 (w := 12) (by decide) ?_
  refine x_newI C (z := 12) (N := 12) rfl (by decide) dX12_init_139 rfl q_1_2 (Nat.le_of_ble_eq_true rfl) (Nat.le_of_ble_eq_true rfl) ?_
  refine x_putr C (hct rfl) ok_Model 42 33 (d := 55) dX12_init_141 (by omega) rfl (by decide) rfl q_4_13 rfl rfl (fun _ => ⟨rfl, rfl⟩) (kz := 33) rfl ?_
  refine x_aload_n C 0 dX12_init_144 rfl rfl ?_
  refine x_bipush C dX12_init_145 (w := 16) (by decide) ?_
  refine x_newI C (z := 16) (N := 16) rfl (by decide) dX12_init_147 rfl q_1_2 (Nat.le_of_ble_eq_true rfl) (Nat.le_of_ble_eq_true rfl) ?_
  refine x_putr C (hct rfl) ok_Model 42 34 (d := 56) dX12_init_149 (by omega) rfl (by decide) rfl q_4_14 rfl rfl (fun _ => ⟨rfl, rfl⟩) (kz := 34) rfl ?_
  refine x_aload_n C 0 dX12_init_152 rfl rfl ?_
  refine x_bipush C dX12_init_153 (w := 16) (by decide) ?_
  refine x_newZ C (z := 16) (N := 16) rfl (by decide) dX12_init_155 rfl q_4_15 (Nat.le_of_ble_eq_true rfl) (Nat.le_of_ble_eq_true rfl) ?_
  refine x_putr C (hct rfl) ok_Model 42 35 (d := 57) dX12_init_157 (by omega) rfl (by decide) rfl q_4_16 rfl rfl (fun _ => ⟨rfl, rfl⟩) (kz := 35) rfl ?_
  refine x_aload_n C 0 dX12_init_160 rfl rfl ?_
  refine x_bipush C dX12_init_161 (w := 32) (by decide) ?_
  refine x_newI C (z := 32) (N := 32) rfl (by decide) dX12_init_163 rfl q_1_2 (Nat.le_of_ble_eq_true rfl) (Nat.le_of_ble_eq_true rfl) ?_
  refine x_putr C (hct rfl) ok_Model 42 36 (d := 58) dX12_init_165 (by omega) rfl (by decide) rfl q_4_17 rfl rfl (fun _ => ⟨rfl, rfl⟩) (kz := 36) rfl ?_
  refine x_aload_n C 0 dX12_init_168 rfl rfl ?_
  refine x_iconst C dX12_init_169 ?_
  refine x_bipush C dX12_init_170 (w := 40) (by decide) ?_
  refine x_newM C rfl dX12_init_172 q_4_18 q_1_7 (Nat.le_of_ble_eq_true rfl) (Nat.le_of_ble_eq_true rfl) ?_
  refine x_putr C (hct rfl) ok_Model 42 38 (d := 59) dX12_init_176 (by omega) rfl (by decide) rfl q_4_19 rfl rfl (fun _ => ⟨rfl, rfl⟩) (kz := 38) rfl ?_
  refine x_aload_n C 0 dX12_init_179 rfl rfl ?_
  refine x_iconst C dX12_init_180 ?_
  refine x_newI C (z := 4) (N := 4) rfl (by decide) dX12_init_181 rfl q_1_2 (Nat.le_of_ble_eq_true rfl) (Nat.le_of_ble_eq_true rfl) ?_
  refine x_dup C dX12_init_183 rfl ?_
  refine x_iconst C dX12_init_184 ?_
  refine x_iconst C dX12_init_185 ?_
  refine x_iast C 64 dX12_init_186 (by omega) rfl (by refine ⟨?_, ?_⟩ <;> omega) (by first | assumption | (constructor <;> omega)) ?_
  refine x_dup C dX12_init_187 rfl ?_
  refine x_iconst C dX12_init_188 ?_
  refine x_iconst C dX12_init_189 ?_
  refine x_iast C 64 dX12_init_190 (by omega) rfl (by refine ⟨?_, ?_⟩ <;> omega) (by first | assumption | (constructor <;> omega)) ?_
  refine x_dup C dX12_init_191 rfl ?_
  refine x_iconst C dX12_init_192 ?_
  refine x_iconst C dX12_init_193 ?_
  refine x_iast C 64 dX12_init_194 (by omega) rfl (by refine ⟨?_, ?_⟩ <;> omega) (by first | assumption | (constructor <;> omega)) ?_
  refine x_dup C dX12_init_195 rfl ?_
  refine x_iconst C dX12_init_196 ?_
  refine x_iconst C dX12_init_197 ?_
  refine x_iast C 64 dX12_init_198 (by omega) rfl (by refine ⟨?_, ?_⟩ <;> omega) (by first | assumption | (constructor <;> omega)) ?_
  refine x_putr C (hct rfl) ok_Model 42 39 (d := 64) dX12_init_199 (by omega) rfl (by decide) rfl q_4_20 rfl rfl (fun _ => ⟨rfl, rfl⟩) (kz := 39) rfl ?_
  refine x_aload_n C 0 dX12_init_202 rfl rfl ?_
  refine x_iconst C dX12_init_203 ?_
  refine x_newI C (z := 4) (N := 4) rfl (by decide) dX12_init_204 rfl q_1_2 (Nat.le_of_ble_eq_true rfl) (Nat.le_of_ble_eq_true rfl) ?_
  refine x_putr C (hct rfl) ok_Model 42 40 (d := 65) dX12_init_206 (by omega) rfl (by decide) rfl q_4_21 rfl rfl (fun _ => ⟨rfl, rfl⟩) (kz := 40) rfl ?_
  refine x_aload_n C 0 dX12_init_209 rfl rfl ?_
  refine x_bipush C dX12_init_210 (w := 40) (by decide) ?_
  refine x_newL C (z := 40) (N := 40) rfl (by decide) dX12_init_212 rfl q_1_7 (Nat.le_of_ble_eq_true rfl) (Nat.le_of_ble_eq_true rfl) ?_
  refine x_putr C (hct rfl) ok_Model 42 41 (d := 66) dX12_init_214 (by omega) rfl (by decide) rfl q_4_22 rfl rfl (fun _ => ⟨rfl, rfl⟩) (kz := 41) rfl ?_
  refine x_wid (cells' := 24) (slots' := 3334) (by first | decide | omega) (by first | decide | omega) ?_
  refine x_vret C dX12_init_217 ⟨_, _, rfl, rfl, ?_, ?_, ?_, ?_⟩
  · intro c hc; repeat (first | rw [u2_n (by omega)] | rw [uC_n (by omega)] | rw [mV_n (by omega)])
  · intro c hc; (repeat (first | rw [u2_n (by omega)] | rw [uC_n (by omega)])) <;> rfl
  · intro c z ha hb h3 h4; obtain rfl | rfl | rfl | rfl | rfl | rfl | rfl | rfl | rfl | rfl | rfl | rfl | rfl | rfl | rfl | rfl | rfl | rfl | rfl | rfl | rfl | rfl | rfl | rfl | rfl : c = 42 ∨ c = 43 ∨ c = 44 ∨ c = 45 ∨ c = 46 ∨ c = 47 ∨ c = 48 ∨ c = 49 ∨ c = 50 ∨ c = 51 ∨ c = 52 ∨ c = 53 ∨ c = 54 ∨ c = 55 ∨ c = 56 ∨ c = 57 ∨ c = 58 ∨ c = 59 ∨ c = 60 ∨ c = 61 ∨ c = 62 ∨ c = 63 ∨ c = 64 ∨ c = 65 ∨ c = 66 := (by omega); all_goals first | exact absurd rfl h3 | exact absurd rfl h4 | (simp [u2, u1, uC, mV, iniV, hV0]; done) | (unfold iniV; rw [if_pos (by decide)]; by_cases w : 0 ≤ z ∧ z < 7; (rw [if_pos w]; obtain rfl | rfl | rfl | rfl | rfl | rfl | rfl : z = 0 ∨ z = 1 ∨ z = 2 ∨ z = 3 ∨ z = 4 ∨ z = 5 ∨ z = 6 := (by omega); all_goals (first | rfl | simp [u2, u1, uC, mV])); (rw [if_neg w]; simp [u2, u1, uC, mV, (show z ≠ 0 by omega), (show z ≠ 1 by omega), (show z ≠ 2 by omega), (show z ≠ 3 by omega), (show z ≠ 4 by omega), (show z ≠ 5 by omega), (show z ≠ 6 by omega)])) | (unfold iniV; rw [if_neg (by decide), if_pos (by decide)]; by_cases w : 0 ≤ z ∧ z < 4; (rw [if_pos w]; obtain rfl | rfl | rfl | rfl : z = 0 ∨ z = 1 ∨ z = 2 ∨ z = 3 := (by omega); all_goals (first | rfl | simp [u2, u1, uC, mV])); (rw [if_neg w]; simp [u2, u1, uC, mV, (show z ≠ 0 by omega), (show z ≠ 1 by omega), (show z ≠ 2 by omega), (show z ≠ 3 by omega)]))
  · refine ⟨?_, ?_, ?_, ?_, ?_, ?_, ?_, ?_, ?_, ?_, ?_, ?_, ?_, ?_, ?_, ?_, ?_, ?_, ?_, ?_, ?_, ?_, ?_, ?_⟩ <;> (rfl)
