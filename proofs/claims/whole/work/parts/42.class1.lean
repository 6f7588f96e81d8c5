/-- a fault's place by u, v (the class's numbers); inF by columns and rows -/
def inU (k a z u v : Int) : Prop :=
  (k = 0 ∧ 0 < tat tAU a * u + tat tAV a * v ∧ (tat tAU a * v - tat tAV a * u).natAbs ≤ z) ∨
  ((k = 1 ∨ k = 2) ∧ 0 < tat tAU a * u + tat tAV a * v ∧ (tat tAU a * v - tat tAV a * u).natAbs ≤ z + 2) ∨
  (k = 3 ∧ (tat tAU a * v - tat tAV a * u).natAbs ≤ (1 : Int)) ∨
  (k = 4 ∧ (2 * z - 1) * (2 * z - 1) ≤ u * u + v * v ∧ u * u + v * v ≤ (2 * z + 1) * (2 * z + 1)) ∨
  (k = 5 ∧ u * u + v * v ≤ 4 * z * z) ∨
  (k = 6 ∧ u * u + v * v ≤ 4 * z * z ∧ 0 < tat tAU a * u + tat tAV a * v)
theorem inU_F {k a z x y : Int} : inU k a z (2 * x - 11) (2 * y - 11) = inF k a z x y := rfl
/-- slices from its own on, of a log of length L -/
def lastC (k sl z L : Int) : Int := if k = 0 ∨ k = 1 then z else if k = 2 then 2 * z else if k = 3 ∨ k = 4 then z + 2 else L - sl
def wideF (k z : Int) : Int := if k = 0 then z else z + 2
theorem wideF_b {k z : Int} (h : 1 ≤ z ∧ z ≤ 4) : 1 ≤ wideF k z ∧ wideF k z ≤ 6 := by unfold wideF; split <;> omega
theorem mul_11 {a b : Int} (ha : -1 ≤ a ∧ a ≤ 1) (hb : -11 ≤ b ∧ b ≤ 11) : -11 ≤ a * b ∧ a * b ≤ 11 := by
  rcases (show a = -1 ∨ a = 0 ∨ a = 1 by omega) with e | e | e <;> subst e <;> omega
theorem sq_11 {b : Int} (hb : -11 ≤ b ∧ b ≤ 11) : 0 ≤ b * b ∧ b * b ≤ 121 := by
  have h : b.natAbs ≤ 11 := by omega
  have e : b * b = ((b.natAbs * b.natAbs : Nat) : Int) := (Int.natAbs_mul_self).symm
  have h2 : b.natAbs * b.natAbs ≤ 11 * 11 := Nat.mul_le_mul h h
  rw [e]; omega
theorem sq_4 {z : Int} (h : 1 ≤ z ∧ z ≤ 4) : (4 ≤ 4 * z * z ∧ 4 * z * z ≤ 64) ∧ (1 ≤ (2 * z - 1) * (2 * z - 1) ∧ (2 * z - 1) * (2 * z - 1) ≤ 49) ∧ (9 ≤ (2 * z + 1) * (2 * z + 1) ∧ (2 * z + 1) * (2 * z + 1) ≤ 81) := by
  rcases (show z = 1 ∨ z = 2 ∨ z = 3 ∨ z = 4 by omega) with e | e | e | e <;> subst e <;> decide
theorem in1 {k a z u v : Int} (h : k = 0 ∨ k = 1 ∨ k = 2) : inU k a z u v ↔ (0 < tat tAU a * u + tat tAV a * v ∧ ((tat tAU a * v - tat tAV a * u).natAbs : Int) ≤ wideF k z) := by
  unfold inU wideF
  rcases h with e | e | e <;> subst e <;> simp
theorem in3 {k a z u v : Int} (h : k = 3) : inU k a z u v ↔ ((tat tAU a * v - tat tAV a * u).natAbs : Int) ≤ 1 := by
  subst h; unfold inU; simp
theorem in4 {k a z u v : Int} (h : k = 4) : inU k a z u v ↔ ((2 * z - 1) * (2 * z - 1) ≤ u * u + v * v ∧ u * u + v * v ≤ (2 * z + 1) * (2 * z + 1)) := by
  subst h; unfold inU; simp
theorem in5 {k a z u v : Int} (h : k = 5) : inU k a z u v ↔ u * u + v * v ≤ 4 * z * z := by
  subst h; unfold inU; simp
theorem in6 {k a z u v : Int} (h : k = 6) : inU k a z u v ↔ (u * u + v * v ≤ 4 * z * z ∧ 0 < tat tAU a * u + tat tAV a * v) := by
  subst h; unfold inU; simp
theorem lastC_b {k sl z L : Int} (hz : 1 ≤ z ∧ z ≤ 4) (hs : 0 ≤ sl ∧ sl ≤ 7) (hL : 0 ≤ L ∧ L ≤ 8) : -7 ≤ lastC k sl z L ∧ lastC k sl z L ≤ 8 := by unfold lastC; (repeat' split) <;> omega

set_option maxRecDepth 100000 in
set_option maxHeartbeats 4000000 in
theorem m_X1_kind (G : GS) (n : Nat) (V : Nat → Int → Int) (R : Nat → Int → Option Nat) (c : Nat) (hn : 67 ≤ n) (hLR : LR R) (hc : c < n) (ht : tb c = (99, 0)) (hk : V c 3 = 0) : Cn G yX1_kind cX1_kind 1 (some .int) (rmk 1 0 0 16) [.ref (aG G c)] n V R 0 0 (fun vv uu => vv = some (.int (iI (V c 3))) ∧ uu = (n, V, R)) := by
  refine Cn.of (by decide) (Nat.le_of_ble_eq_true rfl) (fun K C hct => ?_)
  show Xw K G 0 0 _ n V R 0 [(0, .ref (aG G c))] []
  refine x_iconst C dX1_kind_0 ?_
  refine x_iret C dX1_kind_1 ⟨congrArg (fun z => some (Value.int (iI z))) (by omega), rfl⟩
set_option maxRecDepth 100000 in
set_option maxHeartbeats 4000000 in
theorem m_X2_kind (G : GS) (n : Nat) (V : Nat → Int → Int) (R : Nat → Int → Option Nat) (c : Nat) (hn : 67 ≤ n) (hLR : LR R) (hc : c < n) (ht : tb c = (99, 0)) (hk : V c 3 = 1) : Cn G yX2_kind cX2_kind 1 (some .int) (rmk 1 0 0 16) [.ref (aG G c)] n V R 0 0 (fun vv uu => vv = some (.int (iI (V c 3))) ∧ uu = (n, V, R)) := by
  refine Cn.of (by decide) (Nat.le_of_ble_eq_true rfl) (fun K C hct => ?_)
  show Xw K G 0 0 _ n V R 0 [(0, .ref (aG G c))] []
  refine x_iconst C dX2_kind_0 ?_
  refine x_iret C dX2_kind_1 ⟨congrArg (fun z => some (Value.int (iI z))) (by omega), rfl⟩
set_option maxRecDepth 100000 in
set_option maxHeartbeats 4000000 in
theorem m_X8_kind (G : GS) (n : Nat) (V : Nat → Int → Int) (R : Nat → Int → Option Nat) (c : Nat) (hn : 67 ≤ n) (hLR : LR R) (hc : c < n) (ht : tb c = (99, 0)) (hk : V c 3 = 2) : Cn G yX8_kind cX8_kind 1 (some .int) (rmk 1 0 0 16) [.ref (aG G c)] n V R 0 0 (fun vv uu => vv = some (.int (iI (V c 3))) ∧ uu = (n, V, R)) := by
  refine Cn.of (by decide) (Nat.le_of_ble_eq_true rfl) (fun K C hct => ?_)
  show Xw K G 0 0 _ n V R 0 [(0, .ref (aG G c))] []
  refine x_iconst C dX8_kind_0 ?_
  refine x_iret C dX8_kind_1 ⟨congrArg (fun z => some (Value.int (iI z))) (by omega), rfl⟩
set_option maxRecDepth 100000 in
set_option maxHeartbeats 4000000 in
theorem m_X7_kind (G : GS) (n : Nat) (V : Nat → Int → Int) (R : Nat → Int → Option Nat) (c : Nat) (hn : 67 ≤ n) (hLR : LR R) (hc : c < n) (ht : tb c = (99, 0)) (hk : V c 3 = 3) : Cn G yX7_kind cX7_kind 1 (some .int) (rmk 1 0 0 16) [.ref (aG G c)] n V R 0 0 (fun vv uu => vv = some (.int (iI (V c 3))) ∧ uu = (n, V, R)) := by
  refine Cn.of (by decide) (Nat.le_of_ble_eq_true rfl) (fun K C hct => ?_)
  show Xw K G 0 0 _ n V R 0 [(0, .ref (aG G c))] []
  refine x_iconst C dX7_kind_0 ?_
  refine x_iret C dX7_kind_1 ⟨congrArg (fun z => some (Value.int (iI z))) (by omega), rfl⟩
set_option maxRecDepth 100000 in
set_option maxHeartbeats 4000000 in
theorem m_X4_kind (G : GS) (n : Nat) (V : Nat → Int → Int) (R : Nat → Int → Option Nat) (c : Nat) (hn : 67 ≤ n) (hLR : LR R) (hc : c < n) (ht : tb c = (99, 0)) (hk : V c 3 = 4) : Cn G yX4_kind cX4_kind 1 (some .int) (rmk 1 0 0 16) [.ref (aG G c)] n V R 0 0 (fun vv uu => vv = some (.int (iI (V c 3))) ∧ uu = (n, V, R)) := by
  refine Cn.of (by decide) (Nat.le_of_ble_eq_true rfl) (fun K C hct => ?_)
  show Xw K G 0 0 _ n V R 0 [(0, .ref (aG G c))] []
  refine x_iconst C dX4_kind_0 ?_
  refine x_iret C dX4_kind_1 ⟨congrArg (fun z => some (Value.int (iI z))) (by omega), rfl⟩
set_option maxRecDepth 100000 in
set_option maxHeartbeats 4000000 in
theorem m_X5_kind (G : GS) (n : Nat) (V : Nat → Int → Int) (R : Nat → Int → Option Nat) (c : Nat) (hn : 67 ≤ n) (hLR : LR R) (hc : c < n) (ht : tb c = (99, 0)) (hk : V c 3 = 5) : Cn G yX5_kind cX5_kind 1 (some .int) (rmk 1 0 0 16) [.ref (aG G c)] n V R 0 0 (fun vv uu => vv = some (.int (iI (V c 3))) ∧ uu = (n, V, R)) := by
  refine Cn.of (by decide) (Nat.le_of_ble_eq_true rfl) (fun K C hct => ?_)
  show Xw K G 0 0 _ n V R 0 [(0, .ref (aG G c))] []
  refine x_iconst C dX5_kind_0 ?_
  refine x_iret C dX5_kind_1 ⟨congrArg (fun z => some (Value.int (iI z))) (by omega), rfl⟩
set_option maxRecDepth 100000 in
set_option maxHeartbeats 4000000 in
theorem m_X9_kind (G : GS) (n : Nat) (V : Nat → Int → Int) (R : Nat → Int → Option Nat) (c : Nat) (hn : 67 ≤ n) (hLR : LR R) (hc : c < n) (ht : tb c = (99, 0)) (hk : V c 3 = 6) : Cn G yX9_kind cX9_kind 1 (some .int) (rmk 1 0 0 16) [.ref (aG G c)] n V R 0 0 (fun vv uu => vv = some (.int (iI (V c 3))) ∧ uu = (n, V, R)) := by
  refine Cn.of (by decide) (Nat.le_of_ble_eq_true rfl) (fun K C hct => ?_)
  show Xw K G 0 0 _ n V R 0 [(0, .ref (aG G c))] []
  refine x_bipush C dX9_kind_0 (w := 6) (by decide) ?_
  refine x_iret C dX9_kind_2 ⟨congrArg (fun z => some (Value.int (iI z))) (by omega), rfl⟩
set_option maxRecDepth 100000 in
set_option maxHeartbeats 4000000 in
theorem m_X1_lasts (G : GS) (n : Nat) (V : Nat → Int → Int) (R : Nat → Int → Option Nat) (c : Nat) (L : Int) (hn : 67 ≤ n) (hLR : LR R) (hc : c < n) (ht : tb c = (99, 0)) (hL : 0 ≤ L ∧ L ≤ 8) : Cn G yX1_lasts cX1_lasts 2 (some .int) (rmk 1 0 0 16) [.ref (aG G c), .int (iI L)] n V R 0 0 (fun vv uu => vv = some (.int (iI (V c 2))) ∧ uu = (n, V, R)) := by
  refine Cn.of (by decide) (Nat.le_of_ble_eq_true rfl) (fun K C hct => ?_)
  show Xw K G 0 0 _ n V R 0 [(0, .ref (aG G c)), (1, .int (iI L))] []
  refine x_aload_n C 0 dX1_lasts_0 rfl rfl ?_
  refine x_getF C c 2 dX1_lasts_1 hc ht (by decide) q_19_21 (Or.inr q_19_22) (kz := 2) rfl (fun rg1 => ?_)
  refine x_iret C dX1_lasts_4 ⟨rfl, rfl⟩
set_option maxRecDepth 100000 in
set_option maxHeartbeats 4000000 in
theorem m_X7_lasts (G : GS) (n : Nat) (V : Nat → Int → Int) (R : Nat → Int → Option Nat) (c : Nat) (L : Int) (hn : 67 ≤ n) (hLR : LR R) (hc : c < n) (ht : tb c = (99, 0)) (hL : 0 ≤ L ∧ L ≤ 8) (hk : V c 3 = 3 ∨ V c 3 = 4) : Cn G yX7_lasts cX7_lasts 2 (some .int) (rmk 1 0 0 16) [.ref (aG G c), .int (iI L)] n V R 0 0 (fun vv uu => vv = some (.int (iI (lastC (V c 3) (V c 1) (V c 2) L))) ∧ uu = (n, V, R)) := by
  refine Cn.of (by decide) (Nat.le_of_ble_eq_true rfl) (fun K C hct => ?_)
  show Xw K G 0 0 _ n V R 0 [(0, .ref (aG G c)), (1, .int (iI L))] []
  refine x_aload_n C 0 dX7_lasts_0 rfl rfl ?_
  refine x_getF C c 2 dX7_lasts_1 hc ht (by decide) q_20_3 (Or.inr q_20_4) (kz := 2) rfl (fun rg1 => ?_)
  refine x_iconst C dX7_lasts_4 ?_
  refine x_iadd C dX7_lasts_5 ?_
  refine x_iret C dX7_lasts_6 ⟨congrArg (fun z => some (Value.int (iI z))) (by unfold lastC; (repeat' split) <;> omega), rfl⟩
set_option maxRecDepth 100000 in
set_option maxHeartbeats 4000000 in
theorem m_X5_lasts (G : GS) (n : Nat) (V : Nat → Int → Int) (R : Nat → Int → Option Nat) (c : Nat) (L : Int) (hn : 67 ≤ n) (hLR : LR R) (hc : c < n) (ht : tb c = (99, 0)) (hL : 0 ≤ L ∧ L ≤ 8) (hk : V c 3 = 5 ∨ V c 3 = 6) (hs : 0 ≤ V c 1 ∧ V c 1 ≤ 7) : Cn G yX5_lasts cX5_lasts 2 (some .int) (rmk 1 0 0 16) [.ref (aG G c), .int (iI L)] n V R 0 0 (fun vv uu => vv = some (.int (iI (lastC (V c 3) (V c 1) (V c 2) L))) ∧ uu = (n, V, R)) := by
  refine Cn.of (by decide) (Nat.le_of_ble_eq_true rfl) (fun K C hct => ?_)
  show Xw K G 0 0 _ n V R 0 [(0, .ref (aG G c)), (1, .int (iI L))] []
  refine x_iload_n C 1 dX5_lasts_0 rfl rfl ?_
  refine x_aload_n C 0 dX5_lasts_1 rfl rfl ?_
  refine x_getF C c 1 dX5_lasts_2 hc ht (by decide) q_20_8 (Or.inr q_20_9) (kz := 1) rfl (fun rg2 => ?_)
  refine x_isub C dX5_lasts_5 ?_
  refine x_iret C dX5_lasts_6 ⟨congrArg (fun z => some (Value.int (iI z))) (by unfold lastC; (repeat' split) <;> omega), rfl⟩
set_option maxRecDepth 100000 in
set_option maxHeartbeats 4000000 in
theorem m_X8_lasts (G : GS) (n : Nat) (V : Nat → Int → Int) (R : Nat → Int → Option Nat) (c : Nat) (L : Int) (hn : 67 ≤ n) (hLR : LR R) (hc : c < n) (ht : tb c = (99, 0)) (hL : 0 ≤ L ∧ L ≤ 8) (hk : V c 3 = 2) (hz : 1 ≤ V c 2 ∧ V c 2 ≤ 4) : Cn G yX8_lasts cX8_lasts 2 (some .int) (rmk 2 0 0 37) [.ref (aG G c), .int (iI L)] n V R 0 0 (fun vv uu => vv = some (.int (iI (lastC (V c 3) (V c 1) (V c 2) L))) ∧ uu = (n, V, R)) := by
  refine Cn.of (by decide) (Nat.le_of_ble_eq_true rfl) (fun K C hct => ?_)
  show Xw K G 0 0 _ n V R 0 [(0, .ref (aG G c)), (1, .int (iI L))] []
  refine x_iconst C dX8_lasts_0 ?_
  refine x_aload_n C 0 dX8_lasts_1 rfl rfl ?_
  refine x_iload_n C 1 dX8_lasts_2 rfl rfl ?_
  obtain ⟨r3, hr3⟩ := vkcl_ex (V c 3)
  refine x_runU (r_callSL C c hc ht hr3 (ce_X1_lasts) (m_X1_lasts G n V R (c) (L) hn hLR (by first | assumption | omega | decide) (by first | assumption | omega | decide) (by first | assumption | omega | decide)) rfl dX8_lasts_3 q_22_7 q_19_19 rfl rfl ⟨Nat.le_of_ble_eq_true rfl, Nat.le_of_ble_eq_true rfl⟩ ⟨rfl, rfl⟩ ⟨Nat.le_of_ble_eq_true rfl, Nat.le_of_ble_eq_true rfl⟩ (Nat.le_of_ble_eq_true rfl)) (fun v3 u3 hp3 => ?_)
  obtain ⟨rfl, rfl⟩ := hp3
  show Xw K G 0 0 _ n V R 6 [(0, .ref (aG G c)), (1, .int (iI L))] [.int (iI (V c 2)), .int (iI 2)]
  refine x_imul C dX8_lasts_6 ?_
  refine x_iret C dX8_lasts_7 ⟨congrArg (fun z => some (Value.int (iI z))) (by unfold lastC; (repeat' split) <;> omega), rfl⟩
set_option maxRecDepth 100000 in
set_option maxHeartbeats 4000000 in
theorem m_X1_hurts (G : GS) (n : Nat) (V : Nat → Int → Int) (R : Nat → Int → Option Nat) (c : Nat) (hn : 67 ≤ n) (hLR : LR R) (hc : c < n) (ht : tb c = (99, 0)) : Cn G yX1_hurts cX1_hurts 1 (some .int) (rmk 1 0 0 16) [.ref (aG G c)] n V R 0 0 (fun vv uu => vv = some (.int (iI 1)) ∧ uu = (n, V, R)) := by
  refine Cn.of (by decide) (Nat.le_of_ble_eq_true rfl) (fun K C hct => ?_)
  show Xw K G 0 0 _ n V R 0 [(0, .ref (aG G c))] []
  refine x_iconst C dX1_hurts_0 ?_
  refine x_iret C dX1_hurts_1 ⟨rfl, rfl⟩
set_option maxRecDepth 100000 in
set_option maxHeartbeats 4000000 in
theorem m_X2_hurts (G : GS) (n : Nat) (V : Nat → Int → Int) (R : Nat → Int → Option Nat) (c : Nat) (hn : 67 ≤ n) (hLR : LR R) (hc : c < n) (ht : tb c = (99, 0)) (hk : V c 3 = 1 ∨ V c 3 = 2) : Cn G yX2_hurts cX2_hurts 1 (some .int) (rmk 2 0 0 36) [.ref (aG G c)] n V R 0 0 (fun vv uu => vv = some (.int (iI (hurtK (V c 3)))) ∧ uu = (n, V, R)) := by
  refine Cn.of (by decide) (Nat.le_of_ble_eq_true rfl) (fun K C hct => ?_)
  show Xw K G 0 0 _ n V R 0 [(0, .ref (aG G c))] []
  refine x_aload_n C 0 dX2_hurts_0 rfl rfl ?_
  obtain ⟨r1, hr1⟩ := vkcl_ex (V c 3)
  refine x_runU (r_callSU C c hc ht hr1 (ce_X1_hurts) (m_X1_hurts G n V R (c) hn hLR (by first | assumption | omega | decide) (by first | assumption | omega | decide)) rfl dX2_hurts_1 q_23_22 q_23_23 q_22_7 q_23_17 (by decide) rfl rfl ⟨Nat.le_of_ble_eq_true rfl, Nat.le_of_ble_eq_true rfl⟩ ⟨rfl, rfl⟩ ⟨Nat.le_of_ble_eq_true rfl, Nat.le_of_ble_eq_true rfl⟩ (Nat.le_of_ble_eq_true rfl)) (fun v1 u1 hp1 => ?_)
  obtain ⟨rfl, rfl⟩ := hp1
  show Xw K G 0 0 _ n V R 4 [(0, .ref (aG G c))] [.int (iI 1)]
  refine x_iconst C dX2_hurts_4 ?_
  refine x_iadd C dX2_hurts_5 ?_
  refine x_iret C dX2_hurts_6 ⟨congrArg (fun z => some (Value.int (iI z))) (by unfold hurtK; (repeat' split) <;> omega), rfl⟩
set_option maxRecDepth 100000 in
set_option maxHeartbeats 4000000 in
theorem m_X7_hurts (G : GS) (n : Nat) (V : Nat → Int → Int) (R : Nat → Int → Option Nat) (c : Nat) (hn : 67 ≤ n) (hLR : LR R) (hc : c < n) (ht : tb c = (99, 0)) : Cn G yX7_hurts cX7_hurts 1 (some .int) (rmk 1 0 0 16) [.ref (aG G c)] n V R 0 0 (fun vv uu => vv = some (.int (iI 3)) ∧ uu = (n, V, R)) := by
  refine Cn.of (by decide) (Nat.le_of_ble_eq_true rfl) (fun K C hct => ?_)
  show Xw K G 0 0 _ n V R 0 [(0, .ref (aG G c))] []
  refine x_iconst C dX7_hurts_0 ?_
  refine x_iret C dX7_hurts_1 ⟨rfl, rfl⟩
set_option maxRecDepth 100000 in
set_option maxHeartbeats 4000000 in
theorem m_X4_hurts (G : GS) (n : Nat) (V : Nat → Int → Int) (R : Nat → Int → Option Nat) (c : Nat) (hn : 67 ≤ n) (hLR : LR R) (hc : c < n) (ht : tb c = (99, 0)) (hk : V c 3 = 4) : Cn G yX4_hurts cX4_hurts 1 (some .int) (rmk 2 0 0 36) [.ref (aG G c)] n V R 0 0 (fun vv uu => vv = some (.int (iI (hurtK (V c 3)))) ∧ uu = (n, V, R)) := by
  refine Cn.of (by decide) (Nat.le_of_ble_eq_true rfl) (fun K C hct => ?_)
  show Xw K G 0 0 _ n V R 0 [(0, .ref (aG G c))] []
  refine x_aload_n C 0 dX4_hurts_0 rfl rfl ?_
  obtain ⟨r1, hr1⟩ := vkcl_ex (V c 3)
  refine x_runU (r_callSU C c hc ht hr1 (ce_X7_hurts) (m_X7_hurts G n V R (c) hn hLR (by first | assumption | omega | decide) (by first | assumption | omega | decide)) rfl dX4_hurts_1 q_24_3 q_24_4 q_24_5 q_24_6 (by decide) rfl rfl ⟨Nat.le_of_ble_eq_true rfl, Nat.le_of_ble_eq_true rfl⟩ ⟨rfl, rfl⟩ ⟨Nat.le_of_ble_eq_true rfl, Nat.le_of_ble_eq_true rfl⟩ (Nat.le_of_ble_eq_true rfl)) (fun v1 u1 hp1 => ?_)
  obtain ⟨rfl, rfl⟩ := hp1
  show Xw K G 0 0 _ n V R 4 [(0, .ref (aG G c))] [.int (iI 3)]
  refine x_iconst C dX4_hurts_4 ?_
  refine x_iadd C dX4_hurts_5 ?_
  refine x_iret C dX4_hurts_6 ⟨congrArg (fun z => some (Value.int (iI z))) (by unfold hurtK; (repeat' split) <;> omega), rfl⟩
set_option maxRecDepth 100000 in
set_option maxHeartbeats 4000000 in
theorem m_X5_hurts (G : GS) (n : Nat) (V : Nat → Int → Int) (R : Nat → Int → Option Nat) (c : Nat) (hn : 67 ≤ n) (hLR : LR R) (hc : c < n) (ht : tb c = (99, 0)) : Cn G yX5_hurts cX5_hurts 1 (some .int) (rmk 1 0 0 16) [.ref (aG G c)] n V R 0 0 (fun vv uu => vv = some (.int (iI 9)) ∧ uu = (n, V, R)) := by
  refine Cn.of (by decide) (Nat.le_of_ble_eq_true rfl) (fun K C hct => ?_)
  show Xw K G 0 0 _ n V R 0 [(0, .ref (aG G c))] []
  refine x_bipush C dX5_hurts_0 (w := 9) (by decide) ?_
  refine x_iret C dX5_hurts_2 ⟨rfl, rfl⟩
set_option maxRecDepth 100000 in
set_option maxHeartbeats 4000000 in
theorem m_X9_hurts (G : GS) (n : Nat) (V : Nat → Int → Int) (R : Nat → Int → Option Nat) (c : Nat) (hn : 67 ≤ n) (hLR : LR R) (hc : c < n) (ht : tb c = (99, 0)) : Cn G yX9_hurts cX9_hurts 1 (some .int) (rmk 1 0 0 16) [.ref (aG G c)] n V R 0 0 (fun vv uu => vv = some (.int (iI 1)) ∧ uu = (n, V, R)) := by
  refine Cn.of (by decide) (Nat.le_of_ble_eq_true rfl) (fun K C hct => ?_)
  show Xw K G 0 0 _ n V R 0 [(0, .ref (aG G c))] []
  refine x_iconst C dX9_hurts_0 ?_
  refine x_iret C dX9_hurts_1 ⟨rfl, rfl⟩
set_option maxRecDepth 100000 in
set_option maxHeartbeats 4000000 in
theorem m_X1_wide (G : GS) (n : Nat) (V : Nat → Int → Int) (R : Nat → Int → Option Nat) (c : Nat) (hn : 67 ≤ n) (hLR : LR R) (hc : c < n) (ht : tb c = (99, 0)) : Cn G yX1_wide cX1_wide 1 (some .int) (rmk 1 0 0 16) [.ref (aG G c)] n V R 0 0 (fun vv uu => vv = some (.int (iI (V c 2))) ∧ uu = (n, V, R)) := by
  refine Cn.of (by decide) (Nat.le_of_ble_eq_true rfl) (fun K C hct => ?_)
  show Xw K G 0 0 _ n V R 0 [(0, .ref (aG G c))] []
  refine x_aload_n C 0 dX1_wide_0 rfl rfl ?_
  refine x_getF C c 2 dX1_wide_1 hc ht (by decide) q_19_21 (Or.inr q_19_22) (kz := 2) rfl (fun rg1 => ?_)
  refine x_iret C dX1_wide_4 ⟨rfl, rfl⟩
set_option maxRecDepth 100000 in
set_option maxHeartbeats 4000000 in
theorem m_X2_wide (G : GS) (n : Nat) (V : Nat → Int → Int) (R : Nat → Int → Option Nat) (c : Nat) (hn : 67 ≤ n) (hLR : LR R) (hc : c < n) (ht : tb c = (99, 0)) (hz : 1 ≤ V c 2 ∧ V c 2 ≤ 4) : Cn G yX2_wide cX2_wide 1 (some .int) (rmk 2 0 0 36) [.ref (aG G c)] n V R 0 0 (fun vv uu => vv = some (.int (iI (V c 2 + 2))) ∧ uu = (n, V, R)) := by
  refine Cn.of (by decide) (Nat.le_of_ble_eq_true rfl) (fun K C hct => ?_)
  show Xw K G 0 0 _ n V R 0 [(0, .ref (aG G c))] []
  refine x_aload_n C 0 dX2_wide_0 rfl rfl ?_
  obtain ⟨r1, hr1⟩ := vkcl_ex (V c 3)
  refine x_runU (r_callSU C c hc ht hr1 (ce_X1_wide) (m_X1_wide G n V R (c) hn hLR (by first | assumption | omega | decide) (by first | assumption | omega | decide)) rfl dX2_wide_1 q_22_6 q_22_1 q_22_7 q_21_21 (by decide) rfl rfl ⟨Nat.le_of_ble_eq_true rfl, Nat.le_of_ble_eq_true rfl⟩ ⟨rfl, rfl⟩ ⟨Nat.le_of_ble_eq_true rfl, Nat.le_of_ble_eq_true rfl⟩ (Nat.le_of_ble_eq_true rfl)) (fun v1 u1 hp1 => ?_)
  obtain ⟨rfl, rfl⟩ := hp1
  show Xw K G 0 0 _ n V R 4 [(0, .ref (aG G c))] [.int (iI (V c 2))]
  refine x_iconst C dX2_wide_4 ?_
  refine x_iadd C dX2_wide_5 ?_
  refine x_iret C dX2_wide_6 ⟨congrArg (fun z => some (Value.int (iI z))) (by omega), rfl⟩
set_option maxRecDepth 100000 in
set_option maxHeartbeats 4000000 in
theorem m_X0_along (G : GS) (n : Nat) (V : Nat → Int → Int) (R : Nat → Int → Option Nat) (c : Nat) (u : Int) (v : Int) (hn : 67 ≤ n) (hLR : LR R) (hc : c < n) (ht : tb c = (99, 0)) (ha : 0 ≤ V c 0 ∧ V c 0 ≤ 7) (hu : -11 ≤ u ∧ u ≤ 11) (hv : -11 ≤ v ∧ v ≤ 11) : Cn G yX0_along cX0_along 3 (some .int) (rmk 1 0 0 16) [.ref (aG G c), .int (iI u), .int (iI v)] n V R 0 0 (fun vv uu => vv = some (.int (iI (tat tAU (V c 0) * u + tat tAV (V c 0) * v))) ∧ uu = (n, V, R)) := by
  have tb1 := tat_b (V c 0)
  have m1 := mul_11 (a := tat tAU (V c 0)) (b := u) tb1.1 hu
  have m2 := mul_11 (a := tat tAV (V c 0)) (b := v) tb1.2 hv
  have m3 := mul_11 (a := tat tAU (V c 0)) (b := v) tb1.1 hv
  have m4 := mul_11 (a := tat tAV (V c 0)) (b := u) tb1.2 hu
  refine Cn.of (by decide) (Nat.le_of_ble_eq_true rfl) (fun K C hct => ?_)
  show Xw K G 0 0 _ n V R 0 [(0, .ref (aG G c)), (1, .int (iI u)), (2, .int (iI v))] []
  refine x_gets C 7 dX0_along_0 (by decide) (Or.inr ⟨"LogSawyer", List.mem_of_getElem? (i := 28) rfl⟩) rfl ?_
  refine x_aload_n C 0 dX0_along_3 rfl rfl ?_
  refine x_getF C c 0 dX0_along_4 hc ht (by decide) q_14_5 (Or.inl rfl) (kz := 0) rfl (fun rg4 => ?_)
  refine x_ti C 7 dX0_along_7 (by decide) (by first | (refine ⟨?_, ?_⟩ <;> (try simp only [sTb, tRM, tRF, tAU, tAV, List.length]) <;> omega)) ?_
  refine x_top (b := (tat tAU (V c 0))) (by rfl) ?_
  refine x_iload_n C 1 dX0_along_8 rfl rfl ?_
  refine x_imul C dX0_along_9 ?_
  refine x_gets C 8 dX0_along_10 (by decide) (Or.inr ⟨"LogSawyer", List.mem_of_getElem? (i := 29) rfl⟩) rfl ?_
  refine x_aload_n C 0 dX0_along_13 rfl rfl ?_
  refine x_getF C c 0 dX0_along_14 hc ht (by decide) q_14_5 (Or.inl rfl) (kz := 0) rfl (fun rg14 => ?_)
  refine x_ti C 8 dX0_along_17 (by decide) (by first | (refine ⟨?_, ?_⟩ <;> (try simp only [sTb, tRM, tRF, tAU, tAV, List.length]) <;> omega)) ?_
  refine x_top (b := (tat tAV (V c 0))) (by rfl) ?_
  refine x_iload_n C 2 dX0_along_18 rfl rfl ?_
  refine x_imul C dX0_along_19 ?_
  refine x_iadd C dX0_along_20 ?_
  refine x_iret C dX0_along_21 ⟨congrArg (fun z => some (Value.int (iI z))) (by omega), rfl⟩
set_option maxRecDepth 100000 in
set_option maxHeartbeats 4000000 in
theorem m_X0_across (G : GS) (n : Nat) (V : Nat → Int → Int) (R : Nat → Int → Option Nat) (c : Nat) (u : Int) (v : Int) (hn : 67 ≤ n) (hLR : LR R) (hc : c < n) (ht : tb c = (99, 0)) (ha : 0 ≤ V c 0 ∧ V c 0 ≤ 7) (hu : -11 ≤ u ∧ u ≤ 11) (hv : -11 ≤ v ∧ v ≤ 11) : Cn G yX0_across cX0_across 3 (some .int) (rmk 1 0 0 16) [.ref (aG G c), .int (iI u), .int (iI v)] n V R 0 0 (fun vv uu => vv = some (.int (iI ((tat tAU (V c 0) * v - tat tAV (V c 0) * u).natAbs : Int))) ∧ uu = (n, V, R)) := by
  have tb1 := tat_b (V c 0)
  have m1 := mul_11 (a := tat tAU (V c 0)) (b := u) tb1.1 hu
  have m2 := mul_11 (a := tat tAV (V c 0)) (b := v) tb1.2 hv
  have m3 := mul_11 (a := tat tAU (V c 0)) (b := v) tb1.1 hv
  have m4 := mul_11 (a := tat tAV (V c 0)) (b := u) tb1.2 hu
  refine Cn.of (by decide) (Nat.le_of_ble_eq_true rfl) (fun K C hct => ?_)
  show Xw K G 0 0 _ n V R 0 [(0, .ref (aG G c)), (1, .int (iI u)), (2, .int (iI v))] []
  refine x_gets C 7 dX0_across_0 (by decide) (Or.inr ⟨"LogSawyer", List.mem_of_getElem? (i := 28) rfl⟩) rfl ?_
  refine x_aload_n C 0 dX0_across_3 rfl rfl ?_
  refine x_getF C c 0 dX0_across_4 hc ht (by decide) q_14_5 (Or.inl rfl) (kz := 0) rfl (fun rg4 => ?_)
  refine x_ti C 7 dX0_across_7 (by decide) (by first | (refine ⟨?_, ?_⟩ <;> (try simp only [sTb, tRM, tRF, tAU, tAV, List.length]) <;> omega)) ?_
  refine x_top (b := (tat tAU (V c 0))) (by rfl) ?_
  refine x_iload_n C 2 dX0_across_8 rfl rfl ?_
  refine x_imul C dX0_across_9 ?_
  refine x_gets C 8 dX0_across_10 (by decide) (Or.inr ⟨"LogSawyer", List.mem_of_getElem? (i := 29) rfl⟩) rfl ?_
  refine x_aload_n C 0 dX0_across_13 rfl rfl ?_
  refine x_getF C c 0 dX0_across_14 hc ht (by decide) q_14_5 (Or.inl rfl) (kz := 0) rfl (fun rg14 => ?_)
  refine x_ti C 8 dX0_across_17 (by decide) (by first | (refine ⟨?_, ?_⟩ <;> (try simp only [sTb, tRM, tRF, tAU, tAV, List.length]) <;> omega)) ?_
  refine x_top (b := (tat tAV (V c 0))) (by rfl) ?_
  refine x_iload_n C 1 dX0_across_18 rfl rfl ?_
  refine x_imul C dX0_across_19 ?_
  refine x_isub C dX0_across_20 ?_
  refine x_abs C dX0_across_21 q_21_15 q_21_16 q_5_22 q_21_17 ⟨Nat.le_of_ble_eq_true rfl, Nat.le_of_ble_eq_true rfl⟩ ⟨Nat.zero_le _, Nat.zero_le _⟩ (by first | assumption | (constructor <;> omega)) ?_
  refine x_iret C dX0_across_24 ⟨congrArg (fun z => some (Value.int (iI z))) (by omega), rfl⟩
set_option maxRecDepth 100000 in
set_option maxHeartbeats 4000000 in
theorem m_X1_isIn (G : GS) (n : Nat) (V : Nat → Int → Int) (R : Nat → Int → Option Nat) (c : Nat) (u : Int) (v : Int) (hn : 67 ≤ n) (hLR : LR R) (hc : c < n) (ht : tb c = (99, 0)) (hk : V c 3 = 0 ∨ V c 3 = 1 ∨ V c 3 = 2) (ha : 0 ≤ V c 0 ∧ V c 0 ≤ 7) (hz : 1 ≤ V c 2 ∧ V c 2 ≤ 4) (hu : -11 ≤ u ∧ u ≤ 11) (hv : -11 ≤ v ∧ v ≤ 11) : Cn G yX1_isIn cX1_isIn 3 (some .boolean) (rmk 3 0 0 56) [.ref (aG G c), .int (iI u), .int (iI v)] n V R 0 0 (fun vv uu => vv = some (.int (iI (bI (inU (V c 3) (V c 0) (V c 2) u v)))) ∧ uu = (n, V, R)) := by
  have tb1 := tat_b (V c 0)
  have m1 := mul_11 (a := tat tAU (V c 0)) (b := u) tb1.1 hu
  have m2 := mul_11 (a := tat tAV (V c 0)) (b := v) tb1.2 hv
  have m3 := mul_11 (a := tat tAU (V c 0)) (b := v) tb1.1 hv
  have m4 := mul_11 (a := tat tAV (V c 0)) (b := u) tb1.2 hu
  have wb := wideF_b hz (k := V c 3)
  refine Cn.of (by decide) (Nat.le_of_ble_eq_true rfl) (fun K C hct => ?_)
  show Xw K G 0 0 _ n V R 0 [(0, .ref (aG G c)), (1, .int (iI u)), (2, .int (iI v))] []
  refine x_aload_n C 0 dX1_isIn_0 rfl rfl ?_
  refine x_iload_n C 1 dX1_isIn_1 rfl rfl ?_
  refine x_iload_n C 2 dX1_isIn_2 rfl rfl ?_
  refine x_runU (mc := 0) (ms := 0) (st := []) (post := (fun vv uu => vv = some (.int (iI (tat tAU (V c 0) * u + tat tAV (V c 0) * v))) ∧ uu = (n, V, R))) ?_ (fun v3 u3 hp3 => ?_)
  · rcases (show V c 3 = 0 ∨ V c 3 = 1 ∨ V c 3 = 2 by omega) with e | e | e
    · exact XRun.mono (r_callF C c hc ht (r := (RX1, TX1, 3)) (by rw [e]; rfl) (owner := "LogSawyer$Fault") ce_X0_along (m_X0_along G n V R (c) (u) (v) hn hLR (by first | assumption | omega | decide) (by first | assumption | omega | decide) (by first | assumption | omega | decide) (by first | assumption | omega | decide) (by first | assumption | omega | decide)) rfl dX1_isIn_3 q_21_3 q_21_4 ⟨by decide, by decide⟩ (Or.inr ⟨_, _, _, q_21_7, q_21_6⟩) rfl q_21_5 q_21_6 rfl rfl ⟨Nat.le_of_ble_eq_true rfl, Nat.le_of_ble_eq_true rfl⟩ ⟨rfl, rfl⟩ ⟨Nat.le_of_ble_eq_true rfl, Nat.le_of_ble_eq_true rfl⟩ (Nat.le_of_ble_eq_true rfl)) (fun vv uu h => by first | exact h | (exact ⟨h.1.trans (by rfl), h.2⟩))
    · exact XRun.mono (r_callF C c hc ht (r := (RX2, TX2, 3)) (by rw [e]; rfl) (owner := "LogSawyer$Fault") ce_X0_along (m_X0_along G n V R (c) (u) (v) hn hLR (by first | assumption | omega | decide) (by first | assumption | omega | decide) (by first | assumption | omega | decide) (by first | assumption | omega | decide) (by first | assumption | omega | decide)) rfl dX1_isIn_3 q_21_3 q_21_4 ⟨by decide, by decide⟩ (Or.inr ⟨_, _, _, q_21_7, q_21_6⟩) rfl q_21_8 q_21_6 rfl rfl ⟨Nat.le_of_ble_eq_true rfl, Nat.le_of_ble_eq_true rfl⟩ ⟨rfl, rfl⟩ ⟨Nat.le_of_ble_eq_true rfl, Nat.le_of_ble_eq_true rfl⟩ (Nat.le_of_ble_eq_true rfl)) (fun vv uu h => by first | exact h | (exact ⟨h.1.trans (by rfl), h.2⟩))
    · exact XRun.mono (r_callF C c hc ht (r := (RX8, TX8, 3)) (by rw [e]; rfl) (owner := "LogSawyer$Fault") ce_X0_along (m_X0_along G n V R (c) (u) (v) hn hLR (by first | assumption | omega | decide) (by first | assumption | omega | decide) (by first | assumption | omega | decide) (by first | assumption | omega | decide) (by first | assumption | omega | decide)) rfl dX1_isIn_3 q_21_3 q_21_4 ⟨by decide, by decide⟩ (Or.inr ⟨_, _, _, q_21_7, q_21_6⟩) rfl q_21_9 q_21_6 rfl rfl ⟨Nat.le_of_ble_eq_true rfl, Nat.le_of_ble_eq_true rfl⟩ ⟨rfl, rfl⟩ ⟨Nat.le_of_ble_eq_true rfl, Nat.le_of_ble_eq_true rfl⟩ (Nat.le_of_ble_eq_true rfl)) (fun vv uu h => by first | exact h | (exact ⟨h.1.trans (by rfl), h.2⟩))
  obtain ⟨rfl, rfl⟩ := hp3
  show Xw K G 0 0 _ n V R 6 [(0, .ref (aG G c)), (1, .int (iI u)), (2, .int (iI v))] [.int (iI (tat tAU (V c 0) * u + tat tAV (V c 0) * v))]
  refine x_if_le C dX1_isIn_6 (tgt := 26) (by decide) (by first | assumption | (constructor <;> omega)) (fun h6 => ?_) (fun h6 => ?_)
  · skip
    refine x_iconst C dX1_isIn_26 ?_
    refine x_zret C (Or.inl rfl) dX1_isIn_27 ⟨bI_rf (by rw [in1 hk]; omega), rfl⟩
  · skip
    refine x_aload_n C 0 dX1_isIn_9 rfl rfl ?_
    refine x_iload_n C 1 dX1_isIn_10 rfl rfl ?_
    refine x_iload_n C 2 dX1_isIn_11 rfl rfl ?_
    refine x_runU (mc := 0) (ms := 0) (st := []) (post := (fun vv uu => vv = some (.int (iI ((tat tAU (V c 0) * v - tat tAV (V c 0) * u).natAbs : Int))) ∧ uu = (n, V, R))) ?_ (fun v12 u12 hp12 => ?_)
    · rcases (show V c 3 = 0 ∨ V c 3 = 1 ∨ V c 3 = 2 by omega) with e | e | e
      · exact XRun.mono (r_callF C c hc ht (r := (RX1, TX1, 3)) (by rw [e]; rfl) (owner := "LogSawyer$Fault") ce_X0_across (m_X0_across G n V R (c) (u) (v) hn hLR (by first | assumption | omega | decide) (by first | assumption | omega | decide) (by first | assumption | omega | decide) (by first | assumption | omega | decide) (by first | assumption | omega | decide)) rfl dX1_isIn_12 q_21_10 q_21_11 ⟨by decide, by decide⟩ (Or.inr ⟨_, _, _, q_21_14, q_21_13⟩) rfl q_21_12 q_21_13 rfl rfl ⟨Nat.le_of_ble_eq_true rfl, Nat.le_of_ble_eq_true rfl⟩ ⟨rfl, rfl⟩ ⟨Nat.le_of_ble_eq_true rfl, Nat.le_of_ble_eq_true rfl⟩ (Nat.le_of_ble_eq_true rfl)) (fun vv uu h => by first | exact h | (exact ⟨h.1.trans (by rw [e]; rfl), h.2⟩))
      · exact XRun.mono (r_callF C c hc ht (r := (RX2, TX2, 3)) (by rw [e]; rfl) (owner := "LogSawyer$Fault") ce_X0_across (m_X0_across G n V R (c) (u) (v) hn hLR (by first | assumption | omega | decide) (by first | assumption | omega | decide) (by first | assumption | omega | decide) (by first | assumption | omega | decide) (by first | assumption | omega | decide)) rfl dX1_isIn_12 q_21_10 q_21_11 ⟨by decide, by decide⟩ (Or.inr ⟨_, _, _, q_21_14, q_21_13⟩) rfl q_21_18 q_21_13 rfl rfl ⟨Nat.le_of_ble_eq_true rfl, Nat.le_of_ble_eq_true rfl⟩ ⟨rfl, rfl⟩ ⟨Nat.le_of_ble_eq_true rfl, Nat.le_of_ble_eq_true rfl⟩ (Nat.le_of_ble_eq_true rfl)) (fun vv uu h => by first | exact h | (exact ⟨h.1.trans (by rw [e]; rfl), h.2⟩))
      · exact XRun.mono (r_callF C c hc ht (r := (RX8, TX8, 3)) (by rw [e]; rfl) (owner := "LogSawyer$Fault") ce_X0_across (m_X0_across G n V R (c) (u) (v) hn hLR (by first | assumption | omega | decide) (by first | assumption | omega | decide) (by first | assumption | omega | decide) (by first | assumption | omega | decide) (by first | assumption | omega | decide)) rfl dX1_isIn_12 q_21_10 q_21_11 ⟨by decide, by decide⟩ (Or.inr ⟨_, _, _, q_21_14, q_21_13⟩) rfl q_21_19 q_21_13 rfl rfl ⟨Nat.le_of_ble_eq_true rfl, Nat.le_of_ble_eq_true rfl⟩ ⟨rfl, rfl⟩ ⟨Nat.le_of_ble_eq_true rfl, Nat.le_of_ble_eq_true rfl⟩ (Nat.le_of_ble_eq_true rfl)) (fun vv uu h => by first | exact h | (exact ⟨h.1.trans (by rw [e]; rfl), h.2⟩))
    obtain ⟨rfl, rfl⟩ := hp12
    show Xw K G 0 0 _ n V R 15 [(0, .ref (aG G c)), (1, .int (iI u)), (2, .int (iI v))] [.int (iI ((tat tAU (V c 0) * v - tat tAV (V c 0) * u).natAbs : Int))]
    refine x_aload_n C 0 dX1_isIn_15 rfl rfl ?_
    refine x_runU (mc := 0) (ms := 0) (st := [.int (iI ((tat tAU (V c 0) * v - tat tAV (V c 0) * u).natAbs : Int))]) (post := (fun vv uu => vv = some (.int (iI (wideF (V c 3) (V c 2)))) ∧ uu = (n, V, R))) ?_ (fun v16 u16 hp16 => ?_)
    · rcases (show V c 3 = 0 ∨ V c 3 = 1 ∨ V c 3 = 2 by omega) with e | e | e
      · exact XRun.mono (r_callF C c hc ht (r := (RX1, TX1, 3)) (by rw [e]; rfl) (owner := "LogSawyer$Knot") ce_X1_wide (m_X1_wide G n V R (c) hn hLR (by first | assumption | omega | decide) (by first | assumption | omega | decide)) rfl dX1_isIn_16 q_22_0 q_22_1 ⟨by decide, by decide⟩ (Or.inr ⟨_, _, _, q_21_23, q_21_21⟩) rfl q_21_22 q_21_21 rfl rfl ⟨Nat.le_of_ble_eq_true rfl, Nat.le_of_ble_eq_true rfl⟩ ⟨rfl, rfl⟩ ⟨Nat.le_of_ble_eq_true rfl, Nat.le_of_ble_eq_true rfl⟩ (Nat.le_of_ble_eq_true rfl)) (fun vv uu h => by first | exact h | (exact ⟨h.1.trans (by rw [e]; rfl), h.2⟩))
      · exact XRun.mono (r_callF C c hc ht (r := (RX2, TX2, 3)) (by rw [e]; rfl) (owner := "LogSawyer$Knot") ce_X2_wide (m_X2_wide G n V R (c) hn hLR (by first | assumption | omega | decide) (by first | assumption | omega | decide) (by first | assumption | omega | decide)) rfl dX1_isIn_16 q_22_0 q_22_1 ⟨by decide, by decide⟩ (Or.inr ⟨_, _, _, q_21_23, q_21_21⟩) rfl q_22_3 q_22_4 rfl rfl ⟨Nat.le_of_ble_eq_true rfl, Nat.le_of_ble_eq_true rfl⟩ ⟨rfl, rfl⟩ ⟨Nat.le_of_ble_eq_true rfl, Nat.le_of_ble_eq_true rfl⟩ (Nat.le_of_ble_eq_true rfl)) (fun vv uu h => by first | exact h | (exact ⟨h.1.trans (by rw [e]; rfl), h.2⟩))
      · exact XRun.mono (r_callF C c hc ht (r := (RX8, TX8, 3)) (by rw [e]; rfl) (owner := "LogSawyer$Knot") ce_X2_wide (m_X2_wide G n V R (c) hn hLR (by first | assumption | omega | decide) (by first | assumption | omega | decide) (by first | assumption | omega | decide)) rfl dX1_isIn_16 q_22_0 q_22_1 ⟨by decide, by decide⟩ (Or.inr ⟨_, _, _, q_21_23, q_21_21⟩) rfl q_22_8 q_22_4 rfl rfl ⟨Nat.le_of_ble_eq_true rfl, Nat.le_of_ble_eq_true rfl⟩ ⟨rfl, rfl⟩ ⟨Nat.le_of_ble_eq_true rfl, Nat.le_of_ble_eq_true rfl⟩ (Nat.le_of_ble_eq_true rfl)) (fun vv uu h => by first | exact h | (exact ⟨h.1.trans (by rw [e]; rfl), h.2⟩))
    obtain ⟨rfl, rfl⟩ := hp16
    show Xw K G 0 0 _ n V R 19 [(0, .ref (aG G c)), (1, .int (iI u)), (2, .int (iI v))] [.int (iI (wideF (V c 3) (V c 2))), .int (iI ((tat tAU (V c 0) * v - tat tAV (V c 0) * u).natAbs : Int))]
    refine x_icmp_gt C dX1_isIn_19 (tgt := 26) (by decide) (by first | assumption | (constructor <;> omega)) (by first | assumption | (constructor <;> omega)) (fun h19 => ?_) (fun h19 => ?_)
    · skip
      refine x_iconst C dX1_isIn_26 ?_
      refine x_zret C (Or.inl rfl) dX1_isIn_27 ⟨bI_rf (by rw [in1 hk]; omega), rfl⟩
    · skip
      refine x_iconst C dX1_isIn_22 ?_
      refine x_goto C dX1_isIn_23 (tgt := 27) (by decide) ?_
      refine x_zret C (Or.inr rfl) dX1_isIn_27 ⟨bI_rt (by rw [in1 hk]; omega), rfl⟩
set_option maxRecDepth 100000 in
set_option maxHeartbeats 4000000 in
theorem m_X7_isIn (G : GS) (n : Nat) (V : Nat → Int → Int) (R : Nat → Int → Option Nat) (c : Nat) (u : Int) (v : Int) (hn : 67 ≤ n) (hLR : LR R) (hc : c < n) (ht : tb c = (99, 0)) (hk : V c 3 = 3) (ha : 0 ≤ V c 0 ∧ V c 0 ≤ 7) (hz : 1 ≤ V c 2 ∧ V c 2 ≤ 4) (hu : -11 ≤ u ∧ u ≤ 11) (hv : -11 ≤ v ∧ v ≤ 11) : Cn G yX7_isIn cX7_isIn 3 (some .boolean) (rmk 2 0 0 38) [.ref (aG G c), .int (iI u), .int (iI v)] n V R 0 0 (fun vv uu => vv = some (.int (iI (bI (inU (V c 3) (V c 0) (V c 2) u v)))) ∧ uu = (n, V, R)) := by
  have tb1 := tat_b (V c 0)
  have m1 := mul_11 (a := tat tAU (V c 0)) (b := u) tb1.1 hu
  have m2 := mul_11 (a := tat tAV (V c 0)) (b := v) tb1.2 hv
  have m3 := mul_11 (a := tat tAU (V c 0)) (b := v) tb1.1 hv
  have m4 := mul_11 (a := tat tAV (V c 0)) (b := u) tb1.2 hu
  refine Cn.of (by decide) (Nat.le_of_ble_eq_true rfl) (fun K C hct => ?_)
  show Xw K G 0 0 _ n V R 0 [(0, .ref (aG G c)), (1, .int (iI u)), (2, .int (iI v))] []
  refine x_aload_n C 0 dX7_isIn_0 rfl rfl ?_
  refine x_iload_n C 1 dX7_isIn_1 rfl rfl ?_
  refine x_iload_n C 2 dX7_isIn_2 rfl rfl ?_
  refine x_runU (mc := 0) (ms := 0) (st := []) (post := (fun vv uu => vv = some (.int (iI ((tat tAU (V c 0) * v - tat tAV (V c 0) * u).natAbs : Int))) ∧ uu = (n, V, R))) ?_ (fun v3 u3 hp3 => ?_)
  · have e : V c 3 = 3 := by omega
    exact XRun.mono (r_callF C c hc ht (r := (RX7, TX7, 3)) (by rw [e]; rfl) (owner := "LogSawyer$Fault") ce_X0_across (m_X0_across G n V R (c) (u) (v) hn hLR (by first | assumption | omega | decide) (by first | assumption | omega | decide) (by first | assumption | omega | decide) (by first | assumption | omega | decide) (by first | assumption | omega | decide)) rfl dX7_isIn_3 q_22_23 q_23_0 ⟨by decide, by decide⟩ (Or.inr ⟨_, _, _, q_21_14, q_21_13⟩) rfl q_23_2 q_21_13 rfl rfl ⟨Nat.le_of_ble_eq_true rfl, Nat.le_of_ble_eq_true rfl⟩ ⟨rfl, rfl⟩ ⟨Nat.le_of_ble_eq_true rfl, Nat.le_of_ble_eq_true rfl⟩ (Nat.le_of_ble_eq_true rfl)) (fun vv uu h => by first | exact h | (exact ⟨h.1.trans (by rw [e]; rfl), h.2⟩))
  obtain ⟨rfl, rfl⟩ := hp3
  show Xw K G 0 0 _ n V R 6 [(0, .ref (aG G c)), (1, .int (iI u)), (2, .int (iI v))] [.int (iI ((tat tAU (V c 0) * v - tat tAV (V c 0) * u).natAbs : Int))]
  refine x_iconst C dX7_isIn_6 ?_
  refine x_icmp_gt C dX7_isIn_7 (tgt := 14) (by decide) (by first | assumption | (constructor <;> omega)) (by first | assumption | (constructor <;> omega)) (fun h7 => ?_) (fun h7 => ?_)
  · skip
    refine x_iconst C dX7_isIn_14 ?_
    refine x_zret C (Or.inl rfl) dX7_isIn_15 ⟨bI_rf (by rw [in3 hk]; omega), rfl⟩
  · skip
    refine x_iconst C dX7_isIn_10 ?_
    refine x_goto C dX7_isIn_11 (tgt := 15) (by decide) ?_
    refine x_zret C (Or.inr rfl) dX7_isIn_15 ⟨bI_rt (by rw [in3 hk]; omega), rfl⟩
set_option maxRecDepth 100000 in
set_option maxHeartbeats 4000000 in
theorem m_X5_isIn (G : GS) (n : Nat) (V : Nat → Int → Int) (R : Nat → Int → Option Nat) (c : Nat) (u : Int) (v : Int) (hn : 67 ≤ n) (hLR : LR R) (hc : c < n) (ht : tb c = (99, 0)) (hz : 1 ≤ V c 2 ∧ V c 2 ≤ 4) (hu : -11 ≤ u ∧ u ≤ 11) (hv : -11 ≤ v ∧ v ≤ 11) : Cn G yX5_isIn cX5_isIn 3 (some .boolean) (rmk 1 0 0 16) [.ref (aG G c), .int (iI u), .int (iI v)] n V R 0 0 (fun vv uu => vv = some (.int (iI (bI (u * u + v * v ≤ 4 * V c 2 * V c 2)))) ∧ uu = (n, V, R)) := by
  have su := sq_11 hu
  have sv := sq_11 hv
  have sz := sq_4 hz
  refine Cn.of (by decide) (Nat.le_of_ble_eq_true rfl) (fun K C hct => ?_)
  show Xw K G 0 0 _ n V R 0 [(0, .ref (aG G c)), (1, .int (iI u)), (2, .int (iI v))] []
  refine x_iload_n C 1 dX5_isIn_0 rfl rfl ?_
  refine x_iload_n C 1 dX5_isIn_1 rfl rfl ?_
  refine x_imul C dX5_isIn_2 ?_
  refine x_iload_n C 2 dX5_isIn_3 rfl rfl ?_
  refine x_iload_n C 2 dX5_isIn_4 rfl rfl ?_
  refine x_imul C dX5_isIn_5 ?_
  refine x_iadd C dX5_isIn_6 ?_
  refine x_iconst C dX5_isIn_7 ?_
  refine x_aload_n C 0 dX5_isIn_8 rfl rfl ?_
  refine x_getF C c 2 dX5_isIn_9 hc ht (by decide) q_22_18 (Or.inr q_22_19) (kz := 2) rfl (fun rg9 => ?_)
  refine x_imul C dX5_isIn_12 ?_
  refine x_aload_n C 0 dX5_isIn_13 rfl rfl ?_
  refine x_getF C c 2 dX5_isIn_14 hc ht (by decide) q_22_18 (Or.inr q_22_19) (kz := 2) rfl (fun rg14 => ?_)
  refine x_imul C dX5_isIn_17 ?_
  refine x_icmp_gt C dX5_isIn_18 (tgt := 25) (by decide) (by first | assumption | (constructor <;> omega)) (by first | assumption | (constructor <;> omega)) (fun h18 => ?_) (fun h18 => ?_)
  · skip
    refine x_iconst C dX5_isIn_25 ?_
    refine x_zret C (Or.inl rfl) dX5_isIn_26 ⟨bI_rf (by omega), rfl⟩
  · skip
    refine x_iconst C dX5_isIn_21 ?_
    refine x_goto C dX5_isIn_22 (tgt := 26) (by decide) ?_
    refine x_zret C (Or.inr rfl) dX5_isIn_26 ⟨bI_rt (by omega), rfl⟩
set_option maxRecDepth 100000 in
set_option maxHeartbeats 4000000 in
theorem m_X4_isIn (G : GS) (n : Nat) (V : Nat → Int → Int) (R : Nat → Int → Option Nat) (c : Nat) (u : Int) (v : Int) (hn : 67 ≤ n) (hLR : LR R) (hc : c < n) (ht : tb c = (99, 0)) (hk : V c 3 = 4) (hz : 1 ≤ V c 2 ∧ V c 2 ≤ 4) (hu : -11 ≤ u ∧ u ≤ 11) (hv : -11 ≤ v ∧ v ≤ 11) : Cn G yX4_isIn cX4_isIn 6 (some .boolean) (rmk 1 0 0 16) [.ref (aG G c), .int (iI u), .int (iI v)] n V R 0 0 (fun vv uu => vv = some (.int (iI (bI (inU (V c 3) (V c 0) (V c 2) u v)))) ∧ uu = (n, V, R)) := by
  have su := sq_11 hu
  have sv := sq_11 hv
  have sz := sq_4 hz
  refine Cn.of (by decide) (Nat.le_of_ble_eq_true rfl) (fun K C hct => ?_)
  show Xw K G 0 0 _ n V R 0 [(0, .ref (aG G c)), (1, .int (iI u)), (2, .int (iI v))] []
  refine x_iload_n C 1 dX4_isIn_0 rfl rfl ?_
  refine x_iload_n C 1 dX4_isIn_1 rfl rfl ?_
  refine x_imul C dX4_isIn_2 ?_
  refine x_iload_n C 2 dX4_isIn_3 rfl rfl ?_
  refine x_iload_n C 2 dX4_isIn_4 rfl rfl ?_
  refine x_imul C dX4_isIn_5 ?_
  refine x_iadd C dX4_isIn_6 ?_
  refine x_istore_n C dX4_isIn_7 rfl (by decide) (lv' := [(0, .ref (aG G c)), (1, .int (iI u)), (2, .int (iI v)), (3, .int (iI ((u * u) + (v * v))))]) rfl ?_
  refine x_iconst C dX4_isIn_8 ?_
  refine x_aload_n C 0 dX4_isIn_9 rfl rfl ?_
  refine x_getF C c 2 dX4_isIn_10 hc ht (by decide) q_22_13 (Or.inr q_22_14) (kz := 2) rfl (fun rg10 => ?_)
  refine x_imul C dX4_isIn_13 ?_
  refine x_iconst C dX4_isIn_14 ?_
  refine x_isub C dX4_isIn_15 ?_
  refine x_istore C dX4_isIn_16 (by decide) (lv' := [(0, .ref (aG G c)), (1, .int (iI u)), (2, .int (iI v)), (3, .int (iI ((u * u) + (v * v)))), (4, .int (iI ((2 * (V c 2)) - 1)))]) rfl ?_
  refine x_iconst C dX4_isIn_18 ?_
  refine x_aload_n C 0 dX4_isIn_19 rfl rfl ?_
  refine x_getF C c 2 dX4_isIn_20 hc ht (by decide) q_22_13 (Or.inr q_22_14) (kz := 2) rfl (fun rg20 => ?_)
  refine x_imul C dX4_isIn_23 ?_
  refine x_iconst C dX4_isIn_24 ?_
  refine x_iadd C dX4_isIn_25 ?_
  refine x_istore C dX4_isIn_26 (by decide) (lv' := [(0, .ref (aG G c)), (1, .int (iI u)), (2, .int (iI v)), (3, .int (iI ((u * u) + (v * v)))), (4, .int (iI ((2 * (V c 2)) - 1))), (5, .int (iI ((2 * (V c 2)) + 1)))]) rfl ?_
  refine x_iload_n C 3 dX4_isIn_28 rfl rfl ?_
  refine x_iload C 4 dX4_isIn_29 rfl ?_
  refine x_iload C 4 dX4_isIn_31 rfl ?_
  refine x_imul C dX4_isIn_33 ?_
  refine x_icmp_lt C dX4_isIn_34 (tgt := 50) (by decide) (by first | assumption | (constructor <;> omega)) (by first | assumption | (constructor <;> omega)) (fun h34 => ?_) (fun h34 => ?_)
  · skip
    refine x_iconst C dX4_isIn_50 ?_
    refine x_zret C (Or.inl rfl) dX4_isIn_51 ⟨bI_rf (by rw [in4 hk]; omega), rfl⟩
  · skip
    refine x_iload_n C 3 dX4_isIn_37 rfl rfl ?_
    refine x_iload C 5 dX4_isIn_38 rfl ?_
    refine x_iload C 5 dX4_isIn_40 rfl ?_
    refine x_imul C dX4_isIn_42 ?_
    refine x_icmp_gt C dX4_isIn_43 (tgt := 50) (by decide) (by first | assumption | (constructor <;> omega)) (by first | assumption | (constructor <;> omega)) (fun h43 => ?_) (fun h43 => ?_)
    · skip
      refine x_iconst C dX4_isIn_50 ?_
      refine x_zret C (Or.inl rfl) dX4_isIn_51 ⟨bI_rf (by rw [in4 hk]; omega), rfl⟩
    · skip
      refine x_iconst C dX4_isIn_46 ?_
      refine x_goto C dX4_isIn_47 (tgt := 51) (by decide) ?_
      refine x_zret C (Or.inr rfl) dX4_isIn_51 ⟨bI_rt (by rw [in4 hk]; omega), rfl⟩
set_option maxRecDepth 100000 in
set_option maxHeartbeats 4000000 in
theorem m_X9_isIn (G : GS) (n : Nat) (V : Nat → Int → Int) (R : Nat → Int → Option Nat) (c : Nat) (u : Int) (v : Int) (hn : 67 ≤ n) (hLR : LR R) (hc : c < n) (ht : tb c = (99, 0)) (hk : V c 3 = 6) (ha : 0 ≤ V c 0 ∧ V c 0 ≤ 7) (hz : 1 ≤ V c 2 ∧ V c 2 ≤ 4) (hu : -11 ≤ u ∧ u ≤ 11) (hv : -11 ≤ v ∧ v ≤ 11) : Cn G yX9_isIn cX9_isIn 3 (some .boolean) (rmk 2 0 0 38) [.ref (aG G c), .int (iI u), .int (iI v)] n V R 0 0 (fun vv uu => vv = some (.int (iI (bI (inU (V c 3) (V c 0) (V c 2) u v)))) ∧ uu = (n, V, R)) := by
  have tb1 := tat_b (V c 0)
  have m1 := mul_11 (a := tat tAU (V c 0)) (b := u) tb1.1 hu
  have m2 := mul_11 (a := tat tAV (V c 0)) (b := v) tb1.2 hv
  have m3 := mul_11 (a := tat tAU (V c 0)) (b := v) tb1.1 hv
  have m4 := mul_11 (a := tat tAV (V c 0)) (b := u) tb1.2 hu
  refine Cn.of (by decide) (Nat.le_of_ble_eq_true rfl) (fun K C hct => ?_)
  show Xw K G 0 0 _ n V R 0 [(0, .ref (aG G c)), (1, .int (iI u)), (2, .int (iI v))] []
  refine x_aload_n C 0 dX9_isIn_0 rfl rfl ?_
  refine x_iload_n C 1 dX9_isIn_1 rfl rfl ?_
  refine x_iload_n C 2 dX9_isIn_2 rfl rfl ?_
  obtain ⟨r3, hr3⟩ := vkcl_ex (V c 3)
  refine x_runU (r_callSU C c hc ht hr3 (ce_X5_isIn) (m_X5_isIn G n V R (c) (u) (v) hn hLR (by first | assumption | omega | decide) (by first | assumption | omega | decide) (by first | assumption | omega | decide) (by first | assumption | omega | decide) (by first | assumption | omega | decide)) rfl dX9_isIn_3 q_23_7 q_23_8 q_23_9 q_22_16 (by decide) rfl rfl ⟨Nat.le_of_ble_eq_true rfl, Nat.le_of_ble_eq_true rfl⟩ ⟨rfl, rfl⟩ ⟨Nat.le_of_ble_eq_true rfl, Nat.le_of_ble_eq_true rfl⟩ (Nat.le_of_ble_eq_true rfl)) (fun v3 u3 hp3 => ?_)
  obtain ⟨rfl, rfl⟩ := hp3
  show Xw K G 0 0 _ n V R 6 [(0, .ref (aG G c)), (1, .int (iI u)), (2, .int (iI v))] [.int (iI (bI (u * u + v * v ≤ 4 * V c 2 * V c 2)))]
  refine x_ifeq_b C dX9_isIn_6 (tgt := 22) (by decide) (fun h6 => ?_) (fun h6 => ?_)
  · skip
    refine x_iconst C dX9_isIn_22 ?_
    refine x_zret C (Or.inl rfl) dX9_isIn_23 ⟨bI_rf (by rw [in6 hk]; omega), rfl⟩
  · skip
    refine x_aload_n C 0 dX9_isIn_9 rfl rfl ?_
    refine x_iload_n C 1 dX9_isIn_10 rfl rfl ?_
    refine x_iload_n C 2 dX9_isIn_11 rfl rfl ?_
    refine x_runU (mc := 0) (ms := 0) (st := []) (post := (fun vv uu => vv = some (.int (iI (tat tAU (V c 0) * u + tat tAV (V c 0) * v))) ∧ uu = (n, V, R))) ?_ (fun v12 u12 hp12 => ?_)
    · have e : V c 3 = 6 := by omega
      exact XRun.mono (r_callF C c hc ht (r := (RX9, TX9, 3)) (by rw [e]; rfl) (owner := "LogSawyer$Fault") ce_X0_along (m_X0_along G n V R (c) (u) (v) hn hLR (by first | assumption | omega | decide) (by first | assumption | omega | decide) (by first | assumption | omega | decide) (by first | assumption | omega | decide) (by first | assumption | omega | decide)) rfl dX9_isIn_12 q_23_10 q_23_11 ⟨by decide, by decide⟩ (Or.inr ⟨_, _, _, q_21_7, q_21_6⟩) rfl q_23_12 q_21_6 rfl rfl ⟨Nat.le_of_ble_eq_true rfl, Nat.le_of_ble_eq_true rfl⟩ ⟨rfl, rfl⟩ ⟨Nat.le_of_ble_eq_true rfl, Nat.le_of_ble_eq_true rfl⟩ (Nat.le_of_ble_eq_true rfl)) (fun vv uu h => by first | exact h | (exact ⟨h.1.trans (by rfl), h.2⟩))
    obtain ⟨rfl, rfl⟩ := hp12
    show Xw K G 0 0 _ n V R 15 [(0, .ref (aG G c)), (1, .int (iI u)), (2, .int (iI v))] [.int (iI (tat tAU (V c 0) * u + tat tAV (V c 0) * v))]
    refine x_if_le C dX9_isIn_15 (tgt := 22) (by decide) (by first | assumption | (constructor <;> omega)) (fun h15 => ?_) (fun h15 => ?_)
    · skip
      refine x_iconst C dX9_isIn_22 ?_
      refine x_zret C (Or.inl rfl) dX9_isIn_23 ⟨bI_rf (by rw [in6 hk]; omega), rfl⟩
    · skip
      refine x_iconst C dX9_isIn_18 ?_
      refine x_goto C dX9_isIn_19 (tgt := 23) (by decide) ?_
      refine x_zret C (Or.inr rfl) dX9_isIn_23 ⟨bI_rt (by rw [in6 hk]; omega), rfl⟩
set_option maxRecDepth 100000 in
set_option maxHeartbeats 4000000 in
theorem m_X0_slicesOf (G : GS) (n : Nat) (V : Nat → Int → Int) (R : Nat → Int → Option Nat) (c : Nat) (L : Int) (hn : 67 ≤ n) (hLR : LR R) (hc : c < n) (ht : tb c = (99, 0)) (hL : 0 ≤ L ∧ L ≤ 8) (hk : 0 ≤ V c 3 ∧ V c 3 ≤ 6) (hz : 1 ≤ V c 2 ∧ V c 2 ≤ 4) (hs : 0 ≤ V c 1 ∧ V c 1 ≤ 7) : Cn G yX0_slicesOf cX0_slicesOf 2 (some .int) (rmk 3 0 0 58) [.ref (aG G c), .int (iI L)] n V R 0 0 (fun vv uu => vv = some (.int (iI (max 0 (min (lastC (V c 3) (V c 1) (V c 2) L) (L - V c 1))))) ∧ uu = (n, V, R)) := by
  have lb := lastC_b hz hs hL (k := V c 3)
  refine Cn.of (by decide) (Nat.le_of_ble_eq_true rfl) (fun K C hct => ?_)
  show Xw K G 0 0 _ n V R 0 [(0, .ref (aG G c)), (1, .int (iI L))] []
  refine x_iconst C dX0_slicesOf_0 ?_
  refine x_aload_n C 0 dX0_slicesOf_1 rfl rfl ?_
  refine x_iload_n C 1 dX0_slicesOf_2 rfl rfl ?_
  refine x_runU (mc := 0) (ms := 0) (st := [.int (iI 0)]) (post := (fun vv uu => vv = some (.int (iI (lastC (V c 3) (V c 1) (V c 2) L))) ∧ uu = (n, V, R))) ?_ (fun v3 u3 hp3 => ?_)
  · rcases (show V c 3 = 0 ∨ V c 3 = 1 ∨ V c 3 = 2 ∨ V c 3 = 3 ∨ V c 3 = 4 ∨ V c 3 = 5 ∨ V c 3 = 6 by omega) with e | e | e | e | e | e | e
    · exact XRun.mono (r_callF C c hc ht (r := (RX1, TX1, 3)) (by rw [e]; rfl) (owner := "LogSawyer$Fault") ce_X1_lasts (m_X1_lasts G n V R (c) (L) hn hLR (by first | assumption | omega | decide) (by first | assumption | omega | decide) (by first | assumption | omega | decide)) rfl dX0_slicesOf_3 q_19_16 q_19_17 ⟨by decide, by decide⟩ (Or.inl (List.mem_of_getElem? (i := 13) rfl)) rfl q_19_18 q_19_19 rfl rfl ⟨Nat.le_of_ble_eq_true rfl, Nat.le_of_ble_eq_true rfl⟩ ⟨rfl, rfl⟩ ⟨Nat.le_of_ble_eq_true rfl, Nat.le_of_ble_eq_true rfl⟩ (Nat.le_of_ble_eq_true rfl)) (fun vv uu h => by first | exact h | (exact ⟨h.1.trans (by first | rfl | (unfold lastC; rw [e]; rfl)), h.2⟩))
    · exact XRun.mono (r_callF C c hc ht (r := (RX2, TX2, 3)) (by rw [e]; rfl) (owner := "LogSawyer$Fault") ce_X1_lasts (m_X1_lasts G n V R (c) (L) hn hLR (by first | assumption | omega | decide) (by first | assumption | omega | decide) (by first | assumption | omega | decide)) rfl dX0_slicesOf_3 q_19_16 q_19_17 ⟨by decide, by decide⟩ (Or.inl (List.mem_of_getElem? (i := 13) rfl)) rfl q_19_23 q_19_19 rfl rfl ⟨Nat.le_of_ble_eq_true rfl, Nat.le_of_ble_eq_true rfl⟩ ⟨rfl, rfl⟩ ⟨Nat.le_of_ble_eq_true rfl, Nat.le_of_ble_eq_true rfl⟩ (Nat.le_of_ble_eq_true rfl)) (fun vv uu h => by first | exact h | (exact ⟨h.1.trans (by first | rfl | (unfold lastC; rw [e]; rfl)), h.2⟩))
    · exact XRun.mono (r_callF C c hc ht (r := (RX8, TX8, 3)) (by rw [e]; rfl) (owner := "LogSawyer$Fault") ce_X8_lasts (m_X8_lasts G n V R (c) (L) hn hLR (by first | assumption | omega | decide) (by first | assumption | omega | decide) (by first | assumption | omega | decide) (by first | assumption | omega | decide) (by first | assumption | omega | decide)) rfl dX0_slicesOf_3 q_19_16 q_19_17 ⟨by decide, by decide⟩ (Or.inl (List.mem_of_getElem? (i := 13) rfl)) rfl q_20_11 q_20_12 rfl rfl ⟨Nat.le_of_ble_eq_true rfl, Nat.le_of_ble_eq_true rfl⟩ ⟨rfl, rfl⟩ ⟨Nat.le_of_ble_eq_true rfl, Nat.le_of_ble_eq_true rfl⟩ (Nat.le_of_ble_eq_true rfl)) (fun vv uu h => by first | exact h | (exact ⟨h.1.trans (by first | rfl | (unfold lastC; rw [e]; rfl)), h.2⟩))
    · exact XRun.mono (r_callF C c hc ht (r := (RX7, TX7, 3)) (by rw [e]; rfl) (owner := "LogSawyer$Fault") ce_X7_lasts (m_X7_lasts G n V R (c) (L) hn hLR (by first | assumption | omega | decide) (by first | assumption | omega | decide) (by first | assumption | omega | decide) (by first | assumption | omega | decide)) rfl dX0_slicesOf_3 q_19_16 q_19_17 ⟨by decide, by decide⟩ (Or.inl (List.mem_of_getElem? (i := 13) rfl)) rfl q_20_10 q_20_1 rfl rfl ⟨Nat.le_of_ble_eq_true rfl, Nat.le_of_ble_eq_true rfl⟩ ⟨rfl, rfl⟩ ⟨Nat.le_of_ble_eq_true rfl, Nat.le_of_ble_eq_true rfl⟩ (Nat.le_of_ble_eq_true rfl)) (fun vv uu h => by first | exact h | (exact ⟨h.1.trans (by first | rfl | (unfold lastC; rw [e]; rfl)), h.2⟩))
    · exact XRun.mono (r_callF C c hc ht (r := (RX4, TX4, 3)) (by rw [e]; rfl) (owner := "LogSawyer$Fault") ce_X7_lasts (m_X7_lasts G n V R (c) (L) hn hLR (by first | assumption | omega | decide) (by first | assumption | omega | decide) (by first | assumption | omega | decide) (by first | assumption | omega | decide)) rfl dX0_slicesOf_3 q_19_16 q_19_17 ⟨by decide, by decide⟩ (Or.inl (List.mem_of_getElem? (i := 13) rfl)) rfl q_20_0 q_20_1 rfl rfl ⟨Nat.le_of_ble_eq_true rfl, Nat.le_of_ble_eq_true rfl⟩ ⟨rfl, rfl⟩ ⟨Nat.le_of_ble_eq_true rfl, Nat.le_of_ble_eq_true rfl⟩ (Nat.le_of_ble_eq_true rfl)) (fun vv uu h => by first | exact h | (exact ⟨h.1.trans (by first | rfl | (unfold lastC; rw [e]; rfl)), h.2⟩))
    · exact XRun.mono (r_callF C c hc ht (r := (RX5, TX5, 3)) (by rw [e]; rfl) (owner := "LogSawyer$Fault") ce_X5_lasts (m_X5_lasts G n V R (c) (L) hn hLR (by first | assumption | omega | decide) (by first | assumption | omega | decide) (by first | assumption | omega | decide) (by first | assumption | omega | decide) (by first | assumption | omega | decide)) rfl dX0_slicesOf_3 q_19_16 q_19_17 ⟨by decide, by decide⟩ (Or.inl (List.mem_of_getElem? (i := 13) rfl)) rfl q_20_5 q_20_6 rfl rfl ⟨Nat.le_of_ble_eq_true rfl, Nat.le_of_ble_eq_true rfl⟩ ⟨rfl, rfl⟩ ⟨Nat.le_of_ble_eq_true rfl, Nat.le_of_ble_eq_true rfl⟩ (Nat.le_of_ble_eq_true rfl)) (fun vv uu h => by first | exact h | (exact ⟨h.1.trans (by first | rfl | (unfold lastC; rw [e]; rfl)), h.2⟩))
    · exact XRun.mono (r_callF C c hc ht (r := (RX9, TX9, 3)) (by rw [e]; rfl) (owner := "LogSawyer$Fault") ce_X5_lasts (m_X5_lasts G n V R (c) (L) hn hLR (by first | assumption | omega | decide) (by first | assumption | omega | decide) (by first | assumption | omega | decide) (by first | assumption | omega | decide) (by first | assumption | omega | decide)) rfl dX0_slicesOf_3 q_19_16 q_19_17 ⟨by decide, by decide⟩ (Or.inl (List.mem_of_getElem? (i := 13) rfl)) rfl q_20_14 q_20_6 rfl rfl ⟨Nat.le_of_ble_eq_true rfl, Nat.le_of_ble_eq_true rfl⟩ ⟨rfl, rfl⟩ ⟨Nat.le_of_ble_eq_true rfl, Nat.le_of_ble_eq_true rfl⟩ (Nat.le_of_ble_eq_true rfl)) (fun vv uu h => by first | exact h | (exact ⟨h.1.trans (by first | rfl | (unfold lastC; rw [e]; rfl)), h.2⟩))
  obtain ⟨rfl, rfl⟩ := hp3
  show Xw K G 0 0 _ n V R 6 [(0, .ref (aG G c)), (1, .int (iI L))] [.int (iI (lastC (V c 3) (V c 1) (V c 2) L)), .int (iI 0)]
  refine x_iload_n C 1 dX0_slicesOf_6 rfl rfl ?_
  refine x_aload_n C 0 dX0_slicesOf_7 rfl rfl ?_
  refine x_getF C c 1 dX0_slicesOf_8 hc ht (by decide) q_14_6 (Or.inl rfl) (kz := 1) rfl (fun rg8 => ?_)
  refine x_isub C dX0_slicesOf_11 ?_
  refine x_min C dX0_slicesOf_12 q_19_14 q_10_5 q_5_22 q_10_6 ⟨Nat.le_of_ble_eq_true rfl, Nat.le_of_ble_eq_true rfl⟩ ⟨Nat.zero_le _, Nat.zero_le _⟩ (by first | assumption | (constructor <;> omega)) (by first | assumption | (constructor <;> omega)) ?_
  refine x_max C dX0_slicesOf_15 q_19_15 q_5_21 q_5_22 q_5_23 ⟨Nat.le_of_ble_eq_true rfl, Nat.le_of_ble_eq_true rfl⟩ ⟨Nat.zero_le _, Nat.zero_le _⟩ (by first | assumption | (constructor <;> omega)) (by first | assumption | (constructor <;> omega)) ?_
  refine x_iret C dX0_slicesOf_18 ⟨congrArg (fun z => some (Value.int (iI z))) (by omega), rfl⟩
set_option maxRecDepth 100000 in
set_option maxHeartbeats 4000000 in
theorem m_X0_isInSlice (G : GS) (n : Nat) (V : Nat → Int → Int) (R : Nat → Int → Option Nat) (c : Nat) (x : Int) (L : Int) (hn : 67 ≤ n) (hLR : LR R) (hc : c < n) (ht : tb c = (99, 0)) (hx : 0 ≤ x ∧ x ≤ 8) (hL : 0 ≤ L ∧ L ≤ 8) (hk : 0 ≤ V c 3 ∧ V c 3 ≤ 6) (hz : 1 ≤ V c 2 ∧ V c 2 ≤ 4) (hs : 0 ≤ V c 1 ∧ V c 1 ≤ 7) : Cn G yX0_isInSlice cX0_isInSlice 3 (some .boolean) (rmk 4 0 0 79) [.ref (aG G c), .int (iI x), .int (iI L)] n V R 0 0 (fun vv uu => vv = some (.int (iI (bI (V c 1 ≤ x ∧ x < V c 1 + (max 0 (min (lastC (V c 3) (V c 1) (V c 2) L) (L - V c 1))))))) ∧ uu = (n, V, R)) := by
  have lb := lastC_b hz hs hL (k := V c 3)
  refine Cn.of (by decide) (Nat.le_of_ble_eq_true rfl) (fun K C hct => ?_)
  show Xw K G 0 0 _ n V R 0 [(0, .ref (aG G c)), (1, .int (iI x)), (2, .int (iI L))] []
  refine x_iload_n C 1 dX0_isInSlice_0 rfl rfl ?_
  refine x_aload_n C 0 dX0_isInSlice_1 rfl rfl ?_
  refine x_getF C c 1 dX0_isInSlice_2 hc ht (by decide) q_14_6 (Or.inl rfl) (kz := 1) rfl (fun rg2 => ?_)
  refine x_icmp_lt C dX0_isInSlice_5 (tgt := 26) (by decide) (by first | assumption | (constructor <;> omega)) (by first | assumption | (constructor <;> omega)) (fun h5 => ?_) (fun h5 => ?_)
  · skip
    refine x_iconst C dX0_isInSlice_26 ?_
    refine x_zret C (Or.inl rfl) dX0_isInSlice_27 ⟨bI_rf (by omega), rfl⟩
  · skip
    refine x_iload_n C 1 dX0_isInSlice_8 rfl rfl ?_
    refine x_aload_n C 0 dX0_isInSlice_9 rfl rfl ?_
    refine x_getF C c 1 dX0_isInSlice_10 hc ht (by decide) q_14_6 (Or.inl rfl) (kz := 1) rfl (fun rg10 => ?_)
    refine x_aload_n C 0 dX0_isInSlice_13 rfl rfl ?_
    refine x_iload_n C 2 dX0_isInSlice_14 rfl rfl ?_
    refine x_runU (mc := 0) (ms := 0) (st := [.int (iI (V c 1)), .int (iI x)]) (post := (fun vv uu => vv = some (.int (iI (max 0 (min (lastC (V c 3) (V c 1) (V c 2) L) (L - V c 1))))) ∧ uu = (n, V, R))) ?_ (fun v15 u15 hp15 => ?_)
    · rcases (show V c 3 = 0 ∨ V c 3 = 1 ∨ V c 3 = 2 ∨ V c 3 = 3 ∨ V c 3 = 4 ∨ V c 3 = 5 ∨ V c 3 = 6 by omega) with e | e | e | e | e | e | e
      · exact XRun.mono (r_callF C c hc ht (r := (RX1, TX1, 3)) (by rw [e]; rfl) (owner := "LogSawyer$Fault") ce_X0_slicesOf (m_X0_slicesOf G n V R (c) (L) hn hLR (by first | assumption | omega | decide) (by first | assumption | omega | decide) (by first | assumption | omega | decide) (by first | assumption | omega | decide) (by first | assumption | omega | decide) (by first | assumption | omega | decide)) rfl dX0_isInSlice_15 q_30_17 q_19_10 ⟨by decide, by decide⟩ (Or.inr ⟨_, _, _, q_19_13, q_19_12⟩) rfl q_19_11 q_19_12 rfl rfl ⟨Nat.le_of_ble_eq_true rfl, Nat.le_of_ble_eq_true rfl⟩ ⟨rfl, rfl⟩ ⟨Nat.le_of_ble_eq_true rfl, Nat.le_of_ble_eq_true rfl⟩ (Nat.le_of_ble_eq_true rfl)) (fun vv uu h => by first | exact h | (exact ⟨h.1.trans (by rw [e]; rfl), h.2⟩))
      · exact XRun.mono (r_callF C c hc ht (r := (RX2, TX2, 3)) (by rw [e]; rfl) (owner := "LogSawyer$Fault") ce_X0_slicesOf (m_X0_slicesOf G n V R (c) (L) hn hLR (by first | assumption | omega | decide) (by first | assumption | omega | decide) (by first | assumption | omega | decide) (by first | assumption | omega | decide) (by first | assumption | omega | decide) (by first | assumption | omega | decide)) rfl dX0_isInSlice_15 q_30_17 q_19_10 ⟨by decide, by decide⟩ (Or.inr ⟨_, _, _, q_19_13, q_19_12⟩) rfl q_20_15 q_19_12 rfl rfl ⟨Nat.le_of_ble_eq_true rfl, Nat.le_of_ble_eq_true rfl⟩ ⟨rfl, rfl⟩ ⟨Nat.le_of_ble_eq_true rfl, Nat.le_of_ble_eq_true rfl⟩ (Nat.le_of_ble_eq_true rfl)) (fun vv uu h => by first | exact h | (exact ⟨h.1.trans (by rw [e]; rfl), h.2⟩))
      · exact XRun.mono (r_callF C c hc ht (r := (RX8, TX8, 3)) (by rw [e]; rfl) (owner := "LogSawyer$Fault") ce_X0_slicesOf (m_X0_slicesOf G n V R (c) (L) hn hLR (by first | assumption | omega | decide) (by first | assumption | omega | decide) (by first | assumption | omega | decide) (by first | assumption | omega | decide) (by first | assumption | omega | decide) (by first | assumption | omega | decide)) rfl dX0_isInSlice_15 q_30_17 q_19_10 ⟨by decide, by decide⟩ (Or.inr ⟨_, _, _, q_19_13, q_19_12⟩) rfl q_20_19 q_19_12 rfl rfl ⟨Nat.le_of_ble_eq_true rfl, Nat.le_of_ble_eq_true rfl⟩ ⟨rfl, rfl⟩ ⟨Nat.le_of_ble_eq_true rfl, Nat.le_of_ble_eq_true rfl⟩ (Nat.le_of_ble_eq_true rfl)) (fun vv uu h => by first | exact h | (exact ⟨h.1.trans (by rw [e]; rfl), h.2⟩))
      · exact XRun.mono (r_callF C c hc ht (r := (RX7, TX7, 3)) (by rw [e]; rfl) (owner := "LogSawyer$Fault") ce_X0_slicesOf (m_X0_slicesOf G n V R (c) (L) hn hLR (by first | assumption | omega | decide) (by first | assumption | omega | decide) (by first | assumption | omega | decide) (by first | assumption | omega | decide) (by first | assumption | omega | decide) (by first | assumption | omega | decide)) rfl dX0_isInSlice_15 q_30_17 q_19_10 ⟨by decide, by decide⟩ (Or.inr ⟨_, _, _, q_19_13, q_19_12⟩) rfl q_20_18 q_19_12 rfl rfl ⟨Nat.le_of_ble_eq_true rfl, Nat.le_of_ble_eq_true rfl⟩ ⟨rfl, rfl⟩ ⟨Nat.le_of_ble_eq_true rfl, Nat.le_of_ble_eq_true rfl⟩ (Nat.le_of_ble_eq_true rfl)) (fun vv uu h => by first | exact h | (exact ⟨h.1.trans (by rw [e]; rfl), h.2⟩))
      · exact XRun.mono (r_callF C c hc ht (r := (RX4, TX4, 3)) (by rw [e]; rfl) (owner := "LogSawyer$Fault") ce_X0_slicesOf (m_X0_slicesOf G n V R (c) (L) hn hLR (by first | assumption | omega | decide) (by first | assumption | omega | decide) (by first | assumption | omega | decide) (by first | assumption | omega | decide) (by first | assumption | omega | decide) (by first | assumption | omega | decide)) rfl dX0_isInSlice_15 q_30_17 q_19_10 ⟨by decide, by decide⟩ (Or.inr ⟨_, _, _, q_19_13, q_19_12⟩) rfl q_20_16 q_19_12 rfl rfl ⟨Nat.le_of_ble_eq_true rfl, Nat.le_of_ble_eq_true rfl⟩ ⟨rfl, rfl⟩ ⟨Nat.le_of_ble_eq_true rfl, Nat.le_of_ble_eq_true rfl⟩ (Nat.le_of_ble_eq_true rfl)) (fun vv uu h => by first | exact h | (exact ⟨h.1.trans (by rw [e]; rfl), h.2⟩))
      · exact XRun.mono (r_callF C c hc ht (r := (RX5, TX5, 3)) (by rw [e]; rfl) (owner := "LogSawyer$Fault") ce_X0_slicesOf (m_X0_slicesOf G n V R (c) (L) hn hLR (by first | assumption | omega | decide) (by first | assumption | omega | decide) (by first | assumption | omega | decide) (by first | assumption | omega | decide) (by first | assumption | omega | decide) (by first | assumption | omega | decide)) rfl dX0_isInSlice_15 q_30_17 q_19_10 ⟨by decide, by decide⟩ (Or.inr ⟨_, _, _, q_19_13, q_19_12⟩) rfl q_20_17 q_19_12 rfl rfl ⟨Nat.le_of_ble_eq_true rfl, Nat.le_of_ble_eq_true rfl⟩ ⟨rfl, rfl⟩ ⟨Nat.le_of_ble_eq_true rfl, Nat.le_of_ble_eq_true rfl⟩ (Nat.le_of_ble_eq_true rfl)) (fun vv uu h => by first | exact h | (exact ⟨h.1.trans (by rw [e]; rfl), h.2⟩))
      · exact XRun.mono (r_callF C c hc ht (r := (RX9, TX9, 3)) (by rw [e]; rfl) (owner := "LogSawyer$Fault") ce_X0_slicesOf (m_X0_slicesOf G n V R (c) (L) hn hLR (by first | assumption | omega | decide) (by first | assumption | omega | decide) (by first | assumption | omega | decide) (by first | assumption | omega | decide) (by first | assumption | omega | decide) (by first | assumption | omega | decide)) rfl dX0_isInSlice_15 q_30_17 q_19_10 ⟨by decide, by decide⟩ (Or.inr ⟨_, _, _, q_19_13, q_19_12⟩) rfl q_20_20 q_19_12 rfl rfl ⟨Nat.le_of_ble_eq_true rfl, Nat.le_of_ble_eq_true rfl⟩ ⟨rfl, rfl⟩ ⟨Nat.le_of_ble_eq_true rfl, Nat.le_of_ble_eq_true rfl⟩ (Nat.le_of_ble_eq_true rfl)) (fun vv uu h => by first | exact h | (exact ⟨h.1.trans (by rw [e]; rfl), h.2⟩))
    obtain ⟨rfl, rfl⟩ := hp15
    show Xw K G 0 0 _ n V R 18 [(0, .ref (aG G c)), (1, .int (iI x)), (2, .int (iI L))] [.int (iI (max 0 (min (lastC (V c 3) (V c 1) (V c 2) L) (L - V c 1)))), .int (iI (V c 1)), .int (iI x)]
    refine x_iadd C dX0_isInSlice_18 ?_
    refine x_icmp_ge C dX0_isInSlice_19 (tgt := 26) (by decide) (by first | assumption | (constructor <;> omega)) (by first | assumption | (constructor <;> omega)) (fun h19 => ?_) (fun h19 => ?_)
    · skip
      refine x_iconst C dX0_isInSlice_26 ?_
      refine x_zret C (Or.inl rfl) dX0_isInSlice_27 ⟨bI_rf (by omega), rfl⟩
    · skip
      refine x_iconst C dX0_isInSlice_22 ?_
      refine x_goto C dX0_isInSlice_23 (tgt := 27) (by decide) ?_
      refine x_zret C (Or.inr rfl) dX0_isInSlice_27 ⟨bI_rt (by omega), rfl⟩
set_option maxRecDepth 100000 in
set_option maxHeartbeats 4000000 in
theorem m_X0_cellsOfSlice (G : GS) (n : Nat) (V : Nat → Int → Int) (R : Nat → Int → Option Nat) (c : Nat) (hn : 67 ≤ n) (hLR : LR R) (hc : c < n) (ht : tb c = (99, 0)) (hk : 0 ≤ V c 3 ∧ V c 3 ≤ 6) (hz : 1 ≤ V c 2 ∧ V c 2 ≤ 4) (ha : 0 ≤ V c 0 ∧ V c 0 ≤ 7) : Cn G yX0_cellsOfSlice cX0_cellsOfSlice 3 (some .int) (rmk 4 0 0 78) [.ref (aG G c)] n V R 0 0 (fun vv uu => vv = some (.int (iI (nIn (V c 3) (V c 0) (V c 2)))) ∧ uu = (n, V, R)) := by
  refine Cn.of (by decide) (Nat.le_of_ble_eq_true rfl) (fun K C hct => ?_)
  show Xw K G 0 0 _ n V R 0 [(0, .ref (aG G c))] []
  refine x_iconst C dX0_cellsOfSlice_0 ?_
  refine x_istore_n C dX0_cellsOfSlice_1 rfl (by decide) (lv' := [(0, .ref (aG G c)), (1, .int (iI 0))]) rfl ?_
  refine x_iconst C dX0_cellsOfSlice_2 ?_
  refine x_istore_n C dX0_cellsOfSlice_3 rfl (by decide) (lv' := [(0, .ref (aG G c)), (1, .int (iI 0)), (2, .int (iI 0))]) rfl ?_
  have lp_4 : ∀ (fuel : Nat) (a : Int) (q : Int), (0 ≤ q ∧ q ≤ 144) → (a = sm (fun c1 => bI (inF (V c 3) (V c 0) (V c 2) (c1 % 12) (c1 / 12))) q) → (0 ≤ a ∧ a ≤ q) → ((145 : Int) - q) < (fuel : Int) → Xw K G 0 0 (EndQ K G 0 0 (fun vv uu => vv = some (.int (iI (nIn (V c 3) (V c 0) (V c 2)))) ∧ uu = (n, V, R))) n V R 4 [(0, .ref (aG G c)), (1, .int (iI a)), (2, .int (iI q))] [] := by
    intro fuel4
    induction fuel4 with
    | zero => intro a q hq ha2 hb hfu4; exfalso; omega
    | succ fuel4 ih4 =>
      intro a q hq ha2 hb hfu4
      refine x_iload_n C 2 dX0_cellsOfSlice_4 rfl rfl ?_
      refine x_sipush C dX0_cellsOfSlice_5 (w := 144) (by decide) ?_
      refine x_icmp_ge C dX0_cellsOfSlice_8 (tgt := 41) (by decide) (by first | assumption | (constructor <;> omega)) (by first | assumption | (constructor <;> omega)) (fun h8 => ?_) (fun h8 => ?_)
      · skip
        refine x_iload_n C 1 dX0_cellsOfSlice_41 rfl rfl ?_
        refine x_iret C dX0_cellsOfSlice_42 ⟨congrArg (fun z => some (Value.int (iI z))) (by rw [ha2, show q = 144 by omega]; rfl), rfl⟩
      · skip
        refine x_aload_n C 0 dX0_cellsOfSlice_11 rfl rfl ?_
        refine x_iload_n C 2 dX0_cellsOfSlice_12 rfl rfl ?_
        refine x_bipush C dX0_cellsOfSlice_13 (w := 12) (by decide) ?_
        refine x_irem C dX0_cellsOfSlice_15 (by first | assumption | (constructor <;> omega)) (by first | assumption | (constructor <;> omega)) (by omega) (by omega) ?_
        refine x_runU (r_callSN C (ce_X11_fromMiddle) (m_X11_fromMiddle G n V R (q % 12)) dX0_cellsOfSlice_16 (List.mem_of_getElem? (i := 20) rfl) q_6_0 rfl rfl ⟨Nat.le_of_ble_eq_true rfl, Nat.le_of_ble_eq_true rfl⟩ ⟨rfl, rfl⟩ ⟨Nat.le_of_ble_eq_true rfl, Nat.le_of_ble_eq_true rfl⟩ (Nat.le_of_ble_eq_true rfl)) (fun v16 u16 hp16 => ?_)
        obtain ⟨rfl, rfl⟩ := hp16
        show Xw K G 0 0 _ n V R 19 [(0, .ref (aG G c)), (1, .int (iI a)), (2, .int (iI q))] [.int (iI (2 * (q % 12) - 11)), .ref (aG G c)]
        refine x_iload_n C 2 dX0_cellsOfSlice_19 rfl rfl ?_
        refine x_bipush C dX0_cellsOfSlice_20 (w := 12) (by decide) ?_
        refine x_idiv C dX0_cellsOfSlice_22 (by first | assumption | (constructor <;> omega)) (by first | assumption | (constructor <;> omega)) (by omega) (by omega) ?_
        refine x_runU (r_callSN C (ce_X11_fromMiddle) (m_X11_fromMiddle G n V R (q / 12)) dX0_cellsOfSlice_23 (List.mem_of_getElem? (i := 20) rfl) q_6_0 rfl rfl ⟨Nat.le_of_ble_eq_true rfl, Nat.le_of_ble_eq_true rfl⟩ ⟨rfl, rfl⟩ ⟨Nat.le_of_ble_eq_true rfl, Nat.le_of_ble_eq_true rfl⟩ (Nat.le_of_ble_eq_true rfl)) (fun v23 u23 hp23 => ?_)
        obtain ⟨rfl, rfl⟩ := hp23
        show Xw K G 0 0 _ n V R 26 [(0, .ref (aG G c)), (1, .int (iI a)), (2, .int (iI q))] [.int (iI (2 * (q / 12) - 11)), .int (iI (2 * (q % 12) - 11)), .ref (aG G c)]
        refine x_runU (mc := 0) (ms := 0) (st := []) (post := (fun vv uu => vv = some (.int (iI (bI (inU (V c 3) (V c 0) (V c 2) (2 * (q % 12) - 11) (2 * (q / 12) - 11))))) ∧ uu = (n, V, R))) ?_ (fun v26 u26 hp26 => ?_)
        · rcases (show V c 3 = 0 ∨ V c 3 = 1 ∨ V c 3 = 2 ∨ V c 3 = 3 ∨ V c 3 = 4 ∨ V c 3 = 5 ∨ V c 3 = 6 by omega) with e | e | e | e | e | e | e
          · exact XRun.mono (r_callF C c hc ht (r := (RX1, TX1, 3)) (by rw [e]; rfl) (owner := "LogSawyer$Fault") ce_X1_isIn (m_X1_isIn G n V R (c) (2 * (q % 12) - 11) (2 * (q / 12) - 11) hn hLR (by first | assumption | omega | decide) (by first | assumption | omega | decide) (by first | assumption | omega | decide) (by first | assumption | omega | decide) (by first | assumption | omega | decide) (by first | assumption | omega | decide) (by first | assumption | omega | decide)) rfl dX0_cellsOfSlice_26 q_26_18 q_20_23 ⟨by decide, by decide⟩ (Or.inl (List.mem_of_getElem? (i := 14) rfl)) rfl q_21_0 q_21_1 rfl rfl ⟨Nat.le_of_ble_eq_true rfl, Nat.le_of_ble_eq_true rfl⟩ ⟨rfl, rfl⟩ ⟨Nat.le_of_ble_eq_true rfl, Nat.le_of_ble_eq_true rfl⟩ (Nat.le_of_ble_eq_true rfl)) (fun vv uu h => by first | exact h | (exact ⟨h.1.trans (by first | rfl | exact congrArg (fun p => some (Value.int (iI (bI p)))) (propext (in5 e).symm)), h.2⟩))
          · exact XRun.mono (r_callF C c hc ht (r := (RX2, TX2, 3)) (by rw [e]; rfl) (owner := "LogSawyer$Fault") ce_X1_isIn (m_X1_isIn G n V R (c) (2 * (q % 12) - 11) (2 * (q / 12) - 11) hn hLR (by first | assumption | omega | decide) (by first | assumption | omega | decide) (by first | assumption | omega | decide) (by first | assumption | omega | decide) (by first | assumption | omega | decide) (by first | assumption | omega | decide) (by first | assumption | omega | decide)) rfl dX0_cellsOfSlice_26 q_26_18 q_20_23 ⟨by decide, by decide⟩ (Or.inl (List.mem_of_getElem? (i := 14) rfl)) rfl q_22_9 q_21_1 rfl rfl ⟨Nat.le_of_ble_eq_true rfl, Nat.le_of_ble_eq_true rfl⟩ ⟨rfl, rfl⟩ ⟨Nat.le_of_ble_eq_true rfl, Nat.le_of_ble_eq_true rfl⟩ (Nat.le_of_ble_eq_true rfl)) (fun vv uu h => by first | exact h | (exact ⟨h.1.trans (by first | rfl | exact congrArg (fun p => some (Value.int (iI (bI p)))) (propext (in5 e).symm)), h.2⟩))
          · exact XRun.mono (r_callF C c hc ht (r := (RX8, TX8, 3)) (by rw [e]; rfl) (owner := "LogSawyer$Fault") ce_X1_isIn (m_X1_isIn G n V R (c) (2 * (q % 12) - 11) (2 * (q / 12) - 11) hn hLR (by first | assumption | omega | decide) (by first | assumption | omega | decide) (by first | assumption | omega | decide) (by first | assumption | omega | decide) (by first | assumption | omega | decide) (by first | assumption | omega | decide) (by first | assumption | omega | decide)) rfl dX0_cellsOfSlice_26 q_26_18 q_20_23 ⟨by decide, by decide⟩ (Or.inl (List.mem_of_getElem? (i := 14) rfl)) rfl q_23_3 q_21_1 rfl rfl ⟨Nat.le_of_ble_eq_true rfl, Nat.le_of_ble_eq_true rfl⟩ ⟨rfl, rfl⟩ ⟨Nat.le_of_ble_eq_true rfl, Nat.le_of_ble_eq_true rfl⟩ (Nat.le_of_ble_eq_true rfl)) (fun vv uu h => by first | exact h | (exact ⟨h.1.trans (by first | rfl | exact congrArg (fun p => some (Value.int (iI (bI p)))) (propext (in5 e).symm)), h.2⟩))
          · exact XRun.mono (r_callF C c hc ht (r := (RX7, TX7, 3)) (by rw [e]; rfl) (owner := "LogSawyer$Fault") ce_X7_isIn (m_X7_isIn G n V R (c) (2 * (q % 12) - 11) (2 * (q / 12) - 11) hn hLR (by first | assumption | omega | decide) (by first | assumption | omega | decide) (by first | assumption | omega | decide) (by first | assumption | omega | decide) (by first | assumption | omega | decide) (by first | assumption | omega | decide) (by first | assumption | omega | decide)) rfl dX0_cellsOfSlice_26 q_26_18 q_20_23 ⟨by decide, by decide⟩ (Or.inl (List.mem_of_getElem? (i := 14) rfl)) rfl q_22_20 q_22_21 rfl rfl ⟨Nat.le_of_ble_eq_true rfl, Nat.le_of_ble_eq_true rfl⟩ ⟨rfl, rfl⟩ ⟨Nat.le_of_ble_eq_true rfl, Nat.le_of_ble_eq_true rfl⟩ (Nat.le_of_ble_eq_true rfl)) (fun vv uu h => by first | exact h | (exact ⟨h.1.trans (by first | rfl | exact congrArg (fun p => some (Value.int (iI (bI p)))) (propext (in5 e).symm)), h.2⟩))
          · exact XRun.mono (r_callF C c hc ht (r := (RX4, TX4, 3)) (by rw [e]; rfl) (owner := "LogSawyer$Fault") ce_X4_isIn (m_X4_isIn G n V R (c) (2 * (q % 12) - 11) (2 * (q / 12) - 11) hn hLR (by first | assumption | omega | decide) (by first | assumption | omega | decide) (by first | assumption | omega | decide) (by first | assumption | omega | decide) (by first | assumption | omega | decide) (by first | assumption | omega | decide)) rfl dX0_cellsOfSlice_26 q_26_18 q_20_23 ⟨by decide, by decide⟩ (Or.inl (List.mem_of_getElem? (i := 14) rfl)) rfl q_22_10 q_22_11 rfl rfl ⟨Nat.le_of_ble_eq_true rfl, Nat.le_of_ble_eq_true rfl⟩ ⟨rfl, rfl⟩ ⟨Nat.le_of_ble_eq_true rfl, Nat.le_of_ble_eq_true rfl⟩ (Nat.le_of_ble_eq_true rfl)) (fun vv uu h => by first | exact h | (exact ⟨h.1.trans (by first | rfl | exact congrArg (fun p => some (Value.int (iI (bI p)))) (propext (in5 e).symm)), h.2⟩))
          · exact XRun.mono (r_callF C c hc ht (r := (RX5, TX5, 3)) (by rw [e]; rfl) (owner := "LogSawyer$Fault") ce_X5_isIn (m_X5_isIn G n V R (c) (2 * (q % 12) - 11) (2 * (q / 12) - 11) hn hLR (by first | assumption | omega | decide) (by first | assumption | omega | decide) (by first | assumption | omega | decide) (by first | assumption | omega | decide) (by first | assumption | omega | decide)) rfl dX0_cellsOfSlice_26 q_26_18 q_20_23 ⟨by decide, by decide⟩ (Or.inl (List.mem_of_getElem? (i := 14) rfl)) rfl q_22_15 q_22_16 rfl rfl ⟨Nat.le_of_ble_eq_true rfl, Nat.le_of_ble_eq_true rfl⟩ ⟨rfl, rfl⟩ ⟨Nat.le_of_ble_eq_true rfl, Nat.le_of_ble_eq_true rfl⟩ (Nat.le_of_ble_eq_true rfl)) (fun vv uu h => by first | exact h | (exact ⟨h.1.trans (by first | rfl | exact congrArg (fun p => some (Value.int (iI (bI p)))) (propext (in5 e).symm)), h.2⟩))
          · exact XRun.mono (r_callF C c hc ht (r := (RX9, TX9, 3)) (by rw [e]; rfl) (owner := "LogSawyer$Fault") ce_X9_isIn (m_X9_isIn G n V R (c) (2 * (q % 12) - 11) (2 * (q / 12) - 11) hn hLR (by first | assumption | omega | decide) (by first | assumption | omega | decide) (by first | assumption | omega | decide) (by first | assumption | omega | decide) (by first | assumption | omega | decide) (by first | assumption | omega | decide) (by first | assumption | omega | decide)) rfl dX0_cellsOfSlice_26 q_26_18 q_20_23 ⟨by decide, by decide⟩ (Or.inl (List.mem_of_getElem? (i := 14) rfl)) rfl q_23_4 q_23_5 rfl rfl ⟨Nat.le_of_ble_eq_true rfl, Nat.le_of_ble_eq_true rfl⟩ ⟨rfl, rfl⟩ ⟨Nat.le_of_ble_eq_true rfl, Nat.le_of_ble_eq_true rfl⟩ (Nat.le_of_ble_eq_true rfl)) (fun vv uu h => by first | exact h | (exact ⟨h.1.trans (by first | rfl | exact congrArg (fun p => some (Value.int (iI (bI p)))) (propext (in5 e).symm)), h.2⟩))
        obtain ⟨rfl, rfl⟩ := hp26
        show Xw K G 0 0 _ n V R 29 [(0, .ref (aG G c)), (1, .int (iI a)), (2, .int (iI q))] [.int (iI (bI (inU (V c 3) (V c 0) (V c 2) (2 * (q % 12) - 11) (2 * (q / 12) - 11))))]
        refine x_ifeq_b C dX0_cellsOfSlice_29 (tgt := 35) (by decide) (fun h29 => ?_) (fun h29 => ?_)
        · skip
          refine x_iinc C 2 dX0_cellsOfSlice_35 rfl (by decide) (lv' := [(0, .ref (aG G c)), (1, .int (iI a)), (2, .int (iI (q + 1)))]) rfl ?_
          refine x_goto C dX0_cellsOfSlice_38 (tgt := 4) (by decide) ?_
          exact ih4 (a) ((q + 1)) (by omega) (by rw [sm_s (by omega), ← ha2]; first | (rw [bI_t (by assumption)]) | (rw [bI_f (by assumption)]; omega)) (by omega) (by omega)
        · skip
          refine x_iinc C 1 dX0_cellsOfSlice_32 rfl (by decide) (lv' := [(0, .ref (aG G c)), (1, .int (iI (a + 1))), (2, .int (iI q))]) rfl ?_
          refine x_iinc C 2 dX0_cellsOfSlice_35 rfl (by decide) (lv' := [(0, .ref (aG G c)), (1, .int (iI (a + 1))), (2, .int (iI (q + 1)))]) rfl ?_
          refine x_goto C dX0_cellsOfSlice_38 (tgt := 4) (by decide) ?_
          exact ih4 ((a + 1)) ((q + 1)) (by omega) (by rw [sm_s (by omega), ← ha2]; first | (rw [bI_t (by assumption)]) | (rw [bI_f (by assumption)]; omega)) (by omega) (by omega)
  exact lp_4 (((145 : Int) - 0).toNat + 1) (0) (0) (by omega) (by rfl) (by omega) (by omega)
