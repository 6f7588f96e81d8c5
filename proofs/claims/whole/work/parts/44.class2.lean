/-- V1 is V with a new fault at n -/
def NewF (V V1 : Nat → Int → Int) (n : Nat) (k a s z : Int) : Prop := V1 n 3 = k ∧ V1 n 0 = a ∧ V1 n 1 = s ∧ V1 n 2 = z ∧ ∀ q, q ≠ n → V1 q = V q
theorem newF_mk {V : Nat → Int → Int} {n : Nat} {k a s z : Int} : NewF V (u2 (u2 (u2 (uC V n (fun z => if z = 3 then k else 0)) n 0 a) n 1 s) n 2 z) n k a s z := by
  refine ⟨?_, ?_, ?_, ?_, fun q h => ?_⟩
  · rw [u2_at, if_neg (by omega), u2_at, if_neg (by omega), u2_at, if_neg (by omega), uC_s]; rfl
  · rw [u2_at, if_neg (by omega), u2_at, if_neg (by omega), u2_at, if_pos ⟨rfl, rfl⟩]
  · rw [u2_at, if_neg (by omega), u2_at, if_pos ⟨rfl, rfl⟩]
  · rw [u2_at, if_pos ⟨rfl, rfl⟩]
  · rw [u2_n h, u2_n h, u2_n h, uC_n h]
theorem LR_fr {R R2 : Nat → Int → Option Nat} {a : Nat} (ha : a = 34 ∨ (a = 1 ∨ a = 6)) (h : LR R) (hR : ∀ q, q ≠ a + 1 → R2 q = R q) : LR R2 := by
  intro q hq
  have e : q.1 ≠ a + 1 := by
    have h2 : ∀ q ∈ lrT, q.1 ≠ 2 ∧ q.1 ≠ 7 ∧ q.1 ≠ 35 := by decide
    have := h2 q hq
    omega
  rw [hR _ e]; exact h q hq
theorem sq_6 {T : Int} (h : 1 ≤ T ∧ T ≤ 6) : 4 ≤ 4 * T * T ∧ 4 * T * T ≤ 144 := by
  rcases (show T = 1 ∨ T = 2 ∨ T = 3 ∨ T = 4 ∨ T = 5 ∨ T = 6 by omega) with e | e | e | e | e | e <;> subst e <;> decide
theorem woodC {r t x y s T : Int} (h : T = max 1 (r - s * t / 4)) : woodP r t x y s ↔ (2 * x - 11) * (2 * x - 11) + (2 * y - 11) * (2 * y - 11) ≤ 4 * T * T := by
  unfold woodP
  rw [Int.mul_comm s t] at h
  rw [← h, show (2 * T) * (2 * T) = 4 * T * T by rw [Int.mul_assoc, Int.mul_assoc, Int.mul_left_comm T 2 T, ← Int.mul_assoc 2 2]; rfl]
/-- board row at b, order row at o (thickness, columns, slices, grade) -/
def meetQ (c o : Int → Int) (b j : Int) : Prop := c b = o j ∧ o (j + 1) ≤ c (b + 1) ∧ o (j + 2) ≤ c (b + 2) ∧ c (b + 3) ≤ o (j + 3)
/-- a fault that can be stands at c -/
def FOk (n : Nat) (V : Nat → Int → Int) (c : Nat) : Prop := 67 ≤ c ∧ c < n ∧ (0 ≤ V c 3 ∧ V c 3 ≤ 6) ∧ (0 ≤ V c 0 ∧ V c 0 ≤ 7) ∧ (0 ≤ V c 1 ∧ V c 1 ≤ 7) ∧ (1 ≤ V c 2 ∧ V c 2 ≤ 4)
theorem x_aastR {K : XS} {G : GS} {cells slots : Nat} {Q : State → Prop} {n : Nat} {V : Nat → Int → Int} {R : Nat → Int → Option Nat} {cc : ByteArray} {own : String} {nL : Nat} {ret : Option FieldType} {rm : Room} {pc : Nat} {lv : List (Nat × Value)} {st : List Value} (C : Cx K G cc own nL ret rm) (c : Nat) {N : Nat} {z : Int} {E : Option Nat} (hd : decode cc pc = .ok (.aastore, 1)) (hc : c < n) (ht : tb c = (23, N)) (hz : 0 ≤ z ∧ z < N) (hE : ∀ d, E = some d → d < n ∧ tb d = (99, 0))
    (kk : Xw K G cells slots Q n V (u2 R c z E) (pc + 1) lv st) : Xw K G cells slots Q n V R pc lv (rv G.2.1 E :: .int (iI z) :: .ref (aG G c) :: st) := by
  cases E with
  | none => exact x_aastN C c hd hc ht hz kk
  | some d => exact x_aast C c hd hc ht hz (hE d rfl).1 (hE d rfl).2 kk
theorem x_aretR {K : XS} {G : GS} {cells slots : Nat} {n : Nat} {V : Nat → Int → Int} {R : Nat → Int → Option Nat} {cc : ByteArray} {own : String} {nL : Nat} {rm : Room} {pc : Nat} {lv : List (Nat × Value)} {post : Option Value → Mem → Prop} {cn : String} (C : Cx K G cc own nL (some (.object cn)) rm) {E : Option Nat} (hd : decode cc pc = .ok (.areturn, 1)) (h : post (some (rv G.2.1 E)) (n, V, R)) : Xw K G cells slots (EndQ K G cells slots post) n V R pc lv [rv G.2.1 E] := by
  cases E with
  | none => exact x_aretN C hd h
  | some d => exact x_aret C hd h
def FsOk (n : Nat) (V : Nat → Int → Int) (R : Nat → Int → Option Nat) (a : Nat) (m : Int) : Prop := ∀ i : Int, 0 ≤ i → i < m → ∃ c, R a i = some c ∧ FOk n V c

set_option maxRecDepth 100000 in
set_option maxHeartbeats 4000000 in
theorem m_X0_init (G : GS) (n : Nat) (V : Nat → Int → Int) (R : Nat → Int → Option Nat) (c : Nat) (a : Int) (s : Int) (z : Int) (hn : 67 ≤ n) (hLR : LR R) (hc : c < n) (ht : tb c = (99, 0)) (ga : Rg a) (gs : Rg s) (gz : Rg z) : Cn G yX0_init cX0_init 4 none (rmk 1 0 0 16) [.ref (aG G c), .int (iI a), .int (iI s), .int (iI z)] n V R 0 0 (fun vv uu => vv = none ∧ uu = (n, (u2 (u2 (u2 V c 0 a) c 1 s) c 2 z), R)) := by
  refine Cn.of (by decide) (Nat.le_of_ble_eq_true rfl) (fun K C hct => ?_)
  show Xw K G 0 0 _ n V R 0 [(0, .ref (aG G c)), (1, .int (iI a)), (2, .int (iI s)), (3, .int (iI z))] []
  refine x_aload_n C 0 dX0_init_0 rfl rfl ?_
  refine x_oinit C dX0_init_1 q_14_4 q_0_11 q_0_12 ⟨Nat.le_of_ble_eq_true rfl, Nat.le_of_ble_eq_true rfl⟩ ?_
  refine x_aload_n C 0 dX0_init_4 rfl rfl ?_
  refine x_iload_n C 1 dX0_init_5 rfl rfl ?_
  refine x_putF C (hct rfl) rfl c 0 dX0_init_6 hc ht (by decide) q_14_5 rfl (by first | assumption | (constructor <;> omega)) (kz := 0) rfl ?_
  refine x_aload_n C 0 dX0_init_9 rfl rfl ?_
  refine x_iload_n C 2 dX0_init_10 rfl rfl ?_
  refine x_putF C (hct rfl) rfl c 1 dX0_init_11 hc ht (by decide) q_14_6 rfl (by first | assumption | (constructor <;> omega)) (kz := 1) rfl ?_
  refine x_aload_n C 0 dX0_init_14 rfl rfl ?_
  refine x_iload_n C 3 dX0_init_15 rfl rfl ?_
  refine x_putF C (hct rfl) rfl c 2 dX0_init_16 hc ht (by decide) q_14_7 rfl (by first | assumption | (constructor <;> omega)) (kz := 2) rfl ?_
  refine x_vret C dX0_init_19 ⟨rfl, rfl⟩
set_option maxRecDepth 100000 in
set_option maxHeartbeats 4000000 in
theorem m_X1_init (G : GS) (n : Nat) (V : Nat → Int → Int) (R : Nat → Int → Option Nat) (c : Nat) (a : Int) (s : Int) (z : Int) (hn : 67 ≤ n) (hLR : LR R) (hc : c < n) (ht : tb c = (99, 0)) (ga : Rg a) (gs : Rg s) (gz : Rg z) : Cn G yX1_init cX1_init 4 none (rmk 2 0 0 39) [.ref (aG G c), .int (iI a), .int (iI s), .int (iI z)] n V R 0 0 (fun vv uu => vv = none ∧ uu = (n, (u2 (u2 (u2 V c 0 a) c 1 s) c 2 z), R)) := by
  refine Cn.of (by decide) (Nat.le_of_ble_eq_true rfl) (fun K C hct => ?_)
  show Xw K G 0 0 _ n V R 0 [(0, .ref (aG G c)), (1, .int (iI a)), (2, .int (iI s)), (3, .int (iI z))] []
  refine x_aload_n C 0 dX1_init_0 rfl rfl ?_
  refine x_iload_n C 1 dX1_init_1 rfl rfl ?_
  refine x_iload_n C 2 dX1_init_2 rfl rfl ?_
  refine x_iload_n C 3 dX1_init_3 rfl rfl ?_
  refine x_runU (r_callI C (ce_X0_init) (m_X0_init G n V R (c) (a) (s) (z) hn hLR (by first | assumption | omega | decide) (by first | assumption | omega | decide) (by first | assumption | omega | decide) (by first | assumption | omega | decide) (by first | assumption | omega | decide)) rfl rfl dX1_init_4 q_14_0 q_14_1 rfl rfl rfl ⟨Nat.le_of_ble_eq_true rfl, Nat.le_of_ble_eq_true rfl⟩ ⟨rfl, rfl⟩ ⟨Nat.le_of_ble_eq_true rfl, Nat.le_of_ble_eq_true rfl⟩ (Nat.le_of_ble_eq_true rfl)) (fun v4 u4 hp4 => ?_)
  obtain ⟨rfl, rfl⟩ := hp4
  show Xw K G 0 0 _ n (u2 (u2 (u2 V c 0 a) c 1 s) c 2 z) R 7 [(0, .ref (aG G c)), (1, .int (iI a)), (2, .int (iI s)), (3, .int (iI z))] []
  refine x_vret C dX1_init_7 ⟨rfl, rfl⟩
set_option maxRecDepth 100000 in
set_option maxHeartbeats 4000000 in
theorem m_X2_init (G : GS) (n : Nat) (V : Nat → Int → Int) (R : Nat → Int → Option Nat) (c : Nat) (a : Int) (s : Int) (z : Int) (hn : 67 ≤ n) (hLR : LR R) (hc : c < n) (ht : tb c = (99, 0)) (ga : Rg a) (gs : Rg s) (gz : Rg z) : Cn G yX2_init cX2_init 4 none (rmk 3 0 0 62) [.ref (aG G c), .int (iI a), .int (iI s), .int (iI z)] n V R 0 0 (fun vv uu => vv = none ∧ uu = (n, (u2 (u2 (u2 V c 0 a) c 1 s) c 2 z), R)) := by
  refine Cn.of (by decide) (Nat.le_of_ble_eq_true rfl) (fun K C hct => ?_)
  show Xw K G 0 0 _ n V R 0 [(0, .ref (aG G c)), (1, .int (iI a)), (2, .int (iI s)), (3, .int (iI z))] []
  refine x_aload_n C 0 dX2_init_0 rfl rfl ?_
  refine x_iload_n C 1 dX2_init_1 rfl rfl ?_
  refine x_iload_n C 2 dX2_init_2 rfl rfl ?_
  refine x_iload_n C 3 dX2_init_3 rfl rfl ?_
  refine x_runU (r_callI C (ce_X1_init) (m_X1_init G n V R (c) (a) (s) (z) hn hLR (by first | assumption | omega | decide) (by first | assumption | omega | decide) (by first | assumption | omega | decide) (by first | assumption | omega | decide) (by first | assumption | omega | decide)) rfl rfl dX2_init_4 q_14_11 q_13_22 rfl rfl rfl ⟨Nat.le_of_ble_eq_true rfl, Nat.le_of_ble_eq_true rfl⟩ ⟨rfl, rfl⟩ ⟨Nat.le_of_ble_eq_true rfl, Nat.le_of_ble_eq_true rfl⟩ (Nat.le_of_ble_eq_true rfl)) (fun v4 u4 hp4 => ?_)
  obtain ⟨rfl, rfl⟩ := hp4
  show Xw K G 0 0 _ n (u2 (u2 (u2 V c 0 a) c 1 s) c 2 z) R 7 [(0, .ref (aG G c)), (1, .int (iI a)), (2, .int (iI s)), (3, .int (iI z))] []
  refine x_vret C dX2_init_7 ⟨rfl, rfl⟩
set_option maxRecDepth 100000 in
set_option maxHeartbeats 4000000 in
theorem m_X8_init (G : GS) (n : Nat) (V : Nat → Int → Int) (R : Nat → Int → Option Nat) (c : Nat) (a : Int) (s : Int) (z : Int) (hn : 67 ≤ n) (hLR : LR R) (hc : c < n) (ht : tb c = (99, 0)) (ga : Rg a) (gs : Rg s) (gz : Rg z) : Cn G yX8_init cX8_init 4 none (rmk 4 0 0 85) [.ref (aG G c), .int (iI a), .int (iI s), .int (iI z)] n V R 0 0 (fun vv uu => vv = none ∧ uu = (n, (u2 (u2 (u2 V c 0 a) c 1 s) c 2 z), R)) := by
  refine Cn.of (by decide) (Nat.le_of_ble_eq_true rfl) (fun K C hct => ?_)
  show Xw K G 0 0 _ n V R 0 [(0, .ref (aG G c)), (1, .int (iI a)), (2, .int (iI s)), (3, .int (iI z))] []
  refine x_aload_n C 0 dX8_init_0 rfl rfl ?_
  refine x_iload_n C 1 dX8_init_1 rfl rfl ?_
  refine x_iload_n C 2 dX8_init_2 rfl rfl ?_
  refine x_iload_n C 3 dX8_init_3 rfl rfl ?_
  refine x_runU (r_callI C (ce_X2_init) (m_X2_init G n V R (c) (a) (s) (z) hn hLR (by first | assumption | omega | decide) (by first | assumption | omega | decide) (by first | assumption | omega | decide) (by first | assumption | omega | decide) (by first | assumption | omega | decide)) rfl rfl dX8_init_4 q_14_15 q_14_9 rfl rfl rfl ⟨Nat.le_of_ble_eq_true rfl, Nat.le_of_ble_eq_true rfl⟩ ⟨rfl, rfl⟩ ⟨Nat.le_of_ble_eq_true rfl, Nat.le_of_ble_eq_true rfl⟩ (Nat.le_of_ble_eq_true rfl)) (fun v4 u4 hp4 => ?_)
  obtain ⟨rfl, rfl⟩ := hp4
  show Xw K G 0 0 _ n (u2 (u2 (u2 V c 0 a) c 1 s) c 2 z) R 7 [(0, .ref (aG G c)), (1, .int (iI a)), (2, .int (iI s)), (3, .int (iI z))] []
  refine x_vret C dX8_init_7 ⟨rfl, rfl⟩
set_option maxRecDepth 100000 in
set_option maxHeartbeats 4000000 in
theorem m_X7_init (G : GS) (n : Nat) (V : Nat → Int → Int) (R : Nat → Int → Option Nat) (c : Nat) (a : Int) (s : Int) (z : Int) (hn : 67 ≤ n) (hLR : LR R) (hc : c < n) (ht : tb c = (99, 0)) (ga : Rg a) (gs : Rg s) (gz : Rg z) : Cn G yX7_init cX7_init 4 none (rmk 2 0 0 39) [.ref (aG G c), .int (iI a), .int (iI s), .int (iI z)] n V R 0 0 (fun vv uu => vv = none ∧ uu = (n, (u2 (u2 (u2 V c 0 a) c 1 s) c 2 z), R)) := by
  refine Cn.of (by decide) (Nat.le_of_ble_eq_true rfl) (fun K C hct => ?_)
  show Xw K G 0 0 _ n V R 0 [(0, .ref (aG G c)), (1, .int (iI a)), (2, .int (iI s)), (3, .int (iI z))] []
  refine x_aload_n C 0 dX7_init_0 rfl rfl ?_
  refine x_iload_n C 1 dX7_init_1 rfl rfl ?_
  refine x_iload_n C 2 dX7_init_2 rfl rfl ?_
  refine x_iload_n C 3 dX7_init_3 rfl rfl ?_
  refine x_runU (r_callI C (ce_X0_init) (m_X0_init G n V R (c) (a) (s) (z) hn hLR (by first | assumption | omega | decide) (by first | assumption | omega | decide) (by first | assumption | omega | decide) (by first | assumption | omega | decide) (by first | assumption | omega | decide)) rfl rfl dX7_init_4 q_14_19 q_14_1 rfl rfl rfl ⟨Nat.le_of_ble_eq_true rfl, Nat.le_of_ble_eq_true rfl⟩ ⟨rfl, rfl⟩ ⟨Nat.le_of_ble_eq_true rfl, Nat.le_of_ble_eq_true rfl⟩ (Nat.le_of_ble_eq_true rfl)) (fun v4 u4 hp4 => ?_)
  obtain ⟨rfl, rfl⟩ := hp4
  show Xw K G 0 0 _ n (u2 (u2 (u2 V c 0 a) c 1 s) c 2 z) R 7 [(0, .ref (aG G c)), (1, .int (iI a)), (2, .int (iI s)), (3, .int (iI z))] []
  refine x_vret C dX7_init_7 ⟨rfl, rfl⟩
set_option maxRecDepth 100000 in
set_option maxHeartbeats 4000000 in
theorem m_X4_init (G : GS) (n : Nat) (V : Nat → Int → Int) (R : Nat → Int → Option Nat) (c : Nat) (a : Int) (s : Int) (z : Int) (hn : 67 ≤ n) (hLR : LR R) (hc : c < n) (ht : tb c = (99, 0)) (ga : Rg a) (gs : Rg s) (gz : Rg z) : Cn G yX4_init cX4_init 4 none (rmk 3 0 0 62) [.ref (aG G c), .int (iI a), .int (iI s), .int (iI z)] n V R 0 0 (fun vv uu => vv = none ∧ uu = (n, (u2 (u2 (u2 V c 0 a) c 1 s) c 2 z), R)) := by
  refine Cn.of (by decide) (Nat.le_of_ble_eq_true rfl) (fun K C hct => ?_)
  show Xw K G 0 0 _ n V R 0 [(0, .ref (aG G c)), (1, .int (iI a)), (2, .int (iI s)), (3, .int (iI z))] []
  refine x_aload_n C 0 dX4_init_0 rfl rfl ?_
  refine x_iload_n C 1 dX4_init_1 rfl rfl ?_
  refine x_iload_n C 2 dX4_init_2 rfl rfl ?_
  refine x_iload_n C 3 dX4_init_3 rfl rfl ?_
  refine x_runU (r_callI C (ce_X7_init) (m_X7_init G n V R (c) (a) (s) (z) hn hLR (by first | assumption | omega | decide) (by first | assumption | omega | decide) (by first | assumption | omega | decide) (by first | assumption | omega | decide) (by first | assumption | omega | decide)) rfl rfl dX4_init_4 q_14_23 q_14_17 rfl rfl rfl ⟨Nat.le_of_ble_eq_true rfl, Nat.le_of_ble_eq_true rfl⟩ ⟨rfl, rfl⟩ ⟨Nat.le_of_ble_eq_true rfl, Nat.le_of_ble_eq_true rfl⟩ (Nat.le_of_ble_eq_true rfl)) (fun v4 u4 hp4 => ?_)
  obtain ⟨rfl, rfl⟩ := hp4
  show Xw K G 0 0 _ n (u2 (u2 (u2 V c 0 a) c 1 s) c 2 z) R 7 [(0, .ref (aG G c)), (1, .int (iI a)), (2, .int (iI s)), (3, .int (iI z))] []
  refine x_vret C dX4_init_7 ⟨rfl, rfl⟩
set_option maxRecDepth 100000 in
set_option maxHeartbeats 4000000 in
theorem m_X5_init (G : GS) (n : Nat) (V : Nat → Int → Int) (R : Nat → Int → Option Nat) (c : Nat) (a : Int) (s : Int) (z : Int) (hn : 67 ≤ n) (hLR : LR R) (hc : c < n) (ht : tb c = (99, 0)) (ga : Rg a) (gs : Rg s) (gz : Rg z) : Cn G yX5_init cX5_init 4 none (rmk 2 0 0 39) [.ref (aG G c), .int (iI a), .int (iI s), .int (iI z)] n V R 0 0 (fun vv uu => vv = none ∧ uu = (n, (u2 (u2 (u2 V c 0 a) c 1 s) c 2 z), R)) := by
  refine Cn.of (by decide) (Nat.le_of_ble_eq_true rfl) (fun K C hct => ?_)
  show Xw K G 0 0 _ n V R 0 [(0, .ref (aG G c)), (1, .int (iI a)), (2, .int (iI s)), (3, .int (iI z))] []
  refine x_aload_n C 0 dX5_init_0 rfl rfl ?_
  refine x_iload_n C 1 dX5_init_1 rfl rfl ?_
  refine x_iload_n C 2 dX5_init_2 rfl rfl ?_
  refine x_iload_n C 3 dX5_init_3 rfl rfl ?_
  refine x_runU (r_callI C (ce_X0_init) (m_X0_init G n V R (c) (a) (s) (z) hn hLR (by first | assumption | omega | decide) (by first | assumption | omega | decide) (by first | assumption | omega | decide) (by first | assumption | omega | decide) (by first | assumption | omega | decide)) rfl rfl dX5_init_4 q_15_3 q_14_1 rfl rfl rfl ⟨Nat.le_of_ble_eq_true rfl, Nat.le_of_ble_eq_true rfl⟩ ⟨rfl, rfl⟩ ⟨Nat.le_of_ble_eq_true rfl, Nat.le_of_ble_eq_true rfl⟩ (Nat.le_of_ble_eq_true rfl)) (fun v4 u4 hp4 => ?_)
  obtain ⟨rfl, rfl⟩ := hp4
  show Xw K G 0 0 _ n (u2 (u2 (u2 V c 0 a) c 1 s) c 2 z) R 7 [(0, .ref (aG G c)), (1, .int (iI a)), (2, .int (iI s)), (3, .int (iI z))] []
  refine x_vret C dX5_init_7 ⟨rfl, rfl⟩
set_option maxRecDepth 100000 in
set_option maxHeartbeats 4000000 in
theorem m_X9_init (G : GS) (n : Nat) (V : Nat → Int → Int) (R : Nat → Int → Option Nat) (c : Nat) (a : Int) (s : Int) (z : Int) (hn : 67 ≤ n) (hLR : LR R) (hc : c < n) (ht : tb c = (99, 0)) (ga : Rg a) (gs : Rg s) (gz : Rg z) : Cn G yX9_init cX9_init 4 none (rmk 3 0 0 62) [.ref (aG G c), .int (iI a), .int (iI s), .int (iI z)] n V R 0 0 (fun vv uu => vv = none ∧ uu = (n, (u2 (u2 (u2 V c 0 a) c 1 s) c 2 z), R)) := by
  refine Cn.of (by decide) (Nat.le_of_ble_eq_true rfl) (fun K C hct => ?_)
  show Xw K G 0 0 _ n V R 0 [(0, .ref (aG G c)), (1, .int (iI a)), (2, .int (iI s)), (3, .int (iI z))] []
  refine x_aload_n C 0 dX9_init_0 rfl rfl ?_
  refine x_iload_n C 1 dX9_init_1 rfl rfl ?_
  refine x_iload_n C 2 dX9_init_2 rfl rfl ?_
  refine x_iload_n C 3 dX9_init_3 rfl rfl ?_
  refine x_runU (r_callI C (ce_X5_init) (m_X5_init G n V R (c) (a) (s) (z) hn hLR (by first | assumption | omega | decide) (by first | assumption | omega | decide) (by first | assumption | omega | decide) (by first | assumption | omega | decide) (by first | assumption | omega | decide)) rfl rfl dX9_init_4 q_15_7 q_15_1 rfl rfl rfl ⟨Nat.le_of_ble_eq_true rfl, Nat.le_of_ble_eq_true rfl⟩ ⟨rfl, rfl⟩ ⟨Nat.le_of_ble_eq_true rfl, Nat.le_of_ble_eq_true rfl⟩ (Nat.le_of_ble_eq_true rfl)) (fun v4 u4 hp4 => ?_)
  obtain ⟨rfl, rfl⟩ := hp4
  show Xw K G 0 0 _ n (u2 (u2 (u2 V c 0 a) c 1 s) c 2 z) R 7 [(0, .ref (aG G c)), (1, .int (iI a)), (2, .int (iI s)), (3, .int (iI z))] []
  refine x_vret C dX9_init_7 ⟨rfl, rfl⟩
set_option maxRecDepth 100000 in
set_option maxHeartbeats 4000000 in
theorem m_X11_newFault (G : GS) (n : Nat) (V : Nat → Int → Int) (R : Nat → Int → Option Nat) (k : Int) (a : Int) (s : Int) (z : Int) (hn : 67 ≤ n) (hLR : LR R) (hk : 0 ≤ k ∧ k ≤ 6) (ga : Rg a) (gs : Rg s) (gz : Rg z) : Cn G yX11_newFault cX11_newFault 4 (some (.object "LogSawyer$Fault")) (rmk 5 1 3 108) [.int (iI k), .int (iI a), .int (iI s), .int (iI z)] n V R 1 3 (fun vv uu => ∃ (V1 : Nat → Int → Int), vv = some (.ref (aG G n)) ∧ uu = ((n + 1), V1, R) ∧ (NewF V V1 n k a s z)) := by
  have htn := tb_dyn hn
  refine Cn.of (by decide) (Nat.le_of_ble_eq_true rfl) (fun K C hct => ?_)
  show Xw K G 0 0 _ n V R 0 [(0, .int (iI k)), (1, .int (iI a)), (2, .int (iI s)), (3, .int (iI z))] []
  refine x_iload_n C 0 dX11_newFault_0 rfl rfl ?_
  rcases (show k = 0 ∨ k = 1 ∨ k = 2 ∨ k = 3 ∨ k = 4 ∨ k = 5 ∨ (k < 0 ∨ 5 < k) by omega) with h1 | h1 | h1 | h1 | h1 | h1 | h1
  · skip
    refine x_tin C 0 h1 dX11_newFault_1 (by constructor <;> decide) (by decide) (by decide) (off := 39) rfl (tgt := 40) (by decide) ?_
    refine x_newF (k := 0) (Cn := RX1) (T := TX1) (ty := tyX1) C (by decide) rfl in_wsX10 tyX1_ok (fun j hj => by match j, hj with | 0, _ => rfl | 1, _ => rfl | 2, _ => rfl) dX11_newFault_40 q_26_6 q_13_1 q_13_2 (by omega) (Nat.le_of_ble_eq_true rfl) (Nat.le_of_ble_eq_true rfl) ?_
    refine x_dup C dX11_newFault_43 rfl ?_
    refine x_iload_n C 1 dX11_newFault_44 rfl rfl ?_
    refine x_iload_n C 2 dX11_newFault_45 rfl rfl ?_
    refine x_iload_n C 3 dX11_newFault_46 rfl rfl ?_
    refine x_runU (r_callI C (ce_X1_init) (m_X1_init G (n + 1) (uC V n (fun z => if z = 3 then 0 else 0)) R (n) (a) (s) (z) (by omega) hLR (by first | assumption | omega | decide) (by first | assumption | omega | decide) (by first | assumption | omega | decide) (by first | assumption | omega | decide) (by first | assumption | omega | decide)) rfl rfl dX11_newFault_47 q_13_21 q_13_22 rfl rfl rfl ⟨Nat.le_of_ble_eq_true rfl, Nat.le_of_ble_eq_true rfl⟩ ⟨rfl, rfl⟩ ⟨Nat.le_of_ble_eq_true rfl, Nat.le_of_ble_eq_true rfl⟩ (Nat.le_of_ble_eq_true rfl)) (fun v47 u47 hp47 => ?_)
    obtain ⟨rfl, rfl⟩ := hp47
    show Xw K G (0 + 1) (0 + 3) _ (n + 1) (u2 (u2 (u2 (uC V n (fun z => if z = 3 then 0 else 0)) n 0 a) n 1 s) n 2 z) R 50 [(0, .int (iI k)), (1, .int (iI a)), (2, .int (iI s)), (3, .int (iI z))] [.ref (aG G n)]
    refine x_wid (cells' := 1) (slots' := 3) (by first | decide | omega) (by first | decide | omega) ?_
    refine x_aret C dX11_newFault_50 ⟨_, rfl, rfl, ?_⟩
    · first | (rw [hk6]; exact newF_mk) | (rw [h1]; exact newF_mk)
  · skip
    refine x_tin C 1 h1 dX11_newFault_1 (by constructor <;> decide) (by decide) (by decide) (off := 50) rfl (tgt := 51) (by decide) ?_
    refine x_newF (k := 1) (Cn := RX2) (T := TX2) (ty := tyX2) C (by decide) rfl in_wsX20 tyX2_ok (fun j hj => by match j, hj with | 0, _ => rfl | 1, _ => rfl | 2, _ => rfl) dX11_newFault_51 q_26_7 q_13_4 q_13_5 (by omega) (Nat.le_of_ble_eq_true rfl) (Nat.le_of_ble_eq_true rfl) ?_
    refine x_dup C dX11_newFault_54 rfl ?_
    refine x_iload_n C 1 dX11_newFault_55 rfl rfl ?_
    refine x_iload_n C 2 dX11_newFault_56 rfl rfl ?_
    refine x_iload_n C 3 dX11_newFault_57 rfl rfl ?_
    refine x_runU (r_callI C (ce_X2_init) (m_X2_init G (n + 1) (uC V n (fun z => if z = 3 then 1 else 0)) R (n) (a) (s) (z) (by omega) hLR (by first | assumption | omega | decide) (by first | assumption | omega | decide) (by first | assumption | omega | decide) (by first | assumption | omega | decide) (by first | assumption | omega | decide)) rfl rfl dX11_newFault_58 q_14_8 q_14_9 rfl rfl rfl ⟨Nat.le_of_ble_eq_true rfl, Nat.le_of_ble_eq_true rfl⟩ ⟨rfl, rfl⟩ ⟨Nat.le_of_ble_eq_true rfl, Nat.le_of_ble_eq_true rfl⟩ (Nat.le_of_ble_eq_true rfl)) (fun v58 u58 hp58 => ?_)
    obtain ⟨rfl, rfl⟩ := hp58
    show Xw K G (0 + 1) (0 + 3) _ (n + 1) (u2 (u2 (u2 (uC V n (fun z => if z = 3 then 1 else 0)) n 0 a) n 1 s) n 2 z) R 61 [(0, .int (iI k)), (1, .int (iI a)), (2, .int (iI s)), (3, .int (iI z))] [.ref (aG G n)]
    refine x_wid (cells' := 1) (slots' := 3) (by first | decide | omega) (by first | decide | omega) ?_
    refine x_aret C dX11_newFault_61 ⟨_, rfl, rfl, ?_⟩
    · first | (rw [hk6]; exact newF_mk) | (rw [h1]; exact newF_mk)
  · skip
    refine x_tin C 2 h1 dX11_newFault_1 (by constructor <;> decide) (by decide) (by decide) (off := 61) rfl (tgt := 62) (by decide) ?_
    refine x_newF (k := 2) (Cn := RX8) (T := TX8) (ty := tyX8) C (by decide) rfl in_wsX80 tyX8_ok (fun j hj => by match j, hj with | 0, _ => rfl | 1, _ => rfl | 2, _ => rfl) dX11_newFault_62 q_26_8 q_13_7 q_13_8 (by omega) (Nat.le_of_ble_eq_true rfl) (Nat.le_of_ble_eq_true rfl) ?_
    refine x_dup C dX11_newFault_65 rfl ?_
    refine x_iload_n C 1 dX11_newFault_66 rfl rfl ?_
    refine x_iload_n C 2 dX11_newFault_67 rfl rfl ?_
    refine x_iload_n C 3 dX11_newFault_68 rfl rfl ?_
    refine x_runU (r_callI C (ce_X8_init) (m_X8_init G (n + 1) (uC V n (fun z => if z = 3 then 2 else 0)) R (n) (a) (s) (z) (by omega) hLR (by first | assumption | omega | decide) (by first | assumption | omega | decide) (by first | assumption | omega | decide) (by first | assumption | omega | decide) (by first | assumption | omega | decide)) rfl rfl dX11_newFault_69 q_14_12 q_14_13 rfl rfl rfl ⟨Nat.le_of_ble_eq_true rfl, Nat.le_of_ble_eq_true rfl⟩ ⟨rfl, rfl⟩ ⟨Nat.le_of_ble_eq_true rfl, Nat.le_of_ble_eq_true rfl⟩ (Nat.le_of_ble_eq_true rfl)) (fun v69 u69 hp69 => ?_)
    obtain ⟨rfl, rfl⟩ := hp69
    show Xw K G (0 + 1) (0 + 3) _ (n + 1) (u2 (u2 (u2 (uC V n (fun z => if z = 3 then 2 else 0)) n 0 a) n 1 s) n 2 z) R 72 [(0, .int (iI k)), (1, .int (iI a)), (2, .int (iI s)), (3, .int (iI z))] [.ref (aG G n)]
    refine x_wid (cells' := 1) (slots' := 3) (by first | decide | omega) (by first | decide | omega) ?_
    refine x_aret C dX11_newFault_72 ⟨_, rfl, rfl, ?_⟩
    · first | (rw [hk6]; exact newF_mk) | (rw [h1]; exact newF_mk)
  · skip
    refine x_tin C 3 h1 dX11_newFault_1 (by constructor <;> decide) (by decide) (by decide) (off := 72) rfl (tgt := 73) (by decide) ?_
    refine x_newF (k := 3) (Cn := RX7) (T := TX7) (ty := tyX7) C (by decide) rfl in_wsX70 tyX7_ok (fun j hj => by match j, hj with | 0, _ => rfl | 1, _ => rfl | 2, _ => rfl) dX11_newFault_73 q_26_9 q_13_10 q_13_11 (by omega) (Nat.le_of_ble_eq_true rfl) (Nat.le_of_ble_eq_true rfl) ?_
    refine x_dup C dX11_newFault_76 rfl ?_
    refine x_iload_n C 1 dX11_newFault_77 rfl rfl ?_
    refine x_iload_n C 2 dX11_newFault_78 rfl rfl ?_
    refine x_iload_n C 3 dX11_newFault_79 rfl rfl ?_
    refine x_runU (r_callI C (ce_X7_init) (m_X7_init G (n + 1) (uC V n (fun z => if z = 3 then 3 else 0)) R (n) (a) (s) (z) (by omega) hLR (by first | assumption | omega | decide) (by first | assumption | omega | decide) (by first | assumption | omega | decide) (by first | assumption | omega | decide) (by first | assumption | omega | decide)) rfl rfl dX11_newFault_80 q_14_16 q_14_17 rfl rfl rfl ⟨Nat.le_of_ble_eq_true rfl, Nat.le_of_ble_eq_true rfl⟩ ⟨rfl, rfl⟩ ⟨Nat.le_of_ble_eq_true rfl, Nat.le_of_ble_eq_true rfl⟩ (Nat.le_of_ble_eq_true rfl)) (fun v80 u80 hp80 => ?_)
    obtain ⟨rfl, rfl⟩ := hp80
    show Xw K G (0 + 1) (0 + 3) _ (n + 1) (u2 (u2 (u2 (uC V n (fun z => if z = 3 then 3 else 0)) n 0 a) n 1 s) n 2 z) R 83 [(0, .int (iI k)), (1, .int (iI a)), (2, .int (iI s)), (3, .int (iI z))] [.ref (aG G n)]
    refine x_wid (cells' := 1) (slots' := 3) (by first | decide | omega) (by first | decide | omega) ?_
    refine x_aret C dX11_newFault_83 ⟨_, rfl, rfl, ?_⟩
    · first | (rw [hk6]; exact newF_mk) | (rw [h1]; exact newF_mk)
  · skip
    refine x_tin C 4 h1 dX11_newFault_1 (by constructor <;> decide) (by decide) (by decide) (off := 83) rfl (tgt := 84) (by decide) ?_
    refine x_newF (k := 4) (Cn := RX4) (T := TX4) (ty := tyX4) C (by decide) rfl in_wsX40 tyX4_ok (fun j hj => by match j, hj with | 0, _ => rfl | 1, _ => rfl | 2, _ => rfl) dX11_newFault_84 q_26_10 q_13_13 q_13_14 (by omega) (Nat.le_of_ble_eq_true rfl) (Nat.le_of_ble_eq_true rfl) ?_
    refine x_dup C dX11_newFault_87 rfl ?_
    refine x_iload_n C 1 dX11_newFault_88 rfl rfl ?_
    refine x_iload_n C 2 dX11_newFault_89 rfl rfl ?_
    refine x_iload_n C 3 dX11_newFault_90 rfl rfl ?_
    refine x_runU (r_callI C (ce_X4_init) (m_X4_init G (n + 1) (uC V n (fun z => if z = 3 then 4 else 0)) R (n) (a) (s) (z) (by omega) hLR (by first | assumption | omega | decide) (by first | assumption | omega | decide) (by first | assumption | omega | decide) (by first | assumption | omega | decide) (by first | assumption | omega | decide)) rfl rfl dX11_newFault_91 q_14_20 q_14_21 rfl rfl rfl ⟨Nat.le_of_ble_eq_true rfl, Nat.le_of_ble_eq_true rfl⟩ ⟨rfl, rfl⟩ ⟨Nat.le_of_ble_eq_true rfl, Nat.le_of_ble_eq_true rfl⟩ (Nat.le_of_ble_eq_true rfl)) (fun v91 u91 hp91 => ?_)
    obtain ⟨rfl, rfl⟩ := hp91
    show Xw K G (0 + 1) (0 + 3) _ (n + 1) (u2 (u2 (u2 (uC V n (fun z => if z = 3 then 4 else 0)) n 0 a) n 1 s) n 2 z) R 94 [(0, .int (iI k)), (1, .int (iI a)), (2, .int (iI s)), (3, .int (iI z))] [.ref (aG G n)]
    refine x_wid (cells' := 1) (slots' := 3) (by first | decide | omega) (by first | decide | omega) ?_
    refine x_aret C dX11_newFault_94 ⟨_, rfl, rfl, ?_⟩
    · first | (rw [hk6]; exact newF_mk) | (rw [h1]; exact newF_mk)
  · skip
    refine x_tin C 5 h1 dX11_newFault_1 (by constructor <;> decide) (by decide) (by decide) (off := 94) rfl (tgt := 95) (by decide) ?_
    refine x_newF (k := 5) (Cn := RX5) (T := TX5) (ty := tyX5) C (by decide) rfl in_wsX50 tyX5_ok (fun j hj => by match j, hj with | 0, _ => rfl | 1, _ => rfl | 2, _ => rfl) dX11_newFault_95 q_26_11 q_13_16 q_13_17 (by omega) (Nat.le_of_ble_eq_true rfl) (Nat.le_of_ble_eq_true rfl) ?_
    refine x_dup C dX11_newFault_98 rfl ?_
    refine x_iload_n C 1 dX11_newFault_99 rfl rfl ?_
    refine x_iload_n C 2 dX11_newFault_100 rfl rfl ?_
    refine x_iload_n C 3 dX11_newFault_101 rfl rfl ?_
    refine x_runU (r_callI C (ce_X5_init) (m_X5_init G (n + 1) (uC V n (fun z => if z = 3 then 5 else 0)) R (n) (a) (s) (z) (by omega) hLR (by first | assumption | omega | decide) (by first | assumption | omega | decide) (by first | assumption | omega | decide) (by first | assumption | omega | decide) (by first | assumption | omega | decide)) rfl rfl dX11_newFault_102 q_15_0 q_15_1 rfl rfl rfl ⟨Nat.le_of_ble_eq_true rfl, Nat.le_of_ble_eq_true rfl⟩ ⟨rfl, rfl⟩ ⟨Nat.le_of_ble_eq_true rfl, Nat.le_of_ble_eq_true rfl⟩ (Nat.le_of_ble_eq_true rfl)) (fun v102 u102 hp102 => ?_)
    obtain ⟨rfl, rfl⟩ := hp102
    show Xw K G (0 + 1) (0 + 3) _ (n + 1) (u2 (u2 (u2 (uC V n (fun z => if z = 3 then 5 else 0)) n 0 a) n 1 s) n 2 z) R 105 [(0, .int (iI k)), (1, .int (iI a)), (2, .int (iI s)), (3, .int (iI z))] [.ref (aG G n)]
    refine x_wid (cells' := 1) (slots' := 3) (by first | decide | omega) (by first | decide | omega) ?_
    refine x_aret C dX11_newFault_105 ⟨_, rfl, rfl, ?_⟩
    · first | (rw [hk6]; exact newF_mk) | (rw [h1]; exact newF_mk)
  · skip
    have hk6 : k = 6 := by omega
    refine x_tout C dX11_newFault_1 (tgt := 106) (by decide) (by first | assumption | (constructor <;> omega)) h1 ?_
    refine x_newF (k := 6) (Cn := RX9) (T := TX9) (ty := tyX9) C (by decide) rfl in_wsX90 tyX9_ok (fun j hj => by match j, hj with | 0, _ => rfl | 1, _ => rfl | 2, _ => rfl) dX11_newFault_106 q_26_12 q_13_19 q_13_20 (by omega) (Nat.le_of_ble_eq_true rfl) (Nat.le_of_ble_eq_true rfl) ?_
    refine x_dup C dX11_newFault_109 rfl ?_
    refine x_iload_n C 1 dX11_newFault_110 rfl rfl ?_
    refine x_iload_n C 2 dX11_newFault_111 rfl rfl ?_
    refine x_iload_n C 3 dX11_newFault_112 rfl rfl ?_
    refine x_runU (r_callI C (ce_X9_init) (m_X9_init G (n + 1) (uC V n (fun z => if z = 3 then 6 else 0)) R (n) (a) (s) (z) (by omega) hLR (by first | assumption | omega | decide) (by first | assumption | omega | decide) (by first | assumption | omega | decide) (by first | assumption | omega | decide) (by first | assumption | omega | decide)) rfl rfl dX11_newFault_113 q_15_4 q_15_5 rfl rfl rfl ⟨Nat.le_of_ble_eq_true rfl, Nat.le_of_ble_eq_true rfl⟩ ⟨rfl, rfl⟩ ⟨Nat.le_of_ble_eq_true rfl, Nat.le_of_ble_eq_true rfl⟩ (Nat.le_of_ble_eq_true rfl)) (fun v113 u113 hp113 => ?_)
    obtain ⟨rfl, rfl⟩ := hp113
    show Xw K G (0 + 1) (0 + 3) _ (n + 1) (u2 (u2 (u2 (uC V n (fun z => if z = 3 then 6 else 0)) n 0 a) n 1 s) n 2 z) R 116 [(0, .int (iI k)), (1, .int (iI a)), (2, .int (iI s)), (3, .int (iI z))] [.ref (aG G n)]
    refine x_wid (cells' := 1) (slots' := 3) (by first | decide | omega) (by first | decide | omega) ?_
    refine x_aret C dX11_newFault_116 ⟨_, rfl, rfl, ?_⟩
    · first | (rw [hk6]; exact newF_mk) | (rw [h1]; exact newF_mk)
set_option maxRecDepth 100000 in
set_option maxHeartbeats 4000000 in
theorem m_X10_hasLog (G : GS) (n : Nat) (V : Nat → Int → Int) (R : Nat → Int → Option Nat) (yd : Nat) (hn : 67 ≤ n) (hLR : LR R) (hy : yd = 1 ∨ yd = 6) : Cn G yX10_hasLog cX10_hasLog 1 (some .boolean) (rmk 1 0 0 16) [.ref (aG G yd)] n V R 0 0 (fun vv uu => vv = some (.int (iI (bI (0 < V yd 2)))) ∧ uu = (n, V, R)) := by
  refine Cn.of (by decide) (Nat.le_of_ble_eq_true rfl) (fun K C hct => ?_)
  show Xw K G 0 0 _ n V R 0 [(0, .ref (aG G yd))] []
  refine x_aload_n C 0 dX10_hasLog_0 rfl rfl ?_
  refine x_geti C ok_Yard yd 2 dX10_hasLog_1 (ltY hy hn (by decide) : yd + 0 < n) (tbY_0 hy) (by decide) rfl q_1_17 rfl (kz := 2) rfl (fun rg1 => ?_)
  refine x_if_le C dX10_hasLog_4 (tgt := 11) (by decide) (by first | assumption | (constructor <;> omega)) (fun h4 => ?_) (fun h4 => ?_)
  · skip
    refine x_iconst C dX10_hasLog_11 ?_
    refine x_zret C (Or.inl rfl) dX10_hasLog_12 ⟨bI_rf (by omega), rfl⟩
  · skip
    refine x_iconst C dX10_hasLog_7 ?_
    refine x_goto C dX10_hasLog_8 (tgt := 12) (by decide) ?_
    refine x_zret C (Or.inr rfl) dX10_hasLog_12 ⟨bI_rt (by omega), rfl⟩
set_option maxRecDepth 100000 in
set_option maxHeartbeats 4000000 in
theorem m_X10_lay (G : GS) (n : Nat) (V : Nat → Int → Int) (R : Nat → Int → Option Nat) (yd : Nat) (ra : Int) (ta : Int) (le : Int) (hn : 67 ≤ n) (hLR : LR R) (hy : yd = 1 ∨ yd = 6) (gra : Rg ra) (gta : Rg ta) (gle : Rg le) : Cn G yX10_lay cX10_lay 5 none (rmk 1 0 0 16) [.ref (aG G yd), .int (iI ra), .int (iI ta), .int (iI le)] n V R 0 0 (fun vv uu => ∃ (R1 : Nat → Int → Option Nat), vv = none ∧ uu = (n, (u2 (u2 (u2 (u2 (u2 V yd 0 ra) yd 1 ta) yd 2 le) yd 3 0) yd 5 0), R1) ∧ (∀ q, q ≠ yd + 1 → R1 q = R q) ∧ (∀ z, 0 ≤ z → z < 8 → R1 (yd + 1) z = none)) := by
  refine Cn.of (by decide) (Nat.le_of_ble_eq_true rfl) (fun K C hct => ?_)
  show Xw K G 0 0 _ n V R 0 [(0, .ref (aG G yd)), (1, .int (iI ra)), (2, .int (iI ta)), (3, .int (iI le))] []
  refine x_aload_n C 0 dX10_lay_0 rfl rfl ?_
  refine x_iload_n C 1 dX10_lay_1 rfl rfl ?_
  refine x_puti C ok_Yard yd 0 dX10_lay_2 (ltY hy hn (by decide) : yd + 0 < n) (tbY_0 hy) (by decide) rfl q_1_15 rfl rfl (Or.inl rfl) (by first | assumption | (constructor <;> omega)) (kz := 0) rfl ?_
  refine x_aload_n C 0 dX10_lay_5 rfl rfl ?_
  refine x_iload_n C 2 dX10_lay_6 rfl rfl ?_
  refine x_puti C ok_Yard yd 1 dX10_lay_7 (ltY hy hn (by decide) : yd + 0 < n) (tbY_0 hy) (by decide) rfl q_1_16 rfl rfl (Or.inl rfl) (by first | assumption | (constructor <;> omega)) (kz := 1) rfl ?_
  refine x_aload_n C 0 dX10_lay_10 rfl rfl ?_
  refine x_iload_n C 3 dX10_lay_11 rfl rfl ?_
  refine x_puti C ok_Yard yd 2 dX10_lay_12 (ltY hy hn (by decide) : yd + 0 < n) (tbY_0 hy) (by decide) rfl q_1_17 rfl rfl (Or.inl rfl) (by first | assumption | (constructor <;> omega)) (kz := 2) rfl ?_
  refine x_aload_n C 0 dX10_lay_15 rfl rfl ?_
  refine x_iconst C dX10_lay_16 ?_
  refine x_puti C ok_Yard yd 3 dX10_lay_17 (ltY hy hn (by decide) : yd + 0 < n) (tbY_0 hy) (by decide) rfl q_1_18 rfl rfl (Or.inl rfl) (by first | assumption | (constructor <;> omega)) (kz := 3) rfl ?_
  refine x_iconst C dX10_lay_20 ?_
  refine x_istore C dX10_lay_21 (by decide) (lv' := [(0, .ref (aG G yd)), (1, .int (iI ra)), (2, .int (iI ta)), (3, .int (iI le)), (4, .int (iI 0))]) rfl ?_
  have lp_23 : ∀ (fuel : Nat) (m : Int) (R2 : Nat → Int → Option Nat), (0 ≤ m ∧ m ≤ 8) → (∀ q, q ≠ yd + 1 → R2 q = R q) → (∀ z, 0 ≤ z → z < m → R2 (yd + 1) z = none) → ((9 : Int) - m) < (fuel : Int) → Xw K G 0 0 (EndQ K G 0 0 (fun vv uu => ∃ (R1 : Nat → Int → Option Nat), vv = none ∧ uu = (n, (u2 (u2 (u2 (u2 (u2 V yd 0 ra) yd 1 ta) yd 2 le) yd 3 0) yd 5 0), R1) ∧ (∀ q, q ≠ yd + 1 → R1 q = R q) ∧ (∀ z, 0 ≤ z → z < 8 → R1 (yd + 1) z = none))) n (u2 (u2 (u2 (u2 V yd 0 ra) yd 1 ta) yd 2 le) yd 3 0) R2 23 [(0, .ref (aG G yd)), (1, .int (iI ra)), (2, .int (iI ta)), (3, .int (iI le)), (4, .int (iI m))] [] := by
    intro fuel23
    induction fuel23 with
    | zero => intro m R2 hm hR hN hfu23; exfalso; omega
    | succ fuel23 ih23 =>
      intro m R2 hm hR hN hfu23
      have hLR2 := LR_fr (Or.inr hy) hLR hR
      refine x_iload C 4 dX10_lay_23 rfl ?_
      refine x_bipush C dX10_lay_25 (w := 8) (by decide) ?_
      refine x_icmp_ge C dX10_lay_27 (tgt := 44) (by decide) (by first | assumption | (constructor <;> omega)) (by first | assumption | (constructor <;> omega)) (fun h27 => ?_) (fun h27 => ?_)
      · skip
        refine x_aload_n C 0 dX10_lay_44 rfl rfl ?_
        refine x_iconst C dX10_lay_45 ?_
        refine x_puti C ok_Yard yd 5 dX10_lay_46 (ltY hy hn (by decide) : yd + 0 < n) (tbY_0 hy) (by decide) rfl q_1_21 rfl rfl (Or.inl rfl) (by first | assumption | (constructor <;> omega)) (kz := 5) rfl ?_
        refine x_vret C dX10_lay_49 ⟨_, rfl, rfl, ?_, ?_⟩
        · exact hR
        · exact fun z a b => hN z a (by omega)
      · skip
        refine x_aload_n C 0 dX10_lay_30 rfl rfl ?_
        refine x_getr C ok_Yard yd 4 (d := (yd + 1)) dX10_lay_31 (ltY hy hn (by decide) : yd + 0 < n) (tbY_0 hy) (by decide) rfl q_1_20 rfl (kz := 4) rfl (by exact (lrY_4 hy hLR2)) ?_
        refine x_iload C 4 dX10_lay_34 rfl ?_
        refine x_null C dX10_lay_36 ?_
        refine x_aastN C (yd + 1) dX10_lay_37 (ltY hy hn (by decide)) (tbY_1 hy) (by refine ⟨?_, ?_⟩ <;> omega) ?_
        refine x_iinc C 4 dX10_lay_38 rfl (by decide) (lv' := [(0, .ref (aG G yd)), (1, .int (iI ra)), (2, .int (iI ta)), (3, .int (iI le)), (4, .int (iI (m + 1)))]) rfl ?_
        refine x_goto C dX10_lay_41 (tgt := 23) (by decide) ?_
        exact ih23 ((m + 1)) ((u2 R2 (yd + 1) m none)) (by omega) (by exact fun q a => by rw [u2_n a]; exact hR q a) (by exact fun z a b => by (rw [u2_at]; by_cases e : z = m; (rw [if_pos ⟨rfl, e⟩]); (rw [if_neg (by omega)]; exact hN z a (by omega)))) (by omega)
  exact lp_23 (((9 : Int) - 0).toNat + 1) (0) (R) (by omega) (by exact fun _ _ => rfl) (by exact fun z a b => by omega) (by omega)
set_option maxRecDepth 100000 in
set_option maxHeartbeats 4000000 in
theorem m_X10_isWood (G : GS) (n : Nat) (V : Nat → Int → Int) (R : Nat → Int → Option Nat) (yd : Nat) (x : Int) (y : Int) (s : Int) (hn : 67 ≤ n) (hLR : LR R) (hy : yd = 1 ∨ yd = 6) (hx : 0 ≤ x ∧ x ≤ 11) (hyy : 0 ≤ y ∧ y ≤ 11) (h0 : 0 ≤ s ∧ s ≤ 7) (hr : 0 ≤ V yd 0 ∧ V yd 0 ≤ 6) (hta : 0 ≤ V yd 1 ∧ V yd 1 ≤ 4) : Cn G yX10_isWood cX10_isWood 7 (some .boolean) (rmk 2 0 0 36) [.ref (aG G yd), .int (iI x), .int (iI y), .int (iI s)] n V R 0 0 (fun vv uu => vv = some (.int (iI (bI (woodP (V yd 0) (V yd 1) x y s)))) ∧ uu = (n, V, R)) := by
  have hm := mul_bd hta h0
  rw [Int.mul_comm] at hm
  obtain ⟨T, hT⟩ : ∃ T, T = max 1 (V yd 0 - s * V yd 1 / 4) := ⟨_, rfl⟩
  have hT2 : 1 ≤ T ∧ T ≤ 6 := by omega
  have e1 := sq_bd (a := (2 * x) - 11) (A := 11) (by omega)
  have e2 := sq_bd (a := (2 * y) - 11) (A := 11) (by omega)
  have e3 : 4 ≤ 4 * T * T ∧ 4 * T * T ≤ 144 := sq_6 hT2
  refine Cn.of (by decide) (Nat.le_of_ble_eq_true rfl) (fun K C hct => ?_)
  show Xw K G 0 0 _ n V R 0 [(0, .ref (aG G yd)), (1, .int (iI x)), (2, .int (iI y)), (3, .int (iI s))] []
  refine x_iload_n C 1 dX10_isWood_0 rfl rfl ?_
  refine x_runU (r_callSN C (ce_X11_fromMiddle) (m_X11_fromMiddle G n V R (x)) dX10_isWood_1 (List.mem_of_getElem? (i := 18) rfl) q_6_0 rfl rfl ⟨Nat.le_of_ble_eq_true rfl, Nat.le_of_ble_eq_true rfl⟩ ⟨rfl, rfl⟩ ⟨Nat.le_of_ble_eq_true rfl, Nat.le_of_ble_eq_true rfl⟩ (Nat.le_of_ble_eq_true rfl)) (fun v1 u1 hp1 => ?_)
  obtain ⟨rfl, rfl⟩ := hp1
  show Xw K G 0 0 _ n V R 4 [(0, .ref (aG G yd)), (1, .int (iI x)), (2, .int (iI y)), (3, .int (iI s))] [.int (iI (2 * x - 11))]
  refine x_istore C dX10_isWood_4 (by decide) (lv' := [(0, .ref (aG G yd)), (1, .int (iI x)), (2, .int (iI y)), (3, .int (iI s)), (4, .int (iI (2 * x - 11)))]) rfl ?_
  refine x_iload_n C 2 dX10_isWood_6 rfl rfl ?_
  refine x_runU (r_callSN C (ce_X11_fromMiddle) (m_X11_fromMiddle G n V R (y)) dX10_isWood_7 (List.mem_of_getElem? (i := 18) rfl) q_6_0 rfl rfl ⟨Nat.le_of_ble_eq_true rfl, Nat.le_of_ble_eq_true rfl⟩ ⟨rfl, rfl⟩ ⟨Nat.le_of_ble_eq_true rfl, Nat.le_of_ble_eq_true rfl⟩ (Nat.le_of_ble_eq_true rfl)) (fun v7 u7 hp7 => ?_)
  obtain ⟨rfl, rfl⟩ := hp7
  show Xw K G 0 0 _ n V R 10 [(0, .ref (aG G yd)), (1, .int (iI x)), (2, .int (iI y)), (3, .int (iI s)), (4, .int (iI (2 * x - 11)))] [.int (iI (2 * y - 11))]
  refine x_istore C dX10_isWood_10 (by decide) (lv' := [(0, .ref (aG G yd)), (1, .int (iI x)), (2, .int (iI y)), (3, .int (iI s)), (4, .int (iI (2 * x - 11))), (5, .int (iI (2 * y - 11)))]) rfl ?_
  refine x_iconst C dX10_isWood_12 ?_
  refine x_aload_n C 0 dX10_isWood_13 rfl rfl ?_
  refine x_geti C ok_Yard yd 0 dX10_isWood_14 (ltY hy hn (by decide) : yd + 0 < n) (tbY_0 hy) (by decide) rfl q_1_15 rfl (kz := 0) rfl (fun rg14 => ?_)
  refine x_iload_n C 3 dX10_isWood_17 rfl rfl ?_
  refine x_aload_n C 0 dX10_isWood_18 rfl rfl ?_
  refine x_geti C ok_Yard yd 1 dX10_isWood_19 (ltY hy hn (by decide) : yd + 0 < n) (tbY_0 hy) (by decide) rfl q_1_16 rfl (kz := 1) rfl (fun rg19 => ?_)
  refine x_imul C dX10_isWood_22 ?_
  refine x_iconst C dX10_isWood_23 ?_
  refine x_idiv C dX10_isWood_24 (by first | assumption | (constructor <;> omega)) (by first | assumption | (constructor <;> omega)) (by omega) (by omega) ?_
  refine x_isub C dX10_isWood_25 ?_
  refine x_max C dX10_isWood_26 q_5_20 q_5_21 q_5_22 q_5_23 ⟨Nat.le_of_ble_eq_true rfl, Nat.le_of_ble_eq_true rfl⟩ ⟨Nat.zero_le _, Nat.zero_le _⟩ (by first | assumption | (constructor <;> omega)) (by first | assumption | (constructor <;> omega)) ?_
  refine x_top (b := T) (by exact hT.symm) ?_
  refine x_istore C dX10_isWood_29 (by decide) (lv' := [(0, .ref (aG G yd)), (1, .int (iI x)), (2, .int (iI y)), (3, .int (iI s)), (4, .int (iI (2 * x - 11))), (5, .int (iI (2 * y - 11))), (6, .int (iI T))]) rfl ?_
  refine x_iload C 4 dX10_isWood_31 rfl ?_
  refine x_iload C 4 dX10_isWood_33 rfl ?_
  refine x_imul C dX10_isWood_35 ?_
  refine x_iload C 5 dX10_isWood_36 rfl ?_
  refine x_iload C 5 dX10_isWood_38 rfl ?_
  refine x_imul C dX10_isWood_40 ?_
  refine x_iadd C dX10_isWood_41 ?_
  refine x_iconst C dX10_isWood_42 ?_
  refine x_iload C 6 dX10_isWood_43 rfl ?_
  refine x_imul C dX10_isWood_45 ?_
  refine x_iload C 6 dX10_isWood_46 rfl ?_
  refine x_imul C dX10_isWood_48 ?_
  refine x_icmp_gt C dX10_isWood_49 (tgt := 56) (by decide) (by first | assumption | (constructor <;> omega)) (by first | assumption | (constructor <;> omega)) (fun h49 => ?_) (fun h49 => ?_)
  · skip
    refine x_iconst C dX10_isWood_56 ?_
    refine x_zret C (Or.inl rfl) dX10_isWood_57 ⟨bI_rf (by rw [woodC hT]; omega), rfl⟩
  · skip
    refine x_iconst C dX10_isWood_52 ?_
    refine x_goto C dX10_isWood_53 (tgt := 57) (by decide) ?_
    refine x_zret C (Or.inr rfl) dX10_isWood_57 ⟨bI_rt (by rw [woodC hT]; omega), rfl⟩
set_option maxRecDepth 100000 in
set_option maxHeartbeats 4000000 in
theorem m_X10_addFault (G : GS) (n : Nat) (V : Nat → Int → Int) (R : Nat → Int → Option Nat) (yd : Nat) (c : Nat) (hn : 67 ≤ n) (hLR : LR R) (hy : yd = 1 ∨ yd = 6) (hc : c < n) (ht : tb c = (99, 0)) (h5 : 0 ≤ V yd 5 ∧ V yd 5 < 8) : Cn G yX10_addFault cX10_addFault 2 none (rmk 1 0 0 16) [.ref (aG G yd), .ref (aG G c)] n V R 0 0 (fun vv uu => vv = none ∧ uu = (n, (u2 V yd 5 (V yd 5 + 1)), (u2 R (yd + 1) (V yd 5) (some c)))) := by
  refine Cn.of (by decide) (Nat.le_of_ble_eq_true rfl) (fun K C hct => ?_)
  show Xw K G 0 0 _ n V R 0 [(0, .ref (aG G yd)), (1, .ref (aG G c))] []
  refine x_aload_n C 0 dX10_addFault_0 rfl rfl ?_
  refine x_geti C ok_Yard yd 5 dX10_addFault_1 (ltY hy hn (by decide) : yd + 0 < n) (tbY_0 hy) (by decide) rfl q_1_21 rfl (kz := 5) rfl (fun rg1 => ?_)
  refine x_bipush C dX10_addFault_4 (w := 8) (by decide) ?_
  refine x_icmp_ge C dX10_addFault_6 (tgt := 29) (by decide) (by first | assumption | (constructor <;> omega)) (by first | assumption | (constructor <;> omega)) (fun h6 => ?_) (fun h6 => ?_)
  · skip
    exfalso; omega
  · skip
    refine x_aload_n C 0 dX10_addFault_9 rfl rfl ?_
    refine x_getr C ok_Yard yd 4 (d := (yd + 1)) dX10_addFault_10 (ltY hy hn (by decide) : yd + 0 < n) (tbY_0 hy) (by decide) rfl q_1_20 rfl (kz := 4) rfl (lrY_4 hy hLR) ?_
    refine x_aload_n C 0 dX10_addFault_13 rfl rfl ?_
    refine x_geti C ok_Yard yd 5 dX10_addFault_14 (ltY hy hn (by decide) : yd + 0 < n) (tbY_0 hy) (by decide) rfl q_1_21 rfl (kz := 5) rfl (fun rg14 => ?_)
    refine x_aload_n C 1 dX10_addFault_17 rfl rfl ?_
    refine x_aast C (yd + 1) dX10_addFault_18 (ltY hy hn (by decide)) (tbY_1 hy) (by refine ⟨?_, ?_⟩ <;> omega) hc ht ?_
    refine x_aload_n C 0 dX10_addFault_19 rfl rfl ?_
    refine x_dup C dX10_addFault_20 rfl ?_
    refine x_geti C ok_Yard yd 5 dX10_addFault_21 (ltY hy hn (by decide) : yd + 0 < n) (tbY_0 hy) (by decide) rfl q_1_21 rfl (kz := 5) rfl (fun rg21 => ?_)
    refine x_iconst C dX10_addFault_24 ?_
    refine x_iadd C dX10_addFault_25 ?_
    refine x_puti C ok_Yard yd 5 dX10_addFault_26 (ltY hy hn (by decide) : yd + 0 < n) (tbY_0 hy) (by decide) rfl q_1_21 rfl rfl (Or.inl rfl) (by first | assumption | (constructor <;> omega)) (kz := 5) rfl ?_
    refine x_vret C dX10_addFault_29 ⟨rfl, rfl⟩
set_option maxRecDepth 100000 in
set_option maxHeartbeats 4000000 in
theorem m_X10_faultOf (G : GS) (n : Nat) (V : Nat → Int → Int) (R : Nat → Int → Option Nat) (yd : Nat) (x : Int) (hn : 67 ≤ n) (hLR : LR R) (hy : yd = 1 ∨ yd = 6) (gx : Rg x) (h5 : 0 ≤ V yd 5 ∧ V yd 5 ≤ 8) : Cn G yX10_faultOf cX10_faultOf 2 (some (.object "LogSawyer$Fault")) (rmk 2 0 0 38) [.ref (aG G yd), .int (iI x)] n V R 0 0 (fun vv uu => vv = some (rv G.2.1 (cif (0 ≤ x ∧ x ≤ V yd 5 - 1) (R (yd + 1) x) none)) ∧ uu = (n, V, R)) := by
  refine Cn.of (by decide) (Nat.le_of_ble_eq_true rfl) (fun K C hct => ?_)
  show Xw K G 0 0 _ n V R 0 [(0, .ref (aG G yd)), (1, .int (iI x))] []
  refine x_iload_n C 1 dX10_faultOf_0 rfl rfl ?_
  refine x_iconst C dX10_faultOf_1 ?_
  refine x_aload_n C 0 dX10_faultOf_2 rfl rfl ?_
  refine x_geti C ok_Yard yd 5 dX10_faultOf_3 (ltY hy hn (by decide) : yd + 0 < n) (tbY_0 hy) (by decide) rfl q_1_21 rfl (kz := 5) rfl (fun rg3 => ?_)
  refine x_iconst C dX10_faultOf_6 ?_
  refine x_isub C dX10_faultOf_7 ?_
  refine x_runU (r_callSN C (ce_X11_within) (m_X11_within G n V R (x) (0) ((V yd 5) - 1) (by first | assumption | omega | decide) (by first | assumption | omega | decide) (by first | assumption | omega | decide)) dX10_faultOf_8 (List.mem_of_getElem? (i := 19) rfl) q_5_5 rfl rfl ⟨Nat.le_of_ble_eq_true rfl, Nat.le_of_ble_eq_true rfl⟩ ⟨rfl, rfl⟩ ⟨Nat.le_of_ble_eq_true rfl, Nat.le_of_ble_eq_true rfl⟩ (Nat.le_of_ble_eq_true rfl)) (fun v8 u8 hp8 => ?_)
  obtain ⟨rfl, rfl⟩ := hp8
  show Xw K G 0 0 _ n V R 11 [(0, .ref (aG G yd)), (1, .int (iI x))] [.int (iI (bI (0 ≤ x ∧ x ≤ ((V yd 5) - 1))))]
  refine x_ifeq_b C dX10_faultOf_11 (tgt := 23) (by decide) (fun h11 => ?_) (fun h11 => ?_)
  · skip
    refine x_null C dX10_faultOf_23 ?_
    refine x_aretN C dX10_faultOf_24 ⟨(by first | rw [cif_t (by omega)] | (rw [cif_f (by omega)]; rfl)), rfl⟩
  · skip
    refine x_aload_n C 0 dX10_faultOf_14 rfl rfl ?_
    refine x_getr C ok_Yard yd 4 (d := (yd + 1)) dX10_faultOf_15 (ltY hy hn (by decide) : yd + 0 < n) (tbY_0 hy) (by decide) rfl q_1_20 rfl (kz := 4) rfl (lrY_4 hy hLR) ?_
    refine x_iload_n C 1 dX10_faultOf_18 rfl rfl ?_
    refine x_aald C (yd + 1) dX10_faultOf_19 (ltY hy hn (by decide)) (tbY_1 hy) (by refine ⟨?_, ?_⟩ <;> omega) ?_
    refine x_goto C dX10_faultOf_20 (tgt := 24) (by decide) ?_
    refine x_aretR C dX10_faultOf_24 ⟨(by first | rw [cif_t (by omega)] | (rw [cif_f (by omega)]; rfl)), rfl⟩
set_option maxRecDepth 100000 in
set_option maxHeartbeats 4000000 in
theorem m_X10_dropFault (G : GS) (n : Nat) (V : Nat → Int → Int) (R : Nat → Int → Option Nat) (yd : Nat) (x : Int) (hn : 67 ≤ n) (hLR : LR R) (hy : yd = 1 ∨ yd = 6) (h5 : 0 ≤ V yd 5 ∧ V yd 5 ≤ 8) (hF : FsOk n V R (yd + 1) (V yd 5)) (hx : 0 ≤ x ∧ x < V yd 5) : Cn G yX10_dropFault cX10_dropFault 3 none (rmk 1 0 0 16) [.ref (aG G yd), .int (iI x)] n V R 0 0 (fun vv uu => ∃ (R1 : Nat → Int → Option Nat), vv = none ∧ uu = (n, (u2 V yd 5 (V yd 5 - 1)), R1) ∧ (∀ q, q ≠ yd + 1 → R1 q = R q) ∧ (∀ i : Int, 0 ≤ i → i < V yd 5 - 1 → R1 (yd + 1) i = R (yd + 1) (if i < x then i else i + 1)) ∧ (∀ i : Int, V yd 5 - 1 ≤ i → R1 (yd + 1) i = R (yd + 1) i ∨ R1 (yd + 1) i = none)) := by
  refine Cn.of (by decide) (Nat.le_of_ble_eq_true rfl) (fun K C hct => ?_)
  show Xw K G 0 0 _ n V R 0 [(0, .ref (aG G yd)), (1, .int (iI x))] []
  refine x_iconst C dX10_dropFault_0 ?_
  refine x_iload_n C 1 dX10_dropFault_1 rfl rfl ?_
  refine x_max C dX10_dropFault_2 q_5_20 q_5_21 q_5_22 q_5_23 ⟨Nat.le_of_ble_eq_true rfl, Nat.le_of_ble_eq_true rfl⟩ ⟨Nat.zero_le _, Nat.zero_le _⟩ (by first | assumption | (constructor <;> omega)) (by first | assumption | (constructor <;> omega)) ?_
  refine x_top (b := x) (by omega) ?_
  refine x_istore_n C dX10_dropFault_5 rfl (by decide) (lv' := [(0, .ref (aG G yd)), (1, .int (iI x)), (2, .int (iI x))]) rfl ?_
  have lp_6 : ∀ (fuel : Nat) (m : Int) (R2 : Nat → Int → Option Nat), (x ≤ m ∧ m + 1 ≤ V yd 5) → (∀ q, q ≠ yd + 1 → R2 q = R q) → (∀ i : Int, 0 ≤ i → i < m → R2 (yd + 1) i = R (yd + 1) (if i < x then i else i + 1)) → (∀ i : Int, m ≤ i → R2 (yd + 1) i = R (yd + 1) i) → ((9 : Int) - m) < (fuel : Int) → Xw K G 0 0 (EndQ K G 0 0 (fun vv uu => ∃ (R1 : Nat → Int → Option Nat), vv = none ∧ uu = (n, (u2 V yd 5 (V yd 5 - 1)), R1) ∧ (∀ q, q ≠ yd + 1 → R1 q = R q) ∧ (∀ i : Int, 0 ≤ i → i < V yd 5 - 1 → R1 (yd + 1) i = R (yd + 1) (if i < x then i else i + 1)) ∧ (∀ i : Int, V yd 5 - 1 ≤ i → R1 (yd + 1) i = R (yd + 1) i ∨ R1 (yd + 1) i = none))) n V R2 6 [(0, .ref (aG G yd)), (1, .int (iI x)), (2, .int (iI m))] [] := by
    intro fuel6
    induction fuel6 with
    | zero => intro m R2 hm hR hN hU hfu6; exfalso; omega
    | succ fuel6 ih6 =>
      intro m R2 hm hR hN hU hfu6
      have hLR2 := LR_fr (Or.inr hy) hLR hR
      refine x_iload_n C 2 dX10_dropFault_6 rfl rfl ?_
      refine x_iconst C dX10_dropFault_7 ?_
      refine x_iadd C dX10_dropFault_8 ?_
      refine x_aload_n C 0 dX10_dropFault_9 rfl rfl ?_
      refine x_geti C ok_Yard yd 5 dX10_dropFault_10 (ltY hy hn (by decide) : yd + 0 < n) (tbY_0 hy) (by decide) rfl q_1_21 rfl (kz := 5) rfl (fun rg10 => ?_)
      refine x_icmp_ge C dX10_dropFault_13 (tgt := 36) (by decide) (by first | assumption | (constructor <;> omega)) (by first | assumption | (constructor <;> omega)) (fun h13 => ?_) (fun h13 => ?_)
      · skip
        refine x_aload_n C 0 dX10_dropFault_36 rfl rfl ?_
        refine x_geti C ok_Yard yd 5 dX10_dropFault_37 (ltY hy hn (by decide) : yd + 0 < n) (tbY_0 hy) (by decide) rfl q_1_21 rfl (kz := 5) rfl (fun rg37 => ?_)
        refine x_if_le C dX10_dropFault_40 (tgt := 63) (by decide) (by first | assumption | (constructor <;> omega)) (fun h40 => ?_) (fun h40 => ?_)
        · skip
          exfalso; omega
        · skip
          refine x_aload_n C 0 dX10_dropFault_43 rfl rfl ?_
          refine x_dup C dX10_dropFault_44 rfl ?_
          refine x_geti C ok_Yard yd 5 dX10_dropFault_45 (ltY hy hn (by decide) : yd + 0 < n) (tbY_0 hy) (by decide) rfl q_1_21 rfl (kz := 5) rfl (fun rg45 => ?_)
          refine x_iconst C dX10_dropFault_48 ?_
          refine x_isub C dX10_dropFault_49 ?_
          refine x_puti C ok_Yard yd 5 dX10_dropFault_50 (ltY hy hn (by decide) : yd + 0 < n) (tbY_0 hy) (by decide) rfl q_1_21 rfl rfl (Or.inl rfl) (by first | assumption | (constructor <;> omega)) (kz := 5) rfl ?_
          refine x_aload_n C 0 dX10_dropFault_53 rfl rfl ?_
          refine x_getr C ok_Yard yd 4 (d := (yd + 1)) dX10_dropFault_54 (ltY hy hn (by decide) : yd + 0 < n) (tbY_0 hy) (by decide) rfl q_1_20 rfl (kz := 4) rfl (by first | exact (lrY_4 hy hLR2) | exact (lrY_4 hy (LR_fr (Or.inr hy) hLR2 (fun q a => u2_n a)))) ?_
          refine x_aload_n C 0 dX10_dropFault_57 rfl rfl ?_
          refine x_geti C ok_Yard yd 5 dX10_dropFault_58 (ltY hy hn (by decide) : yd + 0 < n) (tbY_0 hy) (by decide) rfl q_1_21 rfl (kz := 5) rfl (fun rg58 => ?_)
          refine x_top (b := ((V yd 5) - 1)) (by first | rfl | (simp only [u2_at]; simp) | (simp only [u2_at]; first | (rw [if_neg (by omega)]) | omega) | (repeat rw [u2_at, if_neg (by omega)])) ?_
          refine x_null C dX10_dropFault_61 ?_
          refine x_aastN C (yd + 1) dX10_dropFault_62 (ltY hy hn (by decide)) (tbY_1 hy) (by refine ⟨?_, ?_⟩ <;> omega) ?_
          refine x_vret C dX10_dropFault_63 ⟨_, rfl, rfl, ?_, ?_, ?_⟩
          · exact fun q a => by rw [u2_n a]; exact hR q a
          · exact fun i a b => by rw [u2_at, if_neg (by simp [u2_at]; omega)]; exact hN i a (by omega)
          · exact fun i a => by (rw [u2_at]; split; (exact Or.inr rfl); (exact Or.inl (hU i (by omega))))
      · skip
        refine x_aload_n C 0 dX10_dropFault_16 rfl rfl ?_
        refine x_getr C ok_Yard yd 4 (d := (yd + 1)) dX10_dropFault_17 (ltY hy hn (by decide) : yd + 0 < n) (tbY_0 hy) (by decide) rfl q_1_20 rfl (kz := 4) rfl (by first | exact (lrY_4 hy hLR2) | exact (lrY_4 hy (LR_fr (Or.inr hy) hLR2 (fun q a => u2_n a)))) ?_
        refine x_iload_n C 2 dX10_dropFault_20 rfl rfl ?_
        refine x_aload_n C 0 dX10_dropFault_21 rfl rfl ?_
        refine x_getr C ok_Yard yd 4 (d := (yd + 1)) dX10_dropFault_22 (ltY hy hn (by decide) : yd + 0 < n) (tbY_0 hy) (by decide) rfl q_1_20 rfl (kz := 4) rfl (by first | exact (lrY_4 hy hLR2) | exact (lrY_4 hy (LR_fr (Or.inr hy) hLR2 (fun q a => u2_n a)))) ?_
        refine x_iload_n C 2 dX10_dropFault_25 rfl rfl ?_
        refine x_iconst C dX10_dropFault_26 ?_
        refine x_iadd C dX10_dropFault_27 ?_
        obtain ⟨c, hRc, hFc⟩ := hF (m + 1) (by omega) (by omega)
        have hcc := hFc.2.1
        have htc := tb_dyn hFc.1
        refine x_aald C (yd + 1) dX10_dropFault_28 (ltY hy hn (by decide)) (tbY_1 hy) (by refine ⟨?_, ?_⟩ <;> omega) ?_
        refine x_topR (d := c) (by rw [hU (m + 1) (by omega)]; exact hRc) ?_
        refine x_aast C (yd + 1) dX10_dropFault_29 (ltY hy hn (by decide)) (tbY_1 hy) (by refine ⟨?_, ?_⟩ <;> omega) hcc htc ?_
        refine x_iinc C 2 dX10_dropFault_30 rfl (by decide) (lv' := [(0, .ref (aG G yd)), (1, .int (iI x)), (2, .int (iI (m + 1)))]) rfl ?_
        refine x_goto C dX10_dropFault_33 (tgt := 6) (by decide) ?_
        exact ih6 ((m + 1)) ((u2 R2 (yd + 1) m (some c))) (by omega) (by exact fun q a => by rw [u2_n a]; exact hR q a) (by exact fun i a b => by (rw [u2_at]; by_cases e : i = m; (rw [if_pos ⟨rfl, e⟩, if_neg (by omega), e]; exact hRc.symm); (rw [if_neg (by omega)]; exact hN i a (by omega)))) (by exact fun i a => by rw [u2_at, if_neg (by omega)]; exact hU i (by omega)) (by omega)
  exact lp_6 (((9 : Int) - x).toNat + 1) (x) (R) (by omega) (by exact fun _ _ => rfl) (by exact fun i a b => by rw [if_pos b]) (by exact fun _ _ => rfl) (by omega)
set_option maxRecDepth 100000 in
set_option maxHeartbeats 4000000 in
theorem m_X10_fillRow (G : GS) (n : Nat) (V : Nat → Int → Int) (R : Nat → Int → Option Nat) (c : Nat) (L : Nat) (p : Int) (t1 : Int) (t2 : Int) (t3 : Int) (t4 : Int) (hn : 67 ≤ n) (hLR : LR R) (hc : c < n) (ht : tb c = (20, L)) (hp : 0 ≤ p ∧ p + 3 < L ∧ L ≤ 2000) (gt1 : Rg t1) (gt2 : Rg t2) (gt3 : Rg t3) (gt4 : Rg t4) : Cn G yX10_fillRow cX10_fillRow 6 none (rmk 1 0 0 16) [.ref (aG G c), .int (iI p), .int (iI t1), .int (iI t2), .int (iI t3), .int (iI t4)] n V R 0 0 (fun vv uu => vv = none ∧ uu = (n, (u2 (u2 (u2 (u2 V c p t1) c (p + 1) t2) c (p + 2) t3) c (p + 3) t4), R)) := by
  refine Cn.of (by decide) (Nat.le_of_ble_eq_true rfl) (fun K C hct => ?_)
  show Xw K G 0 0 _ n V R 0 [(0, .ref (aG G c)), (1, .int (iI p)), (2, .int (iI t1)), (3, .int (iI t2)), (4, .int (iI t3)), (5, .int (iI t4))] []
  refine x_iload_n C 1 dX10_fillRow_0 rfl rfl ?_
  refine x_if_lt C dX10_fillRow_1 (tgt := 36) (by decide) (by first | assumption | (constructor <;> omega)) (fun h1 => ?_) (fun h1 => ?_)
  · skip
    exfalso; omega
  · skip
    refine x_iload_n C 1 dX10_fillRow_4 rfl rfl ?_
    refine x_iconst C dX10_fillRow_5 ?_
    refine x_iadd C dX10_fillRow_6 ?_
    refine x_aload_n C 0 dX10_fillRow_7 rfl rfl ?_
    refine x_alen C c (w := L) dX10_fillRow_8 hc ht (by decide) rfl ?_
    refine x_icmp_ge C dX10_fillRow_9 (tgt := 36) (by decide) (by first | assumption | (constructor <;> omega)) (by first | assumption | (constructor <;> omega)) (fun h9 => ?_) (fun h9 => ?_)
    · skip
      exfalso; omega
    · skip
      refine x_aload_n C 0 dX10_fillRow_12 rfl rfl ?_
      refine x_iload_n C 1 dX10_fillRow_13 rfl rfl ?_
      refine x_iload_n C 2 dX10_fillRow_14 rfl rfl ?_
      refine x_iast C c dX10_fillRow_15 hc ht (by refine ⟨?_, ?_⟩ <;> omega) (by first | assumption | (constructor <;> omega)) ?_
      refine x_aload_n C 0 dX10_fillRow_16 rfl rfl ?_
      refine x_iload_n C 1 dX10_fillRow_17 rfl rfl ?_
      refine x_iconst C dX10_fillRow_18 ?_
      refine x_iadd C dX10_fillRow_19 ?_
      refine x_iload_n C 3 dX10_fillRow_20 rfl rfl ?_
      refine x_iast C c dX10_fillRow_21 hc ht (by refine ⟨?_, ?_⟩ <;> omega) (by first | assumption | (constructor <;> omega)) ?_
      refine x_aload_n C 0 dX10_fillRow_22 rfl rfl ?_
      refine x_iload_n C 1 dX10_fillRow_23 rfl rfl ?_
      refine x_iconst C dX10_fillRow_24 ?_
      refine x_iadd C dX10_fillRow_25 ?_
      refine x_iload C 4 dX10_fillRow_26 rfl ?_
      refine x_iast C c dX10_fillRow_28 hc ht (by refine ⟨?_, ?_⟩ <;> omega) (by first | assumption | (constructor <;> omega)) ?_
      refine x_aload_n C 0 dX10_fillRow_29 rfl rfl ?_
      refine x_iload_n C 1 dX10_fillRow_30 rfl rfl ?_
      refine x_iconst C dX10_fillRow_31 ?_
      refine x_iadd C dX10_fillRow_32 ?_
      refine x_iload C 5 dX10_fillRow_33 rfl ?_
      refine x_iast C c dX10_fillRow_35 hc ht (by refine ⟨?_, ?_⟩ <;> omega) (by first | assumption | (constructor <;> omega)) ?_
      refine x_vret C dX10_fillRow_36 ⟨rfl, rfl⟩
set_option maxRecDepth 100000 in
set_option maxHeartbeats 4000000 in
theorem m_X10_addBoard (G : GS) (n : Nat) (V : Nat → Int → Int) (R : Nat → Int → Option Nat) (yd : Nat) (t1 : Int) (t2 : Int) (t3 : Int) (t4 : Int) (hn : 67 ≤ n) (hLR : LR R) (hy : yd = 1 ∨ yd = 6) (gt1 : Rg t1) (gt2 : Rg t2) (gt3 : Rg t3) (gt4 : Rg t4) (h5 : 0 ≤ V yd 8 ∧ V yd 8 < 16) : Cn G yX10_addBoard cX10_addBoard 5 none (rmk 2 0 0 41) [.ref (aG G yd), .int (iI t1), .int (iI t2), .int (iI t3), .int (iI t4)] n V R 0 0 (fun vv uu => vv = none ∧ uu = (n, (u2 (u2 (u2 (u2 (u2 V (yd + 3) (4 * V yd 8) t1) (yd + 3) (4 * V yd 8 + 1) t2) (yd + 3) (4 * V yd 8 + 2) t3) (yd + 3) (4 * V yd 8 + 3) t4) yd 8 (V yd 8 + 1)), R)) := by
  refine Cn.of (by decide) (Nat.le_of_ble_eq_true rfl) (fun K C hct => ?_)
  show Xw K G 0 0 _ n V R 0 [(0, .ref (aG G yd)), (1, .int (iI t1)), (2, .int (iI t2)), (3, .int (iI t3)), (4, .int (iI t4))] []
  refine x_aload_n C 0 dX10_addBoard_0 rfl rfl ?_
  refine x_geti C ok_Yard yd 8 dX10_addBoard_1 (ltY hy hn (by decide) : yd + 0 < n) (tbY_0 hy) (by decide) rfl q_2_0 rfl (kz := 8) rfl (fun rg1 => ?_)
  refine x_bipush C dX10_addBoard_4 (w := 16) (by decide) ?_
  refine x_icmp_ge C dX10_addBoard_6 (tgt := 37) (by decide) (by first | assumption | (constructor <;> omega)) (by first | assumption | (constructor <;> omega)) (fun h6 => ?_) (fun h6 => ?_)
  · skip
    exfalso; omega
  · skip
    refine x_aload_n C 0 dX10_addBoard_9 rfl rfl ?_
    refine x_getr C ok_Yard yd 7 (d := (yd + 3)) dX10_addBoard_10 (ltY hy hn (by decide) : yd + 0 < n) (tbY_0 hy) (by decide) rfl q_1_23 rfl (kz := 7) rfl (lrY_7 hy hLR) ?_
    refine x_iconst C dX10_addBoard_13 ?_
    refine x_aload_n C 0 dX10_addBoard_14 rfl rfl ?_
    refine x_geti C ok_Yard yd 8 dX10_addBoard_15 (ltY hy hn (by decide) : yd + 0 < n) (tbY_0 hy) (by decide) rfl q_2_0 rfl (kz := 8) rfl (fun rg15 => ?_)
    refine x_imul C dX10_addBoard_18 ?_
    refine x_iload_n C 1 dX10_addBoard_19 rfl rfl ?_
    refine x_iload_n C 2 dX10_addBoard_20 rfl rfl ?_
    refine x_iload_n C 3 dX10_addBoard_21 rfl rfl ?_
    refine x_iload C 4 dX10_addBoard_22 rfl ?_
    refine x_runU (r_callS C (ce_X10_fillRow) (m_X10_fillRow G n V R (yd + 3) (64) (4 * (V yd 8)) (t1) (t2) (t3) (t4) hn hLR (by omega) (by exact tbY_3 hy) (by first | assumption | omega | decide) (by first | assumption | omega | decide) (by first | assumption | omega | decide) (by first | assumption | omega | decide) (by first | assumption | omega | decide)) dX10_addBoard_24 q_39_21 q_39_22 rfl rfl ⟨Nat.le_of_ble_eq_true rfl, Nat.le_of_ble_eq_true rfl⟩ ⟨rfl, rfl⟩ ⟨Nat.le_of_ble_eq_true rfl, Nat.le_of_ble_eq_true rfl⟩ (Nat.le_of_ble_eq_true rfl)) (fun v24 u24 hp24 => ?_)
    obtain ⟨rfl, rfl⟩ := hp24
    show Xw K G 0 0 _ n (u2 (u2 (u2 (u2 V (yd + 3) (4 * (V yd 8)) t1) (yd + 3) ((4 * (V yd 8)) + 1) t2) (yd + 3) ((4 * (V yd 8)) + 2) t3) (yd + 3) ((4 * (V yd 8)) + 3) t4) R 27 [(0, .ref (aG G yd)), (1, .int (iI t1)), (2, .int (iI t2)), (3, .int (iI t3)), (4, .int (iI t4))] []
    refine x_aload_n C 0 dX10_addBoard_27 rfl rfl ?_
    refine x_dup C dX10_addBoard_28 rfl ?_
    refine x_geti C ok_Yard yd 8 dX10_addBoard_29 (ltY hy hn (by decide) : yd + 0 < n) (tbY_0 hy) (by decide) rfl q_2_0 rfl (kz := 8) rfl (fun rg29 => ?_)
    refine x_top (b := (V yd 8)) (by first | rfl | (simp only [u2_at]; simp) | (simp only [u2_at]; first | (rw [if_neg (by omega)]) | omega) | (repeat rw [u2_at, if_neg (by omega)])) ?_
    refine x_iconst C dX10_addBoard_32 ?_
    refine x_iadd C dX10_addBoard_33 ?_
    refine x_puti C ok_Yard yd 8 dX10_addBoard_34 (ltY hy hn (by decide) : yd + 0 < n) (tbY_0 hy) (by decide) rfl q_2_0 rfl rfl (Or.inl rfl) (by first | assumption | (constructor <;> omega)) (kz := 8) rfl ?_
    refine x_vret C dX10_addBoard_37 ⟨rfl, rfl⟩
set_option maxRecDepth 100000 in
set_option maxHeartbeats 4000000 in
theorem m_X10_addOrder (G : GS) (n : Nat) (V : Nat → Int → Int) (R : Nat → Int → Option Nat) (yd : Nat) (t1 : Int) (t2 : Int) (t3 : Int) (t4 : Int) (hn : 67 ≤ n) (hLR : LR R) (hy : yd = 1 ∨ yd = 6) (gt1 : Rg t1) (gt2 : Rg t2) (gt3 : Rg t3) (gt4 : Rg t4) (h5 : 0 ≤ V yd 10 ∧ V yd 10 < 6) : Cn G yX10_addOrder cX10_addOrder 5 none (rmk 2 0 0 41) [.ref (aG G yd), .int (iI t1), .int (iI t2), .int (iI t3), .int (iI t4)] n V R 0 0 (fun vv uu => vv = none ∧ uu = (n, (u2 (u2 (u2 (u2 (u2 V (yd + 4) (4 * V yd 10) t1) (yd + 4) (4 * V yd 10 + 1) t2) (yd + 4) (4 * V yd 10 + 2) t3) (yd + 4) (4 * V yd 10 + 3) t4) yd 10 (V yd 10 + 1)), R)) := by
  refine Cn.of (by decide) (Nat.le_of_ble_eq_true rfl) (fun K C hct => ?_)
  show Xw K G 0 0 _ n V R 0 [(0, .ref (aG G yd)), (1, .int (iI t1)), (2, .int (iI t2)), (3, .int (iI t3)), (4, .int (iI t4))] []
  refine x_aload_n C 0 dX10_addOrder_0 rfl rfl ?_
  refine x_geti C ok_Yard yd 10 dX10_addOrder_1 (ltY hy hn (by decide) : yd + 0 < n) (tbY_0 hy) (by decide) rfl q_2_2 rfl (kz := 10) rfl (fun rg1 => ?_)
  refine x_bipush C dX10_addOrder_4 (w := 6) (by decide) ?_
  refine x_icmp_ge C dX10_addOrder_6 (tgt := 37) (by decide) (by first | assumption | (constructor <;> omega)) (by first | assumption | (constructor <;> omega)) (fun h6 => ?_) (fun h6 => ?_)
  · skip
    exfalso; omega
  · skip
    refine x_aload_n C 0 dX10_addOrder_9 rfl rfl ?_
    refine x_getr C ok_Yard yd 9 (d := (yd + 4)) dX10_addOrder_10 (ltY hy hn (by decide) : yd + 0 < n) (tbY_0 hy) (by decide) rfl q_2_1 rfl (kz := 9) rfl (lrY_9 hy hLR) ?_
    refine x_iconst C dX10_addOrder_13 ?_
    refine x_aload_n C 0 dX10_addOrder_14 rfl rfl ?_
    refine x_geti C ok_Yard yd 10 dX10_addOrder_15 (ltY hy hn (by decide) : yd + 0 < n) (tbY_0 hy) (by decide) rfl q_2_2 rfl (kz := 10) rfl (fun rg15 => ?_)
    refine x_imul C dX10_addOrder_18 ?_
    refine x_iload_n C 1 dX10_addOrder_19 rfl rfl ?_
    refine x_iload_n C 2 dX10_addOrder_20 rfl rfl ?_
    refine x_iload_n C 3 dX10_addOrder_21 rfl rfl ?_
    refine x_iload C 4 dX10_addOrder_22 rfl ?_
    refine x_runU (r_callS C (ce_X10_fillRow) (m_X10_fillRow G n V R (yd + 4) (24) (4 * (V yd 10)) (t1) (t2) (t3) (t4) hn hLR (by omega) (by exact tbY_4 hy) (by first | assumption | omega | decide) (by first | assumption | omega | decide) (by first | assumption | omega | decide) (by first | assumption | omega | decide) (by first | assumption | omega | decide)) dX10_addOrder_24 q_39_21 q_39_22 rfl rfl ⟨Nat.le_of_ble_eq_true rfl, Nat.le_of_ble_eq_true rfl⟩ ⟨rfl, rfl⟩ ⟨Nat.le_of_ble_eq_true rfl, Nat.le_of_ble_eq_true rfl⟩ (Nat.le_of_ble_eq_true rfl)) (fun v24 u24 hp24 => ?_)
    obtain ⟨rfl, rfl⟩ := hp24
    show Xw K G 0 0 _ n (u2 (u2 (u2 (u2 V (yd + 4) (4 * (V yd 10)) t1) (yd + 4) ((4 * (V yd 10)) + 1) t2) (yd + 4) ((4 * (V yd 10)) + 2) t3) (yd + 4) ((4 * (V yd 10)) + 3) t4) R 27 [(0, .ref (aG G yd)), (1, .int (iI t1)), (2, .int (iI t2)), (3, .int (iI t3)), (4, .int (iI t4))] []
    refine x_aload_n C 0 dX10_addOrder_27 rfl rfl ?_
    refine x_dup C dX10_addOrder_28 rfl ?_
    refine x_geti C ok_Yard yd 10 dX10_addOrder_29 (ltY hy hn (by decide) : yd + 0 < n) (tbY_0 hy) (by decide) rfl q_2_2 rfl (kz := 10) rfl (fun rg29 => ?_)
    refine x_top (b := (V yd 10)) (by first | rfl | (simp only [u2_at]; simp) | (simp only [u2_at]; first | (rw [if_neg (by omega)]) | omega) | (repeat rw [u2_at, if_neg (by omega)])) ?_
    refine x_iconst C dX10_addOrder_32 ?_
    refine x_iadd C dX10_addOrder_33 ?_
    refine x_puti C ok_Yard yd 10 dX10_addOrder_34 (ltY hy hn (by decide) : yd + 0 < n) (tbY_0 hy) (by decide) rfl q_2_2 rfl rfl (Or.inl rfl) (by first | assumption | (constructor <;> omega)) (kz := 10) rfl ?_
    refine x_vret C dX10_addOrder_37 ⟨rfl, rfl⟩
set_option maxRecDepth 100000 in
set_option maxHeartbeats 4000000 in
theorem m_X10_meets (G : GS) (n : Nat) (V : Nat → Int → Int) (R : Nat → Int → Option Nat) (yd : Nat) (b : Int) (o : Int) (hn : 67 ≤ n) (hLR : LR R) (hy : yd = 1 ∨ yd = 6) (hb : 0 ≤ b ∧ b + 3 < 64) (ho : 0 ≤ o ∧ o + 3 < 24) : Cn G yX10_meets cX10_meets 3 (some .boolean) (rmk 1 0 0 16) [.ref (aG G yd), .int (iI b), .int (iI o)] n V R 0 0 (fun vv uu => vv = some (.int (iI (bI (meetQ (V (yd + 3)) (V (yd + 4)) b o)))) ∧ uu = (n, V, R)) := by
  refine Cn.of (by decide) (Nat.le_of_ble_eq_true rfl) (fun K C hct => ?_)
  show Xw K G 0 0 _ n V R 0 [(0, .ref (aG G yd)), (1, .int (iI b)), (2, .int (iI o))] []
  refine x_aload_n C 0 dX10_meets_0 rfl rfl ?_
  refine x_getr C ok_Yard yd 7 (d := (yd + 3)) dX10_meets_1 (ltY hy hn (by decide) : yd + 0 < n) (tbY_0 hy) (by decide) rfl q_1_23 rfl (kz := 7) rfl (lrY_7 hy hLR) ?_
  refine x_iload_n C 1 dX10_meets_4 rfl rfl ?_
  refine x_iald C (yd + 3) dX10_meets_5 (ltY hy hn (by decide)) (tbY_3 hy) (by refine ⟨?_, ?_⟩ <;> omega) (fun rg5 => ?_)
  refine x_aload_n C 0 dX10_meets_6 rfl rfl ?_
  refine x_getr C ok_Yard yd 9 (d := (yd + 4)) dX10_meets_7 (ltY hy hn (by decide) : yd + 0 < n) (tbY_0 hy) (by decide) rfl q_2_1 rfl (kz := 9) rfl (lrY_9 hy hLR) ?_
  refine x_iload_n C 2 dX10_meets_10 rfl rfl ?_
  refine x_iald C (yd + 4) dX10_meets_11 (ltY hy hn (by decide)) (tbY_4 hy) (by refine ⟨?_, ?_⟩ <;> omega) (fun rg11 => ?_)
  refine x_icmp_ne C dX10_meets_12 (tgt := 76) (by decide) (by first | assumption | (constructor <;> omega)) (by first | assumption | (constructor <;> omega)) (fun h12 => ?_) (fun h12 => ?_)
  · skip
    refine x_iconst C dX10_meets_76 ?_
    refine x_zret C (Or.inl rfl) dX10_meets_77 ⟨bI_rf (by unfold meetQ; omega), rfl⟩
  · skip
    refine x_aload_n C 0 dX10_meets_15 rfl rfl ?_
    refine x_getr C ok_Yard yd 7 (d := (yd + 3)) dX10_meets_16 (ltY hy hn (by decide) : yd + 0 < n) (tbY_0 hy) (by decide) rfl q_1_23 rfl (kz := 7) rfl (lrY_7 hy hLR) ?_
    refine x_iload_n C 1 dX10_meets_19 rfl rfl ?_
    refine x_iconst C dX10_meets_20 ?_
    refine x_iadd C dX10_meets_21 ?_
    refine x_iald C (yd + 3) dX10_meets_22 (ltY hy hn (by decide)) (tbY_3 hy) (by refine ⟨?_, ?_⟩ <;> omega) (fun rg22 => ?_)
    refine x_aload_n C 0 dX10_meets_23 rfl rfl ?_
    refine x_getr C ok_Yard yd 9 (d := (yd + 4)) dX10_meets_24 (ltY hy hn (by decide) : yd + 0 < n) (tbY_0 hy) (by decide) rfl q_2_1 rfl (kz := 9) rfl (lrY_9 hy hLR) ?_
    refine x_iload_n C 2 dX10_meets_27 rfl rfl ?_
    refine x_iconst C dX10_meets_28 ?_
    refine x_iadd C dX10_meets_29 ?_
    refine x_iald C (yd + 4) dX10_meets_30 (ltY hy hn (by decide)) (tbY_4 hy) (by refine ⟨?_, ?_⟩ <;> omega) (fun rg30 => ?_)
    refine x_icmp_lt C dX10_meets_31 (tgt := 76) (by decide) (by first | assumption | (constructor <;> omega)) (by first | assumption | (constructor <;> omega)) (fun h31 => ?_) (fun h31 => ?_)
    · skip
      refine x_iconst C dX10_meets_76 ?_
      refine x_zret C (Or.inl rfl) dX10_meets_77 ⟨bI_rf (by unfold meetQ; omega), rfl⟩
    · skip
      refine x_aload_n C 0 dX10_meets_34 rfl rfl ?_
      refine x_getr C ok_Yard yd 7 (d := (yd + 3)) dX10_meets_35 (ltY hy hn (by decide) : yd + 0 < n) (tbY_0 hy) (by decide) rfl q_1_23 rfl (kz := 7) rfl (lrY_7 hy hLR) ?_
      refine x_iload_n C 1 dX10_meets_38 rfl rfl ?_
      refine x_iconst C dX10_meets_39 ?_
      refine x_iadd C dX10_meets_40 ?_
      refine x_iald C (yd + 3) dX10_meets_41 (ltY hy hn (by decide)) (tbY_3 hy) (by refine ⟨?_, ?_⟩ <;> omega) (fun rg41 => ?_)
      refine x_aload_n C 0 dX10_meets_42 rfl rfl ?_
      refine x_getr C ok_Yard yd 9 (d := (yd + 4)) dX10_meets_43 (ltY hy hn (by decide) : yd + 0 < n) (tbY_0 hy) (by decide) rfl q_2_1 rfl (kz := 9) rfl (lrY_9 hy hLR) ?_
      refine x_iload_n C 2 dX10_meets_46 rfl rfl ?_
      refine x_iconst C dX10_meets_47 ?_
      refine x_iadd C dX10_meets_48 ?_
      refine x_iald C (yd + 4) dX10_meets_49 (ltY hy hn (by decide)) (tbY_4 hy) (by refine ⟨?_, ?_⟩ <;> omega) (fun rg49 => ?_)
      refine x_icmp_lt C dX10_meets_50 (tgt := 76) (by decide) (by first | assumption | (constructor <;> omega)) (by first | assumption | (constructor <;> omega)) (fun h50 => ?_) (fun h50 => ?_)
      · skip
        refine x_iconst C dX10_meets_76 ?_
        refine x_zret C (Or.inl rfl) dX10_meets_77 ⟨bI_rf (by unfold meetQ; omega), rfl⟩
      · skip
        refine x_aload_n C 0 dX10_meets_53 rfl rfl ?_
        refine x_getr C ok_Yard yd 7 (d := (yd + 3)) dX10_meets_54 (ltY hy hn (by decide) : yd + 0 < n) (tbY_0 hy) (by decide) rfl q_1_23 rfl (kz := 7) rfl (lrY_7 hy hLR) ?_
        refine x_iload_n C 1 dX10_meets_57 rfl rfl ?_
        refine x_iconst C dX10_meets_58 ?_
        refine x_iadd C dX10_meets_59 ?_
        refine x_iald C (yd + 3) dX10_meets_60 (ltY hy hn (by decide)) (tbY_3 hy) (by refine ⟨?_, ?_⟩ <;> omega) (fun rg60 => ?_)
        refine x_aload_n C 0 dX10_meets_61 rfl rfl ?_
        refine x_getr C ok_Yard yd 9 (d := (yd + 4)) dX10_meets_62 (ltY hy hn (by decide) : yd + 0 < n) (tbY_0 hy) (by decide) rfl q_2_1 rfl (kz := 9) rfl (lrY_9 hy hLR) ?_
        refine x_iload_n C 2 dX10_meets_65 rfl rfl ?_
        refine x_iconst C dX10_meets_66 ?_
        refine x_iadd C dX10_meets_67 ?_
        refine x_iald C (yd + 4) dX10_meets_68 (ltY hy hn (by decide)) (tbY_4 hy) (by refine ⟨?_, ?_⟩ <;> omega) (fun rg68 => ?_)
        refine x_icmp_gt C dX10_meets_69 (tgt := 76) (by decide) (by first | assumption | (constructor <;> omega)) (by first | assumption | (constructor <;> omega)) (fun h69 => ?_) (fun h69 => ?_)
        · skip
          refine x_iconst C dX10_meets_76 ?_
          refine x_zret C (Or.inl rfl) dX10_meets_77 ⟨bI_rf (by unfold meetQ; omega), rfl⟩
        · skip
          refine x_iconst C dX10_meets_72 ?_
          refine x_goto C dX10_meets_73 (tgt := 77) (by decide) ?_
          refine x_zret C (Or.inr rfl) dX10_meets_77 ⟨bI_rt (by unfold meetQ; omega), rfl⟩
set_option maxRecDepth 100000 in
set_option maxHeartbeats 4000000 in
theorem m_X11_has (G : GS) (n : Nat) (V : Nat → Int → Int) (R : Nat → Int → Option Nat) (b : Int) (k : Int) : Cn G yX11_has cX11_has 2 (some .boolean) (rmk 1 0 0 16) [.int (iI b), .int (iI k)] n V R 0 0 (fun vv uu => vv = some (.int (iI (bI (inS b k)))) ∧ uu = (n, V, R)) := by
  have hz := zAnd_rg (zShr b k) 1
  refine Cn.of (by decide) (Nat.le_of_ble_eq_true rfl) (fun K C hct => ?_)
  show Xw K G 0 0 _ n V R 0 [(0, .int (iI b)), (1, .int (iI k))] []
  refine x_iload_n C 0 dX11_has_0 rfl rfl ?_
  refine x_iload_n C 1 dX11_has_1 rfl rfl ?_
  refine x_ishr C dX11_has_2 ?_
  refine x_iconst C dX11_has_3 ?_
  refine x_iand C dX11_has_4 ?_
  refine x_iconst C dX11_has_5 ?_
  refine x_icmp_ne C dX11_has_6 (tgt := 13) (by decide) (by first | assumption | (constructor <;> omega)) (by first | assumption | (constructor <;> omega)) (fun h6 => ?_) (fun h6 => ?_)
  · skip
    refine x_iconst C dX11_has_13 ?_
    refine x_zret C (Or.inl rfl) dX11_has_14 ⟨bI_rf (by unfold inS; omega), rfl⟩
  · skip
    refine x_iconst C dX11_has_9 ?_
    refine x_goto C dX11_has_10 (tgt := 14) (by decide) ?_
    refine x_zret C (Or.inr rfl) dX11_has_14 ⟨bI_rt (by unfold inS; omega), rfl⟩
