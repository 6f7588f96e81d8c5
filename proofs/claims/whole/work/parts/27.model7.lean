theorem cnt_nn (h : Int → Int) (N y : Int) (hN : 0 ≤ N) : 0 ≤ cntH h N y := (sm_b (A := 1) hN (fun _ _ _ => bI_b _)).1
theorem zOr_b {e : Int} {p : Prop} (h : e = 0 ∨ e = 1) : zOr e (bI p) = 0 ∨ zOr e (bI p) = 1 := by
  rcases h with h | h <;> rcases bI_01 p with q | q <;> rw [h, q] <;> decide
theorem met_s {e o : Int} {P : Int → Prop} (h : e = 0 ∨ e = 1) (h0 : 0 ≤ o) (he : e ≠ 0 ↔ ∃ o1, 0 ≤ o1 ∧ o1 < o ∧ P o1) : zOr e (bI (P o)) ≠ 0 ↔ ∃ o1, 0 ≤ o1 ∧ o1 < o + 1 ∧ P o1 := by
  have k : (zOr e (bI (P o)) ≠ 0) ↔ (e ≠ 0 ∨ P o) := by
    by_cases p : P o
    · rw [bI_t p]; rcases h with h | h <;> rw [h] <;> exact ⟨fun _ => Or.inr p, fun _ => by decide⟩
    · rw [bI_f p]; rcases h with h | h <;> rw [h]
      · exact ⟨fun q => absurd (by decide) q, fun q => by rcases q with q | q; exact absurd rfl q; exact absurd q p⟩
      · exact ⟨fun _ => Or.inl (by decide), fun _ => by decide⟩
  rw [k, he]
  constructor
  · rintro (⟨o1, a, b, c⟩ | q)
    · exact ⟨o1, a, by omega, c⟩
    · exact ⟨o, h0, by omega, q⟩
  · rintro ⟨o1, a, b, c⟩
    rcases (show o1 < o ∨ o1 = o by omega) with q | q
    · exact Or.inl ⟨o1, a, q, c⟩
    · exact Or.inr (by rw [← q]; exact c)
theorem can_F3 {V V2 V3 V4 : Nat → Int → Int} {set o : Int} {pr : Prop} (hF : FrG V V2) (hN : 0 ≤ V 42 7) (hA : ∀ b, 0 ≤ b → b < V 42 7 → (-1 ≤ V2 56 b ↔ -1 ≤ V 56 b)) (hM : MatchOk V (V2 56)) (hcn : ∀ y, 0 ≤ y → cntH (V2 56) (V 42 7) y = bI (y < o ∧ inS set y)) (ho : 0 ≤ o ∧ o < V 42 9) (hS : inS set o) (hF3 : FrG V V3) (h3 : V3 56 = V2 56) (h57 : ∀ b, 0 ≤ b → b < V 42 7 → V3 57 b = 0) (hT : (pr ∧ getsT V3 V4 o) ∨ (¬ pr ∧ getsF V3 V4 o)) (hp : ¬ pr) (q : canM V set) : False := by
  rcases hT with ⟨z, -⟩ | ⟨-, z⟩
  · exact hp z
  · exact can_f hF hN hA hM hcn ho hS hF3 h3 h57 z q
theorem can_A2 {V V3 V4 V5 : Nat → Int → Int} {o : Int} {pr : Prop} (hF4 : FrG V V4) (h56 : V4 56 = V3 56) (hA : ∀ b, 0 ≤ b → b < V 42 7 → (-1 ≤ V3 56 b ↔ -1 ≤ V 56 b)) (hT : (pr ∧ getsT V4 V5 o) ∨ (¬ pr ∧ getsF V4 V5 o)) (hp : ¬ pr) : ∀ b, 0 ≤ b → b < V 42 7 → (-1 ≤ V5 56 b ↔ -1 ≤ V 56 b) := by
  rcases hT with ⟨z, -⟩ | ⟨-, z⟩
  · exact absurd z hp
  · rw [z.1, h56]; exact hA
theorem can_A {V V3 V4 V5 : Nat → Int → Int} {o : Int} {pr : Prop} (hF4 : FrG V V4) (h56 : V4 56 = V3 56) (hA : ∀ b, 0 ≤ b → b < V 42 7 → (-1 ≤ V3 56 b ↔ -1 ≤ V 56 b)) (hT : (pr ∧ getsT V4 V5 o) ∨ (¬ pr ∧ getsF V4 V5 o)) (hp : pr) : ∀ b, 0 ≤ b → b < V 42 7 → (-1 ≤ V5 56 b ↔ -1 ≤ V 56 b) := by
  rcases hT with ⟨-, z⟩ | ⟨z, -⟩
  · have e := hF4 42 (by decide) (by decide)
    intro b b1 b2
    have := z.2.2.1 b b1 (by rw [e]; exact b2)
    rw [this, h56]; exact hA b b1 b2
  · exact absurd hp z
theorem can_M {V V4 V5 : Nat → Int → Int} {o : Int} {pr : Prop} (hF4 : FrG V V4) (hT : (pr ∧ getsT V4 V5 o) ∨ (¬ pr ∧ getsF V4 V5 o)) (hp : pr) : MatchOk V (V5 56) := by
  rcases hT with ⟨-, z⟩ | ⟨z, -⟩
  · have h := z.2.2.2
    unfold MatchOk at h ⊢
    rw [hF4 42 (by decide) (by decide), hF4 45 (by decide) (by decide), hF4 46 (by decide) (by decide)] at h
    exact h
  · exact absurd hp z
theorem can_c {V V3 V4 V5 : Nat → Int → Int} {o w : Int} {pr : Prop} (hF4 : FrG V V4) (h56 : V4 56 = V3 56) (hcn : ∀ y, 0 ≤ y → cntH (V3 56) (V 42 7) y = bI (y < o ∧ inS w y)) (hT : (pr ∧ getsT V4 V5 o) ∨ (¬ pr ∧ getsF V4 V5 o)) (hp : pr) (hS : inS w o) (h0 : 0 ≤ o) : ∀ y, 0 ≤ y → cntH (V5 56) (V 42 7) y = bI (y < o + 1 ∧ inS w y) := by
  rcases hT with ⟨-, z⟩ | ⟨z, -⟩
  · intro y hy
    have h := z.1 y hy
    rw [hF4 42 (by decide) (by decide), h56, hcn y hy] at h
    rw [h]
    by_cases e : o = y
    · subst e
      rw [bI_f (p := o < o ∧ _) (by omega), bI_t rfl, bI_t ⟨by omega, hS⟩]; decide
    · rw [bI_f e, bI_c (p := y < o ∧ inS w y) (q := y < o + 1 ∧ inS w y) (and_congr_left' (by omega))]; omega
  · exact absurd hp z
theorem can_n {V V3 V4 : Nat → Int → Int} {o w : Int} (h56 : V4 56 = V3 56) (hcn : ∀ y, 0 ≤ y → cntH (V3 56) (V 42 7) y = bI (y < o ∧ inS w y)) (hS : ¬ inS w o) : ∀ y, 0 ≤ y → cntH (V4 56) (V 42 7) y = bI (y < o + 1 ∧ inS w y) := fun y hy => by
  rw [h56, hcn y hy]
  refine bI_c ⟨fun q => ⟨by have := q.1; omega, q.2⟩, fun q => ⟨?_, q.2⟩⟩
  have h1 := q.1
  have h2 : y ≠ o := fun e => hS (e ▸ q.2)
  omega

set_option maxRecDepth 100000 in
set_option maxHeartbeats 4000000 in
theorem m_X12_stack (G : GS) (n : Nat) (V : Nat → Int → Int) (R : Nat → Int → Option Nat) (k : Int) (w : Int) (hn : 67 ≤ n) (hLR : LR R) (gk : Rg k) (gw : Rg w) (hnb : 0 ≤ V 42 7 ∧ V 42 7 ≤ 16) (hno : 0 ≤ V 42 9 ∧ V 42 9 ≤ 6) : Cn G yX12_stack cX12_stack 3 (some .int) (rmk 2 0 0 41) [.ref (aG G 42), .int (iI k), .int (iI w)] n V R 0 0 (fun vv uu => ∃ (r : Int), vv = some (.int (iI r)) ∧ uu = (n, V, R) ∧ (((¬ (0 ≤ w ∧ w ≤ 3)) ∧ r = (-2)) ∨ (((0 ≤ w ∧ w ≤ 3) ∧ k = -1) ∧ r = V 42 7) ∨ (((0 ≤ w ∧ w ≤ 3) ∧ k ≠ -1 ∧ ¬ (0 ≤ k ∧ k ≤ V 42 7 - 1)) ∧ r = (-12)) ∨ (((0 ≤ w ∧ w ≤ 3) ∧ (0 ≤ k ∧ k ≤ V 42 7 - 1)) ∧ r = V 45 (4 * k + w)))) := by
  refine Cn.of (by decide) (Nat.le_of_ble_eq_true rfl) (fun K C hct => ?_)
  show Xw K G 0 0 _ n V R 0 [(0, .ref (aG G 42)), (1, .int (iI k)), (2, .int (iI w))] []
  refine x_iload_n C 2 dX12_stack_0 rfl rfl ?_
  refine x_i2l C dX12_stack_1 (by first | assumption | (constructor <;> omega)) ?_
  refine x_lconst C dX12_stack_2 (w := 0) (by decide) ?_
  refine x_ldc2 C dX12_stack_3 q_27_17 (w := 3) (by decide) ?_
  refine x_runU (r_callS C (ce_X12_in) (m_X12_in G n V R (w) (0) (3) (by first | assumption | omega | decide) (by first | assumption | omega | decide) (by first | assumption | omega | decide)) dX12_stack_6 q_6_15 q_6_16 rfl rfl ⟨Nat.le_of_ble_eq_true rfl, Nat.le_of_ble_eq_true rfl⟩ ⟨rfl, rfl⟩ ⟨Nat.le_of_ble_eq_true rfl, Nat.le_of_ble_eq_true rfl⟩ (Nat.le_of_ble_eq_true rfl)) (fun v6 u6 hp6 => ?_)
  obtain ⟨rfl, rfl⟩ := hp6
  show Xw K G 0 0 _ n V R 9 [(0, .ref (aG G 42)), (1, .int (iI k)), (2, .int (iI w))] [.int (iI (bI (0 ≤ w ∧ w ≤ 3)))]
  refine x_ifne_b C dX12_stack_9 (tgt := 15) (by decide) (fun h9 => ?_) (fun h9 => ?_)
  · skip
    refine x_iload_n C 1 dX12_stack_15 rfl rfl ?_
    refine x_iconst C dX12_stack_16 ?_
    refine x_icmp_ne C dX12_stack_17 (tgt := 25) (by decide) (by first | assumption | (constructor <;> omega)) (by first | assumption | (constructor <;> omega)) (fun h17 => ?_) (fun h17 => ?_)
    · skip
      refine x_iload_n C 1 dX12_stack_25 rfl rfl ?_
      refine x_i2l C dX12_stack_26 (by first | assumption | (constructor <;> omega)) ?_
      refine x_lconst C dX12_stack_27 (w := 0) (by decide) ?_
      refine x_aload_n C 0 dX12_stack_28 rfl rfl ?_
      refine x_geti C ok_Model 42 7 dX12_stack_29 (lt67 hn rfl) rfl (by decide) rfl q_40_4 rfl (kz := 7) rfl (fun rg29 => ?_)
      refine x_iconst C dX12_stack_32 ?_
      refine x_isub C dX12_stack_33 ?_
      refine x_i2l C dX12_stack_34 (by first | assumption | (constructor <;> omega)) ?_
      refine x_runU (r_callS C (ce_X12_in) (m_X12_in G n V R (k) (0) ((V 42 7) - 1) (by first | assumption | omega | decide) (by first | assumption | omega | decide) (by first | assumption | omega | decide)) dX12_stack_35 q_6_15 q_6_16 rfl rfl ⟨Nat.le_of_ble_eq_true rfl, Nat.le_of_ble_eq_true rfl⟩ ⟨rfl, rfl⟩ ⟨Nat.le_of_ble_eq_true rfl, Nat.le_of_ble_eq_true rfl⟩ (Nat.le_of_ble_eq_true rfl)) (fun v35 u35 hp35 => ?_)
      obtain ⟨rfl, rfl⟩ := hp35
      show Xw K G 0 0 _ n V R 38 [(0, .ref (aG G 42)), (1, .int (iI k)), (2, .int (iI w))] [.int (iI (bI (0 ≤ k ∧ k ≤ ((V 42 7) - 1))))]
      refine x_ifeq_b C dX12_stack_38 (tgt := 54) (by decide) (fun h38 => ?_) (fun h38 => ?_)
      · skip
        refine x_bipush C dX12_stack_54 (w := -12) (by decide) ?_
        refine x_iret C dX12_stack_56 ⟨_, rfl, rfl, ?_⟩
        · first | (refine Or.inl ⟨?_, ?_⟩ <;> first | rfl | assumption | omega | exact congrArg _ (by omega)) | (refine Or.inr (Or.inl ⟨?_, ?_⟩) <;> first | rfl | assumption | omega | exact congrArg _ (by omega)) | (refine Or.inr (Or.inr (Or.inl ⟨?_, ?_⟩)) <;> first | rfl | assumption | omega | exact congrArg _ (by omega)) | (refine Or.inr (Or.inr (Or.inr (⟨?_, ?_⟩))) <;> first | rfl | assumption | omega | exact congrArg _ (by omega))
      · skip
        refine x_aload_n C 0 dX12_stack_41 rfl rfl ?_
        refine x_getr C ok_Model 42 8 (d := 45) dX12_stack_42 (lt67 hn rfl) rfl (by decide) rfl q_4_3 rfl (kz := 8) rfl (lr_42_8 hLR) ?_
        refine x_iconst C dX12_stack_45 ?_
        refine x_iload_n C 1 dX12_stack_46 rfl rfl ?_
        refine x_imul C dX12_stack_47 ?_
        refine x_iload_n C 2 dX12_stack_48 rfl rfl ?_
        refine x_iadd C dX12_stack_49 ?_
        refine x_iald C 45 dX12_stack_50 (lt67 hn rfl) rfl (by refine ⟨?_, ?_⟩ <;> omega) (fun rg50 => ?_)
        refine x_goto C dX12_stack_51 (tgt := 56) (by decide) ?_
        refine x_iret C dX12_stack_56 ⟨_, rfl, rfl, ?_⟩
        · first | (refine Or.inl ⟨?_, ?_⟩ <;> first | rfl | assumption | omega | exact congrArg _ (by omega)) | (refine Or.inr (Or.inl ⟨?_, ?_⟩) <;> first | rfl | assumption | omega | exact congrArg _ (by omega)) | (refine Or.inr (Or.inr (Or.inl ⟨?_, ?_⟩)) <;> first | rfl | assumption | omega | exact congrArg _ (by omega)) | (refine Or.inr (Or.inr (Or.inr (⟨?_, ?_⟩))) <;> first | rfl | assumption | omega | exact congrArg _ (by omega))
    · skip
      refine x_aload_n C 0 dX12_stack_20 rfl rfl ?_
      refine x_geti C ok_Model 42 7 dX12_stack_21 (lt67 hn rfl) rfl (by decide) rfl q_40_4 rfl (kz := 7) rfl (fun rg21 => ?_)
      refine x_iret C dX12_stack_24 ⟨_, rfl, rfl, ?_⟩
      · first | (refine Or.inl ⟨?_, ?_⟩ <;> first | rfl | assumption | omega | exact congrArg _ (by omega)) | (refine Or.inr (Or.inl ⟨?_, ?_⟩) <;> first | rfl | assumption | omega | exact congrArg _ (by omega)) | (refine Or.inr (Or.inr (Or.inl ⟨?_, ?_⟩)) <;> first | rfl | assumption | omega | exact congrArg _ (by omega)) | (refine Or.inr (Or.inr (Or.inr (⟨?_, ?_⟩))) <;> first | rfl | assumption | omega | exact congrArg _ (by omega))
  · skip
    refine x_bipush C dX12_stack_12 (w := -2) (by decide) ?_
    refine x_iret C dX12_stack_14 ⟨_, rfl, rfl, ?_⟩
    · first | (refine Or.inl ⟨?_, ?_⟩ <;> first | rfl | assumption | omega | exact congrArg _ (by omega)) | (refine Or.inr (Or.inl ⟨?_, ?_⟩) <;> first | rfl | assumption | omega | exact congrArg _ (by omega)) | (refine Or.inr (Or.inr (Or.inl ⟨?_, ?_⟩)) <;> first | rfl | assumption | omega | exact congrArg _ (by omega)) | (refine Or.inr (Or.inr (Or.inr (⟨?_, ?_⟩))) <;> first | rfl | assumption | omega | exact congrArg _ (by omega))
set_option maxRecDepth 100000 in
set_option maxHeartbeats 4000000 in
theorem m_X12_order (G : GS) (n : Nat) (V : Nat → Int → Int) (R : Nat → Int → Option Nat) (k : Int) (g : Int) (w : Int) (l : Int) (hn : 67 ≤ n) (hLR : LR R) (gk : Rg k) (gg : Rg g) (gw : Rg w) (gl : Rg l) (hnb : 0 ≤ V 42 7 ∧ V 42 7 ≤ 16) (hno : 0 ≤ V 42 9 ∧ V 42 9 ≤ 6) : Cn G yX12_order cX12_order 5 (some .int) (rmk 2 0 0 41) [.ref (aG G 42), .int (iI k), .int (iI g), .int (iI w), .int (iI l)] n V R 0 0 (fun vv uu => ∃ (r : Int), ∃ (V1 : Nat → Int → Int), vv = some (.int (iI r)) ∧ uu = (n, V1, R) ∧ (((¬ ((1 ≤ k ∧ k ≤ 4) ∧ (0 ≤ g ∧ g ≤ 3) ∧ (1 ≤ w ∧ w ≤ 12) ∧ (1 ≤ l ∧ l ≤ 8))) ∧ r = (-2) ∧ V1 = V) ∨ ((((1 ≤ k ∧ k ≤ 4) ∧ (0 ≤ g ∧ g ≤ 3) ∧ (1 ≤ w ∧ w ≤ 12) ∧ (1 ≤ l ∧ l ≤ 8)) ∧ V 42 9 = 6) ∧ r = (-4) ∧ V1 = V) ∨ ((((1 ≤ k ∧ k ≤ 4) ∧ (0 ≤ g ∧ g ≤ 3) ∧ (1 ≤ w ∧ w ≤ 12) ∧ (1 ≤ l ∧ l ≤ 8)) ∧ V 42 9 ≠ 6) ∧ r = V 42 9 ∧ V1 = u2 (u2 (u2 (u2 (u2 V 46 (4 * V 42 9) k) 46 (4 * V 42 9 + 1) g) 46 (4 * V 42 9 + 2) w) 46 (4 * V 42 9 + 3) l) 42 9 (V 42 9 + 1)))) := by
  refine Cn.of (by decide) (Nat.le_of_ble_eq_true rfl) (fun K C hct => ?_)
  show Xw K G 0 0 _ n V R 0 [(0, .ref (aG G 42)), (1, .int (iI k)), (2, .int (iI g)), (3, .int (iI w)), (4, .int (iI l))] []
  refine x_iload_n C 1 dX12_order_0 rfl rfl ?_
  refine x_i2l C dX12_order_1 (by first | assumption | (constructor <;> omega)) ?_
  refine x_lconst C dX12_order_2 (w := 1) (by decide) ?_
  refine x_ldc2 C dX12_order_3 q_6_8 (w := 4) (by decide) ?_
  refine x_runU (r_callS C (ce_X12_in) (m_X12_in G n V R (k) (1) (4) (by first | assumption | omega | decide) (by first | assumption | omega | decide) (by first | assumption | omega | decide)) dX12_order_6 q_6_15 q_6_16 rfl rfl ⟨Nat.le_of_ble_eq_true rfl, Nat.le_of_ble_eq_true rfl⟩ ⟨rfl, rfl⟩ ⟨Nat.le_of_ble_eq_true rfl, Nat.le_of_ble_eq_true rfl⟩ (Nat.le_of_ble_eq_true rfl)) (fun v6 u6 hp6 => ?_)
  obtain ⟨rfl, rfl⟩ := hp6
  show Xw K G 0 0 _ n V R 9 [(0, .ref (aG G 42)), (1, .int (iI k)), (2, .int (iI g)), (3, .int (iI w)), (4, .int (iI l))] [.int (iI (bI (1 ≤ k ∧ k ≤ 4)))]
  refine x_ifeq_b C dX12_order_9 (tgt := 49) (by decide) (fun h9 => ?_) (fun h9 => ?_)
  · skip
    refine x_bipush C dX12_order_49 (w := -2) (by decide) ?_
    refine x_iret C dX12_order_51 ⟨_, _, rfl, rfl, ?_⟩
    · first | (refine Or.inl ⟨?_, ?_, ?_⟩ <;> first | rfl | assumption | omega | exact congrArg _ (by omega)) | (refine Or.inr (Or.inl ⟨?_, ?_, ?_⟩) <;> first | rfl | assumption | omega | exact congrArg _ (by omega)) | (refine Or.inr (Or.inr (⟨?_, ?_, ?_⟩)) <;> first | rfl | assumption | omega | exact congrArg _ (by omega))
  · skip
    refine x_iload_n C 2 dX12_order_12 rfl rfl ?_
    refine x_i2l C dX12_order_13 (by first | assumption | (constructor <;> omega)) ?_
    refine x_lconst C dX12_order_14 (w := 0) (by decide) ?_
    refine x_ldc2 C dX12_order_15 q_27_17 (w := 3) (by decide) ?_
    refine x_runU (r_callS C (ce_X12_in) (m_X12_in G n V R (g) (0) (3) (by first | assumption | omega | decide) (by first | assumption | omega | decide) (by first | assumption | omega | decide)) dX12_order_18 q_6_15 q_6_16 rfl rfl ⟨Nat.le_of_ble_eq_true rfl, Nat.le_of_ble_eq_true rfl⟩ ⟨rfl, rfl⟩ ⟨Nat.le_of_ble_eq_true rfl, Nat.le_of_ble_eq_true rfl⟩ (Nat.le_of_ble_eq_true rfl)) (fun v18 u18 hp18 => ?_)
    obtain ⟨rfl, rfl⟩ := hp18
    show Xw K G 0 0 _ n V R 21 [(0, .ref (aG G 42)), (1, .int (iI k)), (2, .int (iI g)), (3, .int (iI w)), (4, .int (iI l))] [.int (iI (bI (0 ≤ g ∧ g ≤ 3)))]
    refine x_ifeq_b C dX12_order_21 (tgt := 49) (by decide) (fun h21 => ?_) (fun h21 => ?_)
    · skip
      refine x_bipush C dX12_order_49 (w := -2) (by decide) ?_
      refine x_iret C dX12_order_51 ⟨_, _, rfl, rfl, ?_⟩
      · first | (refine Or.inl ⟨?_, ?_, ?_⟩ <;> first | rfl | assumption | omega | exact congrArg _ (by omega)) | (refine Or.inr (Or.inl ⟨?_, ?_, ?_⟩) <;> first | rfl | assumption | omega | exact congrArg _ (by omega)) | (refine Or.inr (Or.inr (⟨?_, ?_, ?_⟩)) <;> first | rfl | assumption | omega | exact congrArg _ (by omega))
    · skip
      refine x_iload_n C 3 dX12_order_24 rfl rfl ?_
      refine x_i2l C dX12_order_25 (by first | assumption | (constructor <;> omega)) ?_
      refine x_lconst C dX12_order_26 (w := 1) (by decide) ?_
      refine x_ldc2 C dX12_order_27 q_41_3 (w := 12) (by decide) ?_
      refine x_runU (r_callS C (ce_X12_in) (m_X12_in G n V R (w) (1) (12) (by first | assumption | omega | decide) (by first | assumption | omega | decide) (by first | assumption | omega | decide)) dX12_order_30 q_6_15 q_6_16 rfl rfl ⟨Nat.le_of_ble_eq_true rfl, Nat.le_of_ble_eq_true rfl⟩ ⟨rfl, rfl⟩ ⟨Nat.le_of_ble_eq_true rfl, Nat.le_of_ble_eq_true rfl⟩ (Nat.le_of_ble_eq_true rfl)) (fun v30 u30 hp30 => ?_)
      obtain ⟨rfl, rfl⟩ := hp30
      show Xw K G 0 0 _ n V R 33 [(0, .ref (aG G 42)), (1, .int (iI k)), (2, .int (iI g)), (3, .int (iI w)), (4, .int (iI l))] [.int (iI (bI (1 ≤ w ∧ w ≤ 12)))]
      refine x_ifeq_b C dX12_order_33 (tgt := 49) (by decide) (fun h33 => ?_) (fun h33 => ?_)
      · skip
        refine x_bipush C dX12_order_49 (w := -2) (by decide) ?_
        refine x_iret C dX12_order_51 ⟨_, _, rfl, rfl, ?_⟩
        · first | (refine Or.inl ⟨?_, ?_, ?_⟩ <;> first | rfl | assumption | omega | exact congrArg _ (by omega)) | (refine Or.inr (Or.inl ⟨?_, ?_, ?_⟩) <;> first | rfl | assumption | omega | exact congrArg _ (by omega)) | (refine Or.inr (Or.inr (⟨?_, ?_, ?_⟩)) <;> first | rfl | assumption | omega | exact congrArg _ (by omega))
      · skip
        refine x_iload C 4 dX12_order_36 rfl ?_
        refine x_i2l C dX12_order_38 (by first | assumption | (constructor <;> omega)) ?_
        refine x_lconst C dX12_order_39 (w := 1) (by decide) ?_
        refine x_ldc2 C dX12_order_40 q_6_9 (w := 8) (by decide) ?_
        refine x_runU (r_callS C (ce_X12_in) (m_X12_in G n V R (l) (1) (8) (by first | assumption | omega | decide) (by first | assumption | omega | decide) (by first | assumption | omega | decide)) dX12_order_43 q_6_15 q_6_16 rfl rfl ⟨Nat.le_of_ble_eq_true rfl, Nat.le_of_ble_eq_true rfl⟩ ⟨rfl, rfl⟩ ⟨Nat.le_of_ble_eq_true rfl, Nat.le_of_ble_eq_true rfl⟩ (Nat.le_of_ble_eq_true rfl)) (fun v43 u43 hp43 => ?_)
        obtain ⟨rfl, rfl⟩ := hp43
        show Xw K G 0 0 _ n V R 46 [(0, .ref (aG G 42)), (1, .int (iI k)), (2, .int (iI g)), (3, .int (iI w)), (4, .int (iI l))] [.int (iI (bI (1 ≤ l ∧ l ≤ 8)))]
        refine x_ifne_b C dX12_order_46 (tgt := 52) (by decide) (fun h46 => ?_) (fun h46 => ?_)
        · skip
          refine x_aload_n C 0 dX12_order_52 rfl rfl ?_
          refine x_geti C ok_Model 42 9 dX12_order_53 (lt67 hn rfl) rfl (by decide) rfl q_41_4 rfl (kz := 9) rfl (fun rg53 => ?_)
          refine x_bipush C dX12_order_56 (w := 6) (by decide) ?_
          refine x_icmp_ne C dX12_order_58 (tgt := 64) (by decide) (by first | assumption | (constructor <;> omega)) (by first | assumption | (constructor <;> omega)) (fun h58 => ?_) (fun h58 => ?_)
          · skip
            refine x_aload_n C 0 dX12_order_64 rfl rfl ?_
            refine x_getr C ok_Model 42 10 (d := 46) dX12_order_65 (lt67 hn rfl) rfl (by decide) rfl q_4_4 rfl (kz := 10) rfl (lr_42_10 hLR) ?_
            refine x_iconst C dX12_order_68 ?_
            refine x_aload_n C 0 dX12_order_69 rfl rfl ?_
            refine x_geti C ok_Model 42 9 dX12_order_70 (lt67 hn rfl) rfl (by decide) rfl q_41_4 rfl (kz := 9) rfl (fun rg70 => ?_)
            refine x_imul C dX12_order_73 ?_
            refine x_iload_n C 1 dX12_order_74 rfl rfl ?_
            refine x_iast C 46 dX12_order_75 (lt67 hn rfl) rfl (by refine ⟨?_, ?_⟩ <;> omega) (by first | assumption | (constructor <;> omega)) ?_
            refine x_aload_n C 0 dX12_order_76 rfl rfl ?_
            refine x_getr C ok_Model 42 10 (d := 46) dX12_order_77 (lt67 hn rfl) rfl (by decide) rfl q_4_4 rfl (kz := 10) rfl (lr_42_10 hLR) ?_
            refine x_iconst C dX12_order_80 ?_
            refine x_aload_n C 0 dX12_order_81 rfl rfl ?_
            refine x_geti C ok_Model 42 9 dX12_order_82 (lt67 hn rfl) rfl (by decide) rfl q_41_4 rfl (kz := 9) rfl (fun rg82 => ?_)
            refine x_top (b := (V 42 9)) (by first | rfl | (simp only [u2_at]; simp) | (simp only [u2_at]; first | (rw [if_neg (by omega)]) | omega)) ?_
            refine x_imul C dX12_order_85 ?_
            refine x_iconst C dX12_order_86 ?_
            refine x_iadd C dX12_order_87 ?_
            refine x_iload_n C 2 dX12_order_88 rfl rfl ?_
            refine x_iast C 46 dX12_order_89 (lt67 hn rfl) rfl (by refine ⟨?_, ?_⟩ <;> omega) (by first | assumption | (constructor <;> omega)) ?_
            refine x_aload_n C 0 dX12_order_90 rfl rfl ?_
            refine x_getr C ok_Model 42 10 (d := 46) dX12_order_91 (lt67 hn rfl) rfl (by decide) rfl q_4_4 rfl (kz := 10) rfl (lr_42_10 hLR) ?_
            refine x_iconst C dX12_order_94 ?_
            refine x_aload_n C 0 dX12_order_95 rfl rfl ?_
            refine x_geti C ok_Model 42 9 dX12_order_96 (lt67 hn rfl) rfl (by decide) rfl q_41_4 rfl (kz := 9) rfl (fun rg96 => ?_)
            refine x_top (b := (V 42 9)) (by first | rfl | (simp only [u2_at]; simp) | (simp only [u2_at]; first | (rw [if_neg (by omega)]) | omega)) ?_
            refine x_imul C dX12_order_99 ?_
            refine x_iconst C dX12_order_100 ?_
            refine x_iadd C dX12_order_101 ?_
            refine x_iload_n C 3 dX12_order_102 rfl rfl ?_
            refine x_iast C 46 dX12_order_103 (lt67 hn rfl) rfl (by refine ⟨?_, ?_⟩ <;> omega) (by first | assumption | (constructor <;> omega)) ?_
            refine x_aload_n C 0 dX12_order_104 rfl rfl ?_
            refine x_getr C ok_Model 42 10 (d := 46) dX12_order_105 (lt67 hn rfl) rfl (by decide) rfl q_4_4 rfl (kz := 10) rfl (lr_42_10 hLR) ?_
            refine x_iconst C dX12_order_108 ?_
            refine x_aload_n C 0 dX12_order_109 rfl rfl ?_
            refine x_geti C ok_Model 42 9 dX12_order_110 (lt67 hn rfl) rfl (by decide) rfl q_41_4 rfl (kz := 9) rfl (fun rg110 => ?_)
            refine x_top (b := (V 42 9)) (by first | rfl | (simp only [u2_at]; simp) | (simp only [u2_at]; first | (rw [if_neg (by omega)]) | omega)) ?_
            refine x_imul C dX12_order_113 ?_
            refine x_iconst C dX12_order_114 ?_
            refine x_iadd C dX12_order_115 ?_
            refine x_iload C 4 dX12_order_116 rfl ?_
            refine x_iast C 46 dX12_order_118 (lt67 hn rfl) rfl (by refine ⟨?_, ?_⟩ <;> omega) (by first | assumption | (constructor <;> omega)) ?_
            refine x_aload_n C 0 dX12_order_119 rfl rfl ?_
            refine x_dup C dX12_order_120 rfl ?_
            refine x_geti C ok_Model 42 9 dX12_order_121 (lt67 hn rfl) rfl (by decide) rfl q_41_4 rfl (kz := 9) rfl (fun rg121 => ?_)
            refine x_top (b := (V 42 9)) (by first | rfl | (simp only [u2_at]; simp) | (simp only [u2_at]; first | (rw [if_neg (by omega)]) | omega)) ?_
            refine x_iconst C dX12_order_124 ?_
            refine x_iadd C dX12_order_125 ?_
            refine x_puti C ok_Model 42 9 dX12_order_126 (lt67 hn rfl) rfl (by decide) rfl q_41_4 rfl rfl (Or.inl rfl) (by first | assumption | (constructor <;> omega)) (kz := 9) rfl ?_
            refine x_aload_n C 0 dX12_order_129 rfl rfl ?_
            refine x_geti C ok_Model 42 9 dX12_order_130 (lt67 hn rfl) rfl (by decide) rfl q_41_4 rfl (kz := 9) rfl (fun rg130 => ?_)
            refine x_top (b := ((V 42 9) + 1)) (by first | rfl | (simp only [u2_at]; simp) | (simp only [u2_at]; first | (rw [if_neg (by omega)]) | omega)) ?_
            refine x_iconst C dX12_order_133 ?_
            refine x_isub C dX12_order_134 ?_
            refine x_iret C dX12_order_135 ⟨_, _, rfl, rfl, ?_⟩
            · first | (refine Or.inl ⟨?_, ?_, ?_⟩ <;> first | rfl | assumption | omega | exact congrArg _ (by omega)) | (refine Or.inr (Or.inl ⟨?_, ?_, ?_⟩) <;> first | rfl | assumption | omega | exact congrArg _ (by omega)) | (refine Or.inr (Or.inr (⟨?_, ?_, ?_⟩)) <;> first | rfl | assumption | omega | exact congrArg _ (by omega))
          · skip
            refine x_bipush C dX12_order_61 (w := -4) (by decide) ?_
            refine x_iret C dX12_order_63 ⟨_, _, rfl, rfl, ?_⟩
            · first | (refine Or.inl ⟨?_, ?_, ?_⟩ <;> first | rfl | assumption | omega | exact congrArg _ (by omega)) | (refine Or.inr (Or.inl ⟨?_, ?_, ?_⟩) <;> first | rfl | assumption | omega | exact congrArg _ (by omega)) | (refine Or.inr (Or.inr (⟨?_, ?_, ?_⟩)) <;> first | rfl | assumption | omega | exact congrArg _ (by omega))
        · skip
          refine x_bipush C dX12_order_49 (w := -2) (by decide) ?_
          refine x_iret C dX12_order_51 ⟨_, _, rfl, rfl, ?_⟩
          · first | (refine Or.inl ⟨?_, ?_, ?_⟩ <;> first | rfl | assumption | omega | exact congrArg _ (by omega)) | (refine Or.inr (Or.inl ⟨?_, ?_, ?_⟩) <;> first | rfl | assumption | omega | exact congrArg _ (by omega)) | (refine Or.inr (Or.inr (⟨?_, ?_, ?_⟩)) <;> first | rfl | assumption | omega | exact congrArg _ (by omega))
set_option maxRecDepth 100000 in
set_option maxHeartbeats 4000000 in
theorem m_X12_meets (G : GS) (n : Nat) (V : Nat → Int → Int) (R : Nat → Int → Option Nat) (b : Int) (o : Int) (hn : 67 ≤ n) (hLR : LR R) (hb : 0 ≤ b ∧ b ≤ 15) (ho : 0 ≤ o ∧ o ≤ 5) : Cn G yX12_meets cX12_meets 3 (some .boolean) (rmk 1 0 0 16) [.ref (aG G 42), .int (iI b), .int (iI o)] n V R 0 0 (fun vv uu => vv = some (.int (iI (bI (meetP (V 45) (V 46) b o)))) ∧ uu = (n, V, R)) := by
  refine Cn.of (by decide) (Nat.le_of_ble_eq_true rfl) (fun K C hct => ?_)
  show Xw K G 0 0 _ n V R 0 [(0, .ref (aG G 42)), (1, .int (iI b)), (2, .int (iI o))] []
  refine x_aload_n C 0 dX12_meets_0 rfl rfl ?_
  refine x_getr C ok_Model 42 8 (d := 45) dX12_meets_1 (lt67 hn rfl) rfl (by decide) rfl q_4_3 rfl (kz := 8) rfl (lr_42_8 hLR) ?_
  refine x_iconst C dX12_meets_4 ?_
  refine x_iload_n C 1 dX12_meets_5 rfl rfl ?_
  refine x_imul C dX12_meets_6 ?_
  refine x_iald C 45 dX12_meets_7 (lt67 hn rfl) rfl (by refine ⟨?_, ?_⟩ <;> omega) (fun rg7 => ?_)
  refine x_aload_n C 0 dX12_meets_8 rfl rfl ?_
  refine x_getr C ok_Model 42 10 (d := 46) dX12_meets_9 (lt67 hn rfl) rfl (by decide) rfl q_4_4 rfl (kz := 10) rfl (lr_42_10 hLR) ?_
  refine x_iconst C dX12_meets_12 ?_
  refine x_iload_n C 2 dX12_meets_13 rfl rfl ?_
  refine x_imul C dX12_meets_14 ?_
  refine x_iald C 46 dX12_meets_15 (lt67 hn rfl) rfl (by refine ⟨?_, ?_⟩ <;> omega) (fun rg15 => ?_)
  refine x_icmp_ne C dX12_meets_16 (tgt := 92) (by decide) (by first | assumption | (constructor <;> omega)) (by first | assumption | (constructor <;> omega)) (fun h16 => ?_) (fun h16 => ?_)
  · skip
    refine x_iconst C dX12_meets_92 ?_
    refine x_zret C (Or.inl rfl) dX12_meets_93 ⟨bI_rf (by unfold meetP; omega), rfl⟩
  · skip
    refine x_aload_n C 0 dX12_meets_19 rfl rfl ?_
    refine x_getr C ok_Model 42 8 (d := 45) dX12_meets_20 (lt67 hn rfl) rfl (by decide) rfl q_4_3 rfl (kz := 8) rfl (lr_42_8 hLR) ?_
    refine x_iconst C dX12_meets_23 ?_
    refine x_iload_n C 1 dX12_meets_24 rfl rfl ?_
    refine x_imul C dX12_meets_25 ?_
    refine x_iconst C dX12_meets_26 ?_
    refine x_iadd C dX12_meets_27 ?_
    refine x_iald C 45 dX12_meets_28 (lt67 hn rfl) rfl (by refine ⟨?_, ?_⟩ <;> omega) (fun rg28 => ?_)
    refine x_aload_n C 0 dX12_meets_29 rfl rfl ?_
    refine x_getr C ok_Model 42 10 (d := 46) dX12_meets_30 (lt67 hn rfl) rfl (by decide) rfl q_4_4 rfl (kz := 10) rfl (lr_42_10 hLR) ?_
    refine x_iconst C dX12_meets_33 ?_
    refine x_iload_n C 2 dX12_meets_34 rfl rfl ?_
    refine x_imul C dX12_meets_35 ?_
    refine x_iconst C dX12_meets_36 ?_
    refine x_iadd C dX12_meets_37 ?_
    refine x_iald C 46 dX12_meets_38 (lt67 hn rfl) rfl (by refine ⟨?_, ?_⟩ <;> omega) (fun rg38 => ?_)
    refine x_icmp_gt C dX12_meets_39 (tgt := 92) (by decide) (by first | assumption | (constructor <;> omega)) (by first | assumption | (constructor <;> omega)) (fun h39 => ?_) (fun h39 => ?_)
    · skip
      refine x_iconst C dX12_meets_92 ?_
      refine x_zret C (Or.inl rfl) dX12_meets_93 ⟨bI_rf (by unfold meetP; omega), rfl⟩
    · skip
      refine x_aload_n C 0 dX12_meets_42 rfl rfl ?_
      refine x_getr C ok_Model 42 8 (d := 45) dX12_meets_43 (lt67 hn rfl) rfl (by decide) rfl q_4_3 rfl (kz := 8) rfl (lr_42_8 hLR) ?_
      refine x_iconst C dX12_meets_46 ?_
      refine x_iload_n C 1 dX12_meets_47 rfl rfl ?_
      refine x_imul C dX12_meets_48 ?_
      refine x_iconst C dX12_meets_49 ?_
      refine x_iadd C dX12_meets_50 ?_
      refine x_iald C 45 dX12_meets_51 (lt67 hn rfl) rfl (by refine ⟨?_, ?_⟩ <;> omega) (fun rg51 => ?_)
      refine x_aload_n C 0 dX12_meets_52 rfl rfl ?_
      refine x_getr C ok_Model 42 10 (d := 46) dX12_meets_53 (lt67 hn rfl) rfl (by decide) rfl q_4_4 rfl (kz := 10) rfl (lr_42_10 hLR) ?_
      refine x_iconst C dX12_meets_56 ?_
      refine x_iload_n C 2 dX12_meets_57 rfl rfl ?_
      refine x_imul C dX12_meets_58 ?_
      refine x_iconst C dX12_meets_59 ?_
      refine x_iadd C dX12_meets_60 ?_
      refine x_iald C 46 dX12_meets_61 (lt67 hn rfl) rfl (by refine ⟨?_, ?_⟩ <;> omega) (fun rg61 => ?_)
      refine x_icmp_lt C dX12_meets_62 (tgt := 92) (by decide) (by first | assumption | (constructor <;> omega)) (by first | assumption | (constructor <;> omega)) (fun h62 => ?_) (fun h62 => ?_)
      · skip
        refine x_iconst C dX12_meets_92 ?_
        refine x_zret C (Or.inl rfl) dX12_meets_93 ⟨bI_rf (by unfold meetP; omega), rfl⟩
      · skip
        refine x_aload_n C 0 dX12_meets_65 rfl rfl ?_
        refine x_getr C ok_Model 42 8 (d := 45) dX12_meets_66 (lt67 hn rfl) rfl (by decide) rfl q_4_3 rfl (kz := 8) rfl (lr_42_8 hLR) ?_
        refine x_iconst C dX12_meets_69 ?_
        refine x_iload_n C 1 dX12_meets_70 rfl rfl ?_
        refine x_imul C dX12_meets_71 ?_
        refine x_iconst C dX12_meets_72 ?_
        refine x_iadd C dX12_meets_73 ?_
        refine x_iald C 45 dX12_meets_74 (lt67 hn rfl) rfl (by refine ⟨?_, ?_⟩ <;> omega) (fun rg74 => ?_)
        refine x_aload_n C 0 dX12_meets_75 rfl rfl ?_
        refine x_getr C ok_Model 42 10 (d := 46) dX12_meets_76 (lt67 hn rfl) rfl (by decide) rfl q_4_4 rfl (kz := 10) rfl (lr_42_10 hLR) ?_
        refine x_iconst C dX12_meets_79 ?_
        refine x_iload_n C 2 dX12_meets_80 rfl rfl ?_
        refine x_imul C dX12_meets_81 ?_
        refine x_iconst C dX12_meets_82 ?_
        refine x_iadd C dX12_meets_83 ?_
        refine x_iald C 46 dX12_meets_84 (lt67 hn rfl) rfl (by refine ⟨?_, ?_⟩ <;> omega) (fun rg84 => ?_)
        refine x_icmp_lt C dX12_meets_85 (tgt := 92) (by decide) (by first | assumption | (constructor <;> omega)) (by first | assumption | (constructor <;> omega)) (fun h85 => ?_) (fun h85 => ?_)
        · skip
          refine x_iconst C dX12_meets_92 ?_
          refine x_zret C (Or.inl rfl) dX12_meets_93 ⟨bI_rf (by unfold meetP; omega), rfl⟩
        · skip
          refine x_iconst C dX12_meets_88 ?_
          refine x_goto C dX12_meets_89 (tgt := 93) (by decide) ?_
          refine x_zret C (Or.inr rfl) dX12_meets_93 ⟨bI_rt (by unfold meetP; omega), rfl⟩
set_option maxRecDepth 100000 in
set_option maxHeartbeats 4000000 in
theorem m_X12_gets : ∀ (d : Nat) (G : GS) (n : Nat) (V : Nat → Int → Int) (R : Nat → Int → Option Nat) (o : Int) (hn : 67 ≤ n) (hLR : LR R) (hd : untr V < d) (hnb : 0 ≤ V 42 7 ∧ V 42 7 ≤ 16) (hno : 0 ≤ V 42 9 ∧ V 42 9 ≤ 6) (ho : 0 ≤ o ∧ o < V 42 9) (hM : MatchOk V (V 56)), Cn G yX12_gets cX12_gets 3 (some .boolean) (rmk (d + 2) 0 0 (40 * (d + 1))) [.ref (aG G 42), .int (iI o)] n V R 0 0 (fun vv uu => ∃ (p : Prop), ∃ (V1 : Nat → Int → Int), vv = some (.int (iI (bI (p)))) ∧ uu = (n, V1, R) ∧ (FrG V V1) ∧ (monT V V1) ∧ ((p ∧ getsT V V1 o) ∨ (¬ p ∧ getsF V V1 o))) := by
  intro d
  induction d with
  | zero => intro G n V R o hn hLR hd hnb hno ho hM; exfalso; have := (untr_0 V hnb.1).1; omega
  | succ d ihR =>
    intro G n V R o hn hLR hd hnb hno ho hM
    refine Cn.of (by decide) (Nat.le_of_ble_eq_true rfl) (fun K C hct => ?_)
    show Xw K G 0 0 _ n V R 0 [(0, .ref (aG G 42)), (1, .int (iI o))] []
    refine x_iconst C dX12_gets_0 ?_
    refine x_istore_n C dX12_gets_1 rfl (by decide) (lv' := [(0, .ref (aG G 42)), (1, .int (iI o)), (2, .int (iI 0))]) rfl ?_
    have lp_2 : ∀ (fuel : Nat) (b : Int) (V2 : Nat → Int → Int), (0 ≤ b ∧ b ≤ V 42 7) → (FrG V V2) → (monT V V2) → (V2 56 = V 56) → (clos V V2) → (∀ c, 0 ≤ c → c < b → (-1 ≤ V 56 c ∧ meetP (V 45) (V 46) c o) → V2 57 c ≠ 0) → (V 42 7 - b) < (fuel : Int) → Xw K G 0 0 (EndQ K G 0 0 (fun vv uu => ∃ (p : Prop), ∃ (V1 : Nat → Int → Int), vv = some (.int (iI (bI (p)))) ∧ uu = (n, V1, R) ∧ (FrG V V1) ∧ (monT V V1) ∧ ((p ∧ getsT V V1 o) ∨ (¬ p ∧ getsF V V1 o)))) n V2 R 2 [(0, .ref (aG G 42)), (1, .int (iI o)), (2, .int (iI b))] [] := by
      intro fuel2
      induction fuel2 with
      | zero => intro b V2 hb hFV2 hmt h56 hc hdn hfu2; exfalso; omega
      | succ fuel2 ih2 =>
        intro b V2 hb hFV2 hmt h56 hc hdn hfu2
        have e42V2 : V2 42 = V 42 := hFV2 42 (by decide) (by decide)
        have e45V2 : V2 45 = V 45 := hFV2 45 (by decide) (by decide)
        have e46V2 : V2 46 = V 46 := hFV2 46 (by decide) (by decide)
        have e427V2 : V2 42 7 = V 42 7 := by rw [e42V2]
        refine x_iload_n C 2 dX12_gets_2 rfl rfl ?_
        refine x_aload_n C 0 dX12_gets_3 rfl rfl ?_
        refine x_geti C ok_Model 42 7 dX12_gets_4 (lt67 hn rfl) rfl (by decide) rfl q_40_4 rfl (kz := 7) rfl (fun rg4 => ?_)
        refine x_icmp_ge C dX12_gets_7 (tgt := 82) (by decide) (by first | assumption | (constructor <;> omega)) (by first | assumption | (constructor <;> omega)) (fun h7 => ?_) (fun h7 => ?_)
        · skip
          refine x_iconst C dX12_gets_82 ?_
          refine x_zret C (Or.inl rfl) dX12_gets_83 ⟨False, _, bI_rf id, rfl, ?_, ?_, ?_⟩
          · exact hFV2
          · exact hmt
          · exact Or.inr ⟨id, h56, fun c a b d e => hdn c a (by omega) ⟨d, e⟩, hc⟩
        · skip
          refine x_aload_n C 0 dX12_gets_10 rfl rfl ?_
          refine x_getr C ok_Model 42 34 (d := 56) dX12_gets_11 (lt67 hn rfl) rfl (by decide) rfl q_4_14 rfl (kz := 34) rfl (lr_42_34 hLR) ?_
          refine x_iload_n C 2 dX12_gets_14 rfl rfl ?_
          refine x_iald C 56 dX12_gets_15 (lt67 hn rfl) rfl (by refine ⟨?_, ?_⟩ <;> omega) (fun rg15 => ?_)
          refine x_top (b := (V 56 b)) (by rw [h56]) ?_
          have hr56 : Rg (V 56 b) := by rw [← h56]; exact rg15
          refine x_iconst C dX12_gets_16 ?_
          refine x_icmp_lt C dX12_gets_17 (tgt := 76) (by decide) (by first | assumption | (constructor <;> omega)) (by first | assumption | (constructor <;> omega)) (fun h17 => ?_) (fun h17 => ?_)
          · skip
            refine x_iinc C 2 dX12_gets_76 rfl (by decide) (lv' := [(0, .ref (aG G 42)), (1, .int (iI o)), (2, .int (iI (b + 1)))]) rfl ?_
            refine x_goto C dX12_gets_79 (tgt := 2) (by decide) ?_
            exact ih2 ((b + 1)) (V2) (by omega) (by first | exact hFV2 | exact hFV4) (by first | exact hmt | exact hmt.m.tr hm4) (by first | exact h56 | (rcases hT4 with ⟨q, -⟩ | ⟨-, q, -⟩; exact absurd q h64; (rw [q, u2_n (by decide), h56]))) (by first | exact hc | (rcases hT4 with ⟨q, -⟩ | ⟨-, q⟩; exact absurd q h64; exact gets_c hFV2 hmt h56 (by omega) h51 hc hm4 q)) (by first | exact gets_d (P := fun c => -1 ≤ V 56 c ∧ meetP (V 45) (V 46) c o) hdn monT.rf (fun q => by have := q.1; omega) | exact gets_d (P := fun c => -1 ≤ V 56 c ∧ meetP (V 45) (V 46) c o) hdn monT.rf (fun q => h26) | exact gets_d (P := fun c => -1 ≤ V 56 c ∧ meetP (V 45) (V 46) c o) hdn monT.rf (fun q => absurd (by rw [e45V2, e46V2]; exact q.2) h35) | exact gets_d (P := fun c => -1 ≤ V 56 c ∧ meetP (V 45) (V 46) c o) hdn (monT.rf.m.tr hm4) (fun _ => hm4 b (by rw [u2_s, u1_s]; decide))) (by omega)
          · skip
            refine x_aload_n C 0 dX12_gets_20 rfl rfl ?_
            refine x_getr C ok_Model 42 35 (d := 57) dX12_gets_21 (lt67 hn rfl) rfl (by decide) rfl q_4_16 rfl (kz := 35) rfl (lr_42_35 hLR) ?_
            refine x_iload_n C 2 dX12_gets_24 rfl rfl ?_
            refine x_zald C 57 dX12_gets_25 (lt67 hn rfl) rfl (by refine ⟨?_, ?_⟩ <;> omega) (fun rg25 => ?_)
            refine x_if_ne C dX12_gets_26 (tgt := 76) (by decide) (by first | assumption | (constructor <;> omega)) (fun h26 => ?_) (fun h26 => ?_)
            · skip
              refine x_iinc C 2 dX12_gets_76 rfl (by decide) (lv' := [(0, .ref (aG G 42)), (1, .int (iI o)), (2, .int (iI (b + 1)))]) rfl ?_
              refine x_goto C dX12_gets_79 (tgt := 2) (by decide) ?_
              exact ih2 ((b + 1)) (V2) (by omega) (by first | exact hFV2 | exact hFV4) (by first | exact hmt | exact hmt.m.tr hm4) (by first | exact h56 | (rcases hT4 with ⟨q, -⟩ | ⟨-, q, -⟩; exact absurd q h64; (rw [q, u2_n (by decide), h56]))) (by first | exact hc | (rcases hT4 with ⟨q, -⟩ | ⟨-, q⟩; exact absurd q h64; exact gets_c hFV2 hmt h56 (by omega) h51 hc hm4 q)) (by first | exact gets_d (P := fun c => -1 ≤ V 56 c ∧ meetP (V 45) (V 46) c o) hdn monT.rf (fun q => by have := q.1; omega) | exact gets_d (P := fun c => -1 ≤ V 56 c ∧ meetP (V 45) (V 46) c o) hdn monT.rf (fun q => h26) | exact gets_d (P := fun c => -1 ≤ V 56 c ∧ meetP (V 45) (V 46) c o) hdn monT.rf (fun q => absurd (by rw [e45V2, e46V2]; exact q.2) h35) | exact gets_d (P := fun c => -1 ≤ V 56 c ∧ meetP (V 45) (V 46) c o) hdn (monT.rf.m.tr hm4) (fun _ => hm4 b (by rw [u2_s, u1_s]; decide))) (by omega)
            · skip
              refine x_aload_n C 0 dX12_gets_29 rfl rfl ?_
              refine x_iload_n C 2 dX12_gets_30 rfl rfl ?_
              refine x_iload_n C 1 dX12_gets_31 rfl rfl ?_
              refine x_runU (r_callV C ok_Model 42 (lt67 hn rfl) rfl (ce_X12_meets) (m_X12_meets G n V2 R (b) (o) hn hLR (by first | assumption | omega | decide) (by first | assumption | omega | decide)) rfl dX12_gets_32 q_43_13 q_43_14 q_43_15 rfl rfl ⟨by show 1 + 1 ≤ (d + 1) + 2; omega, by show 8 + (3 + 11) + 16 ≤ 40 * (d + 1 + 1); omega⟩ ⟨rfl, rfl⟩ ⟨Nat.le_of_ble_eq_true rfl, Nat.le_of_ble_eq_true rfl⟩ (Nat.le_of_ble_eq_true rfl)) (fun v32 u32 hp32 => ?_)
              obtain ⟨rfl, rfl⟩ := hp32
              show Xw K G 0 0 _ n V2 R 35 [(0, .ref (aG G 42)), (1, .int (iI o)), (2, .int (iI b))] [.int (iI (bI (meetP (V2 45) (V2 46) b o)))]
              refine x_ifeq_b C dX12_gets_35 (tgt := 76) (by decide) (fun h35 => ?_) (fun h35 => ?_)
              · skip
                refine x_iinc C 2 dX12_gets_76 rfl (by decide) (lv' := [(0, .ref (aG G 42)), (1, .int (iI o)), (2, .int (iI (b + 1)))]) rfl ?_
                refine x_goto C dX12_gets_79 (tgt := 2) (by decide) ?_
                exact ih2 ((b + 1)) (V2) (by omega) (by first | exact hFV2 | exact hFV4) (by first | exact hmt | exact hmt.m.tr hm4) (by first | exact h56 | (rcases hT4 with ⟨q, -⟩ | ⟨-, q, -⟩; exact absurd q h64; (rw [q, u2_n (by decide), h56]))) (by first | exact hc | (rcases hT4 with ⟨q, -⟩ | ⟨-, q⟩; exact absurd q h64; exact gets_c hFV2 hmt h56 (by omega) h51 hc hm4 q)) (by first | exact gets_d (P := fun c => -1 ≤ V 56 c ∧ meetP (V 45) (V 46) c o) hdn monT.rf (fun q => by have := q.1; omega) | exact gets_d (P := fun c => -1 ≤ V 56 c ∧ meetP (V 45) (V 46) c o) hdn monT.rf (fun q => h26) | exact gets_d (P := fun c => -1 ≤ V 56 c ∧ meetP (V 45) (V 46) c o) hdn monT.rf (fun q => absurd (by rw [e45V2, e46V2]; exact q.2) h35) | exact gets_d (P := fun c => -1 ≤ V 56 c ∧ meetP (V 45) (V 46) c o) hdn (monT.rf.m.tr hm4) (fun _ => hm4 b (by rw [u2_s, u1_s]; decide))) (by omega)
              · skip
                refine x_aload_n C 0 dX12_gets_38 rfl rfl ?_
                refine x_getr C ok_Model 42 35 (d := 57) dX12_gets_39 (lt67 hn rfl) rfl (by decide) rfl q_4_16 rfl (kz := 35) rfl (lr_42_35 hLR) ?_
                refine x_iload_n C 2 dX12_gets_42 rfl rfl ?_
                refine x_iconst C dX12_gets_43 ?_
                refine x_zast C 57 dX12_gets_44 (lt67 hn rfl) rfl (by refine ⟨?_, ?_⟩ <;> omega) (by first | exact Or.inl rfl | exact Or.inr rfl | omega) ?_
                refine x_aload_n C 0 dX12_gets_45 rfl rfl ?_
                have hme : meetP (V 45) (V 46) b o := by rw [← e45V2, ← e46V2]; assumption
                refine x_getr C ok_Model 42 34 (d := 56) dX12_gets_46 (lt67 hn rfl) rfl (by decide) rfl q_4_14 rfl (kz := 34) rfl (lr_42_34 hLR) ?_
                refine x_iload_n C 2 dX12_gets_49 rfl rfl ?_
                refine x_iald C 56 dX12_gets_50 (lt67 hn rfl) rfl (by refine ⟨?_, ?_⟩ <;> omega) (fun rg50 => ?_)
                refine x_top (b := (V2 56 b)) (by first | rfl | (simp only [u2_at]; simp) | (simp only [u2_at]; first | (rw [if_neg (by omega)]) | omega)) ?_
                refine x_top (b := (V 56 b)) (by rw [h56]) ?_
                refine x_if_lt C dX12_gets_51 (tgt := 67) (by decide) (by first | assumption | (constructor <;> omega)) (fun h51 => ?_) (fun h51 => ?_)
                · skip
                  refine x_aload_n C 0 dX12_gets_67 rfl rfl ?_
                  refine x_getr C ok_Model 42 34 (d := 56) dX12_gets_68 (lt67 hn rfl) rfl (by decide) rfl q_4_14 rfl (kz := 34) rfl (lr_42_34 hLR) ?_
                  refine x_iload_n C 2 dX12_gets_71 rfl rfl ?_
                  refine x_iload_n C 1 dX12_gets_72 rfl rfl ?_
                  refine x_iast C 56 dX12_gets_73 (lt67 hn rfl) rfl (by refine ⟨?_, ?_⟩ <;> omega) (by first | assumption | (constructor <;> omega)) ?_
                  refine x_iconst C dX12_gets_74 ?_
                  refine x_zret C (Or.inr rfl) dX12_gets_75 ⟨True, _, bI_rt trivial, rfl, ?_, ?_, ?_⟩
                  · first | exact (hFV2.w (Or.inr rfl)).w (Or.inl rfl) | exact hFV4.w (Or.inl rfl)
                  · first | exact hmt.m.h | exact (hmt.m.tr hm4).h
                  · first | exact Or.inl ⟨trivial, gets_f hFV2 hmt h56 hM (by omega) ho h26 h17 (by omega) hme⟩ | (rcases hT4 with ⟨-, q⟩ | ⟨q, -⟩; exact Or.inl ⟨trivial, gets_t hFV2 hmt h56 hM (by omega) ho h26 h17 (by omega) hme q⟩; exact absurd h64 q)
                · skip
                  refine x_aload_n C 0 dX12_gets_54 rfl rfl ?_
                  refine x_aload_n C 0 dX12_gets_55 rfl rfl ?_
                  refine x_getr C ok_Model 42 34 (d := 56) dX12_gets_56 (lt67 hn rfl) rfl (by decide) rfl q_4_14 rfl (kz := 34) rfl (lr_42_34 hLR) ?_
                  refine x_iload_n C 2 dX12_gets_59 rfl rfl ?_
                  refine x_iald C 56 dX12_gets_60 (lt67 hn rfl) rfl (by refine ⟨?_, ?_⟩ <;> omega) (fun rg60 => ?_)
                  refine x_top (b := (V2 56 b)) (by first | rfl | (simp only [u2_at]; simp) | (simp only [u2_at]; first | (rw [if_neg (by omega)]) | omega)) ?_
                  refine x_top (b := (V 56 b)) (by rw [h56]) ?_
                  refine x_runU (r_callV C ok_Model 42 (lt67 hn rfl) rfl (ce_X12_gets) (ihR G n (u2 V2 57 b 1) R (V 56 b) hn hLR (by have := untr_lt (V := V) (V2 := V2) (b := b) (by rw [e42V2]) hmt (by omega) h26 (V3 := u2 V2 57 b 1) u2_s (by rw [u2_n (by decide), e42V2]); omega) (by rw [u2_n (by decide), e42V2]; exact hnb) (by rw [u2_n (by decide), e42V2]; exact hno) (by rw [u2_n (by decide), e42V2]; have := hM b (by omega) (by omega) h51; omega) (by unfold MatchOk; rw [u2_n (by decide), u2_n (by decide), u2_n (by decide), u2_n (by decide), e42V2, e45V2, e46V2, h56]; exact hM)) rfl dX12_gets_61 q_43_9 q_43_10 q_43_11 rfl rfl ⟨by show (d + 2) + 1 ≤ (d + 1) + 2; omega, by show 8 + (3 + 11) + 40 * (d + 1) ≤ 40 * (d + 1 + 1); omega⟩ ⟨rfl, rfl⟩ ⟨Nat.le_of_ble_eq_true rfl, Nat.le_of_ble_eq_true rfl⟩ (Nat.le_of_ble_eq_true rfl)) (fun v61 u61 hp61 => ?_)
                  obtain ⟨pr, V4, rfl, rfl, hF4, hm4, hT4⟩ := hp61
                  show Xw K G 0 0 _ n V4 R 64 [(0, .ref (aG G 42)), (1, .int (iI o)), (2, .int (iI b))] [.int (iI (bI (pr)))]
                  have hFV4 : FrG V V4 := (hFV2.w (Or.inr rfl)).tr hF4
                  refine x_ifeq_b C dX12_gets_64 (tgt := 76) (by decide) (fun h64 => ?_) (fun h64 => ?_)
                  · skip
                    refine x_iinc C 2 dX12_gets_76 rfl (by decide) (lv' := [(0, .ref (aG G 42)), (1, .int (iI o)), (2, .int (iI (b + 1)))]) rfl ?_
                    refine x_goto C dX12_gets_79 (tgt := 2) (by decide) ?_
                    exact ih2 ((b + 1)) (V4) (by omega) (by first | exact hFV2 | exact hFV4) (by first | exact hmt | exact hmt.m.tr hm4) (by first | exact h56 | (rcases hT4 with ⟨q, -⟩ | ⟨-, q, -⟩; exact absurd q h64; (rw [q, u2_n (by decide), h56]))) (by first | exact hc | (rcases hT4 with ⟨q, -⟩ | ⟨-, q⟩; exact absurd q h64; exact gets_c hFV2 hmt h56 (by omega) h51 hc hm4 q)) (by first | exact gets_d (P := fun c => -1 ≤ V 56 c ∧ meetP (V 45) (V 46) c o) hdn monT.rf (fun q => by have := q.1; omega) | exact gets_d (P := fun c => -1 ≤ V 56 c ∧ meetP (V 45) (V 46) c o) hdn monT.rf (fun q => h26) | exact gets_d (P := fun c => -1 ≤ V 56 c ∧ meetP (V 45) (V 46) c o) hdn monT.rf (fun q => absurd (by rw [e45V2, e46V2]; exact q.2) h35) | exact gets_d (P := fun c => -1 ≤ V 56 c ∧ meetP (V 45) (V 46) c o) hdn (monT.rf.m.tr hm4) (fun _ => hm4 b (by rw [u2_s, u1_s]; decide))) (by omega)
                  · skip
                    refine x_aload_n C 0 dX12_gets_67 rfl rfl ?_
                    refine x_getr C ok_Model 42 34 (d := 56) dX12_gets_68 (lt67 hn rfl) rfl (by decide) rfl q_4_14 rfl (kz := 34) rfl (lr_42_34 hLR) ?_
                    refine x_iload_n C 2 dX12_gets_71 rfl rfl ?_
                    refine x_iload_n C 1 dX12_gets_72 rfl rfl ?_
                    refine x_iast C 56 dX12_gets_73 (lt67 hn rfl) rfl (by refine ⟨?_, ?_⟩ <;> omega) (by first | assumption | (constructor <;> omega)) ?_
                    refine x_iconst C dX12_gets_74 ?_
                    refine x_zret C (Or.inr rfl) dX12_gets_75 ⟨True, _, bI_rt trivial, rfl, ?_, ?_, ?_⟩
                    · first | exact (hFV2.w (Or.inr rfl)).w (Or.inl rfl) | exact hFV4.w (Or.inl rfl)
                    · first | exact hmt.m.h | exact (hmt.m.tr hm4).h
                    · first | exact Or.inl ⟨trivial, gets_f hFV2 hmt h56 hM (by omega) ho h26 h17 (by omega) hme⟩ | (rcases hT4 with ⟨-, q⟩ | ⟨q, -⟩; exact Or.inl ⟨trivial, gets_t hFV2 hmt h56 hM (by omega) ho h26 h17 (by omega) hme q⟩; exact absurd h64 q)
    exact lp_2 ((V 42 7 - 0).toNat + 1) (0) (V) (by omega) (by exact FrG.rf) (by exact monT.rf) (by rfl) (by exact fun b _ _ h1 h2 => absurd h2 h1) (by exact fun c a b => by omega) (by omega)
set_option maxRecDepth 100000 in
set_option maxHeartbeats 4000000 in
theorem m_X12_can (G : GS) (n : Nat) (V : Nat → Int → Int) (R : Nat → Int → Option Nat) (w : Int) (hn : 67 ≤ n) (hLR : LR R) (hnb : 0 ≤ V 42 7 ∧ V 42 7 ≤ 16) (hno : 0 ≤ V 42 9 ∧ V 42 9 ≤ 6) : Cn G yX12_can cX12_can 4 (some .boolean) (rmk 20 0 0 742) [.ref (aG G 42), .int (iI w)] n V R 0 0 (fun vv uu => ∃ (p : Prop), ∃ (V1 : Nat → Int → Int), vv = some (.int (iI (bI (p)))) ∧ uu = (n, V1, R) ∧ (FrG V V1) ∧ (∀ b, 0 ≤ b → b < V 42 7 → (-1 ≤ V1 56 b ↔ -1 ≤ V 56 b)) ∧ (p ↔ canM V w)) := by
  refine Cn.of (by decide) (Nat.le_of_ble_eq_true rfl) (fun K C hct => ?_)
  show Xw K G 0 0 _ n V R 0 [(0, .ref (aG G 42)), (1, .int (iI w))] []
  refine x_iconst C dX12_can_0 ?_
  refine x_istore_n C dX12_can_1 rfl (by decide) (lv' := [(0, .ref (aG G 42)), (1, .int (iI w)), (2, .int (iI 0))]) rfl ?_
  have lp_2 : ∀ (fuel : Nat) (b : Int) (V2 : Nat → Int → Int), (0 ≤ b ∧ b ≤ V 42 7) → (FrG V V2) → (∀ b, 0 ≤ b → b < V 42 7 → (-1 ≤ V2 56 b ↔ -1 ≤ V 56 b)) → (∀ c, 0 ≤ c → c < b → V2 56 c ≤ -1) → (V 42 7 - b) < (fuel : Int) → Xw K G 0 0 (EndQ K G 0 0 (fun vv uu => ∃ (p : Prop), ∃ (V1 : Nat → Int → Int), vv = some (.int (iI (bI (p)))) ∧ uu = (n, V1, R) ∧ (FrG V V1) ∧ (∀ b, 0 ≤ b → b < V 42 7 → (-1 ≤ V1 56 b ↔ -1 ≤ V 56 b)) ∧ (p ↔ canM V w))) n V2 R 2 [(0, .ref (aG G 42)), (1, .int (iI w)), (2, .int (iI b))] [] := by
    intro fuel2
    induction fuel2 with
    | zero => intro b V2 hb hFV2 hA2 hlow hfu2; exfalso; omega
    | succ fuel2 ih2 =>
      intro b V2 hb hFV2 hA2 hlow hfu2
      have e42V2 : V2 42 = V 42 := hFV2 42 (by decide) (by decide)
      have e45V2 : V2 45 = V 45 := hFV2 45 (by decide) (by decide)
      have e46V2 : V2 46 = V 46 := hFV2 46 (by decide) (by decide)
      have e427V2 : V2 42 7 = V 42 7 := by rw [e42V2]
      have e429V2 : V2 42 9 = V 42 9 := by rw [e42V2]
      refine x_iload_n C 2 dX12_can_2 rfl rfl ?_
      refine x_aload_n C 0 dX12_can_3 rfl rfl ?_
      refine x_geti C ok_Model 42 7 dX12_can_4 (lt67 hn rfl) rfl (by decide) rfl q_40_4 rfl (kz := 7) rfl (fun rg4 => ?_)
      refine x_icmp_ge C dX12_can_7 (tgt := 32) (by decide) (by first | assumption | (constructor <;> omega)) (by first | assumption | (constructor <;> omega)) (fun h7 => ?_) (fun h7 => ?_)
      · skip
        refine x_iconst C dX12_can_32 ?_
        refine x_istore_n C dX12_can_33 rfl (by decide) (lv' := [(0, .ref (aG G 42)), (1, .int (iI w)), (2, .int (iI 0))]) rfl ?_
        have lp_34 : ∀ (fuel : Nat) (o : Int) (V3 : Nat → Int → Int), (0 ≤ o ∧ o ≤ V 42 9) → (FrG V V3) → (∀ b, 0 ≤ b → b < V 42 7 → (-1 ≤ V3 56 b ↔ -1 ≤ V 56 b)) → (MatchOk V (V3 56)) → (∀ y, 0 ≤ y → cntH (V3 56) (V 42 7) y = bI (y < o ∧ inS w y)) → (V 42 9 - o) < (fuel : Int) → Xw K G 0 0 (EndQ K G 0 0 (fun vv uu => ∃ (p : Prop), ∃ (V1 : Nat → Int → Int), vv = some (.int (iI (bI (p)))) ∧ uu = (n, V1, R) ∧ (FrG V V1) ∧ (∀ b, 0 ≤ b → b < V 42 7 → (-1 ≤ V1 56 b ↔ -1 ≤ V 56 b)) ∧ (p ↔ canM V w))) n V3 R 34 [(0, .ref (aG G 42)), (1, .int (iI w)), (2, .int (iI o))] [] := by
          intro fuel34
          induction fuel34 with
          | zero => intro o V3 ho hFV3 hA3 hM hcn hfu34; exfalso; omega
          | succ fuel34 ih34 =>
            intro o V3 ho hFV3 hA3 hM hcn hfu34
            have e42V3 : V3 42 = V 42 := hFV3 42 (by decide) (by decide)
            have e45V3 : V3 45 = V 45 := hFV3 45 (by decide) (by decide)
            have e46V3 : V3 46 = V 46 := hFV3 46 (by decide) (by decide)
            have e427V3 : V3 42 7 = V 42 7 := by rw [e42V3]
            have e429V3 : V3 42 9 = V 42 9 := by rw [e42V3]
            refine x_iload_n C 2 dX12_can_34 rfl rfl ?_
            refine x_aload_n C 0 dX12_can_35 rfl rfl ?_
            refine x_geti C ok_Model 42 9 dX12_can_36 (lt67 hn rfl) rfl (by decide) rfl q_41_4 rfl (kz := 9) rfl (fun rg36 => ?_)
            refine x_icmp_ge C dX12_can_39 (tgt := 90) (by decide) (by first | assumption | (constructor <;> omega)) (by first | assumption | (constructor <;> omega)) (fun h39 => ?_) (fun h39 => ?_)
            · skip
              refine x_iconst C dX12_can_90 ?_
              refine x_zret C (Or.inr rfl) dX12_can_91 ⟨True, _, bI_rt trivial, rfl, ?_, ?_, ?_⟩
              · exact hFV3
              · exact hA3
              · exact ⟨fun _ => can_t hnb.1 hA3 hM (by rw [show V 42 9 = o by omega]; exact hcn), fun _ => trivial⟩
            · skip
              refine x_iconst C dX12_can_42 ?_
              refine x_istore_n C dX12_can_43 rfl (by decide) (lv' := [(0, .ref (aG G 42)), (1, .int (iI w)), (2, .int (iI o)), (3, .int (iI 0))]) rfl ?_
              have lp_44 : ∀ (fuel : Nat) (b : Int) (V4 : Nat → Int → Int), (0 ≤ b ∧ b ≤ V 42 7) → (FrG V V4) → (V4 56 = V3 56) → (∀ c, 0 ≤ c → c < b → V4 57 c = 0) → (V 42 7 - b) < (fuel : Int) → Xw K G 0 0 (EndQ K G 0 0 (fun vv uu => ∃ (p : Prop), ∃ (V1 : Nat → Int → Int), vv = some (.int (iI (bI (p)))) ∧ uu = (n, V1, R) ∧ (FrG V V1) ∧ (∀ b, 0 ≤ b → b < V 42 7 → (-1 ≤ V1 56 b ↔ -1 ≤ V 56 b)) ∧ (p ↔ canM V w))) n V4 R 44 [(0, .ref (aG G 42)), (1, .int (iI w)), (2, .int (iI o)), (3, .int (iI b))] [] := by
                intro fuel44
                induction fuel44 with
                | zero => intro b V4 hb hFV4 h56 h57 hfu44; exfalso; omega
                | succ fuel44 ih44 =>
                  intro b V4 hb hFV4 h56 h57 hfu44
                  have e42V4 : V4 42 = V 42 := hFV4 42 (by decide) (by decide)
                  have e45V4 : V4 45 = V 45 := hFV4 45 (by decide) (by decide)
                  have e46V4 : V4 46 = V 46 := hFV4 46 (by decide) (by decide)
                  have e427V4 : V4 42 7 = V 42 7 := by rw [e42V4]
                  have e429V4 : V4 42 9 = V 42 9 := by rw [e42V4]
                  refine x_iload_n C 3 dX12_can_44 rfl rfl ?_
                  refine x_aload_n C 0 dX12_can_45 rfl rfl ?_
                  refine x_geti C ok_Model 42 7 dX12_can_46 (lt67 hn rfl) rfl (by decide) rfl q_40_4 rfl (kz := 7) rfl (fun rg46 => ?_)
                  refine x_icmp_ge C dX12_can_49 (tgt := 65) (by decide) (by first | assumption | (constructor <;> omega)) (by first | assumption | (constructor <;> omega)) (fun h49 => ?_) (fun h49 => ?_)
                  · skip
                    refine x_iload_n C 1 dX12_can_65 rfl rfl ?_
                    refine x_iload_n C 2 dX12_can_66 rfl rfl ?_
                    refine x_ishr C dX12_can_67 ?_
                    refine x_iconst C dX12_can_68 ?_
                    refine x_iand C dX12_can_69 ?_
                    refine x_iconst C dX12_can_70 ?_
                    refine x_icmp_ne C dX12_can_71 (tgt := 84) (by decide) (by first | exact zAnd_rg _ _ | (constructor <;> omega)) (by first | exact zAnd_rg _ _ | (constructor <;> omega)) (fun h71 => ?_) (fun h71 => ?_)
                    · skip
                      refine x_iinc C 2 dX12_can_84 rfl (by decide) (lv' := [(0, .ref (aG G 42)), (1, .int (iI w)), (2, .int (iI (o + 1))), (3, .int (iI b))]) rfl ?_
                      refine x_goto C dX12_can_87 (tgt := 34) (by decide) ?_
                      refine x_sub [0, 1, 2] (lv' := [(0, .ref (aG G 42)), (1, .int (iI w)), (2, .int (iI (o + 1)))]) rfl ?_
                      exact ih34 ((o + 1)) (V4) (by omega) (by first | exact hFV5 | exact hFV4) (by first | exact fun c a d => (can_A hFV4 h56 hA3 hT5 h79 c a d) | (rw [h56]; exact hA3)) (by first | exact can_M hFV4 hT5 h79 | (rw [h56]; exact hM)) (by first | exact can_c hFV4 h56 hcn hT5 h79 (by assumption) ho.1 | exact can_n h56 hcn (by assumption)) (by omega)
                    · skip
                      refine x_aload_n C 0 dX12_can_74 rfl rfl ?_
                      refine x_iload_n C 2 dX12_can_75 rfl rfl ?_
                      refine x_runU (r_callV C ok_Model 42 (lt67 hn rfl) rfl (ce_X12_gets) (m_X12_gets 17 G n V4 R (o) hn hLR (by have := (untr_0 V4 (by rw [e42V4]; exact hnb.1)).2; rw [e427V4] at this; omega) (by rw [e42V4]; exact hnb) (by rw [e42V4]; exact hno) (by rw [e42V4]; omega) (by unfold MatchOk; rw [e42V4, e45V4, e46V4, h56]; exact hM)) rfl dX12_can_76 q_43_9 q_43_10 q_43_11 rfl rfl ⟨Nat.le_of_ble_eq_true rfl, Nat.le_of_ble_eq_true rfl⟩ ⟨rfl, rfl⟩ ⟨Nat.le_of_ble_eq_true rfl, Nat.le_of_ble_eq_true rfl⟩ (Nat.le_of_ble_eq_true rfl)) (fun v76 u76 hp76 => ?_)
                      obtain ⟨pr, V5, rfl, rfl, hF5, hm5, hT5⟩ := hp76
                      show Xw K G 0 0 _ n V5 R 79 [(0, .ref (aG G 42)), (1, .int (iI w)), (2, .int (iI o)), (3, .int (iI b))] [.int (iI (bI (pr)))]
                      have hFV5 : FrG V V5 := hFV4.tr hF5
                      refine x_ifne_b C dX12_can_79 (tgt := 84) (by decide) (fun h79 => ?_) (fun h79 => ?_)
                      · skip
                        refine x_iinc C 2 dX12_can_84 rfl (by decide) (lv' := [(0, .ref (aG G 42)), (1, .int (iI w)), (2, .int (iI (o + 1))), (3, .int (iI b))]) rfl ?_
                        refine x_goto C dX12_can_87 (tgt := 34) (by decide) ?_
                        refine x_sub [0, 1, 2] (lv' := [(0, .ref (aG G 42)), (1, .int (iI w)), (2, .int (iI (o + 1)))]) rfl ?_
                        exact ih34 ((o + 1)) (V5) (by omega) (by first | exact hFV5 | exact hFV4) (by first | exact fun c a d => (can_A hFV4 h56 hA3 hT5 h79 c a d) | (rw [h56]; exact hA3)) (by first | exact can_M hFV4 hT5 h79 | (rw [h56]; exact hM)) (by first | exact can_c hFV4 h56 hcn hT5 h79 (by assumption) ho.1 | exact can_n h56 hcn (by assumption)) (by omega)
                      · skip
                        refine x_iconst C dX12_can_82 ?_
                        refine x_zret C (Or.inl rfl) dX12_can_83 ⟨False, _, bI_rf id, rfl, ?_, ?_, ?_⟩
                        · exact hFV5
                        · exact can_A2 hFV4 h56 hA3 hT5 h79
                        · exact ⟨False.elim, fun q => can_F3 hFV3 hnb.1 hA3 hM hcn (by omega) h71 hFV4 h56 (fun c a d => h57 c a (by omega)) hT5 h79 q⟩
                  · skip
                    refine x_aload_n C 0 dX12_can_52 rfl rfl ?_
                    refine x_getr C ok_Model 42 35 (d := 57) dX12_can_53 (lt67 hn rfl) rfl (by decide) rfl q_4_16 rfl (kz := 35) rfl (lr_42_35 hLR) ?_
                    refine x_iload_n C 3 dX12_can_56 rfl rfl ?_
                    refine x_iconst C dX12_can_57 ?_
                    refine x_zast C 57 dX12_can_58 (lt67 hn rfl) rfl (by refine ⟨?_, ?_⟩ <;> omega) (by first | exact Or.inl rfl | exact Or.inr rfl | omega) ?_
                    refine x_iinc C 3 dX12_can_59 rfl (by decide) (lv' := [(0, .ref (aG G 42)), (1, .int (iI w)), (2, .int (iI o)), (3, .int (iI (b + 1)))]) rfl ?_
                    refine x_goto C dX12_can_62 (tgt := 44) (by decide) ?_
                    exact ih44 ((b + 1)) ((u2 V4 57 b 0)) (by omega) (by exact hFV4.w (Or.inr rfl)) (by rw [u2_n (by decide)]; exact h56) (by exact fun c a d => by (rw [u2_s]; by_cases e : c = b; (rw [e, u1_s]); (rw [u1_n e]; exact h57 c a (by omega)))) (by omega)
              exact lp_44 ((V 42 7 - 0).toNat + 1) (0) (V3) (by omega) (by exact hFV3) (by rfl) (by exact fun c a b => by omega) (by omega)
        exact lp_34 ((V 42 9 - 0).toNat + 1) (0) (V2) (by omega) (by exact hFV2) (by exact hA2) (by exact fun c a d e => by have := hlow c a (by omega); omega) (by exact fun y hy => by (rw [bI_f (fun q => by omega)]; rcases (show cntH (V2 56) (V 42 7) y ≤ 0 ∨ 1 ≤ cntH (V2 56) (V 42 7) y by omega) with q | q; (have := cnt_nn (V2 56) (V 42 7) y hnb.1; omega); (obtain ⟨c, c1, c2, c3⟩ := cntH_ex hnb.1 q; have := hlow c c1 (by omega); omega))) (by omega)
      · skip
        refine x_aload_n C 0 dX12_can_10 rfl rfl ?_
        refine x_getr C ok_Model 42 34 (d := 56) dX12_can_11 (lt67 hn rfl) rfl (by decide) rfl q_4_14 rfl (kz := 34) rfl (lr_42_34 hLR) ?_
        refine x_iload_n C 2 dX12_can_14 rfl rfl ?_
        refine x_aload_n C 0 dX12_can_15 rfl rfl ?_
        refine x_getr C ok_Model 42 34 (d := 56) dX12_can_16 (lt67 hn rfl) rfl (by decide) rfl q_4_14 rfl (kz := 34) rfl (lr_42_34 hLR) ?_
        refine x_iload_n C 2 dX12_can_19 rfl rfl ?_
        refine x_iald C 56 dX12_can_20 (lt67 hn rfl) rfl (by refine ⟨?_, ?_⟩ <;> omega) (fun rg20 => ?_)
        refine x_iconst C dX12_can_21 ?_
        refine x_min C dX12_can_22 q_24_20 q_10_5 q_5_22 q_10_6 ⟨Nat.le_of_ble_eq_true rfl, Nat.le_of_ble_eq_true rfl⟩ ⟨Nat.zero_le _, Nat.zero_le _⟩ (by first | assumption | (constructor <;> omega)) (by first | assumption | (constructor <;> omega)) ?_
        refine x_iast C 56 dX12_can_25 (lt67 hn rfl) rfl (by refine ⟨?_, ?_⟩ <;> omega) (by first | assumption | (constructor <;> omega)) ?_
        refine x_iinc C 2 dX12_can_26 rfl (by decide) (lv' := [(0, .ref (aG G 42)), (1, .int (iI w)), (2, .int (iI (b + 1)))]) rfl ?_
        refine x_goto C dX12_can_29 (tgt := 2) (by decide) ?_
        exact ih2 ((b + 1)) ((u2 V2 56 b (min (V2 56 b) (-1)))) (by omega) (by exact hFV2.w (Or.inl rfl)) (by exact fun c a d => by (rw [u2_s]; by_cases e : c = b; (rw [e, u1_s, ← hA2 b (by omega) (by omega)]; omega); (rw [u1_n e]; exact hA2 c a d))) (by exact fun c a d => by (rw [u2_s]; by_cases e : c = b; (rw [e, u1_s]; omega); (rw [u1_n e]; exact hlow c a (by omega)))) (by omega)
  exact lp_2 ((V 42 7 - 0).toNat + 1) (0) (V) (by omega) (by exact FrG.rf) (by exact fun _ _ _ => Iff.rfl) (by exact fun c a b => by omega) (by omega)
set_option maxRecDepth 100000 in
set_option maxHeartbeats 4000000 in
theorem m_X12_clears (G : GS) (n : Nat) (V : Nat → Int → Int) (R : Nat → Int → Option Nat) (hn : 67 ≤ n) (hLR : LR R) : Cn G yX12_clears cX12_clears 2 none (rmk 1 0 0 16) [.ref (aG G 42)] n V R 0 0 (fun vv uu => ∃ (V1 : Nat → Int → Int), vv = none ∧ uu = (n, V1, R) ∧ (∀ q, q ≠ 56 → V1 q = V q) ∧ (∀ b, 0 ≤ b → b ≤ 15 → V1 56 b = -1)) := by
  refine Cn.of (by decide) (Nat.le_of_ble_eq_true rfl) (fun K C hct => ?_)
  show Xw K G 0 0 _ n V R 0 [(0, .ref (aG G 42))] []
  refine x_iconst C dX12_clears_0 ?_
  refine x_istore_n C dX12_clears_1 rfl (by decide) (lv' := [(0, .ref (aG G 42)), (1, .int (iI 0))]) rfl ?_
  have lp_2 : ∀ (fuel : Nat) (b : Int) (V2 : Nat → Int → Int), (0 ≤ b ∧ b ≤ 16) → (∀ q, q ≠ 56 → V2 q = V q) → (∀ c, 0 ≤ c → c < b → V2 56 c = -1) → ((16 : Int) - b) < (fuel : Int) → Xw K G 0 0 (EndQ K G 0 0 (fun vv uu => ∃ (V1 : Nat → Int → Int), vv = none ∧ uu = (n, V1, R) ∧ (∀ q, q ≠ 56 → V1 q = V q) ∧ (∀ b, 0 ≤ b → b ≤ 15 → V1 56 b = -1))) n V2 R 2 [(0, .ref (aG G 42)), (1, .int (iI b))] [] := by
    intro fuel2
    induction fuel2 with
    | zero => intro b V2 hb hF hc hfu2; exfalso; omega
    | succ fuel2 ih2 =>
      intro b V2 hb hF hc hfu2
      refine x_iload_n C 1 dX12_clears_2 rfl rfl ?_
      refine x_bipush C dX12_clears_3 (w := 16) (by decide) ?_
      refine x_icmp_ge C dX12_clears_5 (tgt := 21) (by decide) (by first | assumption | (constructor <;> omega)) (by first | assumption | (constructor <;> omega)) (fun h5 => ?_) (fun h5 => ?_)
      · skip
        refine x_vret C dX12_clears_21 ⟨_, rfl, rfl, ?_, ?_⟩
        · exact hF
        · exact fun b a c => hc b a (by omega)
      · skip
        refine x_aload_n C 0 dX12_clears_8 rfl rfl ?_
        refine x_getr C ok_Model 42 34 (d := 56) dX12_clears_9 (lt67 hn rfl) rfl (by decide) rfl q_4_14 rfl (kz := 34) rfl (lr_42_34 hLR) ?_
        refine x_iload_n C 1 dX12_clears_12 rfl rfl ?_
        refine x_iconst C dX12_clears_13 ?_
        refine x_iast C 56 dX12_clears_14 (lt67 hn rfl) rfl (by refine ⟨?_, ?_⟩ <;> omega) (by first | assumption | (constructor <;> omega)) ?_
        refine x_iinc C 1 dX12_clears_15 rfl (by decide) (lv' := [(0, .ref (aG G 42)), (1, .int (iI (b + 1)))]) rfl ?_
        refine x_goto C dX12_clears_18 (tgt := 2) (by decide) ?_
        exact ih2 ((b + 1)) ((u2 V2 56 b (-1))) (by omega) (by exact fun q h => by rw [u2_n h]; exact hF q h) (by exact fun c a d => by (rw [u2_s]; by_cases e : c = b; (rw [e, u1_s]); (rw [u1_n e]; exact hc c a (by omega)))) (by omega)
  exact lp_2 (((16 : Int) - 0).toNat + 1) (0) (V) (by omega) (by exact fun _ _ => rfl) (by exact fun c a b => by omega) (by omega)
set_option maxRecDepth 100000 in
set_option maxHeartbeats 4000000 in
theorem m_X12_metOnes (G : GS) (n : Nat) (V : Nat → Int → Int) (R : Nat → Int → Option Nat) (hn : 67 ≤ n) (hLR : LR R) (hnb : 0 ≤ V 42 7 ∧ V 42 7 ≤ 16) (hno : 0 ≤ V 42 9 ∧ V 42 9 ≤ 6) : Cn G yX12_metOnes cX12_metOnes 3 (some .int) (rmk 21 0 0 765) [.ref (aG G 42)] n V R 0 0 (fun vv uu => ∃ (V1 : Nat → Int → Int), vv = some (.int (iI (gsS (canF V) (V 42 9)))) ∧ uu = (n, V1, R) ∧ (FrG V V1)) := by
  refine Cn.of (by decide) (Nat.le_of_ble_eq_true rfl) (fun K C hct => ?_)
  show Xw K G 0 0 _ n V R 0 [(0, .ref (aG G 42))] []
  refine x_aload_n C 0 dX12_metOnes_0 rfl rfl ?_
  refine x_runU (r_callV C ok_Model 42 (lt67 hn rfl) rfl (ce_X12_clears) (m_X12_clears G n V R hn hLR) rfl dX12_metOnes_1 q_43_1 q_43_2 q_43_3 rfl rfl ⟨Nat.le_of_ble_eq_true rfl, Nat.le_of_ble_eq_true rfl⟩ ⟨rfl, rfl⟩ ⟨Nat.le_of_ble_eq_true rfl, Nat.le_of_ble_eq_true rfl⟩ (Nat.le_of_ble_eq_true rfl)) (fun v1 u1 hp1 => ?_)
  obtain ⟨Va, rfl, rfl, hfc, hmc⟩ := hp1
  show Xw K G 0 0 _ n Va R 4 [(0, .ref (aG G 42))] []
  have hFVa : FrG V Va := fun q a b => hfc q a
  refine x_iconst C dX12_metOnes_4 ?_
  refine x_istore_n C dX12_metOnes_5 rfl (by decide) (lv' := [(0, .ref (aG G 42)), (1, .int (iI 0))]) rfl ?_
  refine x_iconst C dX12_metOnes_6 ?_
  refine x_istore_n C dX12_metOnes_7 rfl (by decide) (lv' := [(0, .ref (aG G 42)), (1, .int (iI 0)), (2, .int (iI 0))]) rfl ?_
  have lp_8 : ∀ (fuel : Nat) (q : Int) (o : Int) (V2 : Nat → Int → Int), (0 ≤ o ∧ o ≤ V 42 9) → (q = gsS (canF V) o) → (FrG V V2) → (∀ b, 0 ≤ b → b < V 42 7 → -1 ≤ V2 56 b) → (V 42 9 - o) < (fuel : Int) → Xw K G 0 0 (EndQ K G 0 0 (fun vv uu => ∃ (V1 : Nat → Int → Int), vv = some (.int (iI (gsS (canF V) (V 42 9)))) ∧ uu = (n, V1, R) ∧ (FrG V V1))) n V2 R 8 [(0, .ref (aG G 42)), (1, .int (iI q)), (2, .int (iI o))] [] := by
    intro fuel8
    induction fuel8 with
    | zero => intro q o V2 ho hq hFV2 hav hfu8; exfalso; omega
    | succ fuel8 ih8 =>
      intro q o V2 ho hq hFV2 hav hfu8
      have e42V2 : V2 42 = V 42 := hFV2 42 (by decide) (by decide)
      have e45V2 : V2 45 = V 45 := hFV2 45 (by decide) (by decide)
      have e46V2 : V2 46 = V 46 := hFV2 46 (by decide) (by decide)
      have e427V2 : V2 42 7 = V 42 7 := by rw [e42V2]
      have e429V2 : V2 42 9 = V 42 9 := by rw [e42V2]
      refine x_iload_n C 2 dX12_metOnes_8 rfl rfl ?_
      refine x_aload_n C 0 dX12_metOnes_9 rfl rfl ?_
      refine x_geti C ok_Model 42 9 dX12_metOnes_10 (lt67 hn rfl) rfl (by decide) rfl q_41_4 rfl (kz := 9) rfl (fun rg10 => ?_)
      refine x_icmp_ge C dX12_metOnes_13 (tgt := 44) (by decide) (by first | assumption | (constructor <;> omega)) (by first | assumption | (constructor <;> omega)) (fun h13 => ?_) (fun h13 => ?_)
      · skip
        refine x_iload_n C 1 dX12_metOnes_44 rfl rfl ?_
        refine x_iret C dX12_metOnes_45 ⟨_, congrArg (fun z => some (Value.int (iI z))) (by rw [hq, show V 42 9 = o by omega]), rfl, ?_⟩
        · exact hFV2
      · skip
        refine x_iload_n C 1 dX12_metOnes_16 rfl rfl ?_
        refine x_aload_n C 0 dX12_metOnes_17 rfl rfl ?_
        refine x_iload_n C 1 dX12_metOnes_18 rfl rfl ?_
        refine x_iconst C dX12_metOnes_19 ?_
        refine x_iload_n C 2 dX12_metOnes_20 rfl rfl ?_
        refine x_ishl C dX12_metOnes_21 ?_
        refine x_ior C dX12_metOnes_22 ?_
        refine x_runU (r_callV C ok_Model 42 (lt67 hn rfl) rfl (ce_X12_can) (m_X12_can G n V2 R (zOr q (zShl 1 o)) hn hLR (by rw [e42V2]; exact hnb) (by rw [e42V2]; exact hno)) rfl dX12_metOnes_23 q_43_5 q_43_6 q_43_7 rfl rfl ⟨Nat.le_of_ble_eq_true rfl, Nat.le_of_ble_eq_true rfl⟩ ⟨rfl, rfl⟩ ⟨Nat.le_of_ble_eq_true rfl, Nat.le_of_ble_eq_true rfl⟩ (Nat.le_of_ble_eq_true rfl)) (fun v23 u23 hp23 => ?_)
        obtain ⟨pr, V3, rfl, rfl, hf3, hA3, hp3⟩ := hp23
        show Xw K G 0 0 _ n V3 R 26 [(0, .ref (aG G 42)), (1, .int (iI q)), (2, .int (iI o))] [.int (iI (bI (pr))), .int (iI q)]
        have hFV3 : FrG V V3 := hFV2.tr hf3
        have hav3 : ∀ b, 0 ≤ b → b < V 42 7 → -1 ≤ V3 56 b := fun b a c => (hA3 b a (by rw [e42V2]; exact c)).mpr (hav b a c)
        rw [canF_c hFV2 hav] at hp3
        refine x_ifeq_b C dX12_metOnes_26 (tgt := 35) (by decide) (fun h26 => ?_) (fun h26 => ?_)
        · skip
          refine x_iconst C dX12_metOnes_35 ?_
          refine x_ior C dX12_metOnes_36 ?_
          refine x_istore_n C dX12_metOnes_37 rfl (by decide) (lv' := [(0, .ref (aG G 42)), (1, .int (iI (zOr q 0))), (2, .int (iI o))]) rfl ?_
          refine x_iinc C 2 dX12_metOnes_38 rfl (by decide) (lv' := [(0, .ref (aG G 42)), (1, .int (iI (zOr q 0))), (2, .int (iI (o + 1)))]) rfl ?_
          refine x_goto C dX12_metOnes_41 (tgt := 8) (by decide) ?_
          exact ih8 ((zOr q 0)) ((o + 1)) (V3) (by omega) (by rw [gsS_s ho.1, ← hq]; first | rw [cif_t (hp3.mp h26)] | rw [cif_f (fun z => h26 (hp3.mpr z))]) (by exact hFV3) (by exact hav3) (by omega)
        · skip
          refine x_iconst C dX12_metOnes_29 ?_
          refine x_iload_n C 2 dX12_metOnes_30 rfl rfl ?_
          refine x_ishl C dX12_metOnes_31 ?_
          refine x_goto C dX12_metOnes_32 (tgt := 36) (by decide) ?_
          refine x_ior C dX12_metOnes_36 ?_
          refine x_istore_n C dX12_metOnes_37 rfl (by decide) (lv' := [(0, .ref (aG G 42)), (1, .int (iI (zOr q (zShl 1 o)))), (2, .int (iI o))]) rfl ?_
          refine x_iinc C 2 dX12_metOnes_38 rfl (by decide) (lv' := [(0, .ref (aG G 42)), (1, .int (iI (zOr q (zShl 1 o)))), (2, .int (iI (o + 1)))]) rfl ?_
          refine x_goto C dX12_metOnes_41 (tgt := 8) (by decide) ?_
          exact ih8 ((zOr q (zShl 1 o))) ((o + 1)) (V3) (by omega) (by rw [gsS_s ho.1, ← hq]; first | rw [cif_t (hp3.mp h26)] | rw [cif_f (fun z => h26 (hp3.mpr z))]) (by exact hFV3) (by exact hav3) (by omega)
  exact lp_8 ((V 42 9 - 0).toNat + 1) (0) (0) (Va) (by omega) (by rfl) (by exact hFVa) (by exact fun b a c => by rw [hmc b a (by omega)]; decide) (by omega)
set_option maxRecDepth 100000 in
set_option maxHeartbeats 4000000 in
theorem m_X12_met (G : GS) (n : Nat) (V : Nat → Int → Int) (R : Nat → Int → Option Nat) (w : Int) (hn : 67 ≤ n) (hLR : LR R) (gw : Rg w) (hnb : 0 ≤ V 42 7 ∧ V 42 7 ≤ 16) (hno : 0 ≤ V 42 9 ∧ V 42 9 ≤ 6) : Cn G yX12_met cX12_met 6 (some .int) (rmk 22 0 0 787) [.ref (aG G 42), .int (iI w)] n V R 0 0 (fun vv uu => ∃ (r : Int), ∃ (V1 : Nat → Int → Int), vv = some (.int (iI r)) ∧ uu = (n, V1, R) ∧ (FrG V V1) ∧ ((¬ (0 ≤ w ∧ w ≤ 1) ∧ r = -2) ∨ (w = 0 ∧ r = gsS (canF V) (V 42 9)) ∨ (w = 1 ∧ r = metB V))) := by
  refine Cn.of (by decide) (Nat.le_of_ble_eq_true rfl) (fun K C hct => ?_)
  show Xw K G 0 0 _ n V R 0 [(0, .ref (aG G 42)), (1, .int (iI w))] []
  refine x_iload_n C 1 dX12_met_0 rfl rfl ?_
  refine x_i2l C dX12_met_1 (by first | assumption | (constructor <;> omega)) ?_
  refine x_lconst C dX12_met_2 (w := 0) (by decide) ?_
  refine x_lconst C dX12_met_3 (w := 1) (by decide) ?_
  refine x_runU (r_callS C (ce_X12_in) (m_X12_in G n V R (w) (0) (1) (by first | assumption | omega | decide) (by first | assumption | omega | decide) (by first | assumption | omega | decide)) dX12_met_4 q_6_15 q_6_16 rfl rfl ⟨Nat.le_of_ble_eq_true rfl, Nat.le_of_ble_eq_true rfl⟩ ⟨rfl, rfl⟩ ⟨Nat.le_of_ble_eq_true rfl, Nat.le_of_ble_eq_true rfl⟩ (Nat.le_of_ble_eq_true rfl)) (fun v4 u4 hp4 => ?_)
  obtain ⟨rfl, rfl⟩ := hp4
  show Xw K G 0 0 _ n V R 7 [(0, .ref (aG G 42)), (1, .int (iI w))] [.int (iI (bI (0 ≤ w ∧ w ≤ 1)))]
  refine x_ifne_b C dX12_met_7 (tgt := 13) (by decide) (fun h7 => ?_) (fun h7 => ?_)
  · skip
    refine x_iload_n C 1 dX12_met_13 rfl rfl ?_
    refine x_if_ne C dX12_met_14 (tgt := 22) (by decide) (by first | assumption | (constructor <;> omega)) (fun h14 => ?_) (fun h14 => ?_)
    · skip
      refine x_iconst C dX12_met_22 ?_
      refine x_istore_n C dX12_met_23 rfl (by decide) (lv' := [(0, .ref (aG G 42)), (1, .int (iI w)), (2, .int (iI 0))]) rfl ?_
      refine x_iconst C dX12_met_24 ?_
      refine x_istore_n C dX12_met_25 rfl (by decide) (lv' := [(0, .ref (aG G 42)), (1, .int (iI w)), (2, .int (iI 0)), (3, .int (iI 0))]) rfl ?_
      have lp_26 : ∀ (fuel : Nat) (q : Int) (b : Int), (0 ≤ b ∧ b ≤ V 42 7) → (q = sm (fun b => bI (∃ o, 0 ≤ o ∧ o < V 42 9 ∧ meetP (V 45) (V 46) b o)) b) → (V 42 7 - b) < (fuel : Int) → Xw K G 0 0 (EndQ K G 0 0 (fun vv uu => ∃ (r : Int), ∃ (V1 : Nat → Int → Int), vv = some (.int (iI r)) ∧ uu = (n, V1, R) ∧ (FrG V V1) ∧ ((¬ (0 ≤ w ∧ w ≤ 1) ∧ r = -2) ∨ (w = 0 ∧ r = gsS (canF V) (V 42 9)) ∨ (w = 1 ∧ r = metB V)))) n V R 26 [(0, .ref (aG G 42)), (1, .int (iI w)), (2, .int (iI q)), (3, .int (iI b))] [] := by
        intro fuel26
        induction fuel26 with
        | zero => intro q b hb hq hfu26; exfalso; omega
        | succ fuel26 ih26 =>
          intro q b hb hq hfu26
          have hqb := sm_b (f := fun b => bI (∃ o, 0 ≤ o ∧ o < V 42 9 ∧ meetP (V 45) (V 46) b o)) (A := 1) hb.1 (fun i _ _ => bI_b _)
          refine x_iload_n C 3 dX12_met_26 rfl rfl ?_
          refine x_aload_n C 0 dX12_met_27 rfl rfl ?_
          refine x_geti C ok_Model 42 7 dX12_met_28 (lt67 hn rfl) rfl (by decide) rfl q_40_4 rfl (kz := 7) rfl (fun rg28 => ?_)
          refine x_icmp_ge C dX12_met_31 (tgt := 86) (by decide) (by first | assumption | (constructor <;> omega)) (by first | assumption | (constructor <;> omega)) (fun h31 => ?_) (fun h31 => ?_)
          · skip
            refine x_iload_n C 2 dX12_met_86 rfl rfl ?_
            refine x_iret C dX12_met_87 ⟨_, _, rfl, rfl, ?_, ?_⟩
            · exact FrG.rf
            · exact Or.inr (Or.inr ⟨by omega, by rw [hq]; unfold metB; rw [show V 42 7 = b by omega]⟩)
          · skip
            refine x_iconst C dX12_met_34 ?_
            refine x_istore C dX12_met_35 (by decide) (lv' := [(0, .ref (aG G 42)), (1, .int (iI w)), (2, .int (iI q)), (3, .int (iI b)), (4, .int (iI 0))]) rfl ?_
            refine x_iconst C dX12_met_37 ?_
            refine x_istore C dX12_met_38 (by decide) (lv' := [(0, .ref (aG G 42)), (1, .int (iI w)), (2, .int (iI q)), (3, .int (iI b)), (4, .int (iI 0)), (5, .int (iI 0))]) rfl ?_
            have lp_40 : ∀ (fuel : Nat) (e : Int) (o : Int), (0 ≤ o ∧ o ≤ V 42 9) → (e = 0 ∨ e = 1) → (e ≠ 0 ↔ ∃ o1, 0 ≤ o1 ∧ o1 < o ∧ meetP (V 45) (V 46) b o1) → (V 42 9 - o) < (fuel : Int) → Xw K G 0 0 (EndQ K G 0 0 (fun vv uu => ∃ (r : Int), ∃ (V1 : Nat → Int → Int), vv = some (.int (iI r)) ∧ uu = (n, V1, R) ∧ (FrG V V1) ∧ ((¬ (0 ≤ w ∧ w ≤ 1) ∧ r = -2) ∨ (w = 0 ∧ r = gsS (canF V) (V 42 9)) ∨ (w = 1 ∧ r = metB V)))) n V R 40 [(0, .ref (aG G 42)), (1, .int (iI w)), (2, .int (iI q)), (3, .int (iI b)), (4, .int (iI e)), (5, .int (iI o))] [] := by
              intro fuel40
              induction fuel40 with
              | zero => intro e o ho he01 he hfu40; exfalso; omega
              | succ fuel40 ih40 =>
                intro e o ho he01 he hfu40
                refine x_iload C 5 dX12_met_40 rfl ?_
                refine x_aload_n C 0 dX12_met_42 rfl rfl ?_
                refine x_geti C ok_Model 42 9 dX12_met_43 (lt67 hn rfl) rfl (by decide) rfl q_41_4 rfl (kz := 9) rfl (fun rg43 => ?_)
                refine x_icmp_ge C dX12_met_46 (tgt := 67) (by decide) (by first | assumption | (constructor <;> omega)) (by first | assumption | (constructor <;> omega)) (fun h46 => ?_) (fun h46 => ?_)
                · skip
                  refine x_iload_n C 2 dX12_met_67 rfl rfl ?_
                  refine x_iload C 4 dX12_met_68 rfl ?_
                  refine x_if_eq C dX12_met_70 (tgt := 77) (by decide) (by first | assumption | (constructor <;> omega)) (fun h70 => ?_) (fun h70 => ?_)
                  · skip
                    refine x_iconst C dX12_met_77 ?_
                    refine x_iadd C dX12_met_78 ?_
                    refine x_istore_n C dX12_met_79 rfl (by decide) (lv' := [(0, .ref (aG G 42)), (1, .int (iI w)), (2, .int (iI (q + 0))), (3, .int (iI b)), (4, .int (iI e)), (5, .int (iI o))]) rfl ?_
                    refine x_iinc C 3 dX12_met_80 rfl (by decide) (lv' := [(0, .ref (aG G 42)), (1, .int (iI w)), (2, .int (iI (q + 0))), (3, .int (iI (b + 1))), (4, .int (iI e)), (5, .int (iI o))]) rfl ?_
                    refine x_goto C dX12_met_83 (tgt := 26) (by decide) ?_
                    refine x_sub [0, 1, 2, 3] (lv' := [(0, .ref (aG G 42)), (1, .int (iI w)), (2, .int (iI (q + 0))), (3, .int (iI (b + 1)))]) rfl ?_
                    exact ih26 ((q + 0)) ((b + 1)) (by omega) (by first | exact sm_st hb.1 hq (bI_t (by have := he.mp (by omega); rw [show V 42 9 = o by omega]; exact this)).symm | exact sm_st hb.1 hq (bI_f (fun z => by rw [show V 42 9 = o by omega] at z; have := he.mpr z; omega)).symm) (by omega)
                  · skip
                    refine x_iconst C dX12_met_73 ?_
                    refine x_goto C dX12_met_74 (tgt := 78) (by decide) ?_
                    refine x_iadd C dX12_met_78 ?_
                    refine x_istore_n C dX12_met_79 rfl (by decide) (lv' := [(0, .ref (aG G 42)), (1, .int (iI w)), (2, .int (iI (q + 1))), (3, .int (iI b)), (4, .int (iI e)), (5, .int (iI o))]) rfl ?_
                    refine x_iinc C 3 dX12_met_80 rfl (by decide) (lv' := [(0, .ref (aG G 42)), (1, .int (iI w)), (2, .int (iI (q + 1))), (3, .int (iI (b + 1))), (4, .int (iI e)), (5, .int (iI o))]) rfl ?_
                    refine x_goto C dX12_met_83 (tgt := 26) (by decide) ?_
                    refine x_sub [0, 1, 2, 3] (lv' := [(0, .ref (aG G 42)), (1, .int (iI w)), (2, .int (iI (q + 1))), (3, .int (iI (b + 1)))]) rfl ?_
                    exact ih26 ((q + 1)) ((b + 1)) (by omega) (by first | exact sm_st hb.1 hq (bI_t (by have := he.mp (by omega); rw [show V 42 9 = o by omega]; exact this)).symm | exact sm_st hb.1 hq (bI_f (fun z => by rw [show V 42 9 = o by omega] at z; have := he.mpr z; omega)).symm) (by omega)
                · skip
                  refine x_iload C 4 dX12_met_49 rfl ?_
                  refine x_aload_n C 0 dX12_met_51 rfl rfl ?_
                  refine x_iload_n C 3 dX12_met_52 rfl rfl ?_
                  refine x_iload C 5 dX12_met_53 rfl ?_
                  refine x_runU (r_callV C ok_Model 42 (lt67 hn rfl) rfl (ce_X12_meets) (m_X12_meets G n V R (b) (o) hn hLR (by first | assumption | omega | decide) (by first | assumption | omega | decide)) rfl dX12_met_55 q_43_13 q_43_14 q_43_15 rfl rfl ⟨Nat.le_of_ble_eq_true rfl, Nat.le_of_ble_eq_true rfl⟩ ⟨rfl, rfl⟩ ⟨Nat.le_of_ble_eq_true rfl, Nat.le_of_ble_eq_true rfl⟩ (Nat.le_of_ble_eq_true rfl)) (fun v55 u55 hp55 => ?_)
                  obtain ⟨rfl, rfl⟩ := hp55
                  show Xw K G 0 0 _ n V R 58 [(0, .ref (aG G 42)), (1, .int (iI w)), (2, .int (iI q)), (3, .int (iI b)), (4, .int (iI e)), (5, .int (iI o))] [.int (iI (bI (meetP (V 45) (V 46) b o))), .int (iI e)]
                  refine x_ior C dX12_met_58 ?_
                  refine x_istore C dX12_met_59 (by decide) (lv' := [(0, .ref (aG G 42)), (1, .int (iI w)), (2, .int (iI q)), (3, .int (iI b)), (4, .int (iI (zOr e (bI (meetP (V 45) (V 46) b o))))), (5, .int (iI o))]) rfl ?_
                  refine x_iinc C 5 dX12_met_61 rfl (by decide) (lv' := [(0, .ref (aG G 42)), (1, .int (iI w)), (2, .int (iI q)), (3, .int (iI b)), (4, .int (iI (zOr e (bI (meetP (V 45) (V 46) b o))))), (5, .int (iI (o + 1)))]) rfl ?_
                  refine x_goto C dX12_met_64 (tgt := 40) (by decide) ?_
                  exact ih40 ((zOr e (bI (meetP (V 45) (V 46) b o)))) ((o + 1)) (by omega) (by exact zOr_b he01) (by exact met_s he01 ho.1 he) (by omega)
            exact lp_40 ((V 42 9 - 0).toNat + 1) (0) (0) (by omega) (by omega) (by exact ⟨fun h => absurd rfl h, fun ⟨o1, a, b, _⟩ => by omega⟩) (by omega)
      exact lp_26 ((V 42 7 - 0).toNat + 1) (0) (0) (by omega) (by rfl) (by omega)
    · skip
      refine x_aload_n C 0 dX12_met_17 rfl rfl ?_
      refine x_runU (r_callV C ok_Model 42 (lt67 hn rfl) rfl (ce_X12_metOnes) (m_X12_metOnes G n V R hn hLR (by first | assumption | omega | decide) (by first | assumption | omega | decide)) rfl dX12_met_18 q_42_21 q_42_22 q_42_23 rfl rfl ⟨Nat.le_of_ble_eq_true rfl, Nat.le_of_ble_eq_true rfl⟩ ⟨rfl, rfl⟩ ⟨Nat.le_of_ble_eq_true rfl, Nat.le_of_ble_eq_true rfl⟩ (Nat.le_of_ble_eq_true rfl)) (fun v18 u18 hp18 => ?_)
      obtain ⟨V2, rfl, rfl, hF2⟩ := hp18
      show Xw K G 0 0 _ n V2 R 21 [(0, .ref (aG G 42)), (1, .int (iI w))] [.int (iI (gsS (canF V) (V 42 9)))]
      refine x_iret C dX12_met_21 ⟨_, _, rfl, rfl, ?_, ?_⟩
      · exact hF2
      · exact Or.inr (Or.inl ⟨by omega, rfl⟩)
  · skip
    refine x_bipush C dX12_met_10 (w := -2) (by decide) ?_
    refine x_iret C dX12_met_12 ⟨_, _, rfl, rfl, ?_, ?_⟩
    · first | exact FrG.rf | exact Or.inl ⟨by omega, rfl⟩
    · first | exact FrG.rf | exact Or.inl ⟨by omega, rfl⟩
