theorem begins_x {r t y s w k q : Int} (hq : fcS r t y k s ≤ q ∧ q ≤ max (fcS r t y k s) (fwS r t w s)) (h : 6 ≤ q) : q = max (fcS r t y k s) (fwS r t w s) := by
  have h1 := fcS_b r t y k s
  have h2 := (fwS_sp r t w s).1
  omega
theorem begins_w {r t y s w k q : Int} (hq : fcS r t y k s ≤ q ∧ q ≤ max (fcS r t y k s) (fwS r t w s)) (h : q < 6) (hw : woodP r t q w s) : q = max (fcS r t y k s) (fwS r t w s) := by
  have h1 := fcS_b r t y k s
  obtain ⟨h2, h3, h4⟩ := fwS_sp r t w s
  have h5 : ¬ q < fwS r t w s := fun z => h3 q (by omega) z hw
  omega
theorem begins_n {r t y s w k q : Int} (hq : fcS r t y k s ≤ q ∧ q ≤ max (fcS r t y k s) (fwS r t w s)) (h : q < 6) (hw : ¬ woodP r t q w s) : fcS r t y k s ≤ q + 1 ∧ q + 1 ≤ max (fcS r t y k s) (fwS r t w s) := by
  have h1 := fcS_b r t y k s
  obtain ⟨h2, h3, h4⟩ := fwS_sp r t w s
  have h5 : q < fwS r t w s := by
    rcases (show q < fwS r t w s ∨ fwS r t w s ≤ q by omega) with z | z
    · exact z
    · exact absurd (wood_mono (h4 (by omega)) z (by omega)) hw
  omega
theorem goes_st {V V2 : Nat → Int → Int} {f w : Int} (hw : 4 * f ≤ w) (hf : 0 ≤ f) (hI : (∀ x, 0 ≤ x → x < 4 * f → V2 43 x = V 43 x) ∧ (∀ x, 4 * f ≤ x → x < w → V2 43 x = V 43 (x + 4)) ∧ (∀ x, w ≤ x → V2 43 x = V 43 x) ∧ ∀ p, p ≠ 43 → V2 p = V p) :
    (∀ x, 0 ≤ x → x < 4 * f → u2 V2 43 w (V2 43 (w + 4)) 43 x = V 43 x) ∧ (∀ x, 4 * f ≤ x → x < w + 1 → u2 V2 43 w (V2 43 (w + 4)) 43 x = V 43 (x + 4)) ∧ (∀ x, w + 1 ≤ x → u2 V2 43 w (V2 43 (w + 4)) 43 x = V 43 x) ∧ ∀ p, p ≠ 43 → u2 V2 43 w (V2 43 (w + 4)) p = V p := by
  obtain ⟨a, b, c, d⟩ := hI
  refine ⟨fun x h1 h2 => ?_, fun x h1 h2 => ?_, fun x h1 => ?_, fun p hp => ?_⟩
  · rw [u2_s, u1_n (by omega)]; exact a x h1 h2
  · rw [u2_s]
    by_cases e : x = w
    · rw [e, u1_s]; exact c (w + 4) (by omega)
    · rw [u1_n e]; exact b x h1 (by omega)
  · rw [u2_s, u1_n (by omega)]; exact c x (by omega)
  · rw [u2_n hp]; exact d p hp
theorem goes_end {V V2 : Nat → Int → Int} {f w : Int} (hf : 0 ≤ f) (hw : w = 4 * (V 42 4 - 1)) (hI : (∀ x, 0 ≤ x → x < 4 * f → V2 43 x = V 43 x) ∧ (∀ x, 4 * f ≤ x → x < w → V2 43 x = V 43 (x + 4)) ∧ (∀ x, w ≤ x → V2 43 x = V 43 x) ∧ ∀ p, p ≠ 43 → V2 p = V p) (e : V2 42 = V 42) : goneP V (u2 V2 42 4 (V2 42 4 - 1)) f (V 42 4) := by
  obtain ⟨a, b, c, d⟩ := hI
  refine ⟨by rw [u2_s, u1_s, e], fun z h1 h2 => ?_, fun q z h1 h2 => ?_⟩
  · rw [u2_n (by decide)]
    split
    · next h => exact a z h1 h
    · next h => exact b z (by omega) (by omega)
  · by_cases e2 : q = 42
    · subst e2
      rw [u2_s, u1_n (fun x => h1 ⟨rfl, x⟩), e]
    · rw [u2_n e2, d q h2]

set_option maxRecDepth 100000 in
set_option maxHeartbeats 4000000 in
theorem m_X12_log (G : GS) (n : Nat) (V : Nat → Int → Int) (R : Nat → Int → Option Nat) (a : Int) (t : Int) (k : Int) (hn : 67 ≤ n) (hLR : LR R) (ga : Rg a) (gt : Rg t) (gk : Rg k) : Cn G yX12_log cX12_log 4 (some .int) (rmk 4 0 0 85) [.ref (aG G 42), .int (iI a), .int (iI t), .int (iI k)] n V R 0 0 (fun vv uu => ∃ (r : Int), ∃ (V1 : Nat → Int → Int), vv = some (.int (iI r)) ∧ uu = (n, V1, R) ∧ (((¬ ((2 ≤ a ∧ a ≤ 6) ∧ (0 ≤ t ∧ t ≤ 4) ∧ (1 ≤ k ∧ k ≤ 8))) ∧ r = (-2) ∧ V1 = V) ∨ ((((2 ≤ a ∧ a ≤ 6) ∧ (0 ≤ t ∧ t ≤ 4) ∧ (1 ≤ k ∧ k ≤ 8))) ∧ r = nWood a t k ∧ V1 = u2 (u2 (u2 (u2 (u2 V 42 0 a) 42 1 t) 42 2 k) 42 3 0) 42 4 0))) := by
  refine Cn.of (by decide) (Nat.le_of_ble_eq_true rfl) (fun K C hct => ?_)
  show Xw K G 0 0 _ n V R 0 [(0, .ref (aG G 42)), (1, .int (iI a)), (2, .int (iI t)), (3, .int (iI k))] []
  refine x_iload_n C 1 dX12_log_0 rfl rfl ?_
  refine x_i2l C dX12_log_1 (by first | assumption | (constructor <;> omega)) ?_
  refine x_ldc2 C dX12_log_2 q_6_6 (w := 2) (by decide) ?_
  refine x_ldc2 C dX12_log_5 q_6_7 (w := 6) (by decide) ?_
  refine x_runU (r_callS C (ce_X12_in) (m_X12_in G n V R (a) (2) (6) (by first | assumption | omega | decide) (by first | assumption | omega | decide) (by first | assumption | omega | decide)) dX12_log_8 q_6_15 q_6_16 rfl rfl ⟨Nat.le_of_ble_eq_true rfl, Nat.le_of_ble_eq_true rfl⟩ ⟨rfl, rfl⟩ ⟨Nat.le_of_ble_eq_true rfl, Nat.le_of_ble_eq_true rfl⟩ (Nat.le_of_ble_eq_true rfl)) (fun v8 u8 hp8 => ?_)
  obtain ⟨rfl, rfl⟩ := hp8
  show Xw K G 0 0 _ n V R 11 [(0, .ref (aG G 42)), (1, .int (iI a)), (2, .int (iI t)), (3, .int (iI k))] [.int (iI (bI (2 ≤ a ∧ a ≤ 6)))]
  refine x_ifeq_b C dX12_log_11 (tgt := 38) (by decide) (fun h11 => ?_) (fun h11 => ?_)
  · skip
    refine x_bipush C dX12_log_38 (w := -2) (by decide) ?_
    refine x_iret C dX12_log_40 ⟨_, _, rfl, rfl, ?_⟩
    · first | (refine Or.inl ⟨?_, ?_, ?_⟩ <;> first | rfl | assumption | omega | exact congrArg _ (by omega)) | (refine Or.inr (⟨?_, ?_, ?_⟩) <;> first | rfl | assumption | omega | exact congrArg _ (by omega))
  · skip
    refine x_iload_n C 2 dX12_log_14 rfl rfl ?_
    refine x_i2l C dX12_log_15 (by first | assumption | (constructor <;> omega)) ?_
    refine x_lconst C dX12_log_16 (w := 0) (by decide) ?_
    refine x_ldc2 C dX12_log_17 q_6_8 (w := 4) (by decide) ?_
    refine x_runU (r_callS C (ce_X12_in) (m_X12_in G n V R (t) (0) (4) (by first | assumption | omega | decide) (by first | assumption | omega | decide) (by first | assumption | omega | decide)) dX12_log_20 q_6_15 q_6_16 rfl rfl ⟨Nat.le_of_ble_eq_true rfl, Nat.le_of_ble_eq_true rfl⟩ ⟨rfl, rfl⟩ ⟨Nat.le_of_ble_eq_true rfl, Nat.le_of_ble_eq_true rfl⟩ (Nat.le_of_ble_eq_true rfl)) (fun v20 u20 hp20 => ?_)
    obtain ⟨rfl, rfl⟩ := hp20
    show Xw K G 0 0 _ n V R 23 [(0, .ref (aG G 42)), (1, .int (iI a)), (2, .int (iI t)), (3, .int (iI k))] [.int (iI (bI (0 ≤ t ∧ t ≤ 4)))]
    refine x_ifeq_b C dX12_log_23 (tgt := 38) (by decide) (fun h23 => ?_) (fun h23 => ?_)
    · skip
      refine x_bipush C dX12_log_38 (w := -2) (by decide) ?_
      refine x_iret C dX12_log_40 ⟨_, _, rfl, rfl, ?_⟩
      · first | (refine Or.inl ⟨?_, ?_, ?_⟩ <;> first | rfl | assumption | omega | exact congrArg _ (by omega)) | (refine Or.inr (⟨?_, ?_, ?_⟩) <;> first | rfl | assumption | omega | exact congrArg _ (by omega))
    · skip
      refine x_iload_n C 3 dX12_log_26 rfl rfl ?_
      refine x_i2l C dX12_log_27 (by first | assumption | (constructor <;> omega)) ?_
      refine x_lconst C dX12_log_28 (w := 1) (by decide) ?_
      refine x_ldc2 C dX12_log_29 q_6_9 (w := 8) (by decide) ?_
      refine x_runU (r_callS C (ce_X12_in) (m_X12_in G n V R (k) (1) (8) (by first | assumption | omega | decide) (by first | assumption | omega | decide) (by first | assumption | omega | decide)) dX12_log_32 q_6_15 q_6_16 rfl rfl ⟨Nat.le_of_ble_eq_true rfl, Nat.le_of_ble_eq_true rfl⟩ ⟨rfl, rfl⟩ ⟨Nat.le_of_ble_eq_true rfl, Nat.le_of_ble_eq_true rfl⟩ (Nat.le_of_ble_eq_true rfl)) (fun v32 u32 hp32 => ?_)
      obtain ⟨rfl, rfl⟩ := hp32
      show Xw K G 0 0 _ n V R 35 [(0, .ref (aG G 42)), (1, .int (iI a)), (2, .int (iI t)), (3, .int (iI k))] [.int (iI (bI (1 ≤ k ∧ k ≤ 8)))]
      refine x_ifne_b C dX12_log_35 (tgt := 41) (by decide) (fun h35 => ?_) (fun h35 => ?_)
      · skip
        refine x_aload_n C 0 dX12_log_41 rfl rfl ?_
        refine x_iload_n C 1 dX12_log_42 rfl rfl ?_
        refine x_puti C ok_Model 42 0 dX12_log_43 (lt67 hn rfl) rfl (by decide) rfl q_6_10 rfl rfl (Or.inl rfl) (by first | assumption | (constructor <;> omega)) (kz := 0) rfl ?_
        refine x_aload_n C 0 dX12_log_46 rfl rfl ?_
        refine x_iload_n C 2 dX12_log_47 rfl rfl ?_
        refine x_puti C ok_Model 42 1 dX12_log_48 (lt67 hn rfl) rfl (by decide) rfl q_6_11 rfl rfl (Or.inl rfl) (by first | assumption | (constructor <;> omega)) (kz := 1) rfl ?_
        refine x_aload_n C 0 dX12_log_51 rfl rfl ?_
        refine x_iload_n C 3 dX12_log_52 rfl rfl ?_
        refine x_puti C ok_Model 42 2 dX12_log_53 (lt67 hn rfl) rfl (by decide) rfl q_6_12 rfl rfl (Or.inl rfl) (by first | assumption | (constructor <;> omega)) (kz := 2) rfl ?_
        refine x_aload_n C 0 dX12_log_56 rfl rfl ?_
        refine x_iconst C dX12_log_57 ?_
        refine x_puti C ok_Model 42 3 dX12_log_58 (lt67 hn rfl) rfl (by decide) rfl q_6_13 rfl rfl (Or.inl rfl) (by first | assumption | (constructor <;> omega)) (kz := 3) rfl ?_
        refine x_aload_n C 0 dX12_log_61 rfl rfl ?_
        refine x_iconst C dX12_log_62 ?_
        refine x_puti C ok_Model 42 4 dX12_log_63 (lt67 hn rfl) rfl (by decide) rfl q_6_14 rfl rfl (Or.inl rfl) (by first | assumption | (constructor <;> omega)) (kz := 4) rfl ?_
        refine x_aload_n C 0 dX12_log_66 rfl rfl ?_
        refine x_runU (r_callV C ok_Model 42 (lt67 hn rfl) rfl (ce_X12_wood) (m_X12_wood G n (u2 (u2 (u2 (u2 (u2 V 42 0 a) 42 1 t) 42 2 k) 42 3 0) 42 4 0) R hn hLR (by simp only [u2_at]; simp; omega) (by simp only [u2_at]; simp; omega) (by simp only [u2_at]; simp; omega)) rfl dX12_log_67 q_6_18 q_6_19 q_6_20 rfl rfl ⟨Nat.le_of_ble_eq_true rfl, Nat.le_of_ble_eq_true rfl⟩ ⟨rfl, rfl⟩ ⟨Nat.le_of_ble_eq_true rfl, Nat.le_of_ble_eq_true rfl⟩ (Nat.le_of_ble_eq_true rfl)) (fun v67 u67 hp67 => ?_)
        obtain ⟨rfl, rfl⟩ := hp67
        show Xw K G 0 0 _ n (u2 (u2 (u2 (u2 (u2 V 42 0 a) 42 1 t) 42 2 k) 42 3 0) 42 4 0) R 70 [(0, .ref (aG G 42)), (1, .int (iI a)), (2, .int (iI t)), (3, .int (iI k))] [.int (iI (nWood ((u2 (u2 (u2 (u2 (u2 V 42 0 a) 42 1 t) 42 2 k) 42 3 0) 42 4 0) 42 0) ((u2 (u2 (u2 (u2 (u2 V 42 0 a) 42 1 t) 42 2 k) 42 3 0) 42 4 0) 42 1) ((u2 (u2 (u2 (u2 (u2 V 42 0 a) 42 1 t) 42 2 k) 42 3 0) 42 4 0) 42 2)))]
        refine x_top (b := (nWood a t k)) (by simp [u2_at]) ?_
        refine x_iret C dX12_log_70 ⟨_, _, rfl, rfl, ?_⟩
        · first | (refine Or.inl ⟨?_, ?_, ?_⟩ <;> first | rfl | assumption | omega | exact congrArg _ (by omega)) | (refine Or.inr (⟨?_, ?_, ?_⟩) <;> first | rfl | assumption | omega | exact congrArg _ (by omega))
      · skip
        refine x_bipush C dX12_log_38 (w := -2) (by decide) ?_
        refine x_iret C dX12_log_40 ⟨_, _, rfl, rfl, ?_⟩
        · first | (refine Or.inl ⟨?_, ?_, ?_⟩ <;> first | rfl | assumption | omega | exact congrArg _ (by omega)) | (refine Or.inr (⟨?_, ?_, ?_⟩) <;> first | rfl | assumption | omega | exact congrArg _ (by omega))
set_option maxRecDepth 100000 in
set_option maxHeartbeats 4000000 in
theorem m_X12_begins (G : GS) (n : Nat) (V : Nat → Int → Int) (R : Nat → Int → Option Nat) (y : Int) (k : Int) (s : Int) (hn : 67 ≤ n) (hLR : LR R) (hy : 0 ≤ y) (hk : 1 ≤ k ∧ y + k ≤ 12) (h0 : 0 ≤ s ∧ s ≤ 7) (h1 : 0 ≤ V 42 0 ∧ V 42 0 ≤ 6) (h2 : 0 ≤ V 42 1 ∧ V 42 1 ≤ 4) : Cn G yX12_begins cX12_begins 6 (some .int) (rmk 3 0 0 63) [.ref (aG G 42), .int (iI y), .int (iI k), .int (iI s)] n V R 0 0 (fun vv uu => vv = some (.int (iI (fcS (V 42 0) (V 42 1) y k s))) ∧ uu = (n, V, R)) := by
  refine Cn.of (by decide) (Nat.le_of_ble_eq_true rfl) (fun K C hct => ?_)
  show Xw K G 0 0 _ n V R 0 [(0, .ref (aG G 42)), (1, .int (iI y)), (2, .int (iI k)), (3, .int (iI s))] []
  refine x_iconst C dX12_begins_0 ?_
  refine x_istore C dX12_begins_1 (by decide) (lv' := [(0, .ref (aG G 42)), (1, .int (iI y)), (2, .int (iI k)), (3, .int (iI s)), (4, .int (iI 0))]) rfl ?_
  refine x_iload_n C 1 dX12_begins_3 rfl rfl ?_
  refine x_istore C dX12_begins_4 (by decide) (lv' := [(0, .ref (aG G 42)), (1, .int (iI y)), (2, .int (iI k)), (3, .int (iI s)), (4, .int (iI 0)), (5, .int (iI y))]) rfl ?_
  have lp_6 : ∀ (fuel : Nat) (q : Int) (w : Int), (y ≤ w ∧ w ≤ y + k) → (q = fcS (V 42 0) (V 42 1) y (w - y) s) → (y + k - w) < (fuel : Int) → Xw K G 0 0 (EndQ K G 0 0 (fun vv uu => vv = some (.int (iI (fcS (V 42 0) (V 42 1) y k s))) ∧ uu = (n, V, R))) n V R 6 [(0, .ref (aG G 42)), (1, .int (iI y)), (2, .int (iI k)), (3, .int (iI s)), (4, .int (iI q)), (5, .int (iI w))] [] := by
    intro fuel6
    induction fuel6 with
    | zero => intro q w hr hf hfu6; exfalso; omega
    | succ fuel6 ih6 =>
      intro q w hr hf hfu6
      have hb := fcS_b (V 42 0) (V 42 1) y (w - y) s
      refine x_iload C 5 dX12_begins_6 rfl ?_
      refine x_iload_n C 1 dX12_begins_8 rfl rfl ?_
      refine x_iload_n C 2 dX12_begins_9 rfl rfl ?_
      refine x_iadd C dX12_begins_10 ?_
      refine x_icmp_ge C dX12_begins_11 (tgt := 45) (by decide) (by first | assumption | (constructor <;> omega)) (by first | assumption | (constructor <;> omega)) (fun h11 => ?_) (fun h11 => ?_)
      · skip
        refine x_iload C 4 dX12_begins_45 rfl ?_
        refine x_iret C dX12_begins_47 ⟨congrArg (fun z => some (Value.int (iI z))) (by rw [hf, show w - y = k by omega]), rfl⟩
      · skip
        have lp_14 : ∀ (fuel : Nat) (q2 : Int), (fcS (V 42 0) (V 42 1) y (w - y) s ≤ q2 ∧ q2 ≤ max (fcS (V 42 0) (V 42 1) y (w - y) s) (fwS (V 42 0) (V 42 1) w s)) → ((6 : Int) - q2) < (fuel : Int) → Xw K G 0 0 (EndQ K G 0 0 (fun vv uu => vv = some (.int (iI (fcS (V 42 0) (V 42 1) y k s))) ∧ uu = (n, V, R))) n V R 14 [(0, .ref (aG G 42)), (1, .int (iI y)), (2, .int (iI k)), (3, .int (iI s)), (4, .int (iI q2)), (5, .int (iI w))] [] := by
          intro fuel14
          induction fuel14 with
          | zero => intro q2 hq2 hfu14; exfalso; have hb2 := (fwS_sp (V 42 0) (V 42 1) w s).1; omega
          | succ fuel14 ih14 =>
            intro q2 hq2 hfu14
            have hb2 := (fwS_sp (V 42 0) (V 42 1) w s).1
            refine x_iload C 4 dX12_begins_14 rfl ?_
            refine x_bipush C dX12_begins_16 (w := 6) (by decide) ?_
            refine x_icmp_ge C dX12_begins_18 (tgt := 39) (by decide) (by first | assumption | (constructor <;> omega)) (by first | assumption | (constructor <;> omega)) (fun h18 => ?_) (fun h18 => ?_)
            · skip
              refine x_iinc C 5 dX12_begins_39 rfl (by decide) (lv' := [(0, .ref (aG G 42)), (1, .int (iI y)), (2, .int (iI k)), (3, .int (iI s)), (4, .int (iI q2)), (5, .int (iI (w + 1)))]) rfl ?_
              refine x_goto C dX12_begins_42 (tgt := 6) (by decide) ?_
              exact ih6 (q2) ((w + 1)) (by first | assumption | omega) (by rw [show w + 1 - y = (w - y) + 1 by omega, fcS_s (by omega), show y + (w - y) = w by omega]; first | exact begins_x hq2 h18 | exact begins_w hq2 (by omega) h30) (by omega)
            · skip
              refine x_aload_n C 0 dX12_begins_21 rfl rfl ?_
              refine x_iload C 4 dX12_begins_22 rfl ?_
              refine x_iload C 5 dX12_begins_24 rfl ?_
              refine x_iload_n C 3 dX12_begins_26 rfl rfl ?_
              refine x_runU (r_callV C ok_Model 42 (lt67 hn rfl) rfl (ce_X12_isWood) (m_X12_isWood G n V R (q2) (w) (s) hn hLR (by first | assumption | omega | decide) (by first | assumption | omega | decide) (by first | assumption | omega | decide) (by first | assumption | omega | decide) (by first | assumption | omega | decide)) rfl dX12_begins_27 q_6_22 q_6_23 q_7_0 rfl rfl ⟨Nat.le_of_ble_eq_true rfl, Nat.le_of_ble_eq_true rfl⟩ ⟨rfl, rfl⟩ ⟨Nat.le_of_ble_eq_true rfl, Nat.le_of_ble_eq_true rfl⟩ (Nat.le_of_ble_eq_true rfl)) (fun v27 u27 hp27 => ?_)
              obtain ⟨rfl, rfl⟩ := hp27
              show Xw K G 0 0 _ n V R 30 [(0, .ref (aG G 42)), (1, .int (iI y)), (2, .int (iI k)), (3, .int (iI s)), (4, .int (iI q2)), (5, .int (iI w))] [.int (iI (bI (woodP (V 42 0) (V 42 1) q2 w s)))]
              refine x_ifne_b C dX12_begins_30 (tgt := 39) (by decide) (fun h30 => ?_) (fun h30 => ?_)
              · skip
                refine x_iinc C 5 dX12_begins_39 rfl (by decide) (lv' := [(0, .ref (aG G 42)), (1, .int (iI y)), (2, .int (iI k)), (3, .int (iI s)), (4, .int (iI q2)), (5, .int (iI (w + 1)))]) rfl ?_
                refine x_goto C dX12_begins_42 (tgt := 6) (by decide) ?_
                exact ih6 (q2) ((w + 1)) (by first | assumption | omega) (by rw [show w + 1 - y = (w - y) + 1 by omega, fcS_s (by omega), show y + (w - y) = w by omega]; first | exact begins_x hq2 h18 | exact begins_w hq2 (by omega) h30) (by omega)
              · skip
                refine x_iinc C 4 dX12_begins_33 rfl (by decide) (lv' := [(0, .ref (aG G 42)), (1, .int (iI y)), (2, .int (iI k)), (3, .int (iI s)), (4, .int (iI (q2 + 1))), (5, .int (iI w))]) rfl ?_
                refine x_goto C dX12_begins_36 (tgt := 14) (by decide) ?_
                exact ih14 ((q2 + 1)) (by exact begins_n hq2 h18 h30) (by omega)
        exact lp_14 (((6 : Int) - q).toNat + 1) (q) (by omega) (by omega)
  exact lp_6 ((y + k - y).toNat + 1) (0) (y) (by first | assumption | omega) (by rw [show y - y = 0 by omega]; rfl) (by omega)
set_option maxRecDepth 100000 in
set_option maxHeartbeats 4000000 in
theorem m_X12_feed (G : GS) (n : Nat) (V : Nat → Int → Int) (R : Nat → Int → Option Nat) (k : Int) (a : Int) (b : Int) (c : Int) (d : Int) (e : Int) (hn : 67 ≤ n) (hLR : LR R) (gk : Rg k) (ga : Rg a) (gb : Rg b) (gc : Rg c) (gd : Rg d) (ge : Rg e) (h12 : 0 ≤ V 42 12 ∧ V 42 12 ≤ 40) : Cn G yX12_feed cX12_feed 8 (some .int) (rmk 2 0 0 41) [.ref (aG G 42), .int (iI k), .int (iI a), .int (iI b), .int (iI c), .int (iI d), .int (iI e)] n V R 0 0 (fun vv uu => ∃ (r : Int), ∃ (V1 : Nat → Int → Int), vv = some (.int (iI r)) ∧ uu = (n, V1, R) ∧ ((¬ ((1 ≤ k ∧ k ≤ 5) ∧ (0 ≤ a ∧ a ≤ 255) ∧ (0 ≤ b ∧ b ≤ 255) ∧ (0 ≤ c ∧ c ≤ 255) ∧ (0 ≤ d ∧ d ≤ 255) ∧ (0 ≤ e ∧ e ≤ 255)) ∧ r = -2 ∧ V1 = V) ∨ (((1 ≤ k ∧ k ≤ 5) ∧ (0 ≤ a ∧ a ≤ 255) ∧ (0 ≤ b ∧ b ≤ 255) ∧ (0 ≤ c ∧ c ≤ 255) ∧ (0 ≤ d ∧ d ≤ 255) ∧ (0 ≤ e ∧ e ≤ 255)) ∧ 40 < V 42 12 + k ∧ r = -4 ∧ V1 = V) ∨ (((1 ≤ k ∧ k ≤ 5) ∧ (0 ≤ a ∧ a ≤ 255) ∧ (0 ≤ b ∧ b ≤ 255) ∧ (0 ≤ c ∧ c ≤ 255) ∧ (0 ≤ d ∧ d ≤ 255) ∧ (0 ≤ e ∧ e ≤ 255)) ∧ V 42 12 + k ≤ 40 ∧ r = V 42 12 + k ∧ fedP 47 42 12 V V1 a b c d e k))) := by
  refine Cn.of (by decide) (Nat.le_of_ble_eq_true rfl) (fun K C hct => ?_)
  show Xw K G 0 0 _ n V R 0 [(0, .ref (aG G 42)), (1, .int (iI k)), (2, .int (iI a)), (3, .int (iI b)), (4, .int (iI c)), (5, .int (iI d)), (6, .int (iI e))] []
  refine x_iload_n C 1 dX12_feed_0 rfl rfl ?_
  refine x_i2l C dX12_feed_1 (by first | assumption | (constructor <;> omega)) ?_
  refine x_lconst C dX12_feed_2 (w := 1) (by decide) ?_
  refine x_ldc2 C dX12_feed_3 q_7_22 (w := 5) (by decide) ?_
  refine x_runU (r_callS C (ce_X12_in) (m_X12_in G n V R (k) (1) (5) (by first | assumption | omega | decide) (by first | assumption | omega | decide) (by first | assumption | omega | decide)) dX12_feed_6 q_6_15 q_6_16 rfl rfl ⟨Nat.le_of_ble_eq_true rfl, Nat.le_of_ble_eq_true rfl⟩ ⟨rfl, rfl⟩ ⟨Nat.le_of_ble_eq_true rfl, Nat.le_of_ble_eq_true rfl⟩ (Nat.le_of_ble_eq_true rfl)) (fun v6 u6 hp6 => ?_)
  obtain ⟨rfl, rfl⟩ := hp6
  show Xw K G 0 0 _ n V R 9 [(0, .ref (aG G 42)), (1, .int (iI k)), (2, .int (iI a)), (3, .int (iI b)), (4, .int (iI c)), (5, .int (iI d)), (6, .int (iI e))] [.int (iI (bI (1 ≤ k ∧ k ≤ 5)))]
  refine x_ifeq_b C dX12_feed_9 (tgt := 75) (by decide) (fun h9 => ?_) (fun h9 => ?_)
  · skip
    refine x_bipush C dX12_feed_75 (w := -2) (by decide) ?_
    refine x_iret C dX12_feed_77 ⟨_, _, rfl, rfl, ?_⟩
    · first | (refine Or.inl ⟨?_, rfl, rfl⟩; omega) | (refine Or.inr (Or.inl ⟨?_, ?_, rfl, rfl⟩) <;> omega)
  · skip
    refine x_iload_n C 2 dX12_feed_12 rfl rfl ?_
    refine x_i2l C dX12_feed_13 (by first | assumption | (constructor <;> omega)) ?_
    refine x_lconst C dX12_feed_14 (w := 0) (by decide) ?_
    refine x_ldc2 C dX12_feed_15 q_7_23 (w := 255) (by decide) ?_
    refine x_runU (r_callS C (ce_X12_in) (m_X12_in G n V R (a) (0) (255) (by first | assumption | omega | decide) (by first | assumption | omega | decide) (by first | assumption | omega | decide)) dX12_feed_18 q_6_15 q_6_16 rfl rfl ⟨Nat.le_of_ble_eq_true rfl, Nat.le_of_ble_eq_true rfl⟩ ⟨rfl, rfl⟩ ⟨Nat.le_of_ble_eq_true rfl, Nat.le_of_ble_eq_true rfl⟩ (Nat.le_of_ble_eq_true rfl)) (fun v18 u18 hp18 => ?_)
    obtain ⟨rfl, rfl⟩ := hp18
    show Xw K G 0 0 _ n V R 21 [(0, .ref (aG G 42)), (1, .int (iI k)), (2, .int (iI a)), (3, .int (iI b)), (4, .int (iI c)), (5, .int (iI d)), (6, .int (iI e))] [.int (iI (bI (0 ≤ a ∧ a ≤ 255)))]
    refine x_ifeq_b C dX12_feed_21 (tgt := 75) (by decide) (fun h21 => ?_) (fun h21 => ?_)
    · skip
      refine x_bipush C dX12_feed_75 (w := -2) (by decide) ?_
      refine x_iret C dX12_feed_77 ⟨_, _, rfl, rfl, ?_⟩
      · first | (refine Or.inl ⟨?_, rfl, rfl⟩; omega) | (refine Or.inr (Or.inl ⟨?_, ?_, rfl, rfl⟩) <;> omega)
    · skip
      refine x_iload_n C 3 dX12_feed_24 rfl rfl ?_
      refine x_i2l C dX12_feed_25 (by first | assumption | (constructor <;> omega)) ?_
      refine x_lconst C dX12_feed_26 (w := 0) (by decide) ?_
      refine x_ldc2 C dX12_feed_27 q_7_23 (w := 255) (by decide) ?_
      refine x_runU (r_callS C (ce_X12_in) (m_X12_in G n V R (b) (0) (255) (by first | assumption | omega | decide) (by first | assumption | omega | decide) (by first | assumption | omega | decide)) dX12_feed_30 q_6_15 q_6_16 rfl rfl ⟨Nat.le_of_ble_eq_true rfl, Nat.le_of_ble_eq_true rfl⟩ ⟨rfl, rfl⟩ ⟨Nat.le_of_ble_eq_true rfl, Nat.le_of_ble_eq_true rfl⟩ (Nat.le_of_ble_eq_true rfl)) (fun v30 u30 hp30 => ?_)
      obtain ⟨rfl, rfl⟩ := hp30
      show Xw K G 0 0 _ n V R 33 [(0, .ref (aG G 42)), (1, .int (iI k)), (2, .int (iI a)), (3, .int (iI b)), (4, .int (iI c)), (5, .int (iI d)), (6, .int (iI e))] [.int (iI (bI (0 ≤ b ∧ b ≤ 255)))]
      refine x_ifeq_b C dX12_feed_33 (tgt := 75) (by decide) (fun h33 => ?_) (fun h33 => ?_)
      · skip
        refine x_bipush C dX12_feed_75 (w := -2) (by decide) ?_
        refine x_iret C dX12_feed_77 ⟨_, _, rfl, rfl, ?_⟩
        · first | (refine Or.inl ⟨?_, rfl, rfl⟩; omega) | (refine Or.inr (Or.inl ⟨?_, ?_, rfl, rfl⟩) <;> omega)
      · skip
        refine x_iload C 4 dX12_feed_36 rfl ?_
        refine x_i2l C dX12_feed_38 (by first | assumption | (constructor <;> omega)) ?_
        refine x_lconst C dX12_feed_39 (w := 0) (by decide) ?_
        refine x_ldc2 C dX12_feed_40 q_7_23 (w := 255) (by decide) ?_
        refine x_runU (r_callS C (ce_X12_in) (m_X12_in G n V R (c) (0) (255) (by first | assumption | omega | decide) (by first | assumption | omega | decide) (by first | assumption | omega | decide)) dX12_feed_43 q_6_15 q_6_16 rfl rfl ⟨Nat.le_of_ble_eq_true rfl, Nat.le_of_ble_eq_true rfl⟩ ⟨rfl, rfl⟩ ⟨Nat.le_of_ble_eq_true rfl, Nat.le_of_ble_eq_true rfl⟩ (Nat.le_of_ble_eq_true rfl)) (fun v43 u43 hp43 => ?_)
        obtain ⟨rfl, rfl⟩ := hp43
        show Xw K G 0 0 _ n V R 46 [(0, .ref (aG G 42)), (1, .int (iI k)), (2, .int (iI a)), (3, .int (iI b)), (4, .int (iI c)), (5, .int (iI d)), (6, .int (iI e))] [.int (iI (bI (0 ≤ c ∧ c ≤ 255)))]
        refine x_ifeq_b C dX12_feed_46 (tgt := 75) (by decide) (fun h46 => ?_) (fun h46 => ?_)
        · skip
          refine x_bipush C dX12_feed_75 (w := -2) (by decide) ?_
          refine x_iret C dX12_feed_77 ⟨_, _, rfl, rfl, ?_⟩
          · first | (refine Or.inl ⟨?_, rfl, rfl⟩; omega) | (refine Or.inr (Or.inl ⟨?_, ?_, rfl, rfl⟩) <;> omega)
        · skip
          refine x_iload C 5 dX12_feed_49 rfl ?_
          refine x_i2l C dX12_feed_51 (by first | assumption | (constructor <;> omega)) ?_
          refine x_lconst C dX12_feed_52 (w := 0) (by decide) ?_
          refine x_ldc2 C dX12_feed_53 q_7_23 (w := 255) (by decide) ?_
          refine x_runU (r_callS C (ce_X12_in) (m_X12_in G n V R (d) (0) (255) (by first | assumption | omega | decide) (by first | assumption | omega | decide) (by first | assumption | omega | decide)) dX12_feed_56 q_6_15 q_6_16 rfl rfl ⟨Nat.le_of_ble_eq_true rfl, Nat.le_of_ble_eq_true rfl⟩ ⟨rfl, rfl⟩ ⟨Nat.le_of_ble_eq_true rfl, Nat.le_of_ble_eq_true rfl⟩ (Nat.le_of_ble_eq_true rfl)) (fun v56 u56 hp56 => ?_)
          obtain ⟨rfl, rfl⟩ := hp56
          show Xw K G 0 0 _ n V R 59 [(0, .ref (aG G 42)), (1, .int (iI k)), (2, .int (iI a)), (3, .int (iI b)), (4, .int (iI c)), (5, .int (iI d)), (6, .int (iI e))] [.int (iI (bI (0 ≤ d ∧ d ≤ 255)))]
          refine x_ifeq_b C dX12_feed_59 (tgt := 75) (by decide) (fun h59 => ?_) (fun h59 => ?_)
          · skip
            refine x_bipush C dX12_feed_75 (w := -2) (by decide) ?_
            refine x_iret C dX12_feed_77 ⟨_, _, rfl, rfl, ?_⟩
            · first | (refine Or.inl ⟨?_, rfl, rfl⟩; omega) | (refine Or.inr (Or.inl ⟨?_, ?_, rfl, rfl⟩) <;> omega)
          · skip
            refine x_iload C 6 dX12_feed_62 rfl ?_
            refine x_i2l C dX12_feed_64 (by first | assumption | (constructor <;> omega)) ?_
            refine x_lconst C dX12_feed_65 (w := 0) (by decide) ?_
            refine x_ldc2 C dX12_feed_66 q_7_23 (w := 255) (by decide) ?_
            refine x_runU (r_callS C (ce_X12_in) (m_X12_in G n V R (e) (0) (255) (by first | assumption | omega | decide) (by first | assumption | omega | decide) (by first | assumption | omega | decide)) dX12_feed_69 q_6_15 q_6_16 rfl rfl ⟨Nat.le_of_ble_eq_true rfl, Nat.le_of_ble_eq_true rfl⟩ ⟨rfl, rfl⟩ ⟨Nat.le_of_ble_eq_true rfl, Nat.le_of_ble_eq_true rfl⟩ (Nat.le_of_ble_eq_true rfl)) (fun v69 u69 hp69 => ?_)
            obtain ⟨rfl, rfl⟩ := hp69
            show Xw K G 0 0 _ n V R 72 [(0, .ref (aG G 42)), (1, .int (iI k)), (2, .int (iI a)), (3, .int (iI b)), (4, .int (iI c)), (5, .int (iI d)), (6, .int (iI e))] [.int (iI (bI (0 ≤ e ∧ e ≤ 255)))]
            refine x_ifne_b C dX12_feed_72 (tgt := 78) (by decide) (fun h72 => ?_) (fun h72 => ?_)
            · skip
              refine x_aload_n C 0 dX12_feed_78 rfl rfl ?_
              refine x_geti C ok_Model 42 12 dX12_feed_79 (lt67 hn rfl) rfl (by decide) rfl q_8_0 rfl (kz := 12) rfl (fun rg79 => ?_)
              refine x_iload_n C 1 dX12_feed_82 rfl rfl ?_
              refine x_iadd C dX12_feed_83 ?_
              refine x_bipush C dX12_feed_84 (w := 40) (by decide) ?_
              refine x_icmp_le C dX12_feed_86 (tgt := 92) (by decide) (by first | assumption | (constructor <;> omega)) (by first | assumption | (constructor <;> omega)) (fun h86 => ?_) (fun h86 => ?_)
              · skip
                refine x_iconst C dX12_feed_92 ?_
                refine x_istore C dX12_feed_93 (by decide) (lv' := [(0, .ref (aG G 42)), (1, .int (iI k)), (2, .int (iI a)), (3, .int (iI b)), (4, .int (iI c)), (5, .int (iI d)), (6, .int (iI e)), (7, .int (iI 0))]) rfl ?_
                have lp_95 : ∀ (fuel : Nat) (j : Int) (V2 : Nat → Int → Int), (0 ≤ j ∧ j ≤ k) → (fedP 47 42 12 V V2 a b c d e j) → (k - j) < (fuel : Int) → Xw K G 0 0 (EndQ K G 0 0 (fun vv uu => ∃ (r : Int), ∃ (V1 : Nat → Int → Int), vv = some (.int (iI r)) ∧ uu = (n, V1, R) ∧ ((¬ ((1 ≤ k ∧ k ≤ 5) ∧ (0 ≤ a ∧ a ≤ 255) ∧ (0 ≤ b ∧ b ≤ 255) ∧ (0 ≤ c ∧ c ≤ 255) ∧ (0 ≤ d ∧ d ≤ 255) ∧ (0 ≤ e ∧ e ≤ 255)) ∧ r = -2 ∧ V1 = V) ∨ (((1 ≤ k ∧ k ≤ 5) ∧ (0 ≤ a ∧ a ≤ 255) ∧ (0 ≤ b ∧ b ≤ 255) ∧ (0 ≤ c ∧ c ≤ 255) ∧ (0 ≤ d ∧ d ≤ 255) ∧ (0 ≤ e ∧ e ≤ 255)) ∧ 40 < V 42 12 + k ∧ r = -4 ∧ V1 = V) ∨ (((1 ≤ k ∧ k ≤ 5) ∧ (0 ≤ a ∧ a ≤ 255) ∧ (0 ≤ b ∧ b ≤ 255) ∧ (0 ≤ c ∧ c ≤ 255) ∧ (0 ≤ d ∧ d ≤ 255) ∧ (0 ≤ e ∧ e ≤ 255)) ∧ V 42 12 + k ≤ 40 ∧ r = V 42 12 + k ∧ fedP 47 42 12 V V1 a b c d e k)))) n V2 R 95 [(0, .ref (aG G 42)), (1, .int (iI k)), (2, .int (iI a)), (3, .int (iI b)), (4, .int (iI c)), (5, .int (iI d)), (6, .int (iI e)), (7, .int (iI j))] [] := by
                  intro fuel95
                  induction fuel95 with
                  | zero => intro j V2 hj hI hfu95; exfalso; omega
                  | succ fuel95 ih95 =>
                    intro j V2 hj hI hfu95
                    have hI1 := hI.1
                    refine x_iload C 7 dX12_feed_95 rfl ?_
                    refine x_iload_n C 1 dX12_feed_97 rfl rfl ?_
                    refine x_icmp_ge C dX12_feed_98 (tgt := 169) (by decide) (by first | assumption | (constructor <;> omega)) (by first | assumption | (constructor <;> omega)) (fun h98 => ?_) (fun h98 => ?_)
                    · skip
                      refine x_aload_n C 0 dX12_feed_169 rfl rfl ?_
                      refine x_geti C ok_Model 42 12 dX12_feed_170 (lt67 hn rfl) rfl (by decide) rfl q_8_0 rfl (kz := 12) rfl (fun rg170 => ?_)
                      refine x_iret C dX12_feed_173 ⟨_, _, rfl, rfl, ?_⟩
                      · exact Or.inr (Or.inr ⟨by omega, by omega, by omega, by rw [show k = j by omega]; exact hI⟩)
                    · skip
                      refine x_aload_n C 0 dX12_feed_101 rfl rfl ?_
                      refine x_getr C ok_Model 42 11 (d := 47) dX12_feed_102 (lt67 hn rfl) rfl (by decide) rfl q_4_5 rfl (kz := 11) rfl (lr_42_11 hLR) ?_
                      refine x_aload_n C 0 dX12_feed_105 rfl rfl ?_
                      refine x_geti C ok_Model 42 12 dX12_feed_106 (lt67 hn rfl) rfl (by decide) rfl q_8_0 rfl (kz := 12) rfl (fun rg106 => ?_)
                      refine x_iload C 7 dX12_feed_109 rfl ?_
                      refine x_if_ne C dX12_feed_111 (tgt := 118) (by decide) (by first | assumption | (constructor <;> omega)) (fun h111 => ?_) (fun h111 => ?_)
                      · skip
                        refine x_iload C 7 dX12_feed_118 rfl ?_
                        refine x_iconst C dX12_feed_120 ?_
                        refine x_icmp_ne C dX12_feed_121 (tgt := 128) (by decide) (by first | assumption | (constructor <;> omega)) (by first | assumption | (constructor <;> omega)) (fun h121 => ?_) (fun h121 => ?_)
                        · skip
                          refine x_iload C 7 dX12_feed_128 rfl ?_
                          refine x_iconst C dX12_feed_130 ?_
                          refine x_icmp_ne C dX12_feed_131 (tgt := 139) (by decide) (by first | assumption | (constructor <;> omega)) (by first | assumption | (constructor <;> omega)) (fun h131 => ?_) (fun h131 => ?_)
                          · skip
                            refine x_iload C 7 dX12_feed_139 rfl ?_
                            refine x_iconst C dX12_feed_141 ?_
                            refine x_icmp_ne C dX12_feed_142 (tgt := 150) (by decide) (by first | assumption | (constructor <;> omega)) (by first | assumption | (constructor <;> omega)) (fun h142 => ?_) (fun h142 => ?_)
                            · skip
                              refine x_iload C 6 dX12_feed_150 rfl ?_
                              refine x_iast C 47 dX12_feed_152 (lt67 hn rfl) rfl (by refine ⟨?_, ?_⟩ <;> omega) (by first | assumption | (constructor <;> omega)) ?_
                              refine x_aload_n C 0 dX12_feed_153 rfl rfl ?_
                              refine x_dup C dX12_feed_154 rfl ?_
                              refine x_geti C ok_Model 42 12 dX12_feed_155 (lt67 hn rfl) rfl (by decide) rfl q_8_0 rfl (kz := 12) rfl (fun rg155 => ?_)
                              refine x_top (b := (V2 42 12)) (by first | rfl | (simp only [u2_at]; simp) | (simp only [u2_at]; first | (rw [if_neg (by omega)]) | omega)) ?_
                              refine x_iconst C dX12_feed_158 ?_
                              refine x_iadd C dX12_feed_159 ?_
                              refine x_puti C ok_Model 42 12 dX12_feed_160 (lt67 hn rfl) rfl (by decide) rfl q_8_0 rfl rfl (Or.inl rfl) (by first | assumption | (constructor <;> omega)) (kz := 12) rfl ?_
                              refine x_iinc C 7 dX12_feed_163 rfl (by decide) (lv' := [(0, .ref (aG G 42)), (1, .int (iI k)), (2, .int (iI a)), (3, .int (iI b)), (4, .int (iI c)), (5, .int (iI d)), (6, .int (iI e)), (7, .int (iI (j + 1)))]) rfl ?_
                              refine x_goto C dX12_feed_166 (tgt := 95) (by decide) ?_
                              exact ih95 ((j + 1)) ((u2 (u2 V2 47 (V2 42 12) e) 42 12 ((V2 42 12) + 1))) (by first | assumption | omega) (by refine fedP_s (by decide) hj.1 hI ?_; unfold argF; repeat' split <;> omega) (by omega)
                            · skip
                              refine x_iload C 5 dX12_feed_145 rfl ?_
                              refine x_goto C dX12_feed_147 (tgt := 152) (by decide) ?_
                              refine x_iast C 47 dX12_feed_152 (lt67 hn rfl) rfl (by refine ⟨?_, ?_⟩ <;> omega) (by first | assumption | (constructor <;> omega)) ?_
                              refine x_aload_n C 0 dX12_feed_153 rfl rfl ?_
                              refine x_dup C dX12_feed_154 rfl ?_
                              refine x_geti C ok_Model 42 12 dX12_feed_155 (lt67 hn rfl) rfl (by decide) rfl q_8_0 rfl (kz := 12) rfl (fun rg155 => ?_)
                              refine x_top (b := (V2 42 12)) (by first | rfl | (simp only [u2_at]; simp) | (simp only [u2_at]; first | (rw [if_neg (by omega)]) | omega)) ?_
                              refine x_iconst C dX12_feed_158 ?_
                              refine x_iadd C dX12_feed_159 ?_
                              refine x_puti C ok_Model 42 12 dX12_feed_160 (lt67 hn rfl) rfl (by decide) rfl q_8_0 rfl rfl (Or.inl rfl) (by first | assumption | (constructor <;> omega)) (kz := 12) rfl ?_
                              refine x_iinc C 7 dX12_feed_163 rfl (by decide) (lv' := [(0, .ref (aG G 42)), (1, .int (iI k)), (2, .int (iI a)), (3, .int (iI b)), (4, .int (iI c)), (5, .int (iI d)), (6, .int (iI e)), (7, .int (iI (j + 1)))]) rfl ?_
                              refine x_goto C dX12_feed_166 (tgt := 95) (by decide) ?_
                              exact ih95 ((j + 1)) ((u2 (u2 V2 47 (V2 42 12) d) 42 12 ((V2 42 12) + 1))) (by first | assumption | omega) (by refine fedP_s (by decide) hj.1 hI ?_; unfold argF; repeat' split <;> omega) (by omega)
                          · skip
                            refine x_iload C 4 dX12_feed_134 rfl ?_
                            refine x_goto C dX12_feed_136 (tgt := 152) (by decide) ?_
                            refine x_iast C 47 dX12_feed_152 (lt67 hn rfl) rfl (by refine ⟨?_, ?_⟩ <;> omega) (by first | assumption | (constructor <;> omega)) ?_
                            refine x_aload_n C 0 dX12_feed_153 rfl rfl ?_
                            refine x_dup C dX12_feed_154 rfl ?_
                            refine x_geti C ok_Model 42 12 dX12_feed_155 (lt67 hn rfl) rfl (by decide) rfl q_8_0 rfl (kz := 12) rfl (fun rg155 => ?_)
                            refine x_top (b := (V2 42 12)) (by first | rfl | (simp only [u2_at]; simp) | (simp only [u2_at]; first | (rw [if_neg (by omega)]) | omega)) ?_
                            refine x_iconst C dX12_feed_158 ?_
                            refine x_iadd C dX12_feed_159 ?_
                            refine x_puti C ok_Model 42 12 dX12_feed_160 (lt67 hn rfl) rfl (by decide) rfl q_8_0 rfl rfl (Or.inl rfl) (by first | assumption | (constructor <;> omega)) (kz := 12) rfl ?_
                            refine x_iinc C 7 dX12_feed_163 rfl (by decide) (lv' := [(0, .ref (aG G 42)), (1, .int (iI k)), (2, .int (iI a)), (3, .int (iI b)), (4, .int (iI c)), (5, .int (iI d)), (6, .int (iI e)), (7, .int (iI (j + 1)))]) rfl ?_
                            refine x_goto C dX12_feed_166 (tgt := 95) (by decide) ?_
                            exact ih95 ((j + 1)) ((u2 (u2 V2 47 (V2 42 12) c) 42 12 ((V2 42 12) + 1))) (by first | assumption | omega) (by refine fedP_s (by decide) hj.1 hI ?_; unfold argF; repeat' split <;> omega) (by omega)
                        · skip
                          refine x_iload_n C 3 dX12_feed_124 rfl rfl ?_
                          refine x_goto C dX12_feed_125 (tgt := 152) (by decide) ?_
                          refine x_iast C 47 dX12_feed_152 (lt67 hn rfl) rfl (by refine ⟨?_, ?_⟩ <;> omega) (by first | assumption | (constructor <;> omega)) ?_
                          refine x_aload_n C 0 dX12_feed_153 rfl rfl ?_
                          refine x_dup C dX12_feed_154 rfl ?_
                          refine x_geti C ok_Model 42 12 dX12_feed_155 (lt67 hn rfl) rfl (by decide) rfl q_8_0 rfl (kz := 12) rfl (fun rg155 => ?_)
                          refine x_top (b := (V2 42 12)) (by first | rfl | (simp only [u2_at]; simp) | (simp only [u2_at]; first | (rw [if_neg (by omega)]) | omega)) ?_
                          refine x_iconst C dX12_feed_158 ?_
                          refine x_iadd C dX12_feed_159 ?_
                          refine x_puti C ok_Model 42 12 dX12_feed_160 (lt67 hn rfl) rfl (by decide) rfl q_8_0 rfl rfl (Or.inl rfl) (by first | assumption | (constructor <;> omega)) (kz := 12) rfl ?_
                          refine x_iinc C 7 dX12_feed_163 rfl (by decide) (lv' := [(0, .ref (aG G 42)), (1, .int (iI k)), (2, .int (iI a)), (3, .int (iI b)), (4, .int (iI c)), (5, .int (iI d)), (6, .int (iI e)), (7, .int (iI (j + 1)))]) rfl ?_
                          refine x_goto C dX12_feed_166 (tgt := 95) (by decide) ?_
                          exact ih95 ((j + 1)) ((u2 (u2 V2 47 (V2 42 12) b) 42 12 ((V2 42 12) + 1))) (by first | assumption | omega) (by refine fedP_s (by decide) hj.1 hI ?_; unfold argF; repeat' split <;> omega) (by omega)
                      · skip
                        refine x_iload_n C 2 dX12_feed_114 rfl rfl ?_
                        refine x_goto C dX12_feed_115 (tgt := 152) (by decide) ?_
                        refine x_iast C 47 dX12_feed_152 (lt67 hn rfl) rfl (by refine ⟨?_, ?_⟩ <;> omega) (by first | assumption | (constructor <;> omega)) ?_
                        refine x_aload_n C 0 dX12_feed_153 rfl rfl ?_
                        refine x_dup C dX12_feed_154 rfl ?_
                        refine x_geti C ok_Model 42 12 dX12_feed_155 (lt67 hn rfl) rfl (by decide) rfl q_8_0 rfl (kz := 12) rfl (fun rg155 => ?_)
                        refine x_top (b := (V2 42 12)) (by first | rfl | (simp only [u2_at]; simp) | (simp only [u2_at]; first | (rw [if_neg (by omega)]) | omega)) ?_
                        refine x_iconst C dX12_feed_158 ?_
                        refine x_iadd C dX12_feed_159 ?_
                        refine x_puti C ok_Model 42 12 dX12_feed_160 (lt67 hn rfl) rfl (by decide) rfl q_8_0 rfl rfl (Or.inl rfl) (by first | assumption | (constructor <;> omega)) (kz := 12) rfl ?_
                        refine x_iinc C 7 dX12_feed_163 rfl (by decide) (lv' := [(0, .ref (aG G 42)), (1, .int (iI k)), (2, .int (iI a)), (3, .int (iI b)), (4, .int (iI c)), (5, .int (iI d)), (6, .int (iI e)), (7, .int (iI (j + 1)))]) rfl ?_
                        refine x_goto C dX12_feed_166 (tgt := 95) (by decide) ?_
                        exact ih95 ((j + 1)) ((u2 (u2 V2 47 (V2 42 12) a) 42 12 ((V2 42 12) + 1))) (by first | assumption | omega) (by refine fedP_s (by decide) hj.1 hI ?_; unfold argF; repeat' split <;> omega) (by omega)
                exact lp_95 ((k - 0).toNat + 1) (0) (V) (by first | assumption | omega) (by exact fedP_0) (by omega)
              · skip
                refine x_bipush C dX12_feed_89 (w := -4) (by decide) ?_
                refine x_iret C dX12_feed_91 ⟨_, _, rfl, rfl, ?_⟩
                · first | (refine Or.inl ⟨?_, rfl, rfl⟩; omega) | (refine Or.inr (Or.inl ⟨?_, ?_, rfl, rfl⟩) <;> omega)
            · skip
              refine x_bipush C dX12_feed_75 (w := -2) (by decide) ?_
              refine x_iret C dX12_feed_77 ⟨_, _, rfl, rfl, ?_⟩
              · first | (refine Or.inl ⟨?_, rfl, rfl⟩; omega) | (refine Or.inr (Or.inl ⟨?_, ?_, rfl, rfl⟩) <;> omega)
set_option maxRecDepth 100000 in
set_option maxHeartbeats 4000000 in
theorem m_X12_adds (G : GS) (n : Nat) (V : Nat → Int → Int) (R : Nat → Int → Option Nat) (q : Int) (a : Int) (s : Int) (z : Int) (hn : 67 ≤ n) (hLR : LR R) (gq : Rg q) (ga : Rg a) (gs : Rg s) (gz : Rg z) (h4 : 0 ≤ V 42 4 ∧ V 42 4 ≤ 7) : Cn G yX12_adds cX12_adds 5 none (rmk 1 0 0 16) [.ref (aG G 42), .int (iI q), .int (iI a), .int (iI s), .int (iI z)] n V R 0 0 (fun vv uu => vv = none ∧ uu = (n, u2 (u2 (u2 (u2 (u2 V 43 (4 * V 42 4) q) 43 (4 * V 42 4 + 1) a) 43 (4 * V 42 4 + 2) s) 43 (4 * V 42 4 + 3) z) 42 4 (V 42 4 + 1), R)) := by
  refine Cn.of (by decide) (Nat.le_of_ble_eq_true rfl) (fun K C hct => ?_)
  show Xw K G 0 0 _ n V R 0 [(0, .ref (aG G 42)), (1, .int (iI q)), (2, .int (iI a)), (3, .int (iI s)), (4, .int (iI z))] []
  refine x_aload_n C 0 dX12_adds_0 rfl rfl ?_
  refine x_getr C ok_Model 42 5 (d := 43) dX12_adds_1 (lt67 hn rfl) rfl (by decide) rfl q_4_1 rfl (kz := 5) rfl (lr_42_5 hLR) ?_
  refine x_iconst C dX12_adds_4 ?_
  refine x_aload_n C 0 dX12_adds_5 rfl rfl ?_
  refine x_geti C ok_Model 42 4 dX12_adds_6 (lt67 hn rfl) rfl (by decide) rfl q_6_14 rfl (kz := 4) rfl (fun rg6 => ?_)
  refine x_imul C dX12_adds_9 ?_
  refine x_iload_n C 1 dX12_adds_10 rfl rfl ?_
  refine x_iast C 43 dX12_adds_11 (lt67 hn rfl) rfl (by refine ⟨?_, ?_⟩ <;> omega) (by first | assumption | (constructor <;> omega)) ?_
  refine x_aload_n C 0 dX12_adds_12 rfl rfl ?_
  refine x_getr C ok_Model 42 5 (d := 43) dX12_adds_13 (lt67 hn rfl) rfl (by decide) rfl q_4_1 rfl (kz := 5) rfl (lr_42_5 hLR) ?_
  refine x_iconst C dX12_adds_16 ?_
  refine x_aload_n C 0 dX12_adds_17 rfl rfl ?_
  refine x_geti C ok_Model 42 4 dX12_adds_18 (lt67 hn rfl) rfl (by decide) rfl q_6_14 rfl (kz := 4) rfl (fun rg18 => ?_)
  refine x_top (b := (V 42 4)) (by first | rfl | (simp only [u2_at]; simp) | (simp only [u2_at]; first | (rw [if_neg (by omega)]) | omega)) ?_
  refine x_imul C dX12_adds_21 ?_
  refine x_iconst C dX12_adds_22 ?_
  refine x_iadd C dX12_adds_23 ?_
  refine x_iload_n C 2 dX12_adds_24 rfl rfl ?_
  refine x_iast C 43 dX12_adds_25 (lt67 hn rfl) rfl (by refine ⟨?_, ?_⟩ <;> omega) (by first | assumption | (constructor <;> omega)) ?_
  refine x_aload_n C 0 dX12_adds_26 rfl rfl ?_
  refine x_getr C ok_Model 42 5 (d := 43) dX12_adds_27 (lt67 hn rfl) rfl (by decide) rfl q_4_1 rfl (kz := 5) rfl (lr_42_5 hLR) ?_
  refine x_iconst C dX12_adds_30 ?_
  refine x_aload_n C 0 dX12_adds_31 rfl rfl ?_
  refine x_geti C ok_Model 42 4 dX12_adds_32 (lt67 hn rfl) rfl (by decide) rfl q_6_14 rfl (kz := 4) rfl (fun rg32 => ?_)
  refine x_top (b := (V 42 4)) (by first | rfl | (simp only [u2_at]; simp) | (simp only [u2_at]; first | (rw [if_neg (by omega)]) | omega)) ?_
  refine x_imul C dX12_adds_35 ?_
  refine x_iconst C dX12_adds_36 ?_
  refine x_iadd C dX12_adds_37 ?_
  refine x_iload_n C 3 dX12_adds_38 rfl rfl ?_
  refine x_iast C 43 dX12_adds_39 (lt67 hn rfl) rfl (by refine ⟨?_, ?_⟩ <;> omega) (by first | assumption | (constructor <;> omega)) ?_
  refine x_aload_n C 0 dX12_adds_40 rfl rfl ?_
  refine x_getr C ok_Model 42 5 (d := 43) dX12_adds_41 (lt67 hn rfl) rfl (by decide) rfl q_4_1 rfl (kz := 5) rfl (lr_42_5 hLR) ?_
  refine x_iconst C dX12_adds_44 ?_
  refine x_aload_n C 0 dX12_adds_45 rfl rfl ?_
  refine x_geti C ok_Model 42 4 dX12_adds_46 (lt67 hn rfl) rfl (by decide) rfl q_6_14 rfl (kz := 4) rfl (fun rg46 => ?_)
  refine x_top (b := (V 42 4)) (by first | rfl | (simp only [u2_at]; simp) | (simp only [u2_at]; first | (rw [if_neg (by omega)]) | omega)) ?_
  refine x_imul C dX12_adds_49 ?_
  refine x_iconst C dX12_adds_50 ?_
  refine x_iadd C dX12_adds_51 ?_
  refine x_iload C 4 dX12_adds_52 rfl ?_
  refine x_iast C 43 dX12_adds_54 (lt67 hn rfl) rfl (by refine ⟨?_, ?_⟩ <;> omega) (by first | assumption | (constructor <;> omega)) ?_
  refine x_aload_n C 0 dX12_adds_55 rfl rfl ?_
  refine x_dup C dX12_adds_56 rfl ?_
  refine x_geti C ok_Model 42 4 dX12_adds_57 (lt67 hn rfl) rfl (by decide) rfl q_6_14 rfl (kz := 4) rfl (fun rg57 => ?_)
  refine x_top (b := (V 42 4)) (by first | rfl | (simp only [u2_at]; simp) | (simp only [u2_at]; first | (rw [if_neg (by omega)]) | omega)) ?_
  refine x_iconst C dX12_adds_60 ?_
  refine x_iadd C dX12_adds_61 ?_
  refine x_puti C ok_Model 42 4 dX12_adds_62 (lt67 hn rfl) rfl (by decide) rfl q_6_14 rfl rfl (Or.inl rfl) (by first | assumption | (constructor <;> omega)) (kz := 4) rfl ?_
  refine x_vret C dX12_adds_65 ⟨rfl, rfl⟩
set_option maxRecDepth 100000 in
set_option maxHeartbeats 4000000 in
theorem m_X12_fault (G : GS) (n : Nat) (V : Nat → Int → Int) (R : Nat → Int → Option Nat) (q : Int) (a : Int) (s : Int) (z : Int) (hn : 67 ≤ n) (hLR : LR R) (gq : Rg q) (ga : Rg a) (gs : Rg s) (gz : Rg z) (h4 : 0 ≤ V 42 4 ∧ V 42 4 ≤ 8) : Cn G yX12_fault cX12_fault 5 (some .int) (rmk 2 0 0 41) [.ref (aG G 42), .int (iI q), .int (iI a), .int (iI s), .int (iI z)] n V R 0 0 (fun vv uu => ∃ (r : Int), ∃ (V1 : Nat → Int → Int), vv = some (.int (iI r)) ∧ uu = (n, V1, R) ∧ (((V 42 2 = 0) ∧ r = (-3) ∧ V1 = V) ∨ ((V 42 2 ≠ 0 ∧ ¬ ((0 ≤ q ∧ q ≤ 6) ∧ (0 ≤ a ∧ a ≤ 7) ∧ (0 ≤ s ∧ s ≤ 7) ∧ (1 ≤ z ∧ z ≤ 4))) ∧ r = (-2) ∧ V1 = V) ∨ ((V 42 2 ≠ 0 ∧ ((0 ≤ q ∧ q ≤ 6) ∧ (0 ≤ a ∧ a ≤ 7) ∧ (0 ≤ s ∧ s ≤ 7) ∧ (1 ≤ z ∧ z ≤ 4)) ∧ V 42 4 = 8) ∧ r = (-4) ∧ V1 = V) ∨ ((V 42 2 ≠ 0 ∧ ((0 ≤ q ∧ q ≤ 6) ∧ (0 ≤ a ∧ a ≤ 7) ∧ (0 ≤ s ∧ s ≤ 7) ∧ (1 ≤ z ∧ z ≤ 4)) ∧ V 42 4 ≠ 8) ∧ r = V 42 4 ∧ V1 = u2 (u2 (u2 (u2 (u2 V 43 (4 * V 42 4) q) 43 (4 * V 42 4 + 1) a) 43 (4 * V 42 4 + 2) s) 43 (4 * V 42 4 + 3) z) 42 4 (V 42 4 + 1)))) := by
  refine Cn.of (by decide) (Nat.le_of_ble_eq_true rfl) (fun K C hct => ?_)
  show Xw K G 0 0 _ n V R 0 [(0, .ref (aG G 42)), (1, .int (iI q)), (2, .int (iI a)), (3, .int (iI s)), (4, .int (iI z))] []
  refine x_aload_n C 0 dX12_fault_0 rfl rfl ?_
  refine x_geti C ok_Model 42 2 dX12_fault_1 (lt67 hn rfl) rfl (by decide) rfl q_6_12 rfl (kz := 2) rfl (fun rg1 => ?_)
  refine x_if_ne C dX12_fault_4 (tgt := 10) (by decide) (by first | assumption | (constructor <;> omega)) (fun h4 => ?_) (fun h4 => ?_)
  · skip
    refine x_iload_n C 1 dX12_fault_10 rfl rfl ?_
    refine x_i2l C dX12_fault_11 (by first | assumption | (constructor <;> omega)) ?_
    refine x_lconst C dX12_fault_12 (w := 0) (by decide) ?_
    refine x_ldc2 C dX12_fault_13 q_6_7 (w := 6) (by decide) ?_
    refine x_runU (r_callS C (ce_X12_in) (m_X12_in G n V R (q) (0) (6) (by first | assumption | omega | decide) (by first | assumption | omega | decide) (by first | assumption | omega | decide)) dX12_fault_16 q_6_15 q_6_16 rfl rfl ⟨Nat.le_of_ble_eq_true rfl, Nat.le_of_ble_eq_true rfl⟩ ⟨rfl, rfl⟩ ⟨Nat.le_of_ble_eq_true rfl, Nat.le_of_ble_eq_true rfl⟩ (Nat.le_of_ble_eq_true rfl)) (fun v16 u16 hp16 => ?_)
    obtain ⟨rfl, rfl⟩ := hp16
    show Xw K G 0 0 _ n V R 19 [(0, .ref (aG G 42)), (1, .int (iI q)), (2, .int (iI a)), (3, .int (iI s)), (4, .int (iI z))] [.int (iI (bI (0 ≤ q ∧ q ≤ 6)))]
    refine x_ifeq_b C dX12_fault_19 (tgt := 59) (by decide) (fun h19 => ?_) (fun h19 => ?_)
    · skip
      refine x_bipush C dX12_fault_59 (w := -2) (by decide) ?_
      refine x_iret C dX12_fault_61 ⟨_, _, rfl, rfl, ?_⟩
      · first | (refine Or.inl ⟨?_, ?_, ?_⟩ <;> first | rfl | assumption | omega | exact congrArg _ (by omega)) | (refine Or.inr (Or.inl ⟨?_, ?_, ?_⟩) <;> first | rfl | assumption | omega | exact congrArg _ (by omega)) | (refine Or.inr (Or.inr (Or.inl ⟨?_, ?_, ?_⟩)) <;> first | rfl | assumption | omega | exact congrArg _ (by omega)) | (refine Or.inr (Or.inr (Or.inr (⟨?_, ?_, ?_⟩))) <;> first | rfl | assumption | omega | exact congrArg _ (by omega))
    · skip
      refine x_iload_n C 2 dX12_fault_22 rfl rfl ?_
      refine x_i2l C dX12_fault_23 (by first | assumption | (constructor <;> omega)) ?_
      refine x_lconst C dX12_fault_24 (w := 0) (by decide) ?_
      refine x_ldc2 C dX12_fault_25 q_16_21 (w := 7) (by decide) ?_
      refine x_runU (r_callS C (ce_X12_in) (m_X12_in G n V R (a) (0) (7) (by first | assumption | omega | decide) (by first | assumption | omega | decide) (by first | assumption | omega | decide)) dX12_fault_28 q_6_15 q_6_16 rfl rfl ⟨Nat.le_of_ble_eq_true rfl, Nat.le_of_ble_eq_true rfl⟩ ⟨rfl, rfl⟩ ⟨Nat.le_of_ble_eq_true rfl, Nat.le_of_ble_eq_true rfl⟩ (Nat.le_of_ble_eq_true rfl)) (fun v28 u28 hp28 => ?_)
      obtain ⟨rfl, rfl⟩ := hp28
      show Xw K G 0 0 _ n V R 31 [(0, .ref (aG G 42)), (1, .int (iI q)), (2, .int (iI a)), (3, .int (iI s)), (4, .int (iI z))] [.int (iI (bI (0 ≤ a ∧ a ≤ 7)))]
      refine x_ifeq_b C dX12_fault_31 (tgt := 59) (by decide) (fun h31 => ?_) (fun h31 => ?_)
      · skip
        refine x_bipush C dX12_fault_59 (w := -2) (by decide) ?_
        refine x_iret C dX12_fault_61 ⟨_, _, rfl, rfl, ?_⟩
        · first | (refine Or.inl ⟨?_, ?_, ?_⟩ <;> first | rfl | assumption | omega | exact congrArg _ (by omega)) | (refine Or.inr (Or.inl ⟨?_, ?_, ?_⟩) <;> first | rfl | assumption | omega | exact congrArg _ (by omega)) | (refine Or.inr (Or.inr (Or.inl ⟨?_, ?_, ?_⟩)) <;> first | rfl | assumption | omega | exact congrArg _ (by omega)) | (refine Or.inr (Or.inr (Or.inr (⟨?_, ?_, ?_⟩))) <;> first | rfl | assumption | omega | exact congrArg _ (by omega))
      · skip
        refine x_iload_n C 3 dX12_fault_34 rfl rfl ?_
        refine x_i2l C dX12_fault_35 (by first | assumption | (constructor <;> omega)) ?_
        refine x_lconst C dX12_fault_36 (w := 0) (by decide) ?_
        refine x_ldc2 C dX12_fault_37 q_16_21 (w := 7) (by decide) ?_
        refine x_runU (r_callS C (ce_X12_in) (m_X12_in G n V R (s) (0) (7) (by first | assumption | omega | decide) (by first | assumption | omega | decide) (by first | assumption | omega | decide)) dX12_fault_40 q_6_15 q_6_16 rfl rfl ⟨Nat.le_of_ble_eq_true rfl, Nat.le_of_ble_eq_true rfl⟩ ⟨rfl, rfl⟩ ⟨Nat.le_of_ble_eq_true rfl, Nat.le_of_ble_eq_true rfl⟩ (Nat.le_of_ble_eq_true rfl)) (fun v40 u40 hp40 => ?_)
        obtain ⟨rfl, rfl⟩ := hp40
        show Xw K G 0 0 _ n V R 43 [(0, .ref (aG G 42)), (1, .int (iI q)), (2, .int (iI a)), (3, .int (iI s)), (4, .int (iI z))] [.int (iI (bI (0 ≤ s ∧ s ≤ 7)))]
        refine x_ifeq_b C dX12_fault_43 (tgt := 59) (by decide) (fun h43 => ?_) (fun h43 => ?_)
        · skip
          refine x_bipush C dX12_fault_59 (w := -2) (by decide) ?_
          refine x_iret C dX12_fault_61 ⟨_, _, rfl, rfl, ?_⟩
          · first | (refine Or.inl ⟨?_, ?_, ?_⟩ <;> first | rfl | assumption | omega | exact congrArg _ (by omega)) | (refine Or.inr (Or.inl ⟨?_, ?_, ?_⟩) <;> first | rfl | assumption | omega | exact congrArg _ (by omega)) | (refine Or.inr (Or.inr (Or.inl ⟨?_, ?_, ?_⟩)) <;> first | rfl | assumption | omega | exact congrArg _ (by omega)) | (refine Or.inr (Or.inr (Or.inr (⟨?_, ?_, ?_⟩))) <;> first | rfl | assumption | omega | exact congrArg _ (by omega))
        · skip
          refine x_iload C 4 dX12_fault_46 rfl ?_
          refine x_i2l C dX12_fault_48 (by first | assumption | (constructor <;> omega)) ?_
          refine x_lconst C dX12_fault_49 (w := 1) (by decide) ?_
          refine x_ldc2 C dX12_fault_50 q_6_8 (w := 4) (by decide) ?_
          refine x_runU (r_callS C (ce_X12_in) (m_X12_in G n V R (z) (1) (4) (by first | assumption | omega | decide) (by first | assumption | omega | decide) (by first | assumption | omega | decide)) dX12_fault_53 q_6_15 q_6_16 rfl rfl ⟨Nat.le_of_ble_eq_true rfl, Nat.le_of_ble_eq_true rfl⟩ ⟨rfl, rfl⟩ ⟨Nat.le_of_ble_eq_true rfl, Nat.le_of_ble_eq_true rfl⟩ (Nat.le_of_ble_eq_true rfl)) (fun v53 u53 hp53 => ?_)
          obtain ⟨rfl, rfl⟩ := hp53
          show Xw K G 0 0 _ n V R 56 [(0, .ref (aG G 42)), (1, .int (iI q)), (2, .int (iI a)), (3, .int (iI s)), (4, .int (iI z))] [.int (iI (bI (1 ≤ z ∧ z ≤ 4)))]
          refine x_ifne_b C dX12_fault_56 (tgt := 62) (by decide) (fun h56 => ?_) (fun h56 => ?_)
          · skip
            refine x_aload_n C 0 dX12_fault_62 rfl rfl ?_
            refine x_geti C ok_Model 42 4 dX12_fault_63 (lt67 hn rfl) rfl (by decide) rfl q_6_14 rfl (kz := 4) rfl (fun rg63 => ?_)
            refine x_bipush C dX12_fault_66 (w := 8) (by decide) ?_
            refine x_icmp_ne C dX12_fault_68 (tgt := 74) (by decide) (by first | assumption | (constructor <;> omega)) (by first | assumption | (constructor <;> omega)) (fun h68 => ?_) (fun h68 => ?_)
            · skip
              refine x_aload_n C 0 dX12_fault_74 rfl rfl ?_
              refine x_iload_n C 1 dX12_fault_75 rfl rfl ?_
              refine x_iload_n C 2 dX12_fault_76 rfl rfl ?_
              refine x_iload_n C 3 dX12_fault_77 rfl rfl ?_
              refine x_iload C 4 dX12_fault_78 rfl ?_
              refine x_runU (r_callV C ok_Model 42 (lt67 hn rfl) rfl (ce_X12_adds) (m_X12_adds G n V R (q) (a) (s) (z) hn hLR (by first | assumption | omega | decide) (by first | assumption | omega | decide) (by first | assumption | omega | decide) (by first | assumption | omega | decide) (by first | assumption | omega | decide)) rfl dX12_fault_80 q_16_22 q_16_23 q_17_0 rfl rfl ⟨Nat.le_of_ble_eq_true rfl, Nat.le_of_ble_eq_true rfl⟩ ⟨rfl, rfl⟩ ⟨Nat.le_of_ble_eq_true rfl, Nat.le_of_ble_eq_true rfl⟩ (Nat.le_of_ble_eq_true rfl)) (fun v80 u80 hp80 => ?_)
              obtain ⟨rfl, rfl⟩ := hp80
              show Xw K G 0 0 _ n (u2 (u2 (u2 (u2 (u2 V 43 (4 * V 42 4) q) 43 (4 * V 42 4 + 1) a) 43 (4 * V 42 4 + 2) s) 43 (4 * V 42 4 + 3) z) 42 4 (V 42 4 + 1)) R 83 [(0, .ref (aG G 42)), (1, .int (iI q)), (2, .int (iI a)), (3, .int (iI s)), (4, .int (iI z))] []
              refine x_aload_n C 0 dX12_fault_83 rfl rfl ?_
              refine x_geti C ok_Model 42 4 dX12_fault_84 (lt67 hn rfl) rfl (by decide) rfl q_6_14 rfl (kz := 4) rfl (fun rg84 => ?_)
              refine x_top (b := (V 42 4 + 1)) (by first | rfl | (simp only [u2_at]; simp) | (simp only [u2_at]; first | (rw [if_neg (by omega)]) | omega)) ?_
              refine x_iconst C dX12_fault_87 ?_
              refine x_isub C dX12_fault_88 ?_
              refine x_iret C dX12_fault_89 ⟨_, _, rfl, rfl, ?_⟩
              · first | (refine Or.inl ⟨?_, ?_, ?_⟩ <;> first | rfl | assumption | omega | exact congrArg _ (by omega)) | (refine Or.inr (Or.inl ⟨?_, ?_, ?_⟩) <;> first | rfl | assumption | omega | exact congrArg _ (by omega)) | (refine Or.inr (Or.inr (Or.inl ⟨?_, ?_, ?_⟩)) <;> first | rfl | assumption | omega | exact congrArg _ (by omega)) | (refine Or.inr (Or.inr (Or.inr (⟨?_, ?_, ?_⟩))) <;> first | rfl | assumption | omega | exact congrArg _ (by omega))
            · skip
              refine x_bipush C dX12_fault_71 (w := -4) (by decide) ?_
              refine x_iret C dX12_fault_73 ⟨_, _, rfl, rfl, ?_⟩
              · first | (refine Or.inl ⟨?_, ?_, ?_⟩ <;> first | rfl | assumption | omega | exact congrArg _ (by omega)) | (refine Or.inr (Or.inl ⟨?_, ?_, ?_⟩) <;> first | rfl | assumption | omega | exact congrArg _ (by omega)) | (refine Or.inr (Or.inr (Or.inl ⟨?_, ?_, ?_⟩)) <;> first | rfl | assumption | omega | exact congrArg _ (by omega)) | (refine Or.inr (Or.inr (Or.inr (⟨?_, ?_, ?_⟩))) <;> first | rfl | assumption | omega | exact congrArg _ (by omega))
          · skip
            refine x_bipush C dX12_fault_59 (w := -2) (by decide) ?_
            refine x_iret C dX12_fault_61 ⟨_, _, rfl, rfl, ?_⟩
            · first | (refine Or.inl ⟨?_, ?_, ?_⟩ <;> first | rfl | assumption | omega | exact congrArg _ (by omega)) | (refine Or.inr (Or.inl ⟨?_, ?_, ?_⟩) <;> first | rfl | assumption | omega | exact congrArg _ (by omega)) | (refine Or.inr (Or.inr (Or.inl ⟨?_, ?_, ?_⟩)) <;> first | rfl | assumption | omega | exact congrArg _ (by omega)) | (refine Or.inr (Or.inr (Or.inr (⟨?_, ?_, ?_⟩))) <;> first | rfl | assumption | omega | exact congrArg _ (by omega))
  · skip
    refine x_bipush C dX12_fault_7 (w := -3) (by decide) ?_
    refine x_iret C dX12_fault_9 ⟨_, _, rfl, rfl, ?_⟩
    · first | (refine Or.inl ⟨?_, ?_, ?_⟩ <;> first | rfl | assumption | omega | exact congrArg _ (by omega)) | (refine Or.inr (Or.inl ⟨?_, ?_, ?_⟩) <;> first | rfl | assumption | omega | exact congrArg _ (by omega)) | (refine Or.inr (Or.inr (Or.inl ⟨?_, ?_, ?_⟩)) <;> first | rfl | assumption | omega | exact congrArg _ (by omega)) | (refine Or.inr (Or.inr (Or.inr (⟨?_, ?_, ?_⟩))) <;> first | rfl | assumption | omega | exact congrArg _ (by omega))
set_option maxRecDepth 100000 in
set_option maxHeartbeats 4000000 in
theorem m_X12_goes (G : GS) (n : Nat) (V : Nat → Int → Int) (R : Nat → Int → Option Nat) (f : Int) (hn : 67 ≤ n) (hLR : LR R) (hf : 0 ≤ f ∧ f ≤ V 42 4 - 1) (h4 : 0 ≤ V 42 4 ∧ V 42 4 ≤ 8) : Cn G yX12_goes cX12_goes 3 none (rmk 1 0 0 16) [.ref (aG G 42), .int (iI f)] n V R 0 0 (fun vv uu => ∃ (V1 : Nat → Int → Int), vv = none ∧ uu = (n, V1, R) ∧ (goneP V V1 f (V 42 4))) := by
  refine Cn.of (by decide) (Nat.le_of_ble_eq_true rfl) (fun K C hct => ?_)
  show Xw K G 0 0 _ n V R 0 [(0, .ref (aG G 42)), (1, .int (iI f))] []
  refine x_iconst C dX12_goes_0 ?_
  refine x_iload_n C 1 dX12_goes_1 rfl rfl ?_
  refine x_imul C dX12_goes_2 ?_
  refine x_istore_n C dX12_goes_3 rfl (by decide) (lv' := [(0, .ref (aG G 42)), (1, .int (iI f)), (2, .int (iI (4 * f)))]) rfl ?_
  have lp_4 : ∀ (fuel : Nat) (w : Int) (V2 : Nat → Int → Int), (4 * f ≤ w ∧ w ≤ 4 * (V 42 4 - 1)) → ((∀ x, 0 ≤ x → x < 4 * f → V2 43 x = V 43 x) ∧ (∀ x, 4 * f ≤ x → x < w → V2 43 x = V 43 (x + 4)) ∧ (∀ x, w ≤ x → V2 43 x = V 43 x) ∧ ∀ p, p ≠ 43 → V2 p = V p) → (4 * (V 42 4 - 1) - w) < (fuel : Int) → Xw K G 0 0 (EndQ K G 0 0 (fun vv uu => ∃ (V1 : Nat → Int → Int), vv = none ∧ uu = (n, V1, R) ∧ (goneP V V1 f (V 42 4)))) n V2 R 4 [(0, .ref (aG G 42)), (1, .int (iI f)), (2, .int (iI w))] [] := by
    intro fuel4
    induction fuel4 with
    | zero => intro w V2 hw hI hfu4; exfalso; omega
    | succ fuel4 ih4 =>
      intro w V2 hw hI hfu4
      have e42 : V2 42 = V 42 := hI.2.2.2 42 (by decide)
      have e424 : V2 42 4 = V 42 4 := by rw [e42]
      refine x_iload_n C 2 dX12_goes_4 rfl rfl ?_
      refine x_iconst C dX12_goes_5 ?_
      refine x_iadd C dX12_goes_6 ?_
      refine x_iconst C dX12_goes_7 ?_
      refine x_aload_n C 0 dX12_goes_8 rfl rfl ?_
      refine x_geti C ok_Model 42 4 dX12_goes_9 (lt67 hn rfl) rfl (by decide) rfl q_6_14 rfl (kz := 4) rfl (fun rg9 => ?_)
      refine x_imul C dX12_goes_12 ?_
      refine x_icmp_ge C dX12_goes_13 (tgt := 36) (by decide) (by first | assumption | (constructor <;> omega)) (by first | assumption | (constructor <;> omega)) (fun h13 => ?_) (fun h13 => ?_)
      · skip
        refine x_aload_n C 0 dX12_goes_36 rfl rfl ?_
        refine x_dup C dX12_goes_37 rfl ?_
        refine x_geti C ok_Model 42 4 dX12_goes_38 (lt67 hn rfl) rfl (by decide) rfl q_6_14 rfl (kz := 4) rfl (fun rg38 => ?_)
        refine x_iconst C dX12_goes_41 ?_
        refine x_isub C dX12_goes_42 ?_
        refine x_puti C ok_Model 42 4 dX12_goes_43 (lt67 hn rfl) rfl (by decide) rfl q_6_14 rfl rfl (Or.inl rfl) (by first | assumption | (constructor <;> omega)) (kz := 4) rfl ?_
        refine x_vret C dX12_goes_46 ⟨_, rfl, rfl, ?_⟩
        · exact goes_end hf.1 (by omega) hI e42
      · skip
        refine x_aload_n C 0 dX12_goes_16 rfl rfl ?_
        refine x_getr C ok_Model 42 5 (d := 43) dX12_goes_17 (lt67 hn rfl) rfl (by decide) rfl q_4_1 rfl (kz := 5) rfl (lr_42_5 hLR) ?_
        refine x_iload_n C 2 dX12_goes_20 rfl rfl ?_
        refine x_aload_n C 0 dX12_goes_21 rfl rfl ?_
        refine x_getr C ok_Model 42 5 (d := 43) dX12_goes_22 (lt67 hn rfl) rfl (by decide) rfl q_4_1 rfl (kz := 5) rfl (lr_42_5 hLR) ?_
        refine x_iload_n C 2 dX12_goes_25 rfl rfl ?_
        refine x_iconst C dX12_goes_26 ?_
        refine x_iadd C dX12_goes_27 ?_
        refine x_iald C 43 dX12_goes_28 (lt67 hn rfl) rfl (by refine ⟨?_, ?_⟩ <;> omega) (fun rg28 => ?_)
        refine x_iast C 43 dX12_goes_29 (lt67 hn rfl) rfl (by refine ⟨?_, ?_⟩ <;> omega) (by first | assumption | (constructor <;> omega)) ?_
        refine x_iinc C 2 dX12_goes_30 rfl (by decide) (lv' := [(0, .ref (aG G 42)), (1, .int (iI f)), (2, .int (iI (w + 1)))]) rfl ?_
        refine x_goto C dX12_goes_33 (tgt := 4) (by decide) ?_
        exact ih4 ((w + 1)) ((u2 V2 43 w (V2 43 (w + 4)))) (by omega) (by exact goes_st hw.1 hf.1 hI) (by omega)
  exact lp_4 ((4 * (V 42 4 - 1) - (4 * f)).toNat + 1) ((4 * f)) (V) (by omega) (by exact ⟨fun _ _ _ => rfl, fun x a b => by omega, fun _ _ => rfl, fun _ _ => rfl⟩) (by omega)
set_option maxRecDepth 100000 in
set_option maxHeartbeats 4000000 in
theorem m_X12_heal (G : GS) (n : Nat) (V : Nat → Int → Int) (R : Nat → Int → Option Nat) (f : Int) (hn : 67 ≤ n) (hLR : LR R) (gf : Rg f) (h4 : 0 ≤ V 42 4 ∧ V 42 4 ≤ 8) : Cn G yX12_heal cX12_heal 2 (some .int) (rmk 2 0 0 41) [.ref (aG G 42), .int (iI f)] n V R 0 0 (fun vv uu => ∃ (r : Int), ∃ (V1 : Nat → Int → Int), vv = some (.int (iI r)) ∧ uu = (n, V1, R) ∧ ((¬ (0 ≤ f ∧ f ≤ V 42 4 - 1) ∧ r = -2 ∧ V1 = V) ∨ ((0 ≤ f ∧ f ≤ V 42 4 - 1) ∧ r = V 42 4 - 1 ∧ goneP V V1 f (V 42 4)))) := by
  refine Cn.of (by decide) (Nat.le_of_ble_eq_true rfl) (fun K C hct => ?_)
  show Xw K G 0 0 _ n V R 0 [(0, .ref (aG G 42)), (1, .int (iI f))] []
  refine x_iload_n C 1 dX12_heal_0 rfl rfl ?_
  refine x_i2l C dX12_heal_1 (by first | assumption | (constructor <;> omega)) ?_
  refine x_lconst C dX12_heal_2 (w := 0) (by decide) ?_
  refine x_aload_n C 0 dX12_heal_3 rfl rfl ?_
  refine x_geti C ok_Model 42 4 dX12_heal_4 (lt67 hn rfl) rfl (by decide) rfl q_6_14 rfl (kz := 4) rfl (fun rg4 => ?_)
  refine x_iconst C dX12_heal_7 ?_
  refine x_isub C dX12_heal_8 ?_
  refine x_i2l C dX12_heal_9 (by first | assumption | (constructor <;> omega)) ?_
  refine x_runU (r_callS C (ce_X12_in) (m_X12_in G n V R (f) (0) ((V 42 4) - 1) (by first | assumption | omega | decide) (by first | assumption | omega | decide) (by first | assumption | omega | decide)) dX12_heal_10 q_6_15 q_6_16 rfl rfl ⟨Nat.le_of_ble_eq_true rfl, Nat.le_of_ble_eq_true rfl⟩ ⟨rfl, rfl⟩ ⟨Nat.le_of_ble_eq_true rfl, Nat.le_of_ble_eq_true rfl⟩ (Nat.le_of_ble_eq_true rfl)) (fun v10 u10 hp10 => ?_)
  obtain ⟨rfl, rfl⟩ := hp10
  show Xw K G 0 0 _ n V R 13 [(0, .ref (aG G 42)), (1, .int (iI f))] [.int (iI (bI (0 ≤ f ∧ f ≤ ((V 42 4) - 1))))]
  refine x_ifne_b C dX12_heal_13 (tgt := 19) (by decide) (fun h13 => ?_) (fun h13 => ?_)
  · skip
    refine x_aload_n C 0 dX12_heal_19 rfl rfl ?_
    refine x_iload_n C 1 dX12_heal_20 rfl rfl ?_
    refine x_runU (r_callV C ok_Model 42 (lt67 hn rfl) rfl (ce_X12_goes) (m_X12_goes G n V R (f) hn hLR (by first | assumption | omega | decide) (by first | assumption | omega | decide)) rfl dX12_heal_21 q_17_18 q_17_19 q_17_20 rfl rfl ⟨Nat.le_of_ble_eq_true rfl, Nat.le_of_ble_eq_true rfl⟩ ⟨rfl, rfl⟩ ⟨Nat.le_of_ble_eq_true rfl, Nat.le_of_ble_eq_true rfl⟩ (Nat.le_of_ble_eq_true rfl)) (fun v21 u21 hp21 => ?_)
    obtain ⟨V1_21, rfl, rfl, hq21_0⟩ := hp21
    show Xw K G 0 0 _ n V1_21 R 24 [(0, .ref (aG G 42)), (1, .int (iI f))] []
    refine x_aload_n C 0 dX12_heal_24 rfl rfl ?_
    refine x_geti C ok_Model 42 4 dX12_heal_25 (lt67 hn rfl) rfl (by decide) rfl q_6_14 rfl (kz := 4) rfl (fun rg25 => ?_)
    refine x_iret C dX12_heal_28 ⟨_, _, rfl, rfl, ?_⟩
    · exact Or.inr ⟨by omega, hq21_0.1, hq21_0⟩
  · skip
    refine x_bipush C dX12_heal_16 (w := -2) (by decide) ?_
    refine x_iret C dX12_heal_18 ⟨_, _, rfl, rfl, ?_⟩
    · exact Or.inl ⟨by omega, rfl, rfl⟩
