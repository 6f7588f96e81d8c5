theorem zUshr9 (a : Int) : 0 ≤ zUshr a 9 ∧ zUshr a 9 < 8388608 := by
  unfold zUshr
  have e : ((iI 9).toUInt32 &&& Int32.toUInt32 31) = 9 := by decide
  rw [e]
  obtain ⟨x, hx⟩ : ∃ x, x = (iI a).toUInt32 := ⟨_, rfl⟩
  rw [← hx]
  have h1 : (x >>> 9).toNat = x.toNat / 512 := by
    rw [UInt32.toNat_shiftRight]
    show x.toNat >>> 9 = _
    rw [Nat.shiftRight_eq_div_pow]
  have h2 : x.toNat < 4294967296 := x.toNat_lt
  have h3 : (x >>> 9).toInt32.toInt = ((x >>> 9).toNat : Int) := by
    show (x >>> 9).toBitVec.toInt = _
    rw [BitVec.toInt_eq_toNat_of_lt]
    · rfl
    · show 2 * (x >>> 9).toNat < 2 ^ 32
      rw [h1]; omega
  rw [h3, h1]; omega
theorem gone_ok {V V1 : Nat → Int → Int} {f : Int} (hl : LogOk V) (hg : goneP V V1 f (V 42 4)) (hf : 0 ≤ f) (hf2 : f ≤ V 42 4 - 1) : LogOk V1 := by
  obtain ⟨h1, h2, h3, h5, h4, hF⟩ := hl
  obtain ⟨g1, g2, g3⟩ := hg
  have k : ∀ z, z ≠ 4 → V1 42 z = V 42 z := fun z a => g3 42 z (fun x => a x.2) (by decide)
  refine ⟨by rw [k 0 (by decide)]; exact h1, by rw [k 1 (by decide)]; exact h2, by rw [k 2 (by decide)]; exact h3, by rw [k 3 (by decide)]; exact h5, by rw [g1]; omega, fun i a b => ?_⟩
  rw [g1] at b
  unfold okM
  rw [g2 (4 * i) (by omega) (by omega), g2 (4 * i + 1) (by omega) (by omega), g2 (4 * i + 2) (by omega) (by omega), g2 (4 * i + 3) (by omega) (by omega)]
  by_cases q : i < f
  · rw [if_pos (by omega), if_pos (by omega), if_pos (by omega), if_pos (by omega)]; exact hF i a (by omega)
  · rw [if_neg (by omega), if_neg (by omega), if_neg (by omega), if_neg (by omega)]
    have := hF (i + 1) (by omega) (by omega)
    unfold okM at this
    rw [show 4 * (i + 1) = 4 * i + 4 by omega, show 4 * i + 4 + 1 = 4 * i + 1 + 4 by omega, show 4 * i + 4 + 2 = 4 * i + 2 + 4 by omega, show 4 * i + 4 + 3 = 4 * i + 3 + 4 by omega] at this
    exact this
theorem wo_F {V V2 V3 : Nat → Int → Int} {f m i j : Int} (e : V2 43 = V 43) (hg : goneP V2 V3 f m) (a : 0 ≤ i) (b : i < m - 1) (j0 : 0 ≤ j) (j1 : j ≤ 3) : FM V3 i j = if i < f then FM V i j else FM V (i + 1) j := by
  unfold FM
  rw [hg.2.1 _ (by omega) (by omega), e]
  by_cases q : i < f
  · rw [if_pos (by omega), if_pos q]
  · rw [if_neg (by omega), if_neg q]; congr 1; omega
theorem wo_fr {V V2 V3 V4 V5 : Nat → Int → Int} {f m : Int} (hF2 : FrT V V2 58) (hc2 : ∀ z, 0 ≤ z → z < 32 → V2 58 z = V 43 z) (hg : goneP V2 V3 f m) (hF4 : FrO V3 V4) (h54 : V5 42 4 = V 42 4) (h5F : ∀ q z, ¬ (q = 42 ∧ z = 4) → q ≠ 43 → V5 q z = V4 q z) (h5c : ∀ z, 0 ≤ z → z < 32 → V5 43 z = V4 58 z) : ∀ q z, q ≠ 50 → q ≠ 51 → q ≠ 52 → q ≠ 53 → q ≠ 58 → ¬ (q = 42 ∧ ((22 ≤ z ∧ z ≤ 28) ∨ z = 37)) → (q = 43 → 0 ≤ z ∧ z < 32) → V5 q z = V q z := fun q z a b c d e g h => by
  by_cases q1 : q = 43
  · subst q1
    obtain ⟨z0, z1⟩ := h rfl
    rw [h5c z z0 z1, hF4 58 z (by decide) (by decide) (by decide) (by decide) (by omega), hg.2.2 58 z (by omega) (by decide), hc2 z z0 z1]
  · by_cases q2 : q = 42 ∧ z = 4
    · rw [q2.1, q2.2]; exact h54
    · rw [h5F q z q2 q1, hF4 q z a b c d (fun x => g ⟨x.1, Or.inl x.2⟩), hg.2.2 q z q2 q1, hF2 q e]

set_option maxRecDepth 100000 in
set_option maxHeartbeats 4000000 in
theorem m_X12_keepsFaults (G : GS) (n : Nat) (V : Nat → Int → Int) (R : Nat → Int → Option Nat) (hn : 67 ≤ n) (hLR : LR R) : Cn G yX12_keepsFaults cX12_keepsFaults 2 (some .int) (rmk 1 0 0 16) [.ref (aG G 42)] n V R 0 0 (fun vv uu => ∃ (V1 : Nat → Int → Int), vv = some (.int (iI (V 42 4))) ∧ uu = (n, V1, R) ∧ (FrT V V1 58) ∧ (∀ z, 0 ≤ z → z < 32 → V1 58 z = V 43 z)) := by
  refine Cn.of (by decide) (Nat.le_of_ble_eq_true rfl) (fun K C hct => ?_)
  show Xw K G 0 0 _ n V R 0 [(0, .ref (aG G 42))] []
  refine x_iconst C dX12_keepsFaults_0 ?_
  refine x_istore_n C dX12_keepsFaults_1 rfl (by decide) (lv' := [(0, .ref (aG G 42)), (1, .int (iI 0))]) rfl ?_
  have lp_2 : ∀ (fuel : Nat) (k : Int) (V2 : Nat → Int → Int), (0 ≤ k ∧ k ≤ 32) → (FrT V V2 58) → (∀ z, 0 ≤ z → z < k → V2 58 z = V 43 z) → ((32 : Int) - k) < (fuel : Int) → Xw K G 0 0 (EndQ K G 0 0 (fun vv uu => ∃ (V1 : Nat → Int → Int), vv = some (.int (iI (V 42 4))) ∧ uu = (n, V1, R) ∧ (FrT V V1 58) ∧ (∀ z, 0 ≤ z → z < 32 → V1 58 z = V 43 z))) n V2 R 2 [(0, .ref (aG G 42)), (1, .int (iI k))] [] := by
    intro fuel2
    induction fuel2 with
    | zero => intro k V2 hk hF hc hfu2; exfalso; omega
    | succ fuel2 ih2 =>
      intro k V2 hk hF hc hfu2
      have e43 : V2 43 = V 43 := hF 43 (by decide)
      have e42 : V2 42 = V 42 := hF 42 (by decide)
      refine x_iload_n C 1 dX12_keepsFaults_2 rfl rfl ?_
      refine x_bipush C dX12_keepsFaults_3 (w := 32) (by decide) ?_
      refine x_icmp_ge C dX12_keepsFaults_5 (tgt := 26) (by decide) (by first | assumption | (constructor <;> omega)) (by first | assumption | (constructor <;> omega)) (fun h5 => ?_) (fun h5 => ?_)
      · skip
        refine x_aload_n C 0 dX12_keepsFaults_26 rfl rfl ?_
        refine x_geti C ok_Model 42 4 dX12_keepsFaults_27 (lt67 hn rfl) rfl (by decide) rfl q_6_14 rfl (kz := 4) rfl (fun rg27 => ?_)
        refine x_iret C dX12_keepsFaults_30 ⟨_, congrArg (fun z => some (Value.int (iI z))) (by rw [e42]), rfl, ?_, ?_⟩
        · exact hF
        · exact fun z a b => hc z a (by omega)
      · skip
        refine x_aload_n C 0 dX12_keepsFaults_8 rfl rfl ?_
        refine x_getr C ok_Model 42 36 (d := 58) dX12_keepsFaults_9 (lt67 hn rfl) rfl (by decide) rfl q_4_17 rfl (kz := 36) rfl (lr_42_36 hLR) ?_
        refine x_iload_n C 1 dX12_keepsFaults_12 rfl rfl ?_
        refine x_aload_n C 0 dX12_keepsFaults_13 rfl rfl ?_
        refine x_getr C ok_Model 42 5 (d := 43) dX12_keepsFaults_14 (lt67 hn rfl) rfl (by decide) rfl q_4_1 rfl (kz := 5) rfl (lr_42_5 hLR) ?_
        refine x_iload_n C 1 dX12_keepsFaults_17 rfl rfl ?_
        refine x_iald C 43 dX12_keepsFaults_18 (lt67 hn rfl) rfl (by refine ⟨?_, ?_⟩ <;> omega) (fun rg18 => ?_)
        refine x_iast C 58 dX12_keepsFaults_19 (lt67 hn rfl) rfl (by refine ⟨?_, ?_⟩ <;> omega) (by first | assumption | (constructor <;> omega)) ?_
        refine x_iinc C 1 dX12_keepsFaults_20 rfl (by decide) (lv' := [(0, .ref (aG G 42)), (1, .int (iI (k + 1)))]) rfl ?_
        refine x_goto C dX12_keepsFaults_23 (tgt := 2) (by decide) ?_
        exact ih2 ((k + 1)) ((u2 V2 58 k (V2 43 k))) (by omega) (by exact fun q e => by rw [u2_n e]; exact hF q e) (by exact fun z a b => by (rw [u2_s]; by_cases e : z = k; (rw [e, u1_s, e43]); (rw [u1_n e]; exact hc z a (by omega)))) (by omega)
  exact lp_2 (((32 : Int) - 0).toNat + 1) (0) (V) (by omega) (by exact fun _ _ => rfl) (by exact fun z a b => by omega) (by omega)
set_option maxRecDepth 100000 in
set_option maxHeartbeats 4000000 in
theorem m_X12_takesBack (G : GS) (n : Nat) (V : Nat → Int → Int) (R : Nat → Int → Option Nat) (m : Int) (hn : 67 ≤ n) (hLR : LR R) (hm : 0 ≤ m ∧ m ≤ 8) : Cn G yX12_takesBack cX12_takesBack 3 none (rmk 1 0 0 16) [.ref (aG G 42), .int (iI m)] n V R 0 0 (fun vv uu => ∃ (V1 : Nat → Int → Int), vv = none ∧ uu = (n, V1, R) ∧ (V1 42 4 = m) ∧ (∀ q z, ¬ (q = 42 ∧ z = 4) → q ≠ 43 → V1 q z = V q z) ∧ (∀ z, 0 ≤ z → z < 32 → V1 43 z = V 58 z)) := by
  refine Cn.of (by decide) (Nat.le_of_ble_eq_true rfl) (fun K C hct => ?_)
  show Xw K G 0 0 _ n V R 0 [(0, .ref (aG G 42)), (1, .int (iI m))] []
  refine x_aload_n C 0 dX12_takesBack_0 rfl rfl ?_
  refine x_iload_n C 1 dX12_takesBack_1 rfl rfl ?_
  refine x_puti C ok_Model 42 4 dX12_takesBack_2 (lt67 hn rfl) rfl (by decide) rfl q_6_14 rfl rfl (Or.inl rfl) (by first | assumption | (constructor <;> omega)) (kz := 4) rfl ?_
  refine x_iconst C dX12_takesBack_5 ?_
  refine x_istore_n C dX12_takesBack_6 rfl (by decide) (lv' := [(0, .ref (aG G 42)), (1, .int (iI m)), (2, .int (iI 0))]) rfl ?_
  have lp_7 : ∀ (fuel : Nat) (k : Int) (V2 : Nat → Int → Int), (0 ≤ k ∧ k ≤ 32) → (V2 42 4 = m) → (∀ q z, ¬ (q = 42 ∧ z = 4) → q ≠ 43 → V2 q z = V q z) → (∀ z, 0 ≤ z → z < k → V2 43 z = V 58 z) → ((32 : Int) - k) < (fuel : Int) → Xw K G 0 0 (EndQ K G 0 0 (fun vv uu => ∃ (V1 : Nat → Int → Int), vv = none ∧ uu = (n, V1, R) ∧ (V1 42 4 = m) ∧ (∀ q z, ¬ (q = 42 ∧ z = 4) → q ≠ 43 → V1 q z = V q z) ∧ (∀ z, 0 ≤ z → z < 32 → V1 43 z = V 58 z))) n V2 R 7 [(0, .ref (aG G 42)), (1, .int (iI m)), (2, .int (iI k))] [] := by
    intro fuel7
    induction fuel7 with
    | zero => intro k V2 hk h4 hF hc hfu7; exfalso; omega
    | succ fuel7 ih7 =>
      intro k V2 hk h4 hF hc hfu7
      refine x_iload_n C 2 dX12_takesBack_7 rfl rfl ?_
      refine x_bipush C dX12_takesBack_8 (w := 32) (by decide) ?_
      refine x_icmp_ge C dX12_takesBack_10 (tgt := 31) (by decide) (by first | assumption | (constructor <;> omega)) (by first | assumption | (constructor <;> omega)) (fun h10 => ?_) (fun h10 => ?_)
      · skip
        refine x_vret C dX12_takesBack_31 ⟨_, rfl, rfl, ?_, ?_, ?_⟩
        · exact h4
        · exact hF
        · exact fun z a b => hc z a (by omega)
      · skip
        refine x_aload_n C 0 dX12_takesBack_13 rfl rfl ?_
        refine x_getr C ok_Model 42 5 (d := 43) dX12_takesBack_14 (lt67 hn rfl) rfl (by decide) rfl q_4_1 rfl (kz := 5) rfl (lr_42_5 hLR) ?_
        refine x_iload_n C 2 dX12_takesBack_17 rfl rfl ?_
        refine x_aload_n C 0 dX12_takesBack_18 rfl rfl ?_
        refine x_getr C ok_Model 42 36 (d := 58) dX12_takesBack_19 (lt67 hn rfl) rfl (by decide) rfl q_4_17 rfl (kz := 36) rfl (lr_42_36 hLR) ?_
        refine x_iload_n C 2 dX12_takesBack_22 rfl rfl ?_
        refine x_iald C 58 dX12_takesBack_23 (lt67 hn rfl) rfl (by refine ⟨?_, ?_⟩ <;> omega) (fun rg23 => ?_)
        refine x_iast C 43 dX12_takesBack_24 (lt67 hn rfl) rfl (by refine ⟨?_, ?_⟩ <;> omega) (by first | assumption | (constructor <;> omega)) ?_
        refine x_iinc C 2 dX12_takesBack_25 rfl (by decide) (lv' := [(0, .ref (aG G 42)), (1, .int (iI m)), (2, .int (iI (k + 1)))]) rfl ?_
        refine x_goto C dX12_takesBack_28 (tgt := 7) (by decide) ?_
        exact ih7 ((k + 1)) ((u2 V2 43 k (V2 58 k))) (by omega) (by rw [u2_n (by decide)]; exact h4) (by exact fun q z a e => by rw [u2_n e]; exact hF q z a e) (by exact fun z a b => by (rw [u2_s]; by_cases e : z = k; (rw [e, u1_s]; exact hF 58 k (by omega) (by decide)); (rw [u1_n e]; exact hc z a (by omega)))) (by omega)
  exact lp_7 (((32 : Int) - 0).toNat + 1) (0) ((u2 V 42 4 m)) (by omega) (by rw [u2_s, u1_s]) (by exact fun q z a _ => by rw [u2_at, if_neg a]) (by exact fun z a b => by omega) (by omega)
set_option maxRecDepth 100000 in
set_option maxHeartbeats 4000000 in
theorem m_X12_without (G : GS) (n : Nat) (V : Nat → Int → Int) (R : Nat → Int → Option Nat) (f : Int) (hn : 67 ≤ n) (hLR : LR R) (gf : Rg f) (hl : LogOk V) (hru : RulesOk (V 44)) (hz : V 42 2 = 0 → V 42 4 = 0) : Cn G yX12_without cX12_without 4 (some .long) (rmk 6 0 0 155) [.ref (aG G 42), .int (iI f)] n V R 0 0 (fun vv uu => ∃ (r : Int), ∃ (V1 : Nat → Int → Int), vv = some (.long (jI r)) ∧ uu = (n, V1, R) ∧ (∀ q z, q ≠ 50 → q ≠ 51 → q ≠ 52 → q ≠ 53 → q ≠ 58 → ¬ (q = 42 ∧ ((22 ≤ z ∧ z ≤ 28) ∨ z = 37)) → (q = 43 → 0 ≤ z ∧ z < 32) → V1 q z = V q z) ∧ ((¬ (0 ≤ f ∧ f ≤ V 42 4 - 1) ∧ r = (-4611686018427387904)) ∨ ((0 ≤ f ∧ f ≤ V 42 4 - 1) ∧ ∃ F, (∀ i, 0 ≤ i → i < V 42 4 - 1 → ∀ j, 0 ≤ j → j ≤ 3 → F i j = if i < f then FM V i j else FM V (i + 1) j) ∧ r = (opT (V 42 0) (V 42 1) (V 42 2) F (V 42 4 - 1) (V 44) (V 42 3) (-1)).1 0))) := by
  refine Cn.of (by decide) (Nat.le_of_ble_eq_true rfl) (fun K C hct => ?_)
  show Xw K G 0 0 _ n V R 0 [(0, .ref (aG G 42)), (1, .int (iI f))] []
  obtain ⟨h1, h2, h3, h5, h4, hF⟩ := id hl
  obtain ⟨hkf, hsv, hpr, hth⟩ := id hru
  refine x_iload_n C 1 dX12_without_0 rfl rfl ?_
  refine x_i2l C dX12_without_1 (by first | assumption | (constructor <;> omega)) ?_
  refine x_lconst C dX12_without_2 (w := 0) (by decide) ?_
  refine x_aload_n C 0 dX12_without_3 rfl rfl ?_
  refine x_geti C ok_Model 42 4 dX12_without_4 (lt67 hn rfl) rfl (by decide) rfl q_6_14 rfl (kz := 4) rfl (fun rg4 => ?_)
  refine x_iconst C dX12_without_7 ?_
  refine x_isub C dX12_without_8 ?_
  refine x_i2l C dX12_without_9 (by first | assumption | (constructor <;> omega)) ?_
  refine x_runU (r_callS C (ce_X12_in) (m_X12_in G n V R (f) (0) ((V 42 4) - 1) (by first | assumption | omega | decide) (by first | assumption | omega | decide) (by first | assumption | omega | decide)) dX12_without_10 q_6_15 q_6_16 rfl rfl ⟨Nat.le_of_ble_eq_true rfl, Nat.le_of_ble_eq_true rfl⟩ ⟨rfl, rfl⟩ ⟨Nat.le_of_ble_eq_true rfl, Nat.le_of_ble_eq_true rfl⟩ (Nat.le_of_ble_eq_true rfl)) (fun v10 u10 hp10 => ?_)
  obtain ⟨rfl, rfl⟩ := hp10
  show Xw K G 0 0 _ n V R 13 [(0, .ref (aG G 42)), (1, .int (iI f))] [.int (iI (bI (0 ≤ f ∧ f ≤ ((V 42 4) - 1))))]
  refine x_ifne_b C dX12_without_13 (tgt := 20) (by decide) (fun h13 => ?_) (fun h13 => ?_)
  · skip
    refine x_aload_n C 0 dX12_without_20 rfl rfl ?_
    refine x_runU (r_callV C ok_Model 42 (lt67 hn rfl) rfl (ce_X12_keepsFaults) (m_X12_keepsFaults G n V R hn hLR) rfl dX12_without_21 q_45_12 q_45_13 q_45_14 rfl rfl ⟨Nat.le_of_ble_eq_true rfl, Nat.le_of_ble_eq_true rfl⟩ ⟨rfl, rfl⟩ ⟨Nat.le_of_ble_eq_true rfl, Nat.le_of_ble_eq_true rfl⟩ (Nat.le_of_ble_eq_true rfl)) (fun v21 u21 hp21 => ?_)
    obtain ⟨V2, rfl, rfl, hF2, hc2⟩ := hp21
    show Xw K G 0 0 _ n V2 R 24 [(0, .ref (aG G 42)), (1, .int (iI f))] [.int (iI (V 42 4))]
    have hl2 : LogOk V2 := hl.eq ⟨fun z _ _ => by rw [hF2 42 (by decide)], hF2 43 (by decide)⟩
    have e422 : V2 42 = V 42 := hF2 42 (by decide)
    have e432 : V2 43 = V 43 := hF2 43 (by decide)
    have e442 : V2 44 = V 44 := hF2 44 (by decide)
    refine x_istore_n C dX12_without_24 rfl (by decide) (lv' := [(0, .ref (aG G 42)), (1, .int (iI f)), (2, .int (iI (V 42 4)))]) rfl ?_
    refine x_aload_n C 0 dX12_without_25 rfl rfl ?_
    refine x_iload_n C 1 dX12_without_26 rfl rfl ?_
    refine x_runU (r_callV C ok_Model 42 (lt67 hn rfl) rfl (ce_X12_goes) (m_X12_goes G n V2 R (f) hn hLR (by rw [e422]; omega) (by rw [e422]; omega)) rfl dX12_without_27 q_17_18 q_17_19 q_17_20 rfl rfl ⟨Nat.le_of_ble_eq_true rfl, Nat.le_of_ble_eq_true rfl⟩ ⟨rfl, rfl⟩ ⟨Nat.le_of_ble_eq_true rfl, Nat.le_of_ble_eq_true rfl⟩ (Nat.le_of_ble_eq_true rfl)) (fun v27 u27 hp27 => ?_)
    obtain ⟨V3, rfl, rfl, hg3⟩ := hp27
    show Xw K G 0 0 _ n V3 R 30 [(0, .ref (aG G 42)), (1, .int (iI f)), (2, .int (iI (V 42 4)))] []
    rw [e422] at hg3
    have hl3 : LogOk V3 := gone_ok hl2 (by rw [e422]; exact hg3) (by omega) (by rw [e422]; omega)
    have e443 : V3 44 = V 44 := by (funext z; rw [hg3.2.2 44 z (by omega) (by decide), e442])
    have hru3 : RulesOk (V3 44) := by rw [e443]; exact hru
    have e4223 : V3 42 2 = V 42 2 := by rw [hg3.2.2 42 2 (by omega) (by decide), e422]
    have e4233 : V3 42 3 = V 42 3 := by rw [hg3.2.2 42 3 (by omega) (by decide), e422]
    refine x_aload_n C 0 dX12_without_30 rfl rfl ?_
    refine x_aload_n C 0 dX12_without_31 rfl rfl ?_
    refine x_geti C ok_Model 42 3 dX12_without_32 (lt67 hn rfl) rfl (by decide) rfl q_6_13 rfl (kz := 3) rfl (fun rg32 => ?_)
    refine x_runU (r_callV C ok_Model 42 (lt67 hn rfl) rfl (ce_X12_opens) (m_X12_opens G n V3 R (V3 42 3) hn hLR (by exact hl3) (by exact hru3) (by omega) (by omega)) rfl dX12_without_35 q_37_22 q_37_23 q_38_0 rfl rfl ⟨Nat.le_of_ble_eq_true rfl, Nat.le_of_ble_eq_true rfl⟩ ⟨rfl, rfl⟩ ⟨Nat.le_of_ble_eq_true rfl, Nat.le_of_ble_eq_true rfl⟩ (Nat.le_of_ble_eq_true rfl)) (fun v35 u35 hp35 => ?_)
    obtain ⟨V4, rfl, rfl, hF4, hS4, hT4⟩ := hp35
    show Xw K G 0 0 _ n V4 R 38 [(0, .ref (aG G 42)), (1, .int (iI f)), (2, .int (iI (V 42 4)))] [.int (iI ((opM V3 (V3 42 3) (-1)).1 0))]
    refine x_top (b := ((opM V3 (V 42 3) (-1)).1 0)) (by rw [e4233]) ?_
    refine x_istore_n C dX12_without_38 rfl (by decide) (lv' := [(0, .ref (aG G 42)), (1, .int (iI f)), (2, .int (iI (V 42 4))), (3, .int (iI ((opM V3 (V 42 3) (-1)).1 0)))]) rfl ?_
    have hbnd := (opM_b (V := V3) (g := V 42 3) (y := -1) (by decide)).1 0
    refine x_aload_n C 0 dX12_without_39 rfl rfl ?_
    refine x_iload_n C 2 dX12_without_40 rfl rfl ?_
    refine x_runU (r_callV C ok_Model 42 (lt67 hn rfl) rfl (ce_X12_takesBack) (m_X12_takesBack G n V4 R (V 42 4) hn hLR (by first | assumption | omega | decide)) rfl dX12_without_41 q_45_16 q_45_17 q_45_18 rfl rfl ⟨Nat.le_of_ble_eq_true rfl, Nat.le_of_ble_eq_true rfl⟩ ⟨rfl, rfl⟩ ⟨Nat.le_of_ble_eq_true rfl, Nat.le_of_ble_eq_true rfl⟩ (Nat.le_of_ble_eq_true rfl)) (fun v41 u41 hp41 => ?_)
    obtain ⟨V5, rfl, rfl, h54, h5F, h5c⟩ := hp41
    show Xw K G 0 0 _ n V5 R 44 [(0, .ref (aG G 42)), (1, .int (iI f)), (2, .int (iI (V 42 4))), (3, .int (iI ((opM V3 (V 42 3) (-1)).1 0)))] []
    refine x_iload_n C 3 dX12_without_44 rfl rfl ?_
    refine x_i2l C dX12_without_45 (by first | assumption | (constructor <;> omega)) ?_
    refine x_lret C dX12_without_46 ⟨_, _, rfl, rfl, ?_, ?_⟩
    · exact wo_fr hF2 hc2 hg3 hF4 h54 h5F h5c
    · refine Or.inr ⟨by omega, FM V3, fun i a b j j0 j1 => wo_F e432 hg3 a b j0 j1, ?_⟩; unfold opM; rw [hg3.1, hg3.2.2 42 0 (by omega) (by decide), hg3.2.2 42 1 (by omega) (by decide), e4223, e422, e443]
  · skip
    refine x_ldc2 C dX12_without_16 q_36_2 (w := -4611686018427387904) (by decide) ?_
    refine x_lret C dX12_without_19 ⟨_, _, rfl, rfl, ?_, ?_⟩
    · first | exact fun _ _ _ _ _ _ _ _ _ => rfl | exact Or.inl ⟨by omega, rfl⟩
    · first | exact fun _ _ _ _ _ _ _ _ _ => rfl | exact Or.inl ⟨by omega, rfl⟩
set_option maxRecDepth 100000 in
set_option maxHeartbeats 4000000 in
theorem m_X12_draw (G : GS) (n : Nat) (V : Nat → Int → Int) (R : Nat → Int → Option Nat) (b : Int) (hn : 67 ≤ n) (hLR : LR R) (hb : 1 ≤ b ∧ b ≤ 8) : Cn G yX12_draw cX12_draw 2 (some .int) (rmk 1 0 0 16) [.ref (aG G 42), .int (iI b)] n V R 0 0 (fun vv uu => ∃ (V1 : Nat → Int → Int), vv = some (.int (iI (zUshr (wr ((V 42 37) * 1103515245 + 12345)) 9 % b))) ∧ uu = (n, V1, R) ∧ (V1 42 37 = wr ((V 42 37) * 1103515245 + 12345)) ∧ (∀ q z, ¬ (q = 42 ∧ z = 37) → V1 q z = V q z)) := by
  refine Cn.of (by decide) (Nat.le_of_ble_eq_true rfl) (fun K C hct => ?_)
  show Xw K G 0 0 _ n V R 0 [(0, .ref (aG G 42)), (1, .int (iI b))] []
  have hu := zUshr9 (wr ((V 42 37) * 1103515245 + 12345))
  refine x_aload_n C 0 dX12_draw_0 rfl rfl ?_
  refine x_aload_n C 0 dX12_draw_1 rfl rfl ?_
  refine x_geti C ok_Model 42 37 dX12_draw_2 (lt67 hn rfl) rfl (by decide) rfl q_46_16 rfl (kz := 37) rfl (fun rg2 => ?_)
  refine x_ldcw C dX12_draw_5 q_46_21 (w := 1103515245) (by decide) ?_
  refine x_imul C dX12_draw_8 ?_
  refine x_sipush C dX12_draw_9 (w := 12345) (by decide) ?_
  refine x_iadd C dX12_draw_12 ?_
  refine x_wr ?_
  refine x_puti C ok_Model 42 37 dX12_draw_13 (lt67 hn rfl) rfl (by decide) rfl q_46_16 rfl rfl (Or.inl rfl) (by exact wr_Rg _) (kz := 37) rfl ?_
  refine x_aload_n C 0 dX12_draw_16 rfl rfl ?_
  refine x_geti C ok_Model 42 37 dX12_draw_17 (lt67 hn rfl) rfl (by decide) rfl q_46_16 rfl (kz := 37) rfl (fun rg17 => ?_)
  refine x_top (b := (wr (((V 42 37) * 1103515245) + 12345))) (by first | rfl | (simp only [u2_at]; simp) | (simp only [u2_at]; first | (rw [if_neg (by omega)]) | omega)) ?_
  refine x_bipush C dX12_draw_20 (w := 9) (by decide) ?_
  refine x_iushr C dX12_draw_22 ?_
  refine x_iload_n C 1 dX12_draw_23 rfl rfl ?_
  refine x_irem C dX12_draw_24 (by first | exact zUshr_rg _ _ | (constructor <;> omega)) (by first | exact zUshr_rg _ _ | (constructor <;> omega)) (by exact hu.1) (by omega) ?_
  refine x_iret C dX12_draw_25 ⟨_, congrArg (fun z => some (Value.int (iI z))) (by omega), rfl, ?_, ?_⟩
  · rw [u2_s, u1_s]
  · exact fun q z e => by rw [u2_at, if_neg e]
