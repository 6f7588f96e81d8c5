theorem tbw {c : Nat} (h : c = 50 ∨ c = 51) : tb c = (20, 1248) := by rcases h with h | h <;> subst h <;> rfl
theorem sumsR_k {V V' : Nat → Int → Int} {f : Int → Int → Int} {m t k : Int} (h : sumsR V f m t k) (h1 : ∀ i, i < 13 * k → V' 50 i = V 50 i) (h2 : ∀ i, i < 13 * k → V' 51 i = V 51 i) : sumsR V' f m t k := fun w x a b c d => by
  rw [h1 _ (by omega), h2 _ (by omega)]; exact h w x a b c d
theorem sumsR_s {V : Nat → Int → Int} {f : Int → Int → Int} {m t k : Int} (h : sumsR V f m t k) (hk : 0 ≤ k) (hp : ∀ z, 0 ≤ z → z ≤ 12 → V 50 (13 * k + z) = sm (rowH f m t (k / 12) (k % 12)) z ∧ V 51 (13 * k + z) = sm (row9 f m t (k / 12) (k % 12)) z) : sumsR V f m t (k + 1) := fun w x a b c d => by
  rcases (show w < k ∨ w = k by omega) with q | q
  · exact h w x a q c d
  · rw [q]; exact hp x c d
theorem sums_st {V : Nat → Int → Int} {f g : Int → Int} {w x h b : Int} (hx : 0 ≤ x) (hp : ∀ z, 0 ≤ z → z ≤ x → V 50 (13 * w + z) = sm f z ∧ V 51 (13 * w + z) = sm g z) (h1 : h = f x) (h2 : b = g x) : ∀ z, 0 ≤ z → z ≤ x + 1 → u2 (u2 V 50 (13 * w + x + 1) (V 50 (13 * w + x) + h)) 51 (13 * w + x + 1) (V 51 (13 * w + x) + b) 50 (13 * w + z) = sm f z ∧ u2 (u2 V 50 (13 * w + x + 1) (V 50 (13 * w + x) + h)) 51 (13 * w + x + 1) (V 51 (13 * w + x) + b) 51 (13 * w + z) = sm g z := fun z a c => by
  have q := hp x hx (Int.le_refl _)
  rw [u2_n (show (50 : Nat) ≠ 51 by decide), u2_s, u2_s, u2_n (show (51 : Nat) ≠ 50 by decide)]
  by_cases e : z = x + 1
  · subst e
    rw [show 13 * w + (x + 1) = 13 * w + x + 1 by omega, u1_s, u1_s, sm_s hx, sm_s hx, q.1, q.2, h1, h2]
    exact ⟨rfl, rfl⟩
  · rw [u1_n (by omega), u1_n (by omega)]
    exact hp z a (by omega)

set_option maxRecDepth 100000 in
set_option maxHeartbeats 4000000 in
theorem m_X12_isBoard (G : GS) (n : Nat) (V : Nat → Int → Int) (R : Nat → Int → Option Nat) (y : Int) (k : Int) (gy : Rg y) (gk : Rg k) : Cn G yX12_isBoard cX12_isBoard 2 (some .boolean) (rmk 2 0 0 41) [.int (iI y), .int (iI k)] n V R 0 0 (fun vv uu => vv = some (.int (iI (bI ((1 ≤ k ∧ k ≤ 4) ∧ (0 ≤ y ∧ y ≤ 12 - k))))) ∧ uu = (n, V, R)) := by
  refine Cn.of (by decide) (Nat.le_of_ble_eq_true rfl) (fun K C hct => ?_)
  show Xw K G 0 0 _ n V R 0 [(0, .int (iI y)), (1, .int (iI k))] []
  refine x_iload_n C 1 dX12_isBoard_0 rfl rfl ?_
  refine x_i2l C dX12_isBoard_1 (by first | assumption | (constructor <;> omega)) ?_
  refine x_lconst C dX12_isBoard_2 (w := 1) (by decide) ?_
  refine x_ldc2 C dX12_isBoard_3 q_6_8 (w := 4) (by decide) ?_
  refine x_runU (r_callS C (ce_X12_in) (m_X12_in G n V R (k) (1) (4) (by first | assumption | omega | decide) (by first | assumption | omega | decide) (by first | assumption | omega | decide)) dX12_isBoard_6 q_6_15 q_6_16 rfl rfl ⟨Nat.le_of_ble_eq_true rfl, Nat.le_of_ble_eq_true rfl⟩ ⟨rfl, rfl⟩ ⟨Nat.le_of_ble_eq_true rfl, Nat.le_of_ble_eq_true rfl⟩ (Nat.le_of_ble_eq_true rfl)) (fun v6 u6 hp6 => ?_)
  obtain ⟨rfl, rfl⟩ := hp6
  show Xw K G 0 0 _ n V R 9 [(0, .int (iI y)), (1, .int (iI k))] [.int (iI (bI (1 ≤ k ∧ k ≤ 4)))]
  refine x_ifeq_b C dX12_isBoard_9 (tgt := 30) (by decide) (fun h9 => ?_) (fun h9 => ?_)
  · skip
    refine x_iconst C dX12_isBoard_30 ?_
    refine x_zret C (Or.inl rfl) dX12_isBoard_31 ⟨bI_rf (by omega), rfl⟩
  · skip
    refine x_iload_n C 0 dX12_isBoard_12 rfl rfl ?_
    refine x_i2l C dX12_isBoard_13 (by first | assumption | (constructor <;> omega)) ?_
    refine x_lconst C dX12_isBoard_14 (w := 0) (by decide) ?_
    refine x_bipush C dX12_isBoard_15 (w := 12) (by decide) ?_
    refine x_iload_n C 1 dX12_isBoard_17 rfl rfl ?_
    refine x_isub C dX12_isBoard_18 ?_
    refine x_i2l C dX12_isBoard_19 (by first | assumption | (constructor <;> omega)) ?_
    refine x_runU (r_callS C (ce_X12_in) (m_X12_in G n V R (y) (0) (12 - k) (by first | assumption | omega | decide) (by first | assumption | omega | decide) (by first | assumption | omega | decide)) dX12_isBoard_20 q_6_15 q_6_16 rfl rfl ⟨Nat.le_of_ble_eq_true rfl, Nat.le_of_ble_eq_true rfl⟩ ⟨rfl, rfl⟩ ⟨Nat.le_of_ble_eq_true rfl, Nat.le_of_ble_eq_true rfl⟩ (Nat.le_of_ble_eq_true rfl)) (fun v20 u20 hp20 => ?_)
    obtain ⟨rfl, rfl⟩ := hp20
    show Xw K G 0 0 _ n V R 23 [(0, .int (iI y)), (1, .int (iI k))] [.int (iI (bI (0 ≤ y ∧ y ≤ (12 - k))))]
    refine x_ifeq_b C dX12_isBoard_23 (tgt := 30) (by decide) (fun h23 => ?_) (fun h23 => ?_)
    · skip
      refine x_iconst C dX12_isBoard_30 ?_
      refine x_zret C (Or.inl rfl) dX12_isBoard_31 ⟨bI_rf (by omega), rfl⟩
    · skip
      refine x_iconst C dX12_isBoard_26 ?_
      refine x_goto C dX12_isBoard_27 (tgt := 31) (by decide) ?_
      refine x_zret C (Or.inr rfl) dX12_isBoard_31 ⟨bI_rt (by omega), rfl⟩
set_option maxRecDepth 100000 in
set_option maxHeartbeats 4000000 in
theorem m_X12_sums (G : GS) (n : Nat) (V : Nat → Int → Int) (R : Nat → Int → Option Nat) (t : Int) (hn : 67 ≤ n) (hLR : LR R) (hl : LogOk V) (ht : 0 ≤ t ∧ t ≤ 3) : Cn G yX12_sums cX12_sums 5 none (rmk 4 0 0 93) [.ref (aG G 42), .int (iI t)] n V R 0 0 (fun vv uu => ∃ (V1 : Nat → Int → Int), vv = none ∧ uu = (n, V1, R) ∧ (sumsR V1 (FM V) (V 42 4) t (12 * V 42 2)) ∧ (∀ q, q ≠ 50 → q ≠ 51 → V1 q = V q)) := by
  refine Cn.of (by decide) (Nat.le_of_ble_eq_true rfl) (fun K C hct => ?_)
  show Xw K G 0 0 _ n V R 0 [(0, .ref (aG G 42)), (1, .int (iI t))] []
  obtain ⟨h1, h2, h3, h5, h4, hF⟩ := id hl
  refine x_iconst C dX12_sums_0 ?_
  refine x_istore_n C dX12_sums_1 rfl (by decide) (lv' := [(0, .ref (aG G 42)), (1, .int (iI t)), (2, .int (iI 0))]) rfl ?_
  have lp_2 : ∀ (fuel : Nat) (w : Int) (V2 : Nat → Int → Int), (0 ≤ w ∧ w ≤ 12 * V 42 2) → (sumsR V2 (FM V) (V 42 4) t w) → (∀ q, q ≠ 50 → q ≠ 51 → V2 q = V q) → (12 * V 42 2 - w) < (fuel : Int) → Xw K G 0 0 (EndQ K G 0 0 (fun vv uu => ∃ (V1 : Nat → Int → Int), vv = none ∧ uu = (n, V1, R) ∧ (sumsR V1 (FM V) (V 42 4) t (12 * V 42 2)) ∧ (∀ q, q ≠ 50 → q ≠ 51 → V1 q = V q))) n V2 R 2 [(0, .ref (aG G 42)), (1, .int (iI t)), (2, .int (iI w))] [] := by
    intro fuel2
    induction fuel2 with
    | zero => intro w V2 hw hI hfrV2 hfu2; exfalso; omega
    | succ fuel2 ih2 =>
      intro w V2 hw hI hfrV2 hfu2
      have e42V2 : V2 42 = V 42 := hfrV2 42 (by decide) (by decide)
      have e43V2 : V2 43 = V 43 := hfrV2 43 (by decide) (by decide)
      have e422V2 : V2 42 2 = V 42 2 := by rw [e42V2]
      have e424V2 : V2 42 4 = V 42 4 := by rw [e42V2]
      have hleV2 : LogEq V V2 := ⟨fun z _ _ => by rw [e42V2], e43V2⟩
      have hl_V2 := hl.eq (hleV2)
      obtain ⟨g1_V2, g2_V2, g3_V2, g5_V2, g4_V2, gF_V2⟩ := id hl_V2
      refine x_iload_n C 2 dX12_sums_2 rfl rfl ?_
      refine x_bipush C dX12_sums_3 (w := 12) (by decide) ?_
      refine x_aload_n C 0 dX12_sums_5 rfl rfl ?_
      refine x_geti C ok_Model 42 2 dX12_sums_6 (lt67 hn rfl) rfl (by decide) rfl q_6_12 rfl (kz := 2) rfl (fun rg6 => ?_)
      refine x_imul C dX12_sums_9 ?_
      refine x_icmp_ge C dX12_sums_10 (tgt := 133) (by decide) (by first | assumption | (constructor <;> omega)) (by first | assumption | (constructor <;> omega)) (fun h10 => ?_) (fun h10 => ?_)
      · skip
        refine x_vret C dX12_sums_133 ⟨_, rfl, rfl, ?_, ?_⟩
        · rw [show 12 * V 42 2 = w by omega]; exact hI
        · exact hfrV2
      · skip
        refine x_aload_n C 0 dX12_sums_13 rfl rfl ?_
        refine x_getr C ok_Model 42 20 (d := 50) dX12_sums_14 (lt67 hn rfl) rfl (by decide) rfl q_4_8 rfl (kz := 20) rfl (lr_42_20 hLR) ?_
        refine x_bipush C dX12_sums_17 (w := 13) (by decide) ?_
        refine x_iload_n C 2 dX12_sums_19 rfl rfl ?_
        refine x_imul C dX12_sums_20 ?_
        refine x_iconst C dX12_sums_21 ?_
        refine x_iast C 50 dX12_sums_22 (lt67 hn rfl) rfl (by refine ⟨?_, ?_⟩ <;> omega) (by first | assumption | (constructor <;> omega)) ?_
        refine x_aload_n C 0 dX12_sums_23 rfl rfl ?_
        refine x_getr C ok_Model 42 21 (d := 51) dX12_sums_24 (lt67 hn rfl) rfl (by decide) rfl q_4_9 rfl (kz := 21) rfl (lr_42_21 hLR) ?_
        refine x_bipush C dX12_sums_27 (w := 13) (by decide) ?_
        refine x_iload_n C 2 dX12_sums_29 rfl rfl ?_
        refine x_imul C dX12_sums_30 ?_
        refine x_iconst C dX12_sums_31 ?_
        refine x_iast C 51 dX12_sums_32 (lt67 hn rfl) rfl (by refine ⟨?_, ?_⟩ <;> omega) (by first | assumption | (constructor <;> omega)) ?_
        refine x_iconst C dX12_sums_33 ?_
        refine x_istore_n C dX12_sums_34 rfl (by decide) (lv' := [(0, .ref (aG G 42)), (1, .int (iI t)), (2, .int (iI w)), (3, .int (iI 0))]) rfl ?_
        have lp_35 : ∀ (fuel : Nat) (x : Int) (V3 : Nat → Int → Int), (0 ≤ x ∧ x ≤ 12) → (sumsR V3 (FM V) (V 42 4) t w) → (∀ z, 0 ≤ z → z ≤ x → V3 50 (13 * w + z) = sm (rowH (FM V) (V 42 4) t (w / 12) (w % 12)) z ∧ V3 51 (13 * w + z) = sm (row9 (FM V) (V 42 4) t (w / 12) (w % 12)) z) → (∀ q, q ≠ 50 → q ≠ 51 → V3 q = V q) → ((12 : Int) - x) < (fuel : Int) → Xw K G 0 0 (EndQ K G 0 0 (fun vv uu => ∃ (V1 : Nat → Int → Int), vv = none ∧ uu = (n, V1, R) ∧ (sumsR V1 (FM V) (V 42 4) t (12 * V 42 2)) ∧ (∀ q, q ≠ 50 → q ≠ 51 → V1 q = V q))) n V3 R 35 [(0, .ref (aG G 42)), (1, .int (iI t)), (2, .int (iI w)), (3, .int (iI x))] [] := by
          intro fuel35
          induction fuel35 with
          | zero => intro x V3 hx hI3 hpre hfrV3 hfu35; exfalso; omega
          | succ fuel35 ih35 =>
            intro x V3 hx hI3 hpre hfrV3 hfu35
            have e42V3 : V3 42 = V 42 := hfrV3 42 (by decide) (by decide)
            have e43V3 : V3 43 = V 43 := hfrV3 43 (by decide) (by decide)
            have e422V3 : V3 42 2 = V 42 2 := by rw [e42V3]
            have e424V3 : V3 42 4 = V 42 4 := by rw [e42V3]
            have hleV3 : LogEq V V3 := ⟨fun z _ _ => by rw [e42V3], e43V3⟩
            have hl_V3 := hl.eq (hleV3)
            obtain ⟨g1_V3, g2_V3, g3_V3, g5_V3, g4_V3, gF_V3⟩ := id hl_V3
            refine x_iload_n C 3 dX12_sums_35 rfl rfl ?_
            refine x_bipush C dX12_sums_36 (w := 12) (by decide) ?_
            refine x_icmp_ge C dX12_sums_38 (tgt := 127) (by decide) (by first | assumption | (constructor <;> omega)) (by first | assumption | (constructor <;> omega)) (fun h38 => ?_) (fun h38 => ?_)
            · skip
              refine x_iinc C 2 dX12_sums_127 rfl (by decide) (lv' := [(0, .ref (aG G 42)), (1, .int (iI t)), (2, .int (iI (w + 1))), (3, .int (iI x))]) rfl ?_
              refine x_goto C dX12_sums_130 (tgt := 2) (by decide) ?_
              refine x_sub [0, 1, 2] (lv' := [(0, .ref (aG G 42)), (1, .int (iI t)), (2, .int (iI (w + 1)))]) rfl ?_
              exact ih2 ((w + 1)) (V3) (by omega) (by exact sumsR_s hI3 (by omega) (fun z a b => hpre z a (by omega))) (by exact hfrV3) (by omega)
            · skip
              refine x_aload_n C 0 dX12_sums_41 rfl rfl ?_
              refine x_iload_n C 3 dX12_sums_42 rfl rfl ?_
              refine x_iload_n C 2 dX12_sums_43 rfl rfl ?_
              refine x_bipush C dX12_sums_44 (w := 12) (by decide) ?_
              refine x_irem C dX12_sums_46 (by first | assumption | (constructor <;> omega)) (by first | assumption | (constructor <;> omega)) (by omega) (by omega) ?_
              refine x_iload_n C 2 dX12_sums_47 rfl rfl ?_
              refine x_bipush C dX12_sums_48 (w := 12) (by decide) ?_
              refine x_idiv C dX12_sums_50 (by first | assumption | (constructor <;> omega)) (by first | assumption | (constructor <;> omega)) (by omega) (by omega) ?_
              refine x_iload_n C 1 dX12_sums_51 rfl rfl ?_
              refine x_runU (r_callV C ok_Model 42 (lt67 hn rfl) rfl (ce_X12_hurtOf) (m_X12_hurtOf G n V3 R (x) (w % 12) (w / 12) (t) hn hLR (by first | assumption | omega | decide) (by first | assumption | omega | decide) (by first | assumption | omega | decide) (by first | assumption | omega | decide) (by first | assumption | omega | decide) (by first | assumption | omega | decide)) rfl dX12_sums_52 q_31_5 q_31_6 q_31_7 rfl rfl ⟨Nat.le_of_ble_eq_true rfl, Nat.le_of_ble_eq_true rfl⟩ ⟨rfl, rfl⟩ ⟨Nat.le_of_ble_eq_true rfl, Nat.le_of_ble_eq_true rfl⟩ (Nat.le_of_ble_eq_true rfl)) (fun v52 u52 hp52 => ?_)
              obtain ⟨rfl, rfl⟩ := hp52
              show Xw K G 0 0 _ n V3 R 55 [(0, .ref (aG G 42)), (1, .int (iI t)), (2, .int (iI w)), (3, .int (iI x))] [.int (iI (hurtS (FM V3) (V3 42 4) x (w % 12) (w / 12) t))]
              refine x_top (b := (hurtS (FM V) (V 42 4) x (w % 12) (w / 12) t)) (by rw [hleV3.FM, e424V3]) ?_
              refine x_istore C dX12_sums_55 (by decide) (lv' := [(0, .ref (aG G 42)), (1, .int (iI t)), (2, .int (iI w)), (3, .int (iI x)), (4, .int (iI (hurtS (FM V) (V 42 4) x (w % 12) (w / 12) t)))]) rfl ?_
              have hb0 := hurtS_b (FM V) (V 42 4) x (w % 12) (w / 12) t
              have hb1 := sm_b (f := rowH (FM V) (V 42 4) t (w / 12) (w % 12)) (A := 9) (z := x) hx.1 (fun i _ => fun _ => rowH_b _ _ _ _ _ _)
              have hb2 := sm_b (f := row9 (FM V) (V 42 4) t (w / 12) (w % 12)) (A := 9) (z := x) hx.1 (fun i _ => fun _ => row9_b _ _ _ _ _ _)
              have hp := hpre x hx.1 (Int.le_refl _)
              refine x_aload_n C 0 dX12_sums_57 rfl rfl ?_
              refine x_getr C ok_Model 42 20 (d := 50) dX12_sums_58 (lt67 hn rfl) rfl (by decide) rfl q_4_8 rfl (kz := 20) rfl (lr_42_20 hLR) ?_
              refine x_bipush C dX12_sums_61 (w := 13) (by decide) ?_
              refine x_iload_n C 2 dX12_sums_63 rfl rfl ?_
              refine x_imul C dX12_sums_64 ?_
              refine x_iload_n C 3 dX12_sums_65 rfl rfl ?_
              refine x_iadd C dX12_sums_66 ?_
              refine x_iconst C dX12_sums_67 ?_
              refine x_iadd C dX12_sums_68 ?_
              refine x_aload_n C 0 dX12_sums_69 rfl rfl ?_
              refine x_getr C ok_Model 42 20 (d := 50) dX12_sums_70 (lt67 hn rfl) rfl (by decide) rfl q_4_8 rfl (kz := 20) rfl (lr_42_20 hLR) ?_
              refine x_bipush C dX12_sums_73 (w := 13) (by decide) ?_
              refine x_iload_n C 2 dX12_sums_75 rfl rfl ?_
              refine x_imul C dX12_sums_76 ?_
              refine x_iload_n C 3 dX12_sums_77 rfl rfl ?_
              refine x_iadd C dX12_sums_78 ?_
              refine x_iald C 50 dX12_sums_79 (lt67 hn rfl) rfl (by refine ⟨?_, ?_⟩ <;> omega) (fun rg79 => ?_)
              refine x_iload C 4 dX12_sums_80 rfl ?_
              refine x_iadd C dX12_sums_82 ?_
              refine x_iast C 50 dX12_sums_83 (lt67 hn rfl) rfl (by refine ⟨?_, ?_⟩ <;> omega) (by first | assumption | (constructor <;> omega)) ?_
              refine x_aload_n C 0 dX12_sums_84 rfl rfl ?_
              refine x_getr C ok_Model 42 21 (d := 51) dX12_sums_85 (lt67 hn rfl) rfl (by decide) rfl q_4_9 rfl (kz := 21) rfl (lr_42_21 hLR) ?_
              refine x_bipush C dX12_sums_88 (w := 13) (by decide) ?_
              refine x_iload_n C 2 dX12_sums_90 rfl rfl ?_
              refine x_imul C dX12_sums_91 ?_
              refine x_iload_n C 3 dX12_sums_92 rfl rfl ?_
              refine x_iadd C dX12_sums_93 ?_
              refine x_iconst C dX12_sums_94 ?_
              refine x_iadd C dX12_sums_95 ?_
              refine x_aload_n C 0 dX12_sums_96 rfl rfl ?_
              refine x_getr C ok_Model 42 21 (d := 51) dX12_sums_97 (lt67 hn rfl) rfl (by decide) rfl q_4_9 rfl (kz := 21) rfl (lr_42_21 hLR) ?_
              refine x_bipush C dX12_sums_100 (w := 13) (by decide) ?_
              refine x_iload_n C 2 dX12_sums_102 rfl rfl ?_
              refine x_imul C dX12_sums_103 ?_
              refine x_iload_n C 3 dX12_sums_104 rfl rfl ?_
              refine x_iadd C dX12_sums_105 ?_
              refine x_iald C 51 dX12_sums_106 (lt67 hn rfl) rfl (by refine ⟨?_, ?_⟩ <;> omega) (fun rg106 => ?_)
              refine x_top (b := (V3 51 ((13 * w) + x))) (by first | rfl | (simp only [u2_at]; simp) | (simp only [u2_at]; first | (rw [if_neg (by omega)]) | omega)) ?_
              refine x_iload C 4 dX12_sums_107 rfl ?_
              refine x_bipush C dX12_sums_109 (w := 9) (by decide) ?_
              refine x_icmp_ne C dX12_sums_111 (tgt := 118) (by decide) (by first | assumption | (constructor <;> omega)) (by first | assumption | (constructor <;> omega)) (fun h111 => ?_) (fun h111 => ?_)
              · skip
                refine x_iconst C dX12_sums_118 ?_
                refine x_iadd C dX12_sums_119 ?_
                refine x_iast C 51 dX12_sums_120 (lt67 hn rfl) rfl (by refine ⟨?_, ?_⟩ <;> omega) (by first | assumption | (constructor <;> omega)) ?_
                refine x_iinc C 3 dX12_sums_121 rfl (by decide) (lv' := [(0, .ref (aG G 42)), (1, .int (iI t)), (2, .int (iI w)), (3, .int (iI (x + 1))), (4, .int (iI (hurtS (FM V) (V 42 4) x (w % 12) (w / 12) t)))]) rfl ?_
                refine x_goto C dX12_sums_124 (tgt := 35) (by decide) ?_
                refine x_sub [0, 1, 2, 3] (lv' := [(0, .ref (aG G 42)), (1, .int (iI t)), (2, .int (iI w)), (3, .int (iI (x + 1)))]) rfl ?_
                exact ih35 ((x + 1)) ((u2 (u2 V3 50 (((13 * w) + x) + 1) ((V3 50 ((13 * w) + x)) + (hurtS (FM V) (V 42 4) x (w % 12) (w / 12) t))) 51 (((13 * w) + x) + 1) ((V3 51 ((13 * w) + x)) + 0))) (by first | assumption | omega) (by exact sumsR_k hI3 (fun i h => by rw [u2_n (by decide), u2_s, u1_n (by omega)]) (fun i h => by rw [u2_s, u1_n (by omega), u2_n (by decide)])) (by first | exact sums_st hx.1 hpre rfl (bI_t h111).symm | exact sums_st hx.1 hpre rfl (bI_f h111).symm) (by exact fun q a b => by rw [u2_n b, u2_n a]; exact hfrV3 q a b) (by omega)
              · skip
                refine x_iconst C dX12_sums_114 ?_
                refine x_goto C dX12_sums_115 (tgt := 119) (by decide) ?_
                refine x_iadd C dX12_sums_119 ?_
                refine x_iast C 51 dX12_sums_120 (lt67 hn rfl) rfl (by refine ⟨?_, ?_⟩ <;> omega) (by first | assumption | (constructor <;> omega)) ?_
                refine x_iinc C 3 dX12_sums_121 rfl (by decide) (lv' := [(0, .ref (aG G 42)), (1, .int (iI t)), (2, .int (iI w)), (3, .int (iI (x + 1))), (4, .int (iI (hurtS (FM V) (V 42 4) x (w % 12) (w / 12) t)))]) rfl ?_
                refine x_goto C dX12_sums_124 (tgt := 35) (by decide) ?_
                refine x_sub [0, 1, 2, 3] (lv' := [(0, .ref (aG G 42)), (1, .int (iI t)), (2, .int (iI w)), (3, .int (iI (x + 1)))]) rfl ?_
                exact ih35 ((x + 1)) ((u2 (u2 V3 50 (((13 * w) + x) + 1) ((V3 50 ((13 * w) + x)) + (hurtS (FM V) (V 42 4) x (w % 12) (w / 12) t))) 51 (((13 * w) + x) + 1) ((V3 51 ((13 * w) + x)) + 1))) (by first | assumption | omega) (by exact sumsR_k hI3 (fun i h => by rw [u2_n (by decide), u2_s, u1_n (by omega)]) (fun i h => by rw [u2_s, u1_n (by omega), u2_n (by decide)])) (by first | exact sums_st hx.1 hpre rfl (bI_t h111).symm | exact sums_st hx.1 hpre rfl (bI_f h111).symm) (by exact fun q a b => by rw [u2_n b, u2_n a]; exact hfrV3 q a b) (by omega)
        exact lp_35 (((12 : Int) - 0).toNat + 1) (0) ((u2 (u2 V2 50 (13 * w) 0) 51 (13 * w) 0)) (by first | assumption | omega) (by exact sumsR_k hI (fun i h => by rw [u2_n (by decide), u2_s, u1_n (by omega)]) (fun i h => by rw [u2_s, u1_n (by omega), u2_n (by decide)])) (by exact fun z a b => by rw [show z = 0 by omega]; exact ⟨by rw [u2_n (by decide), u2_s, show 13 * w + 0 = 13 * w by omega, u1_s]; rfl, by rw [u2_s, show 13 * w + 0 = 13 * w by omega, u1_s]; rfl⟩) (by exact fun q a b => by rw [u2_n b, u2_n a]; exact hfrV2 q a b) (by omega)
  exact lp_2 ((12 * V 42 2 - 0).toNat + 1) (0) (V) (by omega) (by exact fun w x a b => by omega) (by exact fun _ _ _ => rfl) (by omega)
set_option maxRecDepth 100000 in
set_option maxHeartbeats 4000000 in
theorem m_X12_within (G : GS) (n : Nat) (V : Nat → Int → Int) (R : Nat → Int → Option Nat) (c : Nat) (y : Int) (a : Int) (b : Int) (s : Int) (t : Int) (hn : 67 ≤ n) (hLR : LR R) (hc : c = 50 ∨ c = 51) (hy : 0 ≤ y ∧ y ≤ 11) (ha : 0 ≤ a ∧ a ≤ 12) (hb : -1 ≤ b ∧ b ≤ 11) (hs : 0 ≤ s ∧ s ≤ 7) (ht : s - 1 ≤ t ∧ t ≤ 7) : Cn G yX12_within cX12_within 9 (some .int) (rmk 1 0 0 16) [.ref (aG G c), .int (iI y), .int (iI a), .int (iI b), .int (iI s), .int (iI t)] n V R 0 0 (fun vv uu => vv = some (.int (iI (wsum (V c) y a b s t))) ∧ uu = (n, V, R)) := by
  refine Cn.of (by decide) (Nat.le_of_ble_eq_true rfl) (fun K C hct => ?_)
  show Xw K G 0 0 _ n V R 0 [(0, .ref (aG G c)), (1, .int (iI y)), (2, .int (iI a)), (3, .int (iI b)), (4, .int (iI s)), (5, .int (iI t))] []
  refine x_iconst C dX12_within_0 ?_
  refine x_istore C dX12_within_1 (by decide) (lv' := [(0, .ref (aG G c)), (1, .int (iI y)), (2, .int (iI a)), (3, .int (iI b)), (4, .int (iI s)), (5, .int (iI t)), (6, .int (iI 0))]) rfl ?_
  refine x_iload C 4 dX12_within_3 rfl ?_
  refine x_istore C dX12_within_5 (by decide) (lv' := [(0, .ref (aG G c)), (1, .int (iI y)), (2, .int (iI a)), (3, .int (iI b)), (4, .int (iI s)), (5, .int (iI t)), (6, .int (iI 0)), (7, .int (iI s))]) rfl ?_
  have lp_7 : ∀ (fuel : Nat) (w : Int) (z : Int), (s ≤ z ∧ z ≤ t + 1) → (w = sm (fun i => V c (13 * (12 * i + y) + b + 1) - V c (13 * (12 * i + y) + a)) z - sm (fun i => V c (13 * (12 * i + y) + b + 1) - V c (13 * (12 * i + y) + a)) s) → (t + 1 - z) < (fuel : Int) → Xw K G 0 0 (EndQ K G 0 0 (fun vv uu => vv = some (.int (iI (wsum (V c) y a b s t))) ∧ uu = (n, V, R))) n V R 7 [(0, .ref (aG G c)), (1, .int (iI y)), (2, .int (iI a)), (3, .int (iI b)), (4, .int (iI s)), (5, .int (iI t)), (6, .int (iI w)), (7, .int (iI z))] [] := by
    intro fuel7
    induction fuel7 with
    | zero => intro w z hz hw hfu7; exfalso; omega
    | succ fuel7 ih7 =>
      intro w z hz hw hfu7
      refine x_iload C 7 dX12_within_7 rfl ?_
      refine x_iload C 5 dX12_within_9 rfl ?_
      refine x_icmp_gt C dX12_within_11 (tgt := 52) (by decide) (by first | assumption | (constructor <;> omega)) (by first | assumption | (constructor <;> omega)) (fun h11 => ?_) (fun h11 => ?_)
      · skip
        refine x_iload C 6 dX12_within_52 rfl ?_
        refine x_iret C dX12_within_54 ⟨congrArg (fun z => some (Value.int (iI z))) (by rw [hw]; unfold wsum; rw [show z = t + 1 by omega]), rfl⟩
      · skip
        refine x_bipush C dX12_within_14 (w := 13) (by decide) ?_
        refine x_bipush C dX12_within_16 (w := 12) (by decide) ?_
        refine x_iload C 7 dX12_within_18 rfl ?_
        refine x_imul C dX12_within_20 ?_
        refine x_iload_n C 1 dX12_within_21 rfl rfl ?_
        refine x_iadd C dX12_within_22 ?_
        refine x_imul C dX12_within_23 ?_
        refine x_istore C dX12_within_24 (by decide) (lv' := [(0, .ref (aG G c)), (1, .int (iI y)), (2, .int (iI a)), (3, .int (iI b)), (4, .int (iI s)), (5, .int (iI t)), (6, .int (iI w)), (7, .int (iI z)), (8, .int (iI (13 * ((12 * z) + y))))]) rfl ?_
        refine x_iload C 6 dX12_within_26 rfl ?_
        refine x_aload_n C 0 dX12_within_28 rfl rfl ?_
        refine x_iload C 8 dX12_within_29 rfl ?_
        refine x_iload_n C 3 dX12_within_31 rfl rfl ?_
        refine x_iadd C dX12_within_32 ?_
        refine x_iconst C dX12_within_33 ?_
        refine x_iadd C dX12_within_34 ?_
        refine x_iald C c dX12_within_35 (by omega) (tbw hc) (by refine ⟨?_, ?_⟩ <;> omega) (fun rg35 => ?_)
        refine x_aload_n C 0 dX12_within_36 rfl rfl ?_
        refine x_iload C 8 dX12_within_37 rfl ?_
        refine x_iload_n C 2 dX12_within_39 rfl rfl ?_
        refine x_iadd C dX12_within_40 ?_
        refine x_iald C c dX12_within_41 (by omega) (tbw hc) (by refine ⟨?_, ?_⟩ <;> omega) (fun rg41 => ?_)
        refine x_isub C dX12_within_42 ?_
        refine x_iadd C dX12_within_43 ?_
        refine x_istore C dX12_within_44 (by decide) (lv' := [(0, .ref (aG G c)), (1, .int (iI y)), (2, .int (iI a)), (3, .int (iI b)), (4, .int (iI s)), (5, .int (iI t)), (6, .int (iI (w + ((V c (((13 * ((12 * z) + y)) + b) + 1)) - (V c ((13 * ((12 * z) + y)) + a)))))), (7, .int (iI z)), (8, .int (iI (13 * ((12 * z) + y))))]) rfl ?_
        refine x_iinc C 7 dX12_within_46 rfl (by decide) (lv' := [(0, .ref (aG G c)), (1, .int (iI y)), (2, .int (iI a)), (3, .int (iI b)), (4, .int (iI s)), (5, .int (iI t)), (6, .int (iI (w + ((V c (((13 * ((12 * z) + y)) + b) + 1)) - (V c ((13 * ((12 * z) + y)) + a)))))), (7, .int (iI (z + 1))), (8, .int (iI (13 * ((12 * z) + y))))]) rfl ?_
        refine x_goto C dX12_within_49 (tgt := 7) (by decide) ?_
        refine x_sub [0, 1, 2, 3, 4, 5, 6, 7] (lv' := [(0, .ref (aG G c)), (1, .int (iI y)), (2, .int (iI a)), (3, .int (iI b)), (4, .int (iI s)), (5, .int (iI t)), (6, .int (iI (w + ((V c (((13 * ((12 * z) + y)) + b) + 1)) - (V c ((13 * ((12 * z) + y)) + a)))))), (7, .int (iI (z + 1)))]) rfl ?_
        exact ih7 ((w + ((V c (((13 * ((12 * z) + y)) + b) + 1)) - (V c ((13 * ((12 * z) + y)) + a))))) ((z + 1)) (by first | assumption | omega) (by rw [sm_s (by omega), hw, show 13 * (12 * z + y) + b + 1 = ((13 * ((12 * z) + y)) + b) + 1 by omega]; omega) (by omega)
  exact lp_7 ((t + 1 - s).toNat + 1) (0) (s) (by first | assumption | omega) (by omega) (by omega)
set_option maxRecDepth 100000 in
set_option maxHeartbeats 4000000 in
theorem m_X12_grade (G : GS) (n : Nat) (V : Nat → Int → Int) (R : Nat → Int → Option Nat) (f : Int → Int → Int) (m : Int) (g : Int) (y : Int) (k : Int) (a : Int) (b : Int) (s : Int) (t : Int) (hn : 67 ≤ n) (hLR : LR R) (hy : 0 ≤ y) (hk : 1 ≤ k ∧ k ≤ 4 ∧ y + k ≤ 12) (ha : 0 ≤ a ∧ a ≤ b) (hb : b ≤ 11) (hs : 0 ≤ s ∧ s ≤ t) (ht : t ≤ V 42 2 - 1 ∧ V 42 2 ≤ 8) (hS : sumsR V f m g (12 * V 42 2)) : Cn G yX12_grade cX12_grade 12 (some .int) (rmk 2 0 0 44) [.ref (aG G 42), .int (iI y), .int (iI k), .int (iI a), .int (iI b), .int (iI s), .int (iI t)] n V R 0 0 (fun vv uu => vv = some (.int (iI (grP f m g y k a b s t))) ∧ uu = (n, V, R)) := by
  refine Cn.of (by decide) (Nat.le_of_ble_eq_true rfl) (fun K C hct => ?_)
  show Xw K G 0 0 _ n V R 0 [(0, .ref (aG G 42)), (1, .int (iI y)), (2, .int (iI k)), (3, .int (iI a)), (4, .int (iI b)), (5, .int (iI s)), (6, .int (iI t))] []
  have w1 := hS.ws (y := y) (a := a) (b := b) (s := s) (t := t) (by omega) (by omega) (by omega) (by omega) (by omega) (by omega) (by omega) (by omega)
  have w2 := hS.ws (y := y + k - 1) (a := a) (b := b) (s := s) (t := t) (by omega) (by omega) (by omega) (by omega) (by omega) (by omega) (by omega) (by omega)
  have b1 := face_b (r := fun i => rowH f m g i y) (rowH_b f m g y) (a := a) (b := b) (s := s) (t := t) (by omega) (by omega) (by omega) (by omega) (by omega) (by omega)
  have b2 := face_b (r := fun i => rowH f m g i (y + k - 1)) (rowH_b f m g (y + k - 1)) (a := a) (b := b) (s := s) (t := t) (by omega) (by omega) (by omega) (by omega) (by omega) (by omega)
  have b3 := face_b (r := fun i => row9 f m g i y) (row9_b f m g y) (a := a) (b := b) (s := s) (t := t) (by omega) (by omega) (by omega) (by omega) (by omega) (by omega)
  have b4 := face_b (r := fun i => row9 f m g i (y + k - 1)) (row9_b f m g (y + k - 1)) (a := a) (b := b) (s := s) (t := t) (by omega) (by omega) (by omega) (by omega) (by omega) (by omega)
  have a1 := mul_bd (a := (b - a) + 1) (b := (t - s) + 1) (A := 12) (B := 8) (by omega) (by omega)
  obtain ⟨U, hU⟩ : ∃ U, U = faceH f m g y a b s t := ⟨_, rfl⟩
  obtain ⟨L, hL⟩ : ∃ L, L = faceH f m g (y + k - 1) a b s t := ⟨_, rfl⟩
  obtain ⟨U9, hU9⟩ : ∃ U9, U9 = face9 f m g y a b s t := ⟨_, rfl⟩
  obtain ⟨L9, hL9⟩ : ∃ L9, L9 = face9 f m g (y + k - 1) a b s t := ⟨_, rfl⟩
  replace b1 : 0 ≤ U ∧ U ≤ 864 := by rw [hU]; exact b1
  replace b2 : 0 ≤ L ∧ L ≤ 864 := by rw [hL]; exact b2
  replace b3 : 0 ≤ U9 ∧ U9 ≤ 864 := by rw [hU9]; exact b3
  replace b4 : 0 ≤ L9 ∧ L9 ≤ 864 := by rw [hL9]; exact b4
  have hG : grP f m g y k a b s t = gradeS U L U9 L9 ((b - a + 1) * (t - s + 1)) := by rw [hU, hL, hU9, hL9]; rfl
  refine x_iload C 4 dX12_grade_0 rfl ?_
  refine x_iload_n C 3 dX12_grade_2 rfl rfl ?_
  refine x_isub C dX12_grade_3 ?_
  refine x_iconst C dX12_grade_4 ?_
  refine x_iadd C dX12_grade_5 ?_
  refine x_iload C 6 dX12_grade_6 rfl ?_
  refine x_iload C 5 dX12_grade_8 rfl ?_
  refine x_isub C dX12_grade_10 ?_
  refine x_iconst C dX12_grade_11 ?_
  refine x_iadd C dX12_grade_12 ?_
  refine x_imul C dX12_grade_13 ?_
  refine x_istore C dX12_grade_14 (by decide) (lv' := [(0, .ref (aG G 42)), (1, .int (iI y)), (2, .int (iI k)), (3, .int (iI a)), (4, .int (iI b)), (5, .int (iI s)), (6, .int (iI t)), (7, .int (iI (((b - a) + 1) * ((t - s) + 1))))]) rfl ?_
  refine x_aload_n C 0 dX12_grade_16 rfl rfl ?_
  refine x_getr C ok_Model 42 20 (d := 50) dX12_grade_17 (lt67 hn rfl) rfl (by decide) rfl q_4_8 rfl (kz := 20) rfl (lr_42_20 hLR) ?_
  refine x_iload_n C 1 dX12_grade_20 rfl rfl ?_
  refine x_iload_n C 3 dX12_grade_21 rfl rfl ?_
  refine x_iload C 4 dX12_grade_22 rfl ?_
  refine x_iload C 5 dX12_grade_24 rfl ?_
  refine x_iload C 6 dX12_grade_26 rfl ?_
  refine x_runU (r_callS C (ce_X12_within) (m_X12_within G n V R (50) (y) (a) (b) (s) (t) hn hLR (by first | assumption | omega | decide) (by first | assumption | omega | decide) (by first | assumption | omega | decide) (by first | assumption | omega | decide) (by first | assumption | omega | decide) (by first | assumption | omega | decide)) dX12_grade_28 q_34_20 q_34_21 rfl rfl ⟨Nat.le_of_ble_eq_true rfl, Nat.le_of_ble_eq_true rfl⟩ ⟨rfl, rfl⟩ ⟨Nat.le_of_ble_eq_true rfl, Nat.le_of_ble_eq_true rfl⟩ (Nat.le_of_ble_eq_true rfl)) (fun v28 u28 hp28 => ?_)
  obtain ⟨rfl, rfl⟩ := hp28
  show Xw K G 0 0 _ n V R 31 [(0, .ref (aG G 42)), (1, .int (iI y)), (2, .int (iI k)), (3, .int (iI a)), (4, .int (iI b)), (5, .int (iI s)), (6, .int (iI t)), (7, .int (iI (((b - a) + 1) * ((t - s) + 1))))] [.int (iI (wsum (V 50) y a b s t))]
  refine x_top (b := U) (by rw [hU]; exact w1.1) ?_
  refine x_istore C dX12_grade_31 (by decide) (lv' := [(0, .ref (aG G 42)), (1, .int (iI y)), (2, .int (iI k)), (3, .int (iI a)), (4, .int (iI b)), (5, .int (iI s)), (6, .int (iI t)), (7, .int (iI (((b - a) + 1) * ((t - s) + 1)))), (8, .int (iI U))]) rfl ?_
  refine x_aload_n C 0 dX12_grade_33 rfl rfl ?_
  refine x_getr C ok_Model 42 20 (d := 50) dX12_grade_34 (lt67 hn rfl) rfl (by decide) rfl q_4_8 rfl (kz := 20) rfl (lr_42_20 hLR) ?_
  refine x_iload_n C 1 dX12_grade_37 rfl rfl ?_
  refine x_iload_n C 2 dX12_grade_38 rfl rfl ?_
  refine x_iadd C dX12_grade_39 ?_
  refine x_iconst C dX12_grade_40 ?_
  refine x_isub C dX12_grade_41 ?_
  refine x_iload_n C 3 dX12_grade_42 rfl rfl ?_
  refine x_iload C 4 dX12_grade_43 rfl ?_
  refine x_iload C 5 dX12_grade_45 rfl ?_
  refine x_iload C 6 dX12_grade_47 rfl ?_
  refine x_runU (r_callS C (ce_X12_within) (m_X12_within G n V R (50) ((y + k) - 1) (a) (b) (s) (t) hn hLR (by first | assumption | omega | decide) (by first | assumption | omega | decide) (by first | assumption | omega | decide) (by first | assumption | omega | decide) (by first | assumption | omega | decide) (by first | assumption | omega | decide)) dX12_grade_49 q_34_20 q_34_21 rfl rfl ⟨Nat.le_of_ble_eq_true rfl, Nat.le_of_ble_eq_true rfl⟩ ⟨rfl, rfl⟩ ⟨Nat.le_of_ble_eq_true rfl, Nat.le_of_ble_eq_true rfl⟩ (Nat.le_of_ble_eq_true rfl)) (fun v49 u49 hp49 => ?_)
  obtain ⟨rfl, rfl⟩ := hp49
  show Xw K G 0 0 _ n V R 52 [(0, .ref (aG G 42)), (1, .int (iI y)), (2, .int (iI k)), (3, .int (iI a)), (4, .int (iI b)), (5, .int (iI s)), (6, .int (iI t)), (7, .int (iI (((b - a) + 1) * ((t - s) + 1)))), (8, .int (iI U))] [.int (iI (wsum (V 50) ((y + k) - 1) a b s t))]
  refine x_top (b := L) (by rw [hL]; exact w2.1) ?_
  refine x_istore C dX12_grade_52 (by decide) (lv' := [(0, .ref (aG G 42)), (1, .int (iI y)), (2, .int (iI k)), (3, .int (iI a)), (4, .int (iI b)), (5, .int (iI s)), (6, .int (iI t)), (7, .int (iI (((b - a) + 1) * ((t - s) + 1)))), (8, .int (iI U)), (9, .int (iI L))]) rfl ?_
  refine x_iload C 8 dX12_grade_54 rfl ?_
  refine x_iload C 9 dX12_grade_56 rfl ?_
  refine x_max C dX12_grade_58 q_7_6 q_5_21 q_5_22 q_5_23 ⟨Nat.le_of_ble_eq_true rfl, Nat.le_of_ble_eq_true rfl⟩ ⟨Nat.zero_le _, Nat.zero_le _⟩ (by first | assumption | (constructor <;> omega)) (by first | assumption | (constructor <;> omega)) ?_
  refine x_istore C dX12_grade_61 (by decide) (lv' := [(0, .ref (aG G 42)), (1, .int (iI y)), (2, .int (iI k)), (3, .int (iI a)), (4, .int (iI b)), (5, .int (iI s)), (6, .int (iI t)), (7, .int (iI (((b - a) + 1) * ((t - s) + 1)))), (8, .int (iI U)), (9, .int (iI L)), (10, .int (iI (max U L)))]) rfl ?_
  refine x_iload C 8 dX12_grade_63 rfl ?_
  refine x_iload C 9 dX12_grade_65 rfl ?_
  refine x_min C dX12_grade_67 q_24_20 q_10_5 q_5_22 q_10_6 ⟨Nat.le_of_ble_eq_true rfl, Nat.le_of_ble_eq_true rfl⟩ ⟨Nat.zero_le _, Nat.zero_le _⟩ (by first | assumption | (constructor <;> omega)) (by first | assumption | (constructor <;> omega)) ?_
  refine x_istore C dX12_grade_70 (by decide) (lv' := [(0, .ref (aG G 42)), (1, .int (iI y)), (2, .int (iI k)), (3, .int (iI a)), (4, .int (iI b)), (5, .int (iI s)), (6, .int (iI t)), (7, .int (iI (((b - a) + 1) * ((t - s) + 1)))), (8, .int (iI U)), (9, .int (iI L)), (10, .int (iI (max U L))), (11, .int (iI (min U L)))]) rfl ?_
  refine x_iload C 10 dX12_grade_72 rfl ?_
  refine x_if_ne C dX12_grade_74 (tgt := 79) (by decide) (by first | assumption | (constructor <;> omega)) (fun h74 => ?_) (fun h74 => ?_)
  · skip
    refine x_iload C 11 dX12_grade_79 rfl ?_
    refine x_if_ne C dX12_grade_81 (tgt := 96) (by decide) (by first | assumption | (constructor <;> omega)) (fun h81 => ?_) (fun h81 => ?_)
    · skip
      refine x_iconst C dX12_grade_96 ?_
      refine x_iload C 10 dX12_grade_97 rfl ?_
      refine x_imul C dX12_grade_99 ?_
      refine x_iload C 7 dX12_grade_100 rfl ?_
      refine x_icmp_gt C dX12_grade_102 (tgt := 145) (by decide) (by first | assumption | (constructor <;> omega)) (by first | assumption | (constructor <;> omega)) (fun h102 => ?_) (fun h102 => ?_)
      · skip
        refine x_iload C 11 dX12_grade_145 rfl ?_
        refine x_iload C 7 dX12_grade_147 rfl ?_
        refine x_icmp_gt C dX12_grade_149 (tgt := 156) (by decide) (by first | assumption | (constructor <;> omega)) (by first | assumption | (constructor <;> omega)) (fun h149 => ?_) (fun h149 => ?_)
        · skip
          refine x_iconst C dX12_grade_156 ?_
          refine x_iret C dX12_grade_157 ⟨congrArg (fun z => some (Value.int (iI z))) (by rw [hG]; unfold gradeS; repeat' split <;> omega), rfl⟩
        · skip
          refine x_iconst C dX12_grade_152 ?_
          refine x_goto C dX12_grade_153 (tgt := 157) (by decide) ?_
          refine x_iret C dX12_grade_157 ⟨congrArg (fun z => some (Value.int (iI z))) (by rw [hG]; unfold gradeS; repeat' split <;> omega), rfl⟩
      · skip
        refine x_aload_n C 0 dX12_grade_105 rfl rfl ?_
        refine x_getr C ok_Model 42 21 (d := 51) dX12_grade_106 (lt67 hn rfl) rfl (by decide) rfl q_4_9 rfl (kz := 21) rfl (lr_42_21 hLR) ?_
        refine x_iload_n C 1 dX12_grade_109 rfl rfl ?_
        refine x_iload_n C 3 dX12_grade_110 rfl rfl ?_
        refine x_iload C 4 dX12_grade_111 rfl ?_
        refine x_iload C 5 dX12_grade_113 rfl ?_
        refine x_iload C 6 dX12_grade_115 rfl ?_
        refine x_runU (r_callS C (ce_X12_within) (m_X12_within G n V R (51) (y) (a) (b) (s) (t) hn hLR (by first | assumption | omega | decide) (by first | assumption | omega | decide) (by first | assumption | omega | decide) (by first | assumption | omega | decide) (by first | assumption | omega | decide) (by first | assumption | omega | decide)) dX12_grade_117 q_34_20 q_34_21 rfl rfl ⟨Nat.le_of_ble_eq_true rfl, Nat.le_of_ble_eq_true rfl⟩ ⟨rfl, rfl⟩ ⟨Nat.le_of_ble_eq_true rfl, Nat.le_of_ble_eq_true rfl⟩ (Nat.le_of_ble_eq_true rfl)) (fun v117 u117 hp117 => ?_)
        obtain ⟨rfl, rfl⟩ := hp117
        show Xw K G 0 0 _ n V R 120 [(0, .ref (aG G 42)), (1, .int (iI y)), (2, .int (iI k)), (3, .int (iI a)), (4, .int (iI b)), (5, .int (iI s)), (6, .int (iI t)), (7, .int (iI (((b - a) + 1) * ((t - s) + 1)))), (8, .int (iI U)), (9, .int (iI L)), (10, .int (iI (max U L))), (11, .int (iI (min U L)))] [.int (iI (wsum (V 51) y a b s t))]
        refine x_top (b := U9) (by rw [hU9]; exact w1.2) ?_
        refine x_aload_n C 0 dX12_grade_120 rfl rfl ?_
        refine x_getr C ok_Model 42 21 (d := 51) dX12_grade_121 (lt67 hn rfl) rfl (by decide) rfl q_4_9 rfl (kz := 21) rfl (lr_42_21 hLR) ?_
        refine x_iload_n C 1 dX12_grade_124 rfl rfl ?_
        refine x_iload_n C 2 dX12_grade_125 rfl rfl ?_
        refine x_iadd C dX12_grade_126 ?_
        refine x_iconst C dX12_grade_127 ?_
        refine x_isub C dX12_grade_128 ?_
        refine x_iload_n C 3 dX12_grade_129 rfl rfl ?_
        refine x_iload C 4 dX12_grade_130 rfl ?_
        refine x_iload C 5 dX12_grade_132 rfl ?_
        refine x_iload C 6 dX12_grade_134 rfl ?_
        refine x_runU (r_callS C (ce_X12_within) (m_X12_within G n V R (51) ((y + k) - 1) (a) (b) (s) (t) hn hLR (by first | assumption | omega | decide) (by first | assumption | omega | decide) (by first | assumption | omega | decide) (by first | assumption | omega | decide) (by first | assumption | omega | decide) (by first | assumption | omega | decide)) dX12_grade_136 q_34_20 q_34_21 rfl rfl ⟨Nat.le_of_ble_eq_true rfl, Nat.le_of_ble_eq_true rfl⟩ ⟨rfl, rfl⟩ ⟨Nat.le_of_ble_eq_true rfl, Nat.le_of_ble_eq_true rfl⟩ (Nat.le_of_ble_eq_true rfl)) (fun v136 u136 hp136 => ?_)
        obtain ⟨rfl, rfl⟩ := hp136
        show Xw K G 0 0 _ n V R 139 [(0, .ref (aG G 42)), (1, .int (iI y)), (2, .int (iI k)), (3, .int (iI a)), (4, .int (iI b)), (5, .int (iI s)), (6, .int (iI t)), (7, .int (iI (((b - a) + 1) * ((t - s) + 1)))), (8, .int (iI U)), (9, .int (iI L)), (10, .int (iI (max U L))), (11, .int (iI (min U L)))] [.int (iI (wsum (V 51) ((y + k) - 1) a b s t)), .int (iI U9)]
        refine x_top (b := L9) (by rw [hL9]; exact w2.2) ?_
        refine x_iadd C dX12_grade_139 ?_
        refine x_if_ne C dX12_grade_140 (tgt := 145) (by decide) (by first | assumption | (constructor <;> omega)) (fun h140 => ?_) (fun h140 => ?_)
        · skip
          refine x_iload C 11 dX12_grade_145 rfl ?_
          refine x_iload C 7 dX12_grade_147 rfl ?_
          refine x_icmp_gt C dX12_grade_149 (tgt := 156) (by decide) (by first | assumption | (constructor <;> omega)) (by first | assumption | (constructor <;> omega)) (fun h149 => ?_) (fun h149 => ?_)
          · skip
            refine x_iconst C dX12_grade_156 ?_
            refine x_iret C dX12_grade_157 ⟨congrArg (fun z => some (Value.int (iI z))) (by rw [hG]; unfold gradeS; repeat' split <;> omega), rfl⟩
          · skip
            refine x_iconst C dX12_grade_152 ?_
            refine x_goto C dX12_grade_153 (tgt := 157) (by decide) ?_
            refine x_iret C dX12_grade_157 ⟨congrArg (fun z => some (Value.int (iI z))) (by rw [hG]; unfold gradeS; repeat' split <;> omega), rfl⟩
        · skip
          refine x_iconst C dX12_grade_143 ?_
          refine x_iret C dX12_grade_144 ⟨congrArg (fun z => some (Value.int (iI z))) (by rw [hG]; unfold gradeS; repeat' split <;> omega), rfl⟩
    · skip
      refine x_bipush C dX12_grade_84 (w := 8) (by decide) ?_
      refine x_iload C 10 dX12_grade_86 rfl ?_
      refine x_imul C dX12_grade_88 ?_
      refine x_iload C 7 dX12_grade_89 rfl ?_
      refine x_icmp_gt C dX12_grade_91 (tgt := 96) (by decide) (by first | assumption | (constructor <;> omega)) (by first | assumption | (constructor <;> omega)) (fun h91 => ?_) (fun h91 => ?_)
      · skip
        refine x_iconst C dX12_grade_96 ?_
        refine x_iload C 10 dX12_grade_97 rfl ?_
        refine x_imul C dX12_grade_99 ?_
        refine x_iload C 7 dX12_grade_100 rfl ?_
        refine x_icmp_gt C dX12_grade_102 (tgt := 145) (by decide) (by first | assumption | (constructor <;> omega)) (by first | assumption | (constructor <;> omega)) (fun h102 => ?_) (fun h102 => ?_)
        · skip
          refine x_iload C 11 dX12_grade_145 rfl ?_
          refine x_iload C 7 dX12_grade_147 rfl ?_
          refine x_icmp_gt C dX12_grade_149 (tgt := 156) (by decide) (by first | assumption | (constructor <;> omega)) (by first | assumption | (constructor <;> omega)) (fun h149 => ?_) (fun h149 => ?_)
          · skip
            refine x_iconst C dX12_grade_156 ?_
            refine x_iret C dX12_grade_157 ⟨congrArg (fun z => some (Value.int (iI z))) (by rw [hG]; unfold gradeS; repeat' split <;> omega), rfl⟩
          · skip
            refine x_iconst C dX12_grade_152 ?_
            refine x_goto C dX12_grade_153 (tgt := 157) (by decide) ?_
            refine x_iret C dX12_grade_157 ⟨congrArg (fun z => some (Value.int (iI z))) (by rw [hG]; unfold gradeS; repeat' split <;> omega), rfl⟩
        · skip
          refine x_aload_n C 0 dX12_grade_105 rfl rfl ?_
          refine x_getr C ok_Model 42 21 (d := 51) dX12_grade_106 (lt67 hn rfl) rfl (by decide) rfl q_4_9 rfl (kz := 21) rfl (lr_42_21 hLR) ?_
          refine x_iload_n C 1 dX12_grade_109 rfl rfl ?_
          refine x_iload_n C 3 dX12_grade_110 rfl rfl ?_
          refine x_iload C 4 dX12_grade_111 rfl ?_
          refine x_iload C 5 dX12_grade_113 rfl ?_
          refine x_iload C 6 dX12_grade_115 rfl ?_
          refine x_runU (r_callS C (ce_X12_within) (m_X12_within G n V R (51) (y) (a) (b) (s) (t) hn hLR (by first | assumption | omega | decide) (by first | assumption | omega | decide) (by first | assumption | omega | decide) (by first | assumption | omega | decide) (by first | assumption | omega | decide) (by first | assumption | omega | decide)) dX12_grade_117 q_34_20 q_34_21 rfl rfl ⟨Nat.le_of_ble_eq_true rfl, Nat.le_of_ble_eq_true rfl⟩ ⟨rfl, rfl⟩ ⟨Nat.le_of_ble_eq_true rfl, Nat.le_of_ble_eq_true rfl⟩ (Nat.le_of_ble_eq_true rfl)) (fun v117 u117 hp117 => ?_)
          obtain ⟨rfl, rfl⟩ := hp117
          show Xw K G 0 0 _ n V R 120 [(0, .ref (aG G 42)), (1, .int (iI y)), (2, .int (iI k)), (3, .int (iI a)), (4, .int (iI b)), (5, .int (iI s)), (6, .int (iI t)), (7, .int (iI (((b - a) + 1) * ((t - s) + 1)))), (8, .int (iI U)), (9, .int (iI L)), (10, .int (iI (max U L))), (11, .int (iI (min U L)))] [.int (iI (wsum (V 51) y a b s t))]
          refine x_top (b := U9) (by rw [hU9]; exact w1.2) ?_
          refine x_aload_n C 0 dX12_grade_120 rfl rfl ?_
          refine x_getr C ok_Model 42 21 (d := 51) dX12_grade_121 (lt67 hn rfl) rfl (by decide) rfl q_4_9 rfl (kz := 21) rfl (lr_42_21 hLR) ?_
          refine x_iload_n C 1 dX12_grade_124 rfl rfl ?_
          refine x_iload_n C 2 dX12_grade_125 rfl rfl ?_
          refine x_iadd C dX12_grade_126 ?_
          refine x_iconst C dX12_grade_127 ?_
          refine x_isub C dX12_grade_128 ?_
          refine x_iload_n C 3 dX12_grade_129 rfl rfl ?_
          refine x_iload C 4 dX12_grade_130 rfl ?_
          refine x_iload C 5 dX12_grade_132 rfl ?_
          refine x_iload C 6 dX12_grade_134 rfl ?_
          refine x_runU (r_callS C (ce_X12_within) (m_X12_within G n V R (51) ((y + k) - 1) (a) (b) (s) (t) hn hLR (by first | assumption | omega | decide) (by first | assumption | omega | decide) (by first | assumption | omega | decide) (by first | assumption | omega | decide) (by first | assumption | omega | decide) (by first | assumption | omega | decide)) dX12_grade_136 q_34_20 q_34_21 rfl rfl ⟨Nat.le_of_ble_eq_true rfl, Nat.le_of_ble_eq_true rfl⟩ ⟨rfl, rfl⟩ ⟨Nat.le_of_ble_eq_true rfl, Nat.le_of_ble_eq_true rfl⟩ (Nat.le_of_ble_eq_true rfl)) (fun v136 u136 hp136 => ?_)
          obtain ⟨rfl, rfl⟩ := hp136
          show Xw K G 0 0 _ n V R 139 [(0, .ref (aG G 42)), (1, .int (iI y)), (2, .int (iI k)), (3, .int (iI a)), (4, .int (iI b)), (5, .int (iI s)), (6, .int (iI t)), (7, .int (iI (((b - a) + 1) * ((t - s) + 1)))), (8, .int (iI U)), (9, .int (iI L)), (10, .int (iI (max U L))), (11, .int (iI (min U L)))] [.int (iI (wsum (V 51) ((y + k) - 1) a b s t)), .int (iI U9)]
          refine x_top (b := L9) (by rw [hL9]; exact w2.2) ?_
          refine x_iadd C dX12_grade_139 ?_
          refine x_if_ne C dX12_grade_140 (tgt := 145) (by decide) (by first | assumption | (constructor <;> omega)) (fun h140 => ?_) (fun h140 => ?_)
          · skip
            refine x_iload C 11 dX12_grade_145 rfl ?_
            refine x_iload C 7 dX12_grade_147 rfl ?_
            refine x_icmp_gt C dX12_grade_149 (tgt := 156) (by decide) (by first | assumption | (constructor <;> omega)) (by first | assumption | (constructor <;> omega)) (fun h149 => ?_) (fun h149 => ?_)
            · skip
              refine x_iconst C dX12_grade_156 ?_
              refine x_iret C dX12_grade_157 ⟨congrArg (fun z => some (Value.int (iI z))) (by rw [hG]; unfold gradeS; repeat' split <;> omega), rfl⟩
            · skip
              refine x_iconst C dX12_grade_152 ?_
              refine x_goto C dX12_grade_153 (tgt := 157) (by decide) ?_
              refine x_iret C dX12_grade_157 ⟨congrArg (fun z => some (Value.int (iI z))) (by rw [hG]; unfold gradeS; repeat' split <;> omega), rfl⟩
          · skip
            refine x_iconst C dX12_grade_143 ?_
            refine x_iret C dX12_grade_144 ⟨congrArg (fun z => some (Value.int (iI z))) (by rw [hG]; unfold gradeS; repeat' split <;> omega), rfl⟩
      · skip
        refine x_iconst C dX12_grade_94 ?_
        refine x_iret C dX12_grade_95 ⟨congrArg (fun z => some (Value.int (iI z))) (by rw [hG]; unfold gradeS; repeat' split <;> omega), rfl⟩
  · skip
    refine x_iconst C dX12_grade_77 ?_
    refine x_iret C dX12_grade_78 ⟨congrArg (fun z => some (Value.int (iI z))) (by rw [hG]; unfold gradeS; repeat' split <;> omega), rfl⟩
set_option maxRecDepth 100000 in
set_option maxHeartbeats 4000000 in
theorem m_X12_isAhead (G : GS) (n : Nat) (V : Nat → Int → Int) (R : Nat → Int → Option Nat) (a : Int) (b : Int) (s : Int) (t : Int) (hn : 67 ≤ n) (hLR : LR R) (ga : Rg a) (gb : Rg b) (gs : Rg s) (gt : Rg t) : Cn G yX12_isAhead cX12_isAhead 5 (some .boolean) (rmk 1 0 0 16) [.ref (aG G 42), .int (iI a), .int (iI b), .int (iI s), .int (iI t)] n V R 0 0 (fun vv uu => vv = some (.int (iI (bI (lexP a b s t (V 42 24) (V 42 25) (V 42 26) (V 42 27))))) ∧ uu = (n, V, R)) := by
  refine Cn.of (by decide) (Nat.le_of_ble_eq_true rfl) (fun K C hct => ?_)
  show Xw K G 0 0 _ n V R 0 [(0, .ref (aG G 42)), (1, .int (iI a)), (2, .int (iI b)), (3, .int (iI s)), (4, .int (iI t))] []
  refine x_iload_n C 3 dX12_isAhead_0 rfl rfl ?_
  refine x_aload_n C 0 dX12_isAhead_1 rfl rfl ?_
  refine x_geti C ok_Model 42 26 dX12_isAhead_2 (lt67 hn rfl) rfl (by decide) rfl q_33_17 rfl (kz := 26) rfl (fun rg2 => ?_)
  refine x_icmp_ne C dX12_isAhead_5 (tgt := 17) (by decide) (by first | assumption | (constructor <;> omega)) (by first | assumption | (constructor <;> omega)) (fun h5 => ?_) (fun h5 => ?_)
  · skip
    refine x_iload_n C 3 dX12_isAhead_17 rfl rfl ?_
    refine x_aload_n C 0 dX12_isAhead_18 rfl rfl ?_
    refine x_geti C ok_Model 42 26 dX12_isAhead_19 (lt67 hn rfl) rfl (by decide) rfl q_33_17 rfl (kz := 26) rfl (fun rg19 => ?_)
    refine x_icmp_lt C dX12_isAhead_22 (tgt := 42) (by decide) (by first | assumption | (constructor <;> omega)) (by first | assumption | (constructor <;> omega)) (fun h22 => ?_) (fun h22 => ?_)
    · skip
      refine x_iconst C dX12_isAhead_42 ?_
      refine x_goto C dX12_isAhead_43 (tgt := 47) (by decide) ?_
      refine x_zret C (Or.inr rfl) dX12_isAhead_47 ⟨bI_rt (by unfold lexP; split <;> omega), rfl⟩
    · skip
      refine x_iload_n C 3 dX12_isAhead_25 rfl rfl ?_
      refine x_aload_n C 0 dX12_isAhead_26 rfl rfl ?_
      refine x_geti C ok_Model 42 26 dX12_isAhead_27 (lt67 hn rfl) rfl (by decide) rfl q_33_17 rfl (kz := 26) rfl (fun rg27 => ?_)
      refine x_icmp_ne C dX12_isAhead_30 (tgt := 46) (by decide) (by first | assumption | (constructor <;> omega)) (by first | assumption | (constructor <;> omega)) (fun h30 => ?_) (fun h30 => ?_)
      · skip
        refine x_iconst C dX12_isAhead_46 ?_
        refine x_zret C (Or.inl rfl) dX12_isAhead_47 ⟨bI_rf (by unfold lexP; split <;> omega), rfl⟩
      · skip
        refine x_iload C 4 dX12_isAhead_33 rfl ?_
        refine x_aload_n C 0 dX12_isAhead_35 rfl rfl ?_
        refine x_geti C ok_Model 42 27 dX12_isAhead_36 (lt67 hn rfl) rfl (by decide) rfl q_33_18 rfl (kz := 27) rfl (fun rg36 => ?_)
        refine x_icmp_ge C dX12_isAhead_39 (tgt := 46) (by decide) (by first | assumption | (constructor <;> omega)) (by first | assumption | (constructor <;> omega)) (fun h39 => ?_) (fun h39 => ?_)
        · skip
          refine x_iconst C dX12_isAhead_46 ?_
          refine x_zret C (Or.inl rfl) dX12_isAhead_47 ⟨bI_rf (by unfold lexP; split <;> omega), rfl⟩
        · skip
          refine x_iconst C dX12_isAhead_42 ?_
          refine x_goto C dX12_isAhead_43 (tgt := 47) (by decide) ?_
          refine x_zret C (Or.inr rfl) dX12_isAhead_47 ⟨bI_rt (by unfold lexP; split <;> omega), rfl⟩
  · skip
    refine x_iload C 4 dX12_isAhead_8 rfl ?_
    refine x_aload_n C 0 dX12_isAhead_10 rfl rfl ?_
    refine x_geti C ok_Model 42 27 dX12_isAhead_11 (lt67 hn rfl) rfl (by decide) rfl q_33_18 rfl (kz := 27) rfl (fun rg11 => ?_)
    refine x_icmp_eq C dX12_isAhead_14 (tgt := 48) (by decide) (by first | assumption | (constructor <;> omega)) (by first | assumption | (constructor <;> omega)) (fun h14 => ?_) (fun h14 => ?_)
    · skip
      refine x_iload_n C 1 dX12_isAhead_48 rfl rfl ?_
      refine x_aload_n C 0 dX12_isAhead_49 rfl rfl ?_
      refine x_geti C ok_Model 42 24 dX12_isAhead_50 (lt67 hn rfl) rfl (by decide) rfl q_33_15 rfl (kz := 24) rfl (fun rg50 => ?_)
      refine x_icmp_lt C dX12_isAhead_53 (tgt := 72) (by decide) (by first | assumption | (constructor <;> omega)) (by first | assumption | (constructor <;> omega)) (fun h53 => ?_) (fun h53 => ?_)
      · skip
        refine x_iconst C dX12_isAhead_72 ?_
        refine x_goto C dX12_isAhead_73 (tgt := 77) (by decide) ?_
        refine x_zret C (Or.inr rfl) dX12_isAhead_77 ⟨bI_rt (by unfold lexP; split <;> omega), rfl⟩
      · skip
        refine x_iload_n C 1 dX12_isAhead_56 rfl rfl ?_
        refine x_aload_n C 0 dX12_isAhead_57 rfl rfl ?_
        refine x_geti C ok_Model 42 24 dX12_isAhead_58 (lt67 hn rfl) rfl (by decide) rfl q_33_15 rfl (kz := 24) rfl (fun rg58 => ?_)
        refine x_icmp_ne C dX12_isAhead_61 (tgt := 76) (by decide) (by first | assumption | (constructor <;> omega)) (by first | assumption | (constructor <;> omega)) (fun h61 => ?_) (fun h61 => ?_)
        · skip
          refine x_iconst C dX12_isAhead_76 ?_
          refine x_zret C (Or.inl rfl) dX12_isAhead_77 ⟨bI_rf (by unfold lexP; split <;> omega), rfl⟩
        · skip
          refine x_iload_n C 2 dX12_isAhead_64 rfl rfl ?_
          refine x_aload_n C 0 dX12_isAhead_65 rfl rfl ?_
          refine x_geti C ok_Model 42 25 dX12_isAhead_66 (lt67 hn rfl) rfl (by decide) rfl q_33_16 rfl (kz := 25) rfl (fun rg66 => ?_)
          refine x_icmp_ge C dX12_isAhead_69 (tgt := 76) (by decide) (by first | assumption | (constructor <;> omega)) (by first | assumption | (constructor <;> omega)) (fun h69 => ?_) (fun h69 => ?_)
          · skip
            refine x_iconst C dX12_isAhead_76 ?_
            refine x_zret C (Or.inl rfl) dX12_isAhead_77 ⟨bI_rf (by unfold lexP; split <;> omega), rfl⟩
          · skip
            refine x_iconst C dX12_isAhead_72 ?_
            refine x_goto C dX12_isAhead_73 (tgt := 77) (by decide) ?_
            refine x_zret C (Or.inr rfl) dX12_isAhead_77 ⟨bI_rt (by unfold lexP; split <;> omega), rfl⟩
    · skip
      refine x_iload_n C 3 dX12_isAhead_17 rfl rfl ?_
      refine x_aload_n C 0 dX12_isAhead_18 rfl rfl ?_
      refine x_geti C ok_Model 42 26 dX12_isAhead_19 (lt67 hn rfl) rfl (by decide) rfl q_33_17 rfl (kz := 26) rfl (fun rg19 => ?_)
      refine x_icmp_lt C dX12_isAhead_22 (tgt := 42) (by decide) (by first | assumption | (constructor <;> omega)) (by first | assumption | (constructor <;> omega)) (fun h22 => ?_) (fun h22 => ?_)
      · skip
        refine x_iconst C dX12_isAhead_42 ?_
        refine x_goto C dX12_isAhead_43 (tgt := 47) (by decide) ?_
        refine x_zret C (Or.inr rfl) dX12_isAhead_47 ⟨bI_rt (by unfold lexP; split <;> omega), rfl⟩
      · skip
        refine x_iload_n C 3 dX12_isAhead_25 rfl rfl ?_
        refine x_aload_n C 0 dX12_isAhead_26 rfl rfl ?_
        refine x_geti C ok_Model 42 26 dX12_isAhead_27 (lt67 hn rfl) rfl (by decide) rfl q_33_17 rfl (kz := 26) rfl (fun rg27 => ?_)
        refine x_icmp_ne C dX12_isAhead_30 (tgt := 46) (by decide) (by first | assumption | (constructor <;> omega)) (by first | assumption | (constructor <;> omega)) (fun h30 => ?_) (fun h30 => ?_)
        · skip
          refine x_iconst C dX12_isAhead_46 ?_
          refine x_zret C (Or.inl rfl) dX12_isAhead_47 ⟨bI_rf (by unfold lexP; split <;> omega), rfl⟩
        · skip
          refine x_iload C 4 dX12_isAhead_33 rfl ?_
          refine x_aload_n C 0 dX12_isAhead_35 rfl rfl ?_
          refine x_geti C ok_Model 42 27 dX12_isAhead_36 (lt67 hn rfl) rfl (by decide) rfl q_33_18 rfl (kz := 27) rfl (fun rg36 => ?_)
          refine x_icmp_ge C dX12_isAhead_39 (tgt := 46) (by decide) (by first | assumption | (constructor <;> omega)) (by first | assumption | (constructor <;> omega)) (fun h39 => ?_) (fun h39 => ?_)
          · skip
            refine x_iconst C dX12_isAhead_46 ?_
            refine x_zret C (Or.inl rfl) dX12_isAhead_47 ⟨bI_rf (by unfold lexP; split <;> omega), rfl⟩
          · skip
            refine x_iconst C dX12_isAhead_42 ?_
            refine x_goto C dX12_isAhead_43 (tgt := 47) (by decide) ?_
            refine x_zret C (Or.inr rfl) dX12_isAhead_47 ⟨bI_rt (by unfold lexP; split <;> omega), rfl⟩
