theorem saw_f {V V5 : Nat → Int → Int} {a b c d e f g h i : Int} (hF : FrW V V5) : FrW V (u2 (u2 (u2 (u2 (u2 V5 45 a b) 45 c d) 45 e f) 45 g h) 42 7 i) := fun q z q1 q2 q3 q4 q5 q6 q7 q8 => by
  rw [u2_at, if_neg (fun x => q8 ⟨x.1, by omega⟩), u2_n q7, u2_n q7, u2_n q7, u2_n q7]
  exact hF q z q1 q2 q3 q4 q5 q6 q7 q8
theorem saw_r {V V5 : Nat → Int → Int} {k s : Int} {e1 e2 e3 e4 e5 : Int} (hs : V5 42 7 = s + k) (hk : 0 ≤ k) (h : ∀ i : Int, 0 ≤ i → i < k → sawRowM V (V5 45) (s + i) i) (hn : ∃ W AR A B S T G, 0 < W ∧ BestB (V 42 0) (V 42 1) (V 42 2) (FM V) (V 42 4) (V 42 3) (V 44) (lat (opLM V (V 42 3)) k) ((opM V (V 42 3) (-1)).2 (lat (opLM V (V 42 3)) k)) W AR A B S T G ∧ e1 = (opM V (V 42 3) (-1)).2 (lat (opLM V (V 42 3)) k) ∧ e2 = B - A + 1 ∧ e3 = T - S + 1 ∧ e4 = G) : ∀ i : Int, 0 ≤ i → i < k + 1 → sawRowM V (u2 (u2 (u2 (u2 (u2 V5 45 (4 * V5 42 7) e1) 45 (4 * V5 42 7 + 1) e2) 45 (4 * V5 42 7 + 2) e3) 45 (4 * V5 42 7 + 3) e4) 42 7 e5 45) (s + i) i := fun i a b => by
  rw [u2_n (by decide), u2_s, u2_s, u2_s, u2_s, hs]
  rcases (show i < k ∨ i = k by omega) with q | q
  · exact sawRow_c (h i a q) (fun z z1 z2 => by rw [u1_n (by omega), u1_n (by omega), u1_n (by omega), u1_n (by omega)])
  · subst q
    obtain ⟨W, AR, A, B, S, T, G, h0, h1, h2, h3, h4, h5⟩ := hn
    refine ⟨W, AR, A, B, S, T, G, h0, h1, ?_, ?_, ?_, ?_⟩
    · rw [u1_n (by omega), u1_n (by omega), u1_n (by omega), u1_s]; exact h2
    · rw [u1_n (by omega), u1_n (by omega), u1_s]; exact h3
    · rw [u1_n (by omega), u1_s]; exact h4
    · rw [u1_s]; exact h5

set_option maxRecDepth 100000 in
set_option maxHeartbeats 4000000 in
theorem m_X12_saw (G : GS) (n : Nat) (V : Nat → Int → Int) (R : Nat → Int → Option Nat) (hn : 67 ≤ n) (hLR : LR R) (hl : LogOk V) (hru : RulesOk (V 44)) (hnb : 0 ≤ V 42 7 ∧ V 42 7 ≤ 16) (hno : 0 ≤ V 42 9 ∧ V 42 9 ≤ 6) : Cn G yX12_saw cX12_saw 3 (some .int) (rmk 7 0 0 177) [.ref (aG G 42)] n V R 0 0 (fun vv uu => ∃ (r : Int), ∃ (V1 : Nat → Int → Int), vv = some (.int (iI r)) ∧ uu = (n, V1, R) ∧ ((V 42 2 = 0 ∧ r = -3 ∧ V1 = V) ∨ (V 42 2 ≠ 0 ∧ 16 < V 42 7 + ((opLM V (V 42 3)).length : Int) ∧ r = -4 ∧ FrL V V1) ∨ (V 42 2 ≠ 0 ∧ V 42 7 + ((opLM V (V 42 3)).length : Int) ≤ 16 ∧ r = ((opLM V (V 42 3)).length : Int) ∧ V1 42 7 = V 42 7 + ((opLM V (V 42 3)).length : Int) ∧ V1 42 2 = 0 ∧ V1 42 3 = 0 ∧ V1 42 4 = 0 ∧ (∀ z, z < 4 * V 42 7 → V1 45 z = V 45 z) ∧ (∀ i : Int, 0 ≤ i → i < ((opLM V (V 42 3)).length : Int) → sawRowM V (V1 45) (V 42 7 + i) i) ∧ (∀ q z, q ≠ 50 → q ≠ 51 → q ≠ 52 → q ≠ 53 → q ≠ 54 → q ≠ 55 → q ≠ 45 → ¬ (q = 42 ∧ ((22 ≤ z ∧ z ≤ 28) ∨ z = 31 ∨ z = 7 ∨ (2 ≤ z ∧ z ≤ 4))) → V1 q z = V q z)))) := by
  refine Cn.of (by decide) (Nat.le_of_ble_eq_true rfl) (fun K C hct => ?_)
  show Xw K G 0 0 _ n V R 0 [(0, .ref (aG G 42))] []
  obtain ⟨h1, h2, h3, h5, h4, hF⟩ := id hl
  obtain ⟨hkf, hsv, hpr, hth⟩ := id hru
  refine x_aload_n C 0 dX12_saw_0 rfl rfl ?_
  refine x_geti C ok_Model 42 2 dX12_saw_1 (lt67 hn rfl) rfl (by decide) rfl q_6_12 rfl (kz := 2) rfl (fun rg1 => ?_)
  refine x_if_ne C dX12_saw_4 (tgt := 10) (by decide) (by first | assumption | (constructor <;> omega)) (fun h4 => ?_) (fun h4 => ?_)
  · skip
    refine x_aload_n C 0 dX12_saw_10 rfl rfl ?_
    refine x_aload_n C 0 dX12_saw_11 rfl rfl ?_
    refine x_geti C ok_Model 42 3 dX12_saw_12 (lt67 hn rfl) rfl (by decide) rfl q_6_13 rfl (kz := 3) rfl (fun rg12 => ?_)
    refine x_runU (r_callV C ok_Model 42 (lt67 hn rfl) rfl (ce_X12_lists) (m_X12_lists G n V R (V 42 3) hn hLR (by first | assumption | omega | decide) (by first | assumption | omega | decide) (by first | assumption | omega | decide) (by first | assumption | omega | decide)) rfl dX12_saw_15 q_37_18 q_37_19 q_37_20 rfl rfl ⟨Nat.le_of_ble_eq_true rfl, Nat.le_of_ble_eq_true rfl⟩ ⟨rfl, rfl⟩ ⟨Nat.le_of_ble_eq_true rfl, Nat.le_of_ble_eq_true rfl⟩ (Nat.le_of_ble_eq_true rfl)) (fun v15 u15 hp15 => ?_)
    obtain ⟨V3, rfl, rfl, hFo, hSo, hTo, hLo⟩ := hp15
    show Xw K G 0 0 _ n V3 R 18 [(0, .ref (aG G 42))] []
    have hlen := opLM_len (V := V) (g := V 42 3) (by omega)
    have hl31 := hLo.1
    have hV7 : V3 42 7 = V 42 7 := hFo 42 7 (by decide) (by decide) (by decide) (by decide) (by decide) (by decide) (by omega)
    refine x_aload_n C 0 dX12_saw_18 rfl rfl ?_
    refine x_geti C ok_Model 42 7 dX12_saw_19 (lt67 hn rfl) rfl (by decide) rfl q_40_4 rfl (kz := 7) rfl (fun rg19 => ?_)
    refine x_aload_n C 0 dX12_saw_22 rfl rfl ?_
    refine x_geti C ok_Model 42 31 dX12_saw_23 (lt67 hn rfl) rfl (by decide) rfl q_37_17 rfl (kz := 31) rfl (fun rg23 => ?_)
    refine x_iadd C dX12_saw_26 ?_
    refine x_bipush C dX12_saw_27 (w := 16) (by decide) ?_
    refine x_icmp_le C dX12_saw_29 (tgt := 35) (by decide) (by first | assumption | (constructor <;> omega)) (by first | assumption | (constructor <;> omega)) (fun h29 => ?_) (fun h29 => ?_)
    · skip
      refine x_iconst C dX12_saw_35 ?_
      refine x_istore_n C dX12_saw_36 rfl (by decide) (lv' := [(0, .ref (aG G 42)), (1, .int (iI 0))]) rfl ?_
      have lp_37 : ∀ (fuel : Nat) (k : Int) (V4 : Nat → Int → Int), (0 ≤ k ∧ k ≤ ((opLM V (V 42 3)).length : Int)) → (FrW V V4) → (sumsR V4 (FM V) (V 42 4) (V 42 3) (12 * V 42 2)) → (V4 42 7 = V 42 7 + k) → (V4 42 31 = ((opLM V (V 42 3)).length : Int)) → (∀ z, 0 ≤ z → z ≤ 11 → V4 53 z = (opM V (V 42 3) (-1)).2 z) → (∀ i : Int, 0 ≤ i → i < ((opLM V (V 42 3)).length : Int) → V4 54 i = lat (opLM V (V 42 3)) i) → (∀ z, z < 4 * V 42 7 → V4 45 z = V 45 z) → (∀ i : Int, 0 ≤ i → i < k → sawRowM V (V4 45) (V 42 7 + i) i) → (((opLM V (V 42 3)).length : Int) - k) < (fuel : Int) → Xw K G 0 0 (EndQ K G 0 0 (fun vv uu => ∃ (r : Int), ∃ (V1 : Nat → Int → Int), vv = some (.int (iI r)) ∧ uu = (n, V1, R) ∧ ((V 42 2 = 0 ∧ r = -3 ∧ V1 = V) ∨ (V 42 2 ≠ 0 ∧ 16 < V 42 7 + ((opLM V (V 42 3)).length : Int) ∧ r = -4 ∧ FrL V V1) ∨ (V 42 2 ≠ 0 ∧ V 42 7 + ((opLM V (V 42 3)).length : Int) ≤ 16 ∧ r = ((opLM V (V 42 3)).length : Int) ∧ V1 42 7 = V 42 7 + ((opLM V (V 42 3)).length : Int) ∧ V1 42 2 = 0 ∧ V1 42 3 = 0 ∧ V1 42 4 = 0 ∧ (∀ z, z < 4 * V 42 7 → V1 45 z = V 45 z) ∧ (∀ i : Int, 0 ≤ i → i < ((opLM V (V 42 3)).length : Int) → sawRowM V (V1 45) (V 42 7 + i) i) ∧ (∀ q z, q ≠ 50 → q ≠ 51 → q ≠ 52 → q ≠ 53 → q ≠ 54 → q ≠ 55 → q ≠ 45 → ¬ (q = 42 ∧ ((22 ≤ z ∧ z ≤ 28) ∨ z = 31 ∨ z = 7 ∨ (2 ≤ z ∧ z ≤ 4))) → V1 q z = V q z))))) n V4 R 37 [(0, .ref (aG G 42)), (1, .int (iI k))] [] := by
        intro fuel37
        induction fuel37 with
        | zero => intro k V4 hk hFV4 hSV4 hk7 hk31 h53 h54 hlo hrow hfu37; exfalso; omega
        | succ fuel37 ih37 =>
          intro k V4 hk hFV4 hSV4 hk7 hk31 h53 h54 hlo hrow hfu37
          refine x_iload_n C 1 dX12_saw_37 rfl rfl ?_
          refine x_aload_n C 0 dX12_saw_38 rfl rfl ?_
          refine x_geti C ok_Model 42 31 dX12_saw_39 (lt67 hn rfl) rfl (by decide) rfl q_37_17 rfl (kz := 31) rfl (fun rg39 => ?_)
          refine x_icmp_ge C dX12_saw_42 (tgt := 161) (by decide) (by first | assumption | (constructor <;> omega)) (by first | assumption | (constructor <;> omega)) (fun h42 => ?_) (fun h42 => ?_)
          · skip
            refine x_aload_n C 0 dX12_saw_161 rfl rfl ?_
            refine x_iconst C dX12_saw_162 ?_
            refine x_puti C ok_Model 42 2 dX12_saw_163 (lt67 hn rfl) rfl (by decide) rfl q_6_12 rfl rfl (Or.inl rfl) (by first | assumption | (constructor <;> omega)) (kz := 2) rfl ?_
            refine x_aload_n C 0 dX12_saw_166 rfl rfl ?_
            refine x_iconst C dX12_saw_167 ?_
            refine x_puti C ok_Model 42 4 dX12_saw_168 (lt67 hn rfl) rfl (by decide) rfl q_6_14 rfl rfl (Or.inl rfl) (by first | assumption | (constructor <;> omega)) (kz := 4) rfl ?_
            refine x_aload_n C 0 dX12_saw_171 rfl rfl ?_
            refine x_iconst C dX12_saw_172 ?_
            refine x_puti C ok_Model 42 3 dX12_saw_173 (lt67 hn rfl) rfl (by decide) rfl q_6_13 rfl rfl (Or.inl rfl) (by first | assumption | (constructor <;> omega)) (kz := 3) rfl ?_
            refine x_aload_n C 0 dX12_saw_176 rfl rfl ?_
            refine x_geti C ok_Model 42 31 dX12_saw_177 (lt67 hn rfl) rfl (by decide) rfl q_37_17 rfl (kz := 31) rfl (fun rg177 => ?_)
            refine x_top (b := (V4 42 31)) (by first | rfl | (simp only [u2_at]; simp) | (simp only [u2_at]; first | (rw [if_neg (by omega)]) | omega)) ?_
            refine x_iret C dX12_saw_180 ⟨_, _, rfl, rfl, ?_⟩
            · refine Or.inr (Or.inr ⟨by omega, by omega, ?_, ?_, ?_, ?_, ?_, ?_, ?_, ?_⟩)
              · exact hk31
              · simp [u2_at]; omega
              · simp [u2_at]
              · simp [u2_at]
              · simp [u2_at]
              · exact fun z a => by (simp only [u2_at]; simp; exact hlo z a)
              · exact fun i a b => hrow i a (by omega)
              · exact fun q z a b c d e f g h => by (rw [u2_at, if_neg (by omega), u2_at, if_neg (by omega), u2_at, if_neg (by omega)]; exact hFV4 q z a b c d e f g (by omega))
          · skip
            obtain ⟨hlm1, hlm2, hlm3⟩ := opLM_mem (V := V) (g := V 42 3) (by omega) (lat_mem (l := opLM V (V 42 3)) (i := k) (by omega) (by omega))
            obtain ⟨hb1, hb2, hb3⟩ := (opM_b (V := V) (g := V 42 3) (y := -1) (by decide)).2.1 (lat (opLM V (V 42 3)) k)
            have hbw0 := (opM_b (V := V) (g := V 42 3) (y := -1) (by decide)).2.2.1 _ hlm3
            refine x_aload_n C 0 dX12_saw_45 rfl rfl ?_
            refine x_getr C ok_Model 42 30 (d := 53) dX12_saw_46 (lt67 hn rfl) rfl (by decide) rfl q_4_11 rfl (kz := 30) rfl (lr_42_30 hLR) ?_
            refine x_aload_n C 0 dX12_saw_49 rfl rfl ?_
            refine x_getr C ok_Model 42 32 (d := 54) dX12_saw_50 (lt67 hn rfl) rfl (by decide) rfl q_4_12 rfl (kz := 32) rfl (lr_42_32 hLR) ?_
            refine x_iload_n C 1 dX12_saw_53 rfl rfl ?_
            refine x_iald C 54 dX12_saw_54 (lt67 hn rfl) rfl (by refine ⟨?_, ?_⟩ <;> omega) (fun rg54 => ?_)
            refine x_top (b := (lat (opLM V (V 42 3)) k)) (by exact (h54 k (by omega) (by omega))) ?_
            refine x_iald C 53 dX12_saw_55 (lt67 hn rfl) rfl (by refine ⟨?_, ?_⟩ <;> omega) (fun rg55 => ?_)
            refine x_top (b := ((opM V (V 42 3) (-1)).2 (lat (opLM V (V 42 3)) k))) (by exact h53 _ (by omega) (by omega)) ?_
            refine x_istore_n C dX12_saw_56 rfl (by decide) (lv' := [(0, .ref (aG G 42)), (1, .int (iI k)), (2, .int (iI ((opM V (V 42 3) (-1)).2 (lat (opLM V (V 42 3)) k))))]) rfl ?_
            refine x_aload_n C 0 dX12_saw_57 rfl rfl ?_
            refine x_aload_n C 0 dX12_saw_58 rfl rfl ?_
            refine x_getr C ok_Model 42 32 (d := 54) dX12_saw_59 (lt67 hn rfl) rfl (by decide) rfl q_4_12 rfl (kz := 32) rfl (lr_42_32 hLR) ?_
            refine x_iload_n C 1 dX12_saw_62 rfl rfl ?_
            refine x_iald C 54 dX12_saw_63 (lt67 hn rfl) rfl (by refine ⟨?_, ?_⟩ <;> omega) (fun rg63 => ?_)
            refine x_top (b := (lat (opLM V (V 42 3)) k)) (by exact (h54 k (by omega) (by omega))) ?_
            refine x_iload_n C 2 dX12_saw_64 rfl rfl ?_
            refine x_runU (r_callV C ok_Model 42 (lt67 hn rfl) rfl (ce_X12_finds) (m_X12_finds G n V4 R (FM V) (V 42 4) (V 42 3) (lat (opLM V (V 42 3)) k) ((opM V (V 42 3) (-1)).2 (lat (opLM V (V 42 3)) k)) hn hLR (by first | assumption | omega | decide) (by first | assumption | omega | decide) (by rw [hFV4.log.1 0 (by decide) (by decide)]; exact h1) (by rw [hFV4.log.1 1 (by decide) (by decide)]; exact h2) (by rw [hFV4.log.1 2 (by decide) (by decide)]; omega) (by rw [hFV4.log.1 2 (by decide) (by decide)]; exact hSV4) (by rw [hFV4.r]; exact hpr) (by rw [hFV4.r]; exact hsv)) rfl dX12_saw_65 q_34_3 q_34_4 q_34_5 rfl rfl ⟨Nat.le_of_ble_eq_true rfl, Nat.le_of_ble_eq_true rfl⟩ ⟨rfl, rfl⟩ ⟨Nat.le_of_ble_eq_true rfl, Nat.le_of_ble_eq_true rfl⟩ (Nat.le_of_ble_eq_true rfl)) (fun v65 u65 hp65 => ?_)
            obtain ⟨V5, rfl, rfl, hffV5, hbbV5⟩ := hp65
            show Xw K G 0 0 _ n V5 R 68 [(0, .ref (aG G 42)), (1, .int (iI k)), (2, .int (iI ((opM V (V 42 3) (-1)).2 (lat (opLM V (V 42 3)) k))))] []
            have hMBV5 : MB V V5 (V 42 3) (lat (opLM V (V 42 3)) k) ((opM V (V 42 3) (-1)).2 (lat (opLM V (V 42 3)) k)) := MB_of hFV4.log hFV4.r hbbV5
            have hFV5 : FrW V V5 := fun q z a b c d c2 d2 g2 e => by rw [hffV5 q z (fun x => e ⟨x.1, Or.inl x.2⟩)]; exact hFV4 q z a b c d c2 d2 g2 e
            have hSV5 : sumsR V5 (FM V) (V 42 4) (V 42 3) (12 * V 42 2) := sumsR_k hSV4 (fun i _ => hffV5 50 i (by omega)) (fun i _ => hffV5 51 i (by omega))
            obtain ⟨hbw, hbw1, hbw2⟩ := hMBV5.c hru ⟨by omega, by omega⟩ (by omega)
            obtain ⟨r1, r2, r3, r4, r5⟩ := hMBV5.r (by omega) (by omega)
            have hV57 : V5 42 7 = V 42 7 + k := by rw [hffV5 42 7 (by omega)]; exact hk7
            refine x_aload_n C 0 dX12_saw_68 rfl rfl ?_
            refine x_getr C ok_Model 42 8 (d := 45) dX12_saw_69 (lt67 hn rfl) rfl (by decide) rfl q_4_3 rfl (kz := 8) rfl (lr_42_8 hLR) ?_
            refine x_iconst C dX12_saw_72 ?_
            refine x_aload_n C 0 dX12_saw_73 rfl rfl ?_
            refine x_geti C ok_Model 42 7 dX12_saw_74 (lt67 hn rfl) rfl (by decide) rfl q_40_4 rfl (kz := 7) rfl (fun rg74 => ?_)
            refine x_imul C dX12_saw_77 ?_
            refine x_iload_n C 2 dX12_saw_78 rfl rfl ?_
            refine x_iast C 45 dX12_saw_79 (lt67 hn rfl) rfl (by refine ⟨?_, ?_⟩ <;> omega) (by first | assumption | (constructor <;> omega)) ?_
            refine x_aload_n C 0 dX12_saw_80 rfl rfl ?_
            refine x_getr C ok_Model 42 8 (d := 45) dX12_saw_81 (lt67 hn rfl) rfl (by decide) rfl q_4_3 rfl (kz := 8) rfl (lr_42_8 hLR) ?_
            refine x_iconst C dX12_saw_84 ?_
            refine x_aload_n C 0 dX12_saw_85 rfl rfl ?_
            refine x_geti C ok_Model 42 7 dX12_saw_86 (lt67 hn rfl) rfl (by decide) rfl q_40_4 rfl (kz := 7) rfl (fun rg86 => ?_)
            refine x_top (b := (V5 42 7)) (by first | rfl | (simp only [u2_at]; simp) | (simp only [u2_at]; first | (rw [if_neg (by omega)]) | omega)) ?_
            refine x_imul C dX12_saw_89 ?_
            refine x_iconst C dX12_saw_90 ?_
            refine x_iadd C dX12_saw_91 ?_
            refine x_aload_n C 0 dX12_saw_92 rfl rfl ?_
            refine x_geti C ok_Model 42 25 dX12_saw_93 (lt67 hn rfl) rfl (by decide) rfl q_33_16 rfl (kz := 25) rfl (fun rg93 => ?_)
            refine x_top (b := (V5 42 25)) (by first | rfl | (simp only [u2_at]; simp) | (simp only [u2_at]; first | (rw [if_neg (by omega)]) | omega)) ?_
            refine x_aload_n C 0 dX12_saw_96 rfl rfl ?_
            refine x_geti C ok_Model 42 24 dX12_saw_97 (lt67 hn rfl) rfl (by decide) rfl q_33_15 rfl (kz := 24) rfl (fun rg97 => ?_)
            refine x_top (b := (V5 42 24)) (by first | rfl | (simp only [u2_at]; simp) | (simp only [u2_at]; first | (rw [if_neg (by omega)]) | omega)) ?_
            refine x_isub C dX12_saw_100 ?_
            refine x_iconst C dX12_saw_101 ?_
            refine x_iadd C dX12_saw_102 ?_
            refine x_iast C 45 dX12_saw_103 (lt67 hn rfl) rfl (by refine ⟨?_, ?_⟩ <;> omega) (by first | assumption | (constructor <;> omega)) ?_
            refine x_aload_n C 0 dX12_saw_104 rfl rfl ?_
            refine x_getr C ok_Model 42 8 (d := 45) dX12_saw_105 (lt67 hn rfl) rfl (by decide) rfl q_4_3 rfl (kz := 8) rfl (lr_42_8 hLR) ?_
            refine x_iconst C dX12_saw_108 ?_
            refine x_aload_n C 0 dX12_saw_109 rfl rfl ?_
            refine x_geti C ok_Model 42 7 dX12_saw_110 (lt67 hn rfl) rfl (by decide) rfl q_40_4 rfl (kz := 7) rfl (fun rg110 => ?_)
            refine x_top (b := (V5 42 7)) (by first | rfl | (simp only [u2_at]; simp) | (simp only [u2_at]; first | (rw [if_neg (by omega)]) | omega)) ?_
            refine x_imul C dX12_saw_113 ?_
            refine x_iconst C dX12_saw_114 ?_
            refine x_iadd C dX12_saw_115 ?_
            refine x_aload_n C 0 dX12_saw_116 rfl rfl ?_
            refine x_geti C ok_Model 42 27 dX12_saw_117 (lt67 hn rfl) rfl (by decide) rfl q_33_18 rfl (kz := 27) rfl (fun rg117 => ?_)
            refine x_top (b := (V5 42 27)) (by first | rfl | (simp only [u2_at]; simp) | (simp only [u2_at]; first | (rw [if_neg (by omega)]) | omega)) ?_
            refine x_aload_n C 0 dX12_saw_120 rfl rfl ?_
            refine x_geti C ok_Model 42 26 dX12_saw_121 (lt67 hn rfl) rfl (by decide) rfl q_33_17 rfl (kz := 26) rfl (fun rg121 => ?_)
            refine x_top (b := (V5 42 26)) (by first | rfl | (simp only [u2_at]; simp) | (simp only [u2_at]; first | (rw [if_neg (by omega)]) | omega)) ?_
            refine x_isub C dX12_saw_124 ?_
            refine x_iconst C dX12_saw_125 ?_
            refine x_iadd C dX12_saw_126 ?_
            refine x_iast C 45 dX12_saw_127 (lt67 hn rfl) rfl (by refine ⟨?_, ?_⟩ <;> omega) (by first | assumption | (constructor <;> omega)) ?_
            refine x_aload_n C 0 dX12_saw_128 rfl rfl ?_
            refine x_getr C ok_Model 42 8 (d := 45) dX12_saw_129 (lt67 hn rfl) rfl (by decide) rfl q_4_3 rfl (kz := 8) rfl (lr_42_8 hLR) ?_
            refine x_iconst C dX12_saw_132 ?_
            refine x_aload_n C 0 dX12_saw_133 rfl rfl ?_
            refine x_geti C ok_Model 42 7 dX12_saw_134 (lt67 hn rfl) rfl (by decide) rfl q_40_4 rfl (kz := 7) rfl (fun rg134 => ?_)
            refine x_top (b := (V5 42 7)) (by first | rfl | (simp only [u2_at]; simp) | (simp only [u2_at]; first | (rw [if_neg (by omega)]) | omega)) ?_
            refine x_imul C dX12_saw_137 ?_
            refine x_iconst C dX12_saw_138 ?_
            refine x_iadd C dX12_saw_139 ?_
            refine x_aload_n C 0 dX12_saw_140 rfl rfl ?_
            refine x_geti C ok_Model 42 28 dX12_saw_141 (lt67 hn rfl) rfl (by decide) rfl q_33_19 rfl (kz := 28) rfl (fun rg141 => ?_)
            refine x_top (b := (V5 42 28)) (by first | rfl | (simp only [u2_at]; simp) | (simp only [u2_at]; first | (rw [if_neg (by omega)]) | omega)) ?_
            refine x_iast C 45 dX12_saw_144 (lt67 hn rfl) rfl (by refine ⟨?_, ?_⟩ <;> omega) (by first | assumption | (constructor <;> omega)) ?_
            refine x_aload_n C 0 dX12_saw_145 rfl rfl ?_
            refine x_dup C dX12_saw_146 rfl ?_
            refine x_geti C ok_Model 42 7 dX12_saw_147 (lt67 hn rfl) rfl (by decide) rfl q_40_4 rfl (kz := 7) rfl (fun rg147 => ?_)
            refine x_top (b := (V5 42 7)) (by first | rfl | (simp only [u2_at]; simp) | (simp only [u2_at]; first | (rw [if_neg (by omega)]) | omega)) ?_
            refine x_iconst C dX12_saw_150 ?_
            refine x_iadd C dX12_saw_151 ?_
            refine x_puti C ok_Model 42 7 dX12_saw_152 (lt67 hn rfl) rfl (by decide) rfl q_40_4 rfl rfl (Or.inl rfl) (by first | assumption | (constructor <;> omega)) (kz := 7) rfl ?_
            refine x_iinc C 1 dX12_saw_155 rfl (by decide) (lv' := [(0, .ref (aG G 42)), (1, .int (iI (k + 1))), (2, .int (iI ((opM V (V 42 3) (-1)).2 (lat (opLM V (V 42 3)) k))))]) rfl ?_
            refine x_goto C dX12_saw_158 (tgt := 37) (by decide) ?_
            refine x_sub [0, 1] (lv' := [(0, .ref (aG G 42)), (1, .int (iI (k + 1)))]) rfl ?_
            exact ih37 ((k + 1)) ((u2 (u2 (u2 (u2 (u2 V5 45 (4 * (V5 42 7)) ((opM V (V 42 3) (-1)).2 (lat (opLM V (V 42 3)) k))) 45 ((4 * (V5 42 7)) + 1) (((V5 42 25) - (V5 42 24)) + 1)) 45 ((4 * (V5 42 7)) + 2) (((V5 42 27) - (V5 42 26)) + 1)) 45 ((4 * (V5 42 7)) + 3) (V5 42 28)) 42 7 ((V5 42 7) + 1))) (by omega) (by exact saw_f hFV5) (by exact sumsR_k hSV5 (fun i h => by simp [u2_at]) (fun i h => by simp [u2_at])) (by rw [u2_s, u1_s]; omega) (by (simp only [u2_at]; simp; rw [hffV5 42 31 (by omega)]; exact hk31)) (by exact fun z a b => by (simp only [u2_at]; simp; rw [hffV5 53 z (by omega)]; exact h53 z a b)) (by exact fun z a b => by (simp only [u2_at]; simp; rw [hffV5 54 z (by omega)]; exact h54 z a b)) (by exact fun z a => by (rw [u2_n (by decide), u2_s, u1_n (by omega), u2_s, u1_n (by omega), u2_s, u1_n (by omega), u2_s, u1_n (by omega), hffV5 45 z (by omega)]; exact hlo z a)) (by exact saw_r hV57 hk.1 (fun i a b => sawRow_c (hrow i a b) (fun z _ _ => hffV5 45 z (by omega))) ⟨_, _, _, _, _, _, _, by omega, hMBV5, rfl, rfl, rfl, rfl⟩) (by omega)
      exact lp_37 ((((opLM V (V 42 3)).length : Int) - 0).toNat + 1) (0) (V3) (by omega) (by exact hFo.W) (by exact hSo) (by omega) (by exact hl31) (by exact hTo) (by exact fun i a b => (hLo.2 i a b).1) (by exact fun z a => hFo 45 z (by decide) (by decide) (by decide) (by decide) (by decide) (by decide) (by omega)) (by exact fun i a b => by omega) (by omega)
    · skip
      refine x_bipush C dX12_saw_32 (w := -4) (by decide) ?_
      refine x_iret C dX12_saw_34 ⟨_, _, rfl, rfl, ?_⟩
      · exact Or.inr (Or.inl ⟨by omega, by omega, rfl, hFo⟩)
  · skip
    refine x_bipush C dX12_saw_7 (w := -3) (by decide) ?_
    refine x_iret C dX12_saw_9 ⟨_, _, rfl, rfl, ?_⟩
    · exact Or.inl ⟨by omega, rfl, rfl⟩
