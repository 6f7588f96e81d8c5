theorem tdm_rg {s : Int} (h : Rg s) : Rg (s.tdiv 8) ∧ Rg (s.tmod 8) := by
  rcases (show 0 ≤ s ∨ 0 ≤ -s by omega) with q | q
  · rw [Int.tdiv_eq_ediv_of_nonneg q, Int.tmod_eq_emod_of_nonneg q]; constructor <;> constructor <;> omega
  · rw [show s = -(-s) by omega, Int.neg_tdiv, Int.neg_tmod, Int.tdiv_eq_ediv_of_nonneg q, Int.tmod_eq_emod_of_nonneg q]; constructor <;> constructor <;> omega
theorem op_i1 {V3 : Nat → Int → Int} {F : Int → Int} {bw : Int → Int → Int} {th kf y : Int} (hW : ∀ z, y < z → z ≤ 18 → V3 52 z = F z) (hy : 0 ≤ y ∧ y ≤ 11) : ∀ z, y ≤ z → z ≤ 18 → u2 (u2 V3 52 y (V3 52 (y + 1))) 53 y 0 52 z = u1 F y (dpI bw th kf F y (1 - 1)).1 z := fun z a b => by
  rw [u2_n (by decide), u2_s, show (1 : Int) - 1 = 0 by decide, dpI_0]
  by_cases e : z = y
  · rw [e, u1_s, u1_s]; exact hW _ (by omega) (by omega)
  · rw [u1_n e, u1_n e]; exact hW z (by omega) b
theorem op_i2 {V3 : Nat → Int → Int} {T F : Int → Int} {bw : Int → Int → Int} {th kf y v : Int} (hT : ∀ z, y < z → z ≤ 11 → V3 53 z = T z) : ∀ z, y ≤ z → z ≤ 11 → u2 (u2 V3 52 y v) 53 y 0 53 z = u1 T y (dpI bw th kf F y (1 - 1)).2 z := fun z a b => by
  rw [u2_s, show (1 : Int) - 1 = 0 by decide, dpI_0]
  by_cases e : z = y
  · rw [e, u1_s, u1_s]
  · rw [u1_n e, u1_n e, u2_n (by decide)]; exact hT z (by omega) b
theorem dpI_end {bw : Int → Int → Int} {th kf : Int} {W : Int → Int} {y k : Int} (hk : 1 ≤ k ∧ k ≤ 5) (h : 4 < k ∨ 12 < y + k) : dpI bw th kf W y (k - 1) = dpI bw th kf W y 4 := by
  have key : ∀ d : Nat, k - 1 + d ≤ 4 → (4 < k ∨ 12 < y + k) → dpI bw th kf W y (k - 1 + d) = dpI bw th kf W y (k - 1) := by
    intro d
    induction d with
    | zero => intro _ _; simp
    | succ d ih =>
      intro h1 h2
      rw [show k - 1 + ((d + 1 : Nat) : Int) = k - 1 + d + 1 by omega, dpI_s (by omega), cif_f (fun q => by have := q.1; omega), show k - 1 + (d : Int) + 1 - 1 = k - 1 + d by omega]
      exact ih (by omega) h2
  have := key (4 - (k - 1)).toNat (by omega) h
  rw [show k - 1 + ((4 - (k - 1)).toNat : Int) = 4 by omega] at this
  exact this.symm
theorem op_n {V4 : Nat → Int → Int} {F : Int → Int} {bw : Int → Int → Int} {th kf y k : Int} (hk : 1 ≤ k) (hW : ∀ z, y ≤ z → z ≤ 18 → V4 52 z = u1 F y (dpI bw th kf F y (k - 1)).1 z) (h : ¬ (y + k ≤ 12 ∧ thickP th k ∧ 0 < bw y k ∧ (dpI bw th kf F y (k - 1)).1 ≤ bw y k + F (y + k + kf))) : ∀ z, y ≤ z → z ≤ 18 → V4 52 z = u1 F y (dpI bw th kf F y k).1 z := by
  rw [dpI_s hk, cif_f h]; exact hW
theorem op_n2 {V4 : Nat → Int → Int} {F T : Int → Int} {bw : Int → Int → Int} {th kf y k : Int} (hk : 1 ≤ k) (hW : ∀ z, y ≤ z → z ≤ 11 → V4 53 z = u1 T y (dpI bw th kf F y (k - 1)).2 z) (h : ¬ (y + k ≤ 12 ∧ thickP th k ∧ 0 < bw y k ∧ (dpI bw th kf F y (k - 1)).1 ≤ bw y k + F (y + k + kf))) : ∀ z, y ≤ z → z ≤ 11 → V4 53 z = u1 T y (dpI bw th kf F y k).2 z := by
  rw [dpI_s hk, cif_f h]; exact hW
theorem op_c {V5 : Nat → Int → Int} {F : Int → Int} {bw : Int → Int → Int} {th kf y k W : Int} (hW : ∀ z, y ≤ z → z ≤ 18 → V5 52 z = u1 F y (dpI bw th kf F y (k - 1)).1 z) (hy : 0 ≤ y ∧ y + k ≤ 12 ∧ 1 ≤ k) (hb : W = bw y k) (hc : W + F (y + k + kf) < V5 52 y) : ¬ (y + k ≤ 12 ∧ thickP th k ∧ 0 < bw y k ∧ (dpI bw th kf F y (k - 1)).1 ≤ bw y k + F (y + k + kf)) := fun q => by
  have h1 := hW y (by omega) (by omega)
  rw [u1_s] at h1
  have h2 := q.2.2.2
  omega
theorem op_y1 {V5 : Nat → Int → Int} {F : Int → Int} {bw : Int → Int → Int} {th kf y k W : Int} (hW : ∀ z, y ≤ z → z ≤ 18 → V5 52 z = u1 F y (dpI bw th kf F y (k - 1)).1 z) (hk : 1 ≤ k) (hy : 0 ≤ y ∧ y + k ≤ 12) (hb : W = bw y k) (ht : thickP th k) (h0 : 0 < W) (hc : V5 52 y ≤ W + F (y + k + kf)) : ∀ z, y ≤ z → z ≤ 18 → u2 (u2 V5 52 y (W + F (y + k + kf))) 53 y k 52 z = u1 F y (dpI bw th kf F y k).1 z := fun z a b => by
  have h1 := hW y (by omega) (by omega)
  rw [u1_s] at h1
  rw [u2_n (by decide), u2_s, dpI_s hk, cif_t ⟨hy.2, ht, by omega, by omega⟩]
  by_cases e : z = y
  · rw [e, u1_s, u1_s]; show _ = bw y k + _; rw [hb]
  · rw [u1_n e, u1_n e]
    have h2 := hW z a b
    rw [u1_n e] at h2
    exact h2
theorem op_y2 {V5 : Nat → Int → Int} {F T : Int → Int} {bw : Int → Int → Int} {th kf y k W : Int} (hW : ∀ z, y ≤ z → z ≤ 18 → V5 52 z = u1 F y (dpI bw th kf F y (k - 1)).1 z) (hT : ∀ z, y ≤ z → z ≤ 11 → V5 53 z = u1 T y (dpI bw th kf F y (k - 1)).2 z) (hk : 1 ≤ k) (hy : 0 ≤ y ∧ y + k ≤ 12) (hb : W = bw y k) (ht : thickP th k) (h0 : 0 < W) (hc : V5 52 y ≤ W + F (y + k + kf)) : ∀ z, y ≤ z → z ≤ 11 → u2 (u2 V5 52 y (W + F (y + k + kf))) 53 y k 53 z = u1 T y (dpI bw th kf F y k).2 z := fun z a b => by
  have h1 := hW y (by omega) (by omega)
  rw [u1_s] at h1
  rw [u2_s, dpI_s hk, cif_t ⟨hy.2, ht, by omega, by omega⟩]
  by_cases e : z = y
  · rw [e, u1_s, u1_s]
  · rw [u1_n e, u1_n e, u2_n (by decide)]
    have h2 := hT z a b
    rw [u1_n e] at h2
    exact h2

set_option maxRecDepth 100000 in
set_option maxHeartbeats 4000000 in
theorem m_X12_board (G : GS) (n : Nat) (V : Nat → Int → Int) (R : Nat → Int → Option Nat) (y : Int) (k : Int) (w : Int) (hn : 67 ≤ n) (hLR : LR R) (gy : Rg y) (gk : Rg k) (gw : Rg w) (hl : LogOk V) (hru : RulesOk (V 44)) : Cn G yX12_board cX12_board 4 (some .int) (rmk 5 0 0 131) [.ref (aG G 42), .int (iI y), .int (iI k), .int (iI w)] n V R 0 0 (fun vv uu => ∃ (r : Int), ∃ (V1 : Nat → Int → Int), vv = some (.int (iI r)) ∧ uu = (n, V1, R) ∧ (FrB V V1) ∧ ((V 42 2 = 0 ∧ r = -3) ∨ (V 42 2 ≠ 0 ∧ ¬ (((1 ≤ k ∧ k ≤ 4) ∧ (0 ≤ y ∧ y ≤ 12 - k)) ∧ (0 ≤ w ∧ w ≤ 6)) ∧ r = -2) ∨ (V 42 2 ≠ 0 ∧ (((1 ≤ k ∧ k ≤ 4) ∧ (0 ≤ y ∧ y ≤ 12 - k)) ∧ (0 ≤ w ∧ w ≤ 6)) ∧ boardP (V 42 0) (V 42 1) (V 42 2) (FM V) (V 42 4) (V 42 3) (V 44) y k w r))) := by
  refine Cn.of (by decide) (Nat.le_of_ble_eq_true rfl) (fun K C hct => ?_)
  show Xw K G 0 0 _ n V R 0 [(0, .ref (aG G 42)), (1, .int (iI y)), (2, .int (iI k)), (3, .int (iI w))] []
  obtain ⟨h1, h2, h3, h5, h4, hF⟩ := id hl
  obtain ⟨hkf, hsv, hpr, hth⟩ := id hru
  refine x_aload_n C 0 dX12_board_0 rfl rfl ?_
  refine x_geti C ok_Model 42 2 dX12_board_1 (lt67 hn rfl) rfl (by decide) rfl q_6_12 rfl (kz := 2) rfl (fun rg1 => ?_)
  refine x_if_ne C dX12_board_4 (tgt := 10) (by decide) (by first | assumption | (constructor <;> omega)) (fun h4 => ?_) (fun h4 => ?_)
  · skip
    refine x_iload_n C 1 dX12_board_10 rfl rfl ?_
    refine x_iload_n C 2 dX12_board_11 rfl rfl ?_
    refine x_runU (r_callS C (ce_X12_isBoard) (m_X12_isBoard G n V R (y) (k) (by first | assumption | omega | decide) (by first | assumption | omega | decide)) dX12_board_12 q_33_20 q_33_21 rfl rfl ⟨Nat.le_of_ble_eq_true rfl, Nat.le_of_ble_eq_true rfl⟩ ⟨rfl, rfl⟩ ⟨Nat.le_of_ble_eq_true rfl, Nat.le_of_ble_eq_true rfl⟩ (Nat.le_of_ble_eq_true rfl)) (fun v12 u12 hp12 => ?_)
    obtain ⟨rfl, rfl⟩ := hp12
    show Xw K G 0 0 _ n V R 15 [(0, .ref (aG G 42)), (1, .int (iI y)), (2, .int (iI k)), (3, .int (iI w))] [.int (iI (bI ((1 ≤ k ∧ k ≤ 4) ∧ (0 ≤ y ∧ y ≤ 12 - k))))]
    refine x_ifeq_b C dX12_board_15 (tgt := 30) (by decide) (fun h15 => ?_) (fun h15 => ?_)
    · skip
      refine x_bipush C dX12_board_30 (w := -2) (by decide) ?_
      refine x_iret C dX12_board_32 ⟨_, _, rfl, rfl, ?_, ?_⟩
      · first | exact Or.inl ⟨by omega, rfl⟩ | exact Or.inr (Or.inl ⟨by omega, by omega, rfl⟩) | exact FrB.rf
      · first | exact Or.inl ⟨by omega, rfl⟩ | exact Or.inr (Or.inl ⟨by omega, by omega, rfl⟩) | exact FrB.rf
    · skip
      refine x_iload_n C 3 dX12_board_18 rfl rfl ?_
      refine x_i2l C dX12_board_19 (by first | assumption | (constructor <;> omega)) ?_
      refine x_lconst C dX12_board_20 (w := 0) (by decide) ?_
      refine x_ldc2 C dX12_board_21 q_6_7 (w := 6) (by decide) ?_
      refine x_runU (r_callS C (ce_X12_in) (m_X12_in G n V R (w) (0) (6) (by first | assumption | omega | decide) (by first | assumption | omega | decide) (by first | assumption | omega | decide)) dX12_board_24 q_6_15 q_6_16 rfl rfl ⟨Nat.le_of_ble_eq_true rfl, Nat.le_of_ble_eq_true rfl⟩ ⟨rfl, rfl⟩ ⟨Nat.le_of_ble_eq_true rfl, Nat.le_of_ble_eq_true rfl⟩ (Nat.le_of_ble_eq_true rfl)) (fun v24 u24 hp24 => ?_)
      obtain ⟨rfl, rfl⟩ := hp24
      show Xw K G 0 0 _ n V R 27 [(0, .ref (aG G 42)), (1, .int (iI y)), (2, .int (iI k)), (3, .int (iI w))] [.int (iI (bI (0 ≤ w ∧ w ≤ 6)))]
      refine x_ifne_b C dX12_board_27 (tgt := 33) (by decide) (fun h27 => ?_) (fun h27 => ?_)
      · skip
        refine x_aload_n C 0 dX12_board_33 rfl rfl ?_
        refine x_aload_n C 0 dX12_board_34 rfl rfl ?_
        refine x_geti C ok_Model 42 3 dX12_board_35 (lt67 hn rfl) rfl (by decide) rfl q_6_13 rfl (kz := 3) rfl (fun rg35 => ?_)
        refine x_runU (r_callV C ok_Model 42 (lt67 hn rfl) rfl (ce_X12_sums) (m_X12_sums G n V R (V 42 3) hn hLR (by first | assumption | omega | decide) (by first | assumption | omega | decide)) rfl dX12_board_38 q_33_23 q_34_0 q_34_1 rfl rfl ⟨Nat.le_of_ble_eq_true rfl, Nat.le_of_ble_eq_true rfl⟩ ⟨rfl, rfl⟩ ⟨Nat.le_of_ble_eq_true rfl, Nat.le_of_ble_eq_true rfl⟩ (Nat.le_of_ble_eq_true rfl)) (fun v38 u38 hp38 => ?_)
        obtain ⟨Va, rfl, rfl, hSVa, hfsVa⟩ := hp38
        show Xw K G 0 0 _ n Va R 41 [(0, .ref (aG G 42)), (1, .int (iI y)), (2, .int (iI k)), (3, .int (iI w))] []
        have e42Va : Va 42 = V 42 := hfsVa 42 (by decide) (by decide)
        have e44Va : Va 44 = V 44 := hfsVa 44 (by decide) (by decide)
        have hBVa : FrB V Va := fun q z a b _ => by rw [hfsVa q a b]
        refine x_aload_n C 0 dX12_board_41 rfl rfl ?_
        refine x_iload_n C 1 dX12_board_42 rfl rfl ?_
        refine x_iload_n C 2 dX12_board_43 rfl rfl ?_
        refine x_runU (r_callV C ok_Model 42 (lt67 hn rfl) rfl (ce_X12_finds) (m_X12_finds G n Va R (FM V) (V 42 4) (V 42 3) (y) (k) hn hLR (by first | assumption | omega | decide) (by first | assumption | omega | decide) (by rw [hBVa.log.1 0 (by decide) (by decide)]; exact h1) (by rw [hBVa.log.1 1 (by decide) (by decide)]; exact h2) (by rw [hBVa.log.1 2 (by decide) (by decide)]; omega) (by rw [hBVa.log.1 2 (by decide) (by decide)]; exact hSVa) (by rw [hBVa.r]; exact hpr) (by rw [hBVa.r]; exact hsv)) rfl dX12_board_44 q_34_3 q_34_4 q_34_5 rfl rfl ⟨Nat.le_of_ble_eq_true rfl, Nat.le_of_ble_eq_true rfl⟩ ⟨rfl, rfl⟩ ⟨Nat.le_of_ble_eq_true rfl, Nat.le_of_ble_eq_true rfl⟩ (Nat.le_of_ble_eq_true rfl)) (fun v44 u44 hp44 => ?_)
        obtain ⟨V2, rfl, rfl, hffV2, hbbV2⟩ := hp44
        show Xw K G 0 0 _ n V2 R 47 [(0, .ref (aG G 42)), (1, .int (iI y)), (2, .int (iI k)), (3, .int (iI w))] []
        have hMBV2 : MB V V2 (V 42 3) (y) (k) := MB_of hBVa.log hBVa.r hbbV2
        have hBV2 : FrB V V2 := fun q z a b  e => by rw [hffV2 q z e]; exact hBVa q z a b  e
        have hSV2 : sumsR V2 (FM V) (V 42 4) (V 42 3) (12 * V 42 2) := sumsR_k hSVa (fun i _ => hffV2 50 i (by omega)) (fun i _ => hffV2 51 i (by omega))
        refine x_aload_n C 0 dX12_board_47 rfl rfl ?_
        refine x_geti C ok_Model 42 22 dX12_board_48 (lt67 hn rfl) rfl (by decide) rfl q_33_14 rfl (kz := 22) rfl (fun rg48 => ?_)
        refine x_if_ne C dX12_board_51 (tgt := 56) (by decide) (by first | assumption | (constructor <;> omega)) (fun h51 => ?_) (fun h51 => ?_)
        · skip
          obtain ⟨hw1, hw2⟩ := hMBV2.b hpr ⟨by omega, by omega⟩ (by omega)
          obtain ⟨r1, r2, r3, r4, r5⟩ := hMBV2.r (by omega) (by omega)
          refine x_iload_n C 3 dX12_board_56 rfl rfl ?_
          rcases (show w = 0 ∨ w = 1 ∨ w = 2 ∨ w = 3 ∨ w = 4 ∨ (w < 0 ∨ 4 < w) by omega) with h57 | h57 | h57 | h57 | h57 | h57
          · skip
            refine x_tin C 0 h57 dX12_board_57 (by constructor <;> decide) (by decide) (by decide) (off := 35) rfl (tgt := 92) (by decide) ?_
            refine x_aload_n C 0 dX12_board_92 rfl rfl ?_
            refine x_geti C ok_Model 42 24 dX12_board_93 (lt67 hn rfl) rfl (by decide) rfl q_33_15 rfl (kz := 24) rfl (fun rg93 => ?_)
            refine x_iret C dX12_board_96 ⟨_, _, rfl, rfl, ?_, ?_⟩
            · exact hBV2
            · refine Or.inr (Or.inr ⟨by omega, by omega, _, _, _, _, _, _, _, hMBV2, ?_⟩); exact Or.inr ⟨by omega, Or.inl ⟨by omega, rfl⟩⟩
          · skip
            refine x_tin C 1 h57 dX12_board_57 (by constructor <;> decide) (by decide) (by decide) (off := 40) rfl (tgt := 97) (by decide) ?_
            refine x_aload_n C 0 dX12_board_97 rfl rfl ?_
            refine x_geti C ok_Model 42 25 dX12_board_98 (lt67 hn rfl) rfl (by decide) rfl q_33_16 rfl (kz := 25) rfl (fun rg98 => ?_)
            refine x_iret C dX12_board_101 ⟨_, _, rfl, rfl, ?_, ?_⟩
            · exact hBV2
            · refine Or.inr (Or.inr ⟨by omega, by omega, _, _, _, _, _, _, _, hMBV2, ?_⟩); exact Or.inr ⟨by omega, Or.inr (Or.inl ⟨by omega, rfl⟩)⟩
          · skip
            refine x_tin C 2 h57 dX12_board_57 (by constructor <;> decide) (by decide) (by decide) (off := 45) rfl (tgt := 102) (by decide) ?_
            refine x_aload_n C 0 dX12_board_102 rfl rfl ?_
            refine x_geti C ok_Model 42 26 dX12_board_103 (lt67 hn rfl) rfl (by decide) rfl q_33_17 rfl (kz := 26) rfl (fun rg103 => ?_)
            refine x_iret C dX12_board_106 ⟨_, _, rfl, rfl, ?_, ?_⟩
            · exact hBV2
            · refine Or.inr (Or.inr ⟨by omega, by omega, _, _, _, _, _, _, _, hMBV2, ?_⟩); exact Or.inr ⟨by omega, Or.inr (Or.inr (Or.inl ⟨by omega, rfl⟩))⟩
          · skip
            refine x_tin C 3 h57 dX12_board_57 (by constructor <;> decide) (by decide) (by decide) (off := 50) rfl (tgt := 107) (by decide) ?_
            refine x_aload_n C 0 dX12_board_107 rfl rfl ?_
            refine x_geti C ok_Model 42 27 dX12_board_108 (lt67 hn rfl) rfl (by decide) rfl q_33_18 rfl (kz := 27) rfl (fun rg108 => ?_)
            refine x_iret C dX12_board_111 ⟨_, _, rfl, rfl, ?_, ?_⟩
            · exact hBV2
            · refine Or.inr (Or.inr ⟨by omega, by omega, _, _, _, _, _, _, _, hMBV2, ?_⟩); exact Or.inr ⟨by omega, Or.inr (Or.inr (Or.inr (Or.inl ⟨by omega, rfl⟩)))⟩
          · skip
            refine x_tin C 4 h57 dX12_board_57 (by constructor <;> decide) (by decide) (by decide) (off := 55) rfl (tgt := 112) (by decide) ?_
            refine x_aload_n C 0 dX12_board_112 rfl rfl ?_
            refine x_geti C ok_Model 42 28 dX12_board_113 (lt67 hn rfl) rfl (by decide) rfl q_33_19 rfl (kz := 28) rfl (fun rg113 => ?_)
            refine x_iret C dX12_board_116 ⟨_, _, rfl, rfl, ?_, ?_⟩
            · exact hBV2
            · refine Or.inr (Or.inr ⟨by omega, by omega, _, _, _, _, _, _, _, hMBV2, ?_⟩); exact Or.inr ⟨by omega, Or.inr (Or.inr (Or.inr (Or.inr (Or.inl ⟨by omega, rfl⟩))))⟩
          · skip
            refine x_tout C dX12_board_57 (tgt := 117) (by decide) (by first | assumption | (constructor <;> omega)) h57 ?_
            refine x_aload_n C 0 dX12_board_117 rfl rfl ?_
            refine x_getr C ok_Model 42 20 (d := 50) dX12_board_118 (lt67 hn rfl) rfl (by decide) rfl q_4_8 rfl (kz := 20) rfl (lr_42_20 hLR) ?_
            refine x_iload_n C 3 dX12_board_121 rfl rfl ?_
            refine x_iconst C dX12_board_122 ?_
            refine x_icmp_ne C dX12_board_123 (tgt := 130) (by decide) (by first | assumption | (constructor <;> omega)) (by first | assumption | (constructor <;> omega)) (fun h123 => ?_) (fun h123 => ?_)
            · skip
              refine x_iload_n C 1 dX12_board_130 rfl rfl ?_
              refine x_iload_n C 2 dX12_board_131 rfl rfl ?_
              refine x_iadd C dX12_board_132 ?_
              refine x_iconst C dX12_board_133 ?_
              refine x_isub C dX12_board_134 ?_
              refine x_aload_n C 0 dX12_board_135 rfl rfl ?_
              refine x_geti C ok_Model 42 24 dX12_board_136 (lt67 hn rfl) rfl (by decide) rfl q_33_15 rfl (kz := 24) rfl (fun rg136 => ?_)
              refine x_aload_n C 0 dX12_board_139 rfl rfl ?_
              refine x_geti C ok_Model 42 25 dX12_board_140 (lt67 hn rfl) rfl (by decide) rfl q_33_16 rfl (kz := 25) rfl (fun rg140 => ?_)
              refine x_aload_n C 0 dX12_board_143 rfl rfl ?_
              refine x_geti C ok_Model 42 26 dX12_board_144 (lt67 hn rfl) rfl (by decide) rfl q_33_17 rfl (kz := 26) rfl (fun rg144 => ?_)
              refine x_aload_n C 0 dX12_board_147 rfl rfl ?_
              refine x_geti C ok_Model 42 27 dX12_board_148 (lt67 hn rfl) rfl (by decide) rfl q_33_18 rfl (kz := 27) rfl (fun rg148 => ?_)
              refine x_runU (r_callS C (ce_X12_within) (m_X12_within G n V2 R (50) ((y + k) - 1) (V2 42 24) (V2 42 25) (V2 42 26) (V2 42 27) hn hLR (by first | assumption | omega | decide) (by first | assumption | omega | decide) (by first | assumption | omega | decide) (by first | assumption | omega | decide) (by first | assumption | omega | decide) (by first | assumption | omega | decide)) dX12_board_151 q_34_20 q_34_21 rfl rfl ⟨Nat.le_of_ble_eq_true rfl, Nat.le_of_ble_eq_true rfl⟩ ⟨rfl, rfl⟩ ⟨Nat.le_of_ble_eq_true rfl, Nat.le_of_ble_eq_true rfl⟩ (Nat.le_of_ble_eq_true rfl)) (fun v151 u151 hp151 => ?_)
              obtain ⟨rfl, rfl⟩ := hp151
              show Xw K G 0 0 _ n V2 R 154 [(0, .ref (aG G 42)), (1, .int (iI y)), (2, .int (iI k)), (3, .int (iI w))] [.int (iI (wsum (V2 50) ((y + k) - 1) (V2 42 24) (V2 42 25) (V2 42 26) (V2 42 27)))]
              refine x_iret C dX12_board_154 ⟨_, _, rfl, rfl, ?_, ?_⟩
              · exact hBV2
              · refine Or.inr (Or.inr ⟨by omega, by omega, _, _, _, _, _, _, _, hMBV2, ?_⟩); first | (have hws := hSV2.ws (y := y) (a := V2 42 24) (b := V2 42 25) (s := V2 42 26) (t := V2 42 27) (by omega) (by omega) (by omega) (by omega) (by omega) (by omega) (by omega) (by omega); exact Or.inr ⟨by omega, Or.inr (Or.inr (Or.inr (Or.inr (Or.inr (Or.inl ⟨by omega, hws.1⟩)))))⟩) | (have hws := hSV2.ws (y := y + k - 1) (a := V2 42 24) (b := V2 42 25) (s := V2 42 26) (t := V2 42 27) (by omega) (by omega) (by omega) (by omega) (by omega) (by omega) (by omega) (by omega); exact Or.inr ⟨by omega, Or.inr (Or.inr (Or.inr (Or.inr (Or.inr (Or.inr ⟨by omega, hws.1⟩)))))⟩)
            · skip
              refine x_iload_n C 1 dX12_board_126 rfl rfl ?_
              refine x_goto C dX12_board_127 (tgt := 135) (by decide) ?_
              refine x_aload_n C 0 dX12_board_135 rfl rfl ?_
              refine x_geti C ok_Model 42 24 dX12_board_136 (lt67 hn rfl) rfl (by decide) rfl q_33_15 rfl (kz := 24) rfl (fun rg136 => ?_)
              refine x_aload_n C 0 dX12_board_139 rfl rfl ?_
              refine x_geti C ok_Model 42 25 dX12_board_140 (lt67 hn rfl) rfl (by decide) rfl q_33_16 rfl (kz := 25) rfl (fun rg140 => ?_)
              refine x_aload_n C 0 dX12_board_143 rfl rfl ?_
              refine x_geti C ok_Model 42 26 dX12_board_144 (lt67 hn rfl) rfl (by decide) rfl q_33_17 rfl (kz := 26) rfl (fun rg144 => ?_)
              refine x_aload_n C 0 dX12_board_147 rfl rfl ?_
              refine x_geti C ok_Model 42 27 dX12_board_148 (lt67 hn rfl) rfl (by decide) rfl q_33_18 rfl (kz := 27) rfl (fun rg148 => ?_)
              refine x_runU (r_callS C (ce_X12_within) (m_X12_within G n V2 R (50) (y) (V2 42 24) (V2 42 25) (V2 42 26) (V2 42 27) hn hLR (by first | assumption | omega | decide) (by first | assumption | omega | decide) (by first | assumption | omega | decide) (by first | assumption | omega | decide) (by first | assumption | omega | decide) (by first | assumption | omega | decide)) dX12_board_151 q_34_20 q_34_21 rfl rfl ⟨Nat.le_of_ble_eq_true rfl, Nat.le_of_ble_eq_true rfl⟩ ⟨rfl, rfl⟩ ⟨Nat.le_of_ble_eq_true rfl, Nat.le_of_ble_eq_true rfl⟩ (Nat.le_of_ble_eq_true rfl)) (fun v151 u151 hp151 => ?_)
              obtain ⟨rfl, rfl⟩ := hp151
              show Xw K G 0 0 _ n V2 R 154 [(0, .ref (aG G 42)), (1, .int (iI y)), (2, .int (iI k)), (3, .int (iI w))] [.int (iI (wsum (V2 50) y (V2 42 24) (V2 42 25) (V2 42 26) (V2 42 27)))]
              refine x_iret C dX12_board_154 ⟨_, _, rfl, rfl, ?_, ?_⟩
              · exact hBV2
              · refine Or.inr (Or.inr ⟨by omega, by omega, _, _, _, _, _, _, _, hMBV2, ?_⟩); first | (have hws := hSV2.ws (y := y) (a := V2 42 24) (b := V2 42 25) (s := V2 42 26) (t := V2 42 27) (by omega) (by omega) (by omega) (by omega) (by omega) (by omega) (by omega) (by omega); exact Or.inr ⟨by omega, Or.inr (Or.inr (Or.inr (Or.inr (Or.inr (Or.inl ⟨by omega, hws.1⟩)))))⟩) | (have hws := hSV2.ws (y := y + k - 1) (a := V2 42 24) (b := V2 42 25) (s := V2 42 26) (t := V2 42 27) (by omega) (by omega) (by omega) (by omega) (by omega) (by omega) (by omega) (by omega); exact Or.inr ⟨by omega, Or.inr (Or.inr (Or.inr (Or.inr (Or.inr (Or.inr ⟨by omega, hws.1⟩)))))⟩)
        · skip
          refine x_iconst C dX12_board_54 ?_
          refine x_iret C dX12_board_55 ⟨_, _, rfl, rfl, ?_, ?_⟩
          · exact hBV2
          · refine Or.inr (Or.inr ⟨by omega, by omega, _, _, _, _, _, _, _, hMBV2, ?_⟩); exact Or.inl ⟨by omega, rfl⟩
      · skip
        refine x_bipush C dX12_board_30 (w := -2) (by decide) ?_
        refine x_iret C dX12_board_32 ⟨_, _, rfl, rfl, ?_, ?_⟩
        · first | exact Or.inl ⟨by omega, rfl⟩ | exact Or.inr (Or.inl ⟨by omega, by omega, rfl⟩) | exact FrB.rf
        · first | exact Or.inl ⟨by omega, rfl⟩ | exact Or.inr (Or.inl ⟨by omega, by omega, rfl⟩) | exact FrB.rf
  · skip
    refine x_bipush C dX12_board_7 (w := -3) (by decide) ?_
    refine x_iret C dX12_board_9 ⟨_, _, rfl, rfl, ?_, ?_⟩
    · first | exact Or.inl ⟨by omega, rfl⟩ | exact Or.inr (Or.inl ⟨by omega, by omega, rfl⟩) | exact FrB.rf
    · first | exact Or.inl ⟨by omega, rfl⟩ | exact Or.inr (Or.inl ⟨by omega, by omega, rfl⟩) | exact FrB.rf
set_option maxRecDepth 100000 in
set_option maxHeartbeats 4000000 in
theorem m_X12_graded (G : GS) (n : Nat) (V : Nat → Int → Int) (R : Nat → Int → Option Nat) (y : Int) (k : Int) (a : Int) (b : Int) (s : Int) (hn : 67 ≤ n) (hLR : LR R) (gy : Rg y) (gk : Rg k) (ga : Rg a) (gb : Rg b) (gs : Rg s) (hl : LogOk V) (hru : RulesOk (V 44)) : Cn G yX12_graded cX12_graded 9 (some .int) (rmk 5 0 0 117) [.ref (aG G 42), .int (iI y), .int (iI k), .int (iI a), .int (iI b), .int (iI s)] n V R 0 0 (fun vv uu => ∃ (r : Int), ∃ (V1 : Nat → Int → Int), vv = some (.int (iI r)) ∧ uu = (n, V1, R) ∧ (FrB V V1) ∧ ((V 42 2 = 0 ∧ r = -3) ∨ (V 42 2 ≠ 0 ∧ ¬ ((1 ≤ k ∧ k ≤ 4) ∧ (0 ≤ y ∧ y ≤ 12 - k) ∧ (0 ≤ a ∧ a ≤ b) ∧ b ≤ 11 ∧ (0 ≤ s ∧ s ≤ 63) ∧ s.tdiv 8 ≤ s.tmod 8 ∧ s.tmod 8 ≤ V 42 2 - 1) ∧ r = -2) ∨ (V 42 2 ≠ 0 ∧ ((1 ≤ k ∧ k ≤ 4) ∧ (0 ≤ y ∧ y ≤ 12 - k) ∧ (0 ≤ a ∧ a ≤ b) ∧ b ≤ 11 ∧ (0 ≤ s ∧ s ≤ 63) ∧ s.tdiv 8 ≤ s.tmod 8 ∧ s.tmod 8 ≤ V 42 2 - 1) ∧ (a < fcS (V 42 0) (V 42 1) y k (s.tmod 8) ∨ 11 - fcS (V 42 0) (V 42 1) y k (s.tmod 8) < b) ∧ r = -1) ∨ (V 42 2 ≠ 0 ∧ ((1 ≤ k ∧ k ≤ 4) ∧ (0 ≤ y ∧ y ≤ 12 - k) ∧ (0 ≤ a ∧ a ≤ b) ∧ b ≤ 11 ∧ (0 ≤ s ∧ s ≤ 63) ∧ s.tdiv 8 ≤ s.tmod 8 ∧ s.tmod 8 ≤ V 42 2 - 1) ∧ ¬ (a < fcS (V 42 0) (V 42 1) y k (s.tmod 8) ∨ 11 - fcS (V 42 0) (V 42 1) y k (s.tmod 8) < b) ∧ r = grP (FM V) (V 42 4) (V 42 3) y k a b (s.tdiv 8) (s.tmod 8)))) := by
  refine Cn.of (by decide) (Nat.le_of_ble_eq_true rfl) (fun K C hct => ?_)
  show Xw K G 0 0 _ n V R 0 [(0, .ref (aG G 42)), (1, .int (iI y)), (2, .int (iI k)), (3, .int (iI a)), (4, .int (iI b)), (5, .int (iI s))] []
  obtain ⟨h1, h2, h3, h5, h4, hF⟩ := id hl
  obtain ⟨hkf, hsv, hpr, hth⟩ := id hru
  have hd8 : Rg (s.tdiv 8) ∧ Rg (s.tmod 8) := tdm_rg gs
  have hd9 : 0 ≤ s → 0 ≤ s.tdiv 8 ∧ 0 ≤ s.tmod 8 := fun h => ⟨Int.tdiv_nonneg h (by decide), Int.tmod_nonneg _ h⟩
  obtain ⟨hd8a, hd8b⟩ := hd8
  refine x_aload_n C 0 dX12_graded_0 rfl rfl ?_
  refine x_geti C ok_Model 42 2 dX12_graded_1 (lt67 hn rfl) rfl (by decide) rfl q_6_12 rfl (kz := 2) rfl (fun rg1 => ?_)
  refine x_if_ne C dX12_graded_4 (tgt := 10) (by decide) (by first | assumption | (constructor <;> omega)) (fun h4 => ?_) (fun h4 => ?_)
  · skip
    refine x_iload C 5 dX12_graded_10 rfl ?_
    refine x_bipush C dX12_graded_12 (w := 8) (by decide) ?_
    refine x_itdiv C dX12_graded_14 (by first | assumption | (constructor <;> omega)) (by first | assumption | (constructor <;> omega)) (by omega) ?_
    refine x_istore C dX12_graded_15 (by decide) (lv' := [(0, .ref (aG G 42)), (1, .int (iI y)), (2, .int (iI k)), (3, .int (iI a)), (4, .int (iI b)), (5, .int (iI s)), (6, .int (iI (s.tdiv 8)))]) rfl ?_
    refine x_iload C 5 dX12_graded_17 rfl ?_
    refine x_bipush C dX12_graded_19 (w := 8) (by decide) ?_
    refine x_itrem C dX12_graded_21 (by first | assumption | (constructor <;> omega)) (by first | assumption | (constructor <;> omega)) (by omega) ?_
    refine x_istore C dX12_graded_22 (by decide) (lv' := [(0, .ref (aG G 42)), (1, .int (iI y)), (2, .int (iI k)), (3, .int (iI a)), (4, .int (iI b)), (5, .int (iI s)), (6, .int (iI (s.tdiv 8))), (7, .int (iI (s.tmod 8)))]) rfl ?_
    refine x_iload_n C 1 dX12_graded_24 rfl rfl ?_
    refine x_iload_n C 2 dX12_graded_25 rfl rfl ?_
    refine x_runU (r_callS C (ce_X12_isBoard) (m_X12_isBoard G n V R (y) (k) (by first | assumption | omega | decide) (by first | assumption | omega | decide)) dX12_graded_26 q_33_20 q_33_21 rfl rfl ⟨Nat.le_of_ble_eq_true rfl, Nat.le_of_ble_eq_true rfl⟩ ⟨rfl, rfl⟩ ⟨Nat.le_of_ble_eq_true rfl, Nat.le_of_ble_eq_true rfl⟩ (Nat.le_of_ble_eq_true rfl)) (fun v26 u26 hp26 => ?_)
    obtain ⟨rfl, rfl⟩ := hp26
    show Xw K G 0 0 _ n V R 29 [(0, .ref (aG G 42)), (1, .int (iI y)), (2, .int (iI k)), (3, .int (iI a)), (4, .int (iI b)), (5, .int (iI s)), (6, .int (iI (s.tdiv 8))), (7, .int (iI (s.tmod 8)))] [.int (iI (bI ((1 ≤ k ∧ k ≤ 4) ∧ (0 ≤ y ∧ y ≤ 12 - k))))]
    refine x_ifeq_b C dX12_graded_29 (tgt := 90) (by decide) (fun h29 => ?_) (fun h29 => ?_)
    · skip
      refine x_bipush C dX12_graded_90 (w := -2) (by decide) ?_
      refine x_iret C dX12_graded_92 ⟨_, _, rfl, rfl, ?_, ?_⟩
      · first | exact Or.inl ⟨by omega, rfl⟩ | exact Or.inr (Or.inl ⟨by omega, by omega, rfl⟩) | exact Or.inr (Or.inr (Or.inl ⟨by omega, by omega, by omega, rfl⟩)) | exact FrB.rf
      · first | exact Or.inl ⟨by omega, rfl⟩ | exact Or.inr (Or.inl ⟨by omega, by omega, rfl⟩) | exact Or.inr (Or.inr (Or.inl ⟨by omega, by omega, by omega, rfl⟩)) | exact FrB.rf
    · skip
      refine x_iload_n C 3 dX12_graded_32 rfl rfl ?_
      refine x_i2l C dX12_graded_33 (by first | assumption | (constructor <;> omega)) ?_
      refine x_lconst C dX12_graded_34 (w := 0) (by decide) ?_
      refine x_iload C 4 dX12_graded_35 rfl ?_
      refine x_i2l C dX12_graded_37 (by first | assumption | (constructor <;> omega)) ?_
      refine x_runU (r_callS C (ce_X12_in) (m_X12_in G n V R (a) (0) (b) (by first | assumption | omega | decide) (by first | assumption | omega | decide) (by first | assumption | omega | decide)) dX12_graded_38 q_6_15 q_6_16 rfl rfl ⟨Nat.le_of_ble_eq_true rfl, Nat.le_of_ble_eq_true rfl⟩ ⟨rfl, rfl⟩ ⟨Nat.le_of_ble_eq_true rfl, Nat.le_of_ble_eq_true rfl⟩ (Nat.le_of_ble_eq_true rfl)) (fun v38 u38 hp38 => ?_)
      obtain ⟨rfl, rfl⟩ := hp38
      show Xw K G 0 0 _ n V R 41 [(0, .ref (aG G 42)), (1, .int (iI y)), (2, .int (iI k)), (3, .int (iI a)), (4, .int (iI b)), (5, .int (iI s)), (6, .int (iI (s.tdiv 8))), (7, .int (iI (s.tmod 8)))] [.int (iI (bI (0 ≤ a ∧ a ≤ b)))]
      refine x_ifeq_b C dX12_graded_41 (tgt := 90) (by decide) (fun h41 => ?_) (fun h41 => ?_)
      · skip
        refine x_bipush C dX12_graded_90 (w := -2) (by decide) ?_
        refine x_iret C dX12_graded_92 ⟨_, _, rfl, rfl, ?_, ?_⟩
        · first | exact Or.inl ⟨by omega, rfl⟩ | exact Or.inr (Or.inl ⟨by omega, by omega, rfl⟩) | exact Or.inr (Or.inr (Or.inl ⟨by omega, by omega, by omega, rfl⟩)) | exact FrB.rf
        · first | exact Or.inl ⟨by omega, rfl⟩ | exact Or.inr (Or.inl ⟨by omega, by omega, rfl⟩) | exact Or.inr (Or.inr (Or.inl ⟨by omega, by omega, by omega, rfl⟩)) | exact FrB.rf
      · skip
        refine x_iload C 4 dX12_graded_44 rfl ?_
        refine x_i2l C dX12_graded_46 (by first | assumption | (constructor <;> omega)) ?_
        refine x_iload_n C 3 dX12_graded_47 rfl rfl ?_
        refine x_i2l C dX12_graded_48 (by first | assumption | (constructor <;> omega)) ?_
        refine x_ldc2 C dX12_graded_49 q_31_4 (w := 11) (by decide) ?_
        refine x_runU (r_callS C (ce_X12_in) (m_X12_in G n V R (b) (a) (11) (by first | assumption | omega | decide) (by first | assumption | omega | decide) (by first | assumption | omega | decide)) dX12_graded_52 q_6_15 q_6_16 rfl rfl ⟨Nat.le_of_ble_eq_true rfl, Nat.le_of_ble_eq_true rfl⟩ ⟨rfl, rfl⟩ ⟨Nat.le_of_ble_eq_true rfl, Nat.le_of_ble_eq_true rfl⟩ (Nat.le_of_ble_eq_true rfl)) (fun v52 u52 hp52 => ?_)
        obtain ⟨rfl, rfl⟩ := hp52
        show Xw K G 0 0 _ n V R 55 [(0, .ref (aG G 42)), (1, .int (iI y)), (2, .int (iI k)), (3, .int (iI a)), (4, .int (iI b)), (5, .int (iI s)), (6, .int (iI (s.tdiv 8))), (7, .int (iI (s.tmod 8)))] [.int (iI (bI (a ≤ b ∧ b ≤ 11)))]
        refine x_ifeq_b C dX12_graded_55 (tgt := 90) (by decide) (fun h55 => ?_) (fun h55 => ?_)
        · skip
          refine x_bipush C dX12_graded_90 (w := -2) (by decide) ?_
          refine x_iret C dX12_graded_92 ⟨_, _, rfl, rfl, ?_, ?_⟩
          · first | exact Or.inl ⟨by omega, rfl⟩ | exact Or.inr (Or.inl ⟨by omega, by omega, rfl⟩) | exact Or.inr (Or.inr (Or.inl ⟨by omega, by omega, by omega, rfl⟩)) | exact FrB.rf
          · first | exact Or.inl ⟨by omega, rfl⟩ | exact Or.inr (Or.inl ⟨by omega, by omega, rfl⟩) | exact Or.inr (Or.inr (Or.inl ⟨by omega, by omega, by omega, rfl⟩)) | exact FrB.rf
        · skip
          refine x_iload C 5 dX12_graded_58 rfl ?_
          refine x_i2l C dX12_graded_60 (by first | assumption | (constructor <;> omega)) ?_
          refine x_lconst C dX12_graded_61 (w := 0) (by decide) ?_
          refine x_ldc2 C dX12_graded_62 q_35_16 (w := 63) (by decide) ?_
          refine x_runU (r_callS C (ce_X12_in) (m_X12_in G n V R (s) (0) (63) (by first | assumption | omega | decide) (by first | assumption | omega | decide) (by first | assumption | omega | decide)) dX12_graded_65 q_6_15 q_6_16 rfl rfl ⟨Nat.le_of_ble_eq_true rfl, Nat.le_of_ble_eq_true rfl⟩ ⟨rfl, rfl⟩ ⟨Nat.le_of_ble_eq_true rfl, Nat.le_of_ble_eq_true rfl⟩ (Nat.le_of_ble_eq_true rfl)) (fun v65 u65 hp65 => ?_)
          obtain ⟨rfl, rfl⟩ := hp65
          show Xw K G 0 0 _ n V R 68 [(0, .ref (aG G 42)), (1, .int (iI y)), (2, .int (iI k)), (3, .int (iI a)), (4, .int (iI b)), (5, .int (iI s)), (6, .int (iI (s.tdiv 8))), (7, .int (iI (s.tmod 8)))] [.int (iI (bI (0 ≤ s ∧ s ≤ 63)))]
          refine x_ifeq_b C dX12_graded_68 (tgt := 90) (by decide) (fun h68 => ?_) (fun h68 => ?_)
          · skip
            refine x_bipush C dX12_graded_90 (w := -2) (by decide) ?_
            refine x_iret C dX12_graded_92 ⟨_, _, rfl, rfl, ?_, ?_⟩
            · first | exact Or.inl ⟨by omega, rfl⟩ | exact Or.inr (Or.inl ⟨by omega, by omega, rfl⟩) | exact Or.inr (Or.inr (Or.inl ⟨by omega, by omega, by omega, rfl⟩)) | exact FrB.rf
            · first | exact Or.inl ⟨by omega, rfl⟩ | exact Or.inr (Or.inl ⟨by omega, by omega, rfl⟩) | exact Or.inr (Or.inr (Or.inl ⟨by omega, by omega, by omega, rfl⟩)) | exact FrB.rf
          · skip
            refine x_iload C 7 dX12_graded_71 rfl ?_
            refine x_i2l C dX12_graded_73 (by first | assumption | (constructor <;> omega)) ?_
            refine x_iload C 6 dX12_graded_74 rfl ?_
            refine x_i2l C dX12_graded_76 (by first | assumption | (constructor <;> omega)) ?_
            refine x_aload_n C 0 dX12_graded_77 rfl rfl ?_
            refine x_geti C ok_Model 42 2 dX12_graded_78 (lt67 hn rfl) rfl (by decide) rfl q_6_12 rfl (kz := 2) rfl (fun rg78 => ?_)
            refine x_iconst C dX12_graded_81 ?_
            refine x_isub C dX12_graded_82 ?_
            refine x_i2l C dX12_graded_83 (by first | assumption | (constructor <;> omega)) ?_
            refine x_runU (r_callS C (ce_X12_in) (m_X12_in G n V R (s.tmod 8) (s.tdiv 8) ((V 42 2) - 1) (by first | assumption | omega | decide) (by first | assumption | omega | decide) (by first | assumption | omega | decide)) dX12_graded_84 q_6_15 q_6_16 rfl rfl ⟨Nat.le_of_ble_eq_true rfl, Nat.le_of_ble_eq_true rfl⟩ ⟨rfl, rfl⟩ ⟨Nat.le_of_ble_eq_true rfl, Nat.le_of_ble_eq_true rfl⟩ (Nat.le_of_ble_eq_true rfl)) (fun v84 u84 hp84 => ?_)
            obtain ⟨rfl, rfl⟩ := hp84
            show Xw K G 0 0 _ n V R 87 [(0, .ref (aG G 42)), (1, .int (iI y)), (2, .int (iI k)), (3, .int (iI a)), (4, .int (iI b)), (5, .int (iI s)), (6, .int (iI (s.tdiv 8))), (7, .int (iI (s.tmod 8)))] [.int (iI (bI ((s.tdiv 8) ≤ (s.tmod 8) ∧ (s.tmod 8) ≤ ((V 42 2) - 1))))]
            refine x_ifne_b C dX12_graded_87 (tgt := 93) (by decide) (fun h87 => ?_) (fun h87 => ?_)
            · skip
              obtain ⟨hd9a, hd9b⟩ := hd9 (by omega)
              have hfb := fcS_b (V 42 0) (V 42 1) y k (s.tmod 8)
              refine x_aload_n C 0 dX12_graded_93 rfl rfl ?_
              refine x_iload_n C 1 dX12_graded_94 rfl rfl ?_
              refine x_iload_n C 2 dX12_graded_95 rfl rfl ?_
              refine x_iload C 7 dX12_graded_96 rfl ?_
              refine x_runU (r_callV C ok_Model 42 (lt67 hn rfl) rfl (ce_X12_begins) (m_X12_begins G n V R (y) (k) (s.tmod 8) hn hLR (by first | assumption | omega | decide) (by first | assumption | omega | decide) (by first | assumption | omega | decide) (by first | assumption | omega | decide) (by first | assumption | omega | decide)) rfl dX12_graded_98 q_34_7 q_34_8 q_34_9 rfl rfl ⟨Nat.le_of_ble_eq_true rfl, Nat.le_of_ble_eq_true rfl⟩ ⟨rfl, rfl⟩ ⟨Nat.le_of_ble_eq_true rfl, Nat.le_of_ble_eq_true rfl⟩ (Nat.le_of_ble_eq_true rfl)) (fun v98 u98 hp98 => ?_)
              obtain ⟨rfl, rfl⟩ := hp98
              show Xw K G 0 0 _ n V R 101 [(0, .ref (aG G 42)), (1, .int (iI y)), (2, .int (iI k)), (3, .int (iI a)), (4, .int (iI b)), (5, .int (iI s)), (6, .int (iI (s.tdiv 8))), (7, .int (iI (s.tmod 8)))] [.int (iI (fcS (V 42 0) (V 42 1) y k (s.tmod 8)))]
              refine x_istore C dX12_graded_101 (by decide) (lv' := [(0, .ref (aG G 42)), (1, .int (iI y)), (2, .int (iI k)), (3, .int (iI a)), (4, .int (iI b)), (5, .int (iI s)), (6, .int (iI (s.tdiv 8))), (7, .int (iI (s.tmod 8))), (8, .int (iI (fcS (V 42 0) (V 42 1) y k (s.tmod 8))))]) rfl ?_
              refine x_iload_n C 3 dX12_graded_103 rfl rfl ?_
              refine x_iload C 8 dX12_graded_104 rfl ?_
              refine x_icmp_lt C dX12_graded_106 (tgt := 119) (by decide) (by first | assumption | (constructor <;> omega)) (by first | assumption | (constructor <;> omega)) (fun h106 => ?_) (fun h106 => ?_)
              · skip
                refine x_iconst C dX12_graded_119 ?_
                refine x_iret C dX12_graded_120 ⟨_, _, rfl, rfl, ?_, ?_⟩
                · first | exact Or.inl ⟨by omega, rfl⟩ | exact Or.inr (Or.inl ⟨by omega, by omega, rfl⟩) | exact Or.inr (Or.inr (Or.inl ⟨by omega, by omega, by omega, rfl⟩)) | exact FrB.rf
                · first | exact Or.inl ⟨by omega, rfl⟩ | exact Or.inr (Or.inl ⟨by omega, by omega, rfl⟩) | exact Or.inr (Or.inr (Or.inl ⟨by omega, by omega, by omega, rfl⟩)) | exact FrB.rf
              · skip
                refine x_iload C 4 dX12_graded_109 rfl ?_
                refine x_bipush C dX12_graded_111 (w := 11) (by decide) ?_
                refine x_iload C 8 dX12_graded_113 rfl ?_
                refine x_isub C dX12_graded_115 ?_
                refine x_icmp_le C dX12_graded_116 (tgt := 121) (by decide) (by first | assumption | (constructor <;> omega)) (by first | assumption | (constructor <;> omega)) (fun h116 => ?_) (fun h116 => ?_)
                · skip
                  refine x_aload_n C 0 dX12_graded_121 rfl rfl ?_
                  refine x_aload_n C 0 dX12_graded_122 rfl rfl ?_
                  refine x_geti C ok_Model 42 3 dX12_graded_123 (lt67 hn rfl) rfl (by decide) rfl q_6_13 rfl (kz := 3) rfl (fun rg123 => ?_)
                  refine x_runU (r_callV C ok_Model 42 (lt67 hn rfl) rfl (ce_X12_sums) (m_X12_sums G n V R (V 42 3) hn hLR (by first | assumption | omega | decide) (by first | assumption | omega | decide)) rfl dX12_graded_126 q_33_23 q_34_0 q_34_1 rfl rfl ⟨Nat.le_of_ble_eq_true rfl, Nat.le_of_ble_eq_true rfl⟩ ⟨rfl, rfl⟩ ⟨Nat.le_of_ble_eq_true rfl, Nat.le_of_ble_eq_true rfl⟩ (Nat.le_of_ble_eq_true rfl)) (fun v126 u126 hp126 => ?_)
                  obtain ⟨Va, rfl, rfl, hSVa, hfsVa⟩ := hp126
                  show Xw K G 0 0 _ n Va R 129 [(0, .ref (aG G 42)), (1, .int (iI y)), (2, .int (iI k)), (3, .int (iI a)), (4, .int (iI b)), (5, .int (iI s)), (6, .int (iI (s.tdiv 8))), (7, .int (iI (s.tmod 8))), (8, .int (iI (fcS (V 42 0) (V 42 1) y k (s.tmod 8))))] []
                  have e42Va : Va 42 = V 42 := hfsVa 42 (by decide) (by decide)
                  have e44Va : Va 44 = V 44 := hfsVa 44 (by decide) (by decide)
                  have hBVa : FrB V Va := fun q z a b _ => by rw [hfsVa q a b]
                  refine x_aload_n C 0 dX12_graded_129 rfl rfl ?_
                  refine x_iload_n C 1 dX12_graded_130 rfl rfl ?_
                  refine x_iload_n C 2 dX12_graded_131 rfl rfl ?_
                  refine x_iload_n C 3 dX12_graded_132 rfl rfl ?_
                  refine x_iload C 4 dX12_graded_133 rfl ?_
                  refine x_iload C 6 dX12_graded_135 rfl ?_
                  refine x_iload C 7 dX12_graded_137 rfl ?_
                  refine x_runU (r_callV C ok_Model 42 (lt67 hn rfl) rfl (ce_X12_grade) (m_X12_grade G n Va R (FM V) (V 42 4) (V 42 3) (y) (k) (a) (b) (s.tdiv 8) (s.tmod 8) hn hLR (by first | assumption | omega | decide) (by first | assumption | omega | decide) (by first | assumption | omega | decide) (by first | assumption | omega | decide) (by first | assumption | omega | decide) (by rw [e42Va]; omega) (by rw [e42Va]; exact hSVa)) rfl dX12_graded_139 q_34_16 q_34_17 q_34_18 rfl rfl ⟨Nat.le_of_ble_eq_true rfl, Nat.le_of_ble_eq_true rfl⟩ ⟨rfl, rfl⟩ ⟨Nat.le_of_ble_eq_true rfl, Nat.le_of_ble_eq_true rfl⟩ (Nat.le_of_ble_eq_true rfl)) (fun v139 u139 hp139 => ?_)
                  obtain ⟨rfl, rfl⟩ := hp139
                  show Xw K G 0 0 _ n Va R 142 [(0, .ref (aG G 42)), (1, .int (iI y)), (2, .int (iI k)), (3, .int (iI a)), (4, .int (iI b)), (5, .int (iI s)), (6, .int (iI (s.tdiv 8))), (7, .int (iI (s.tmod 8))), (8, .int (iI (fcS (V 42 0) (V 42 1) y k (s.tmod 8))))] [.int (iI (grP (FM V) (V 42 4) (V 42 3) y k a b (s.tdiv 8) (s.tmod 8)))]
                  refine x_iret C dX12_graded_142 ⟨_, _, rfl, rfl, ?_, ?_⟩
                  · exact hBVa
                  · exact Or.inr (Or.inr (Or.inr ⟨by omega, by omega, by omega, rfl⟩))
                · skip
                  refine x_iconst C dX12_graded_119 ?_
                  refine x_iret C dX12_graded_120 ⟨_, _, rfl, rfl, ?_, ?_⟩
                  · first | exact Or.inl ⟨by omega, rfl⟩ | exact Or.inr (Or.inl ⟨by omega, by omega, rfl⟩) | exact Or.inr (Or.inr (Or.inl ⟨by omega, by omega, by omega, rfl⟩)) | exact FrB.rf
                  · first | exact Or.inl ⟨by omega, rfl⟩ | exact Or.inr (Or.inl ⟨by omega, by omega, rfl⟩) | exact Or.inr (Or.inr (Or.inl ⟨by omega, by omega, by omega, rfl⟩)) | exact FrB.rf
            · skip
              refine x_bipush C dX12_graded_90 (w := -2) (by decide) ?_
              refine x_iret C dX12_graded_92 ⟨_, _, rfl, rfl, ?_, ?_⟩
              · first | exact Or.inl ⟨by omega, rfl⟩ | exact Or.inr (Or.inl ⟨by omega, by omega, rfl⟩) | exact Or.inr (Or.inr (Or.inl ⟨by omega, by omega, by omega, rfl⟩)) | exact FrB.rf
              · first | exact Or.inl ⟨by omega, rfl⟩ | exact Or.inr (Or.inl ⟨by omega, by omega, rfl⟩) | exact Or.inr (Or.inr (Or.inl ⟨by omega, by omega, by omega, rfl⟩)) | exact FrB.rf
  · skip
    refine x_bipush C dX12_graded_7 (w := -3) (by decide) ?_
    refine x_iret C dX12_graded_9 ⟨_, _, rfl, rfl, ?_, ?_⟩
    · first | exact Or.inl ⟨by omega, rfl⟩ | exact Or.inr (Or.inl ⟨by omega, by omega, rfl⟩) | exact Or.inr (Or.inr (Or.inl ⟨by omega, by omega, by omega, rfl⟩)) | exact FrB.rf
    · first | exact Or.inl ⟨by omega, rfl⟩ | exact Or.inr (Or.inl ⟨by omega, by omega, rfl⟩) | exact Or.inr (Or.inr (Or.inl ⟨by omega, by omega, by omega, rfl⟩)) | exact FrB.rf
set_option maxRecDepth 100000 in
set_option maxHeartbeats 4000000 in
theorem m_X12_worth (G : GS) (n : Nat) (V : Nat → Int → Int) (R : Nat → Int → Option Nat) (y : Int) (k : Int) (hn : 67 ≤ n) (hLR : LR R) (gy : Rg y) (gk : Rg k) (hl : LogOk V) (hru : RulesOk (V 44)) : Cn G yX12_worth cX12_worth 3 (some .long) (rmk 5 0 0 131) [.ref (aG G 42), .int (iI y), .int (iI k)] n V R 0 0 (fun vv uu => ∃ (r : Int), ∃ (V1 : Nat → Int → Int), vv = some (.long (jI r)) ∧ uu = (n, V1, R) ∧ (FrB V V1) ∧ (((V 42 2 = 0 ∨ ¬ ((1 ≤ k ∧ k ≤ 4) ∧ (0 ≤ y ∧ y ≤ 12 - k))) ∧ r = (-4611686018427387904)) ∨ (V 42 2 ≠ 0 ∧ ((1 ≤ k ∧ k ≤ 4) ∧ (0 ≤ y ∧ y ≤ 12 - k)) ∧ r = bwC (V 42 0) (V 42 1) (V 42 2) (FM V) (V 42 4) (V 42 3) (V 44) y k))) := by
  refine Cn.of (by decide) (Nat.le_of_ble_eq_true rfl) (fun K C hct => ?_)
  show Xw K G 0 0 _ n V R 0 [(0, .ref (aG G 42)), (1, .int (iI y)), (2, .int (iI k))] []
  obtain ⟨h1, h2, h3, h5, h4, hF⟩ := id hl
  obtain ⟨hkf, hsv, hpr, hth⟩ := id hru
  refine x_aload_n C 0 dX12_worth_0 rfl rfl ?_
  refine x_geti C ok_Model 42 2 dX12_worth_1 (lt67 hn rfl) rfl (by decide) rfl q_6_12 rfl (kz := 2) rfl (fun rg1 => ?_)
  refine x_if_eq C dX12_worth_4 (tgt := 15) (by decide) (by first | assumption | (constructor <;> omega)) (fun h4 => ?_) (fun h4 => ?_)
  · skip
    refine x_ldc2 C dX12_worth_15 q_36_2 (w := -4611686018427387904) (by decide) ?_
    refine x_lret C dX12_worth_18 ⟨_, _, rfl, rfl, ?_, ?_⟩
    · first | exact FrB.rf | exact Or.inl ⟨by omega, rfl⟩
    · first | exact FrB.rf | exact Or.inl ⟨by omega, rfl⟩
  · skip
    refine x_iload_n C 1 dX12_worth_7 rfl rfl ?_
    refine x_iload_n C 2 dX12_worth_8 rfl rfl ?_
    refine x_runU (r_callS C (ce_X12_isBoard) (m_X12_isBoard G n V R (y) (k) (by first | assumption | omega | decide) (by first | assumption | omega | decide)) dX12_worth_9 q_33_20 q_33_21 rfl rfl ⟨Nat.le_of_ble_eq_true rfl, Nat.le_of_ble_eq_true rfl⟩ ⟨rfl, rfl⟩ ⟨Nat.le_of_ble_eq_true rfl, Nat.le_of_ble_eq_true rfl⟩ (Nat.le_of_ble_eq_true rfl)) (fun v9 u9 hp9 => ?_)
    obtain ⟨rfl, rfl⟩ := hp9
    show Xw K G 0 0 _ n V R 12 [(0, .ref (aG G 42)), (1, .int (iI y)), (2, .int (iI k))] [.int (iI (bI ((1 ≤ k ∧ k ≤ 4) ∧ (0 ≤ y ∧ y ≤ 12 - k))))]
    refine x_ifne_b C dX12_worth_12 (tgt := 19) (by decide) (fun h12 => ?_) (fun h12 => ?_)
    · skip
      refine x_aload_n C 0 dX12_worth_19 rfl rfl ?_
      refine x_aload_n C 0 dX12_worth_20 rfl rfl ?_
      refine x_geti C ok_Model 42 3 dX12_worth_21 (lt67 hn rfl) rfl (by decide) rfl q_6_13 rfl (kz := 3) rfl (fun rg21 => ?_)
      refine x_runU (r_callV C ok_Model 42 (lt67 hn rfl) rfl (ce_X12_sums) (m_X12_sums G n V R (V 42 3) hn hLR (by first | assumption | omega | decide) (by first | assumption | omega | decide)) rfl dX12_worth_24 q_33_23 q_34_0 q_34_1 rfl rfl ⟨Nat.le_of_ble_eq_true rfl, Nat.le_of_ble_eq_true rfl⟩ ⟨rfl, rfl⟩ ⟨Nat.le_of_ble_eq_true rfl, Nat.le_of_ble_eq_true rfl⟩ (Nat.le_of_ble_eq_true rfl)) (fun v24 u24 hp24 => ?_)
      obtain ⟨Va, rfl, rfl, hSVa, hfsVa⟩ := hp24
      show Xw K G 0 0 _ n Va R 27 [(0, .ref (aG G 42)), (1, .int (iI y)), (2, .int (iI k))] []
      have e42Va : Va 42 = V 42 := hfsVa 42 (by decide) (by decide)
      have e44Va : Va 44 = V 44 := hfsVa 44 (by decide) (by decide)
      have hBVa : FrB V Va := fun q z a b _ => by rw [hfsVa q a b]
      refine x_aload_n C 0 dX12_worth_27 rfl rfl ?_
      refine x_iload_n C 1 dX12_worth_28 rfl rfl ?_
      refine x_iload_n C 2 dX12_worth_29 rfl rfl ?_
      refine x_runU (r_callV C ok_Model 42 (lt67 hn rfl) rfl (ce_X12_finds) (m_X12_finds G n Va R (FM V) (V 42 4) (V 42 3) (y) (k) hn hLR (by first | assumption | omega | decide) (by first | assumption | omega | decide) (by rw [hBVa.log.1 0 (by decide) (by decide)]; exact h1) (by rw [hBVa.log.1 1 (by decide) (by decide)]; exact h2) (by rw [hBVa.log.1 2 (by decide) (by decide)]; omega) (by rw [hBVa.log.1 2 (by decide) (by decide)]; exact hSVa) (by rw [hBVa.r]; exact hpr) (by rw [hBVa.r]; exact hsv)) rfl dX12_worth_30 q_34_3 q_34_4 q_34_5 rfl rfl ⟨Nat.le_of_ble_eq_true rfl, Nat.le_of_ble_eq_true rfl⟩ ⟨rfl, rfl⟩ ⟨Nat.le_of_ble_eq_true rfl, Nat.le_of_ble_eq_true rfl⟩ (Nat.le_of_ble_eq_true rfl)) (fun v30 u30 hp30 => ?_)
      obtain ⟨V2, rfl, rfl, hffV2, hbbV2⟩ := hp30
      show Xw K G 0 0 _ n V2 R 33 [(0, .ref (aG G 42)), (1, .int (iI y)), (2, .int (iI k))] []
      have hMBV2 : MB V V2 (V 42 3) (y) (k) := MB_of hBVa.log hBVa.r hbbV2
      have hBV2 : FrB V V2 := fun q z a b  e => by rw [hffV2 q z e]; exact hBVa q z a b  e
      have hSV2 : sumsR V2 (FM V) (V 42 4) (V 42 3) (12 * V 42 2) := sumsR_k hSVa (fun i _ => hffV2 50 i (by omega)) (fun i _ => hffV2 51 i (by omega))
      refine x_aload_n C 0 dX12_worth_33 rfl rfl ?_
      refine x_geti C ok_Model 42 22 dX12_worth_34 (lt67 hn rfl) rfl (by decide) rfl q_33_14 rfl (kz := 22) rfl (fun rg34 => ?_)
      refine x_i2l C dX12_worth_37 (by first | assumption | (constructor <;> omega)) ?_
      refine x_lret C dX12_worth_38 ⟨_, _, rfl, rfl, ?_, ?_⟩
      · exact hBV2
      · exact Or.inr ⟨by omega, by omega, (hMBV2.c hru ⟨by omega, by omega⟩ (by omega)).1⟩
    · skip
      refine x_ldc2 C dX12_worth_15 q_36_2 (w := -4611686018427387904) (by decide) ?_
      refine x_lret C dX12_worth_18 ⟨_, _, rfl, rfl, ?_, ?_⟩
      · first | exact FrB.rf | exact Or.inl ⟨by omega, rfl⟩
      · first | exact FrB.rf | exact Or.inl ⟨by omega, rfl⟩
set_option maxRecDepth 100000 in
set_option maxHeartbeats 4000000 in
theorem m_X12_opens (G : GS) (n : Nat) (V : Nat → Int → Int) (R : Nat → Int → Option Nat) (t : Int) (hn : 67 ≤ n) (hLR : LR R) (hl : LogOk V) (hru : RulesOk (V 44)) (ht : 0 ≤ t ∧ t ≤ 3) (hL1 : 1 ≤ V 42 2) : Cn G yX12_opens cX12_opens 5 (some .int) (rmk 5 0 0 131) [.ref (aG G 42), .int (iI t)] n V R 0 0 (fun vv uu => ∃ (V1 : Nat → Int → Int), vv = some (.int (iI ((opM V t (-1)).1 0))) ∧ uu = (n, V1, R) ∧ (FrO V V1) ∧ (sumsR V1 (FM V) (V 42 4) (t) (12 * V 42 2)) ∧ (∀ z, 0 ≤ z → z ≤ 11 → V1 53 z = (opM V t (-1)).2 z)) := by
  refine Cn.of (by decide) (Nat.le_of_ble_eq_true rfl) (fun K C hct => ?_)
  show Xw K G 0 0 _ n V R 0 [(0, .ref (aG G 42)), (1, .int (iI t))] []
  obtain ⟨h1, h2, h3, h5, h4, hF⟩ := id hl
  obtain ⟨hkf, hsv, hpr, hth⟩ := id hru
  refine x_aload_n C 0 dX12_opens_0 rfl rfl ?_
  refine x_iload_n C 1 dX12_opens_1 rfl rfl ?_
  refine x_runU (r_callV C ok_Model 42 (lt67 hn rfl) rfl (ce_X12_sums) (m_X12_sums G n V R (t) hn hLR (by first | assumption | omega | decide) (by first | assumption | omega | decide)) rfl dX12_opens_2 q_33_23 q_34_0 q_34_1 rfl rfl ⟨Nat.le_of_ble_eq_true rfl, Nat.le_of_ble_eq_true rfl⟩ ⟨rfl, rfl⟩ ⟨Nat.le_of_ble_eq_true rfl, Nat.le_of_ble_eq_true rfl⟩ (Nat.le_of_ble_eq_true rfl)) (fun v2 u2 hp2 => ?_)
  obtain ⟨Va, rfl, rfl, hSVa, hfsVa⟩ := hp2
  show Xw K G 0 0 _ n Va R 5 [(0, .ref (aG G 42)), (1, .int (iI t))] []
  have hFVa : FrO V Va := fun q z a b c d _ => by rw [hfsVa q a b]
  refine x_bipush C dX12_opens_5 (w := 12) (by decide) ?_
  refine x_istore_n C dX12_opens_7 rfl (by decide) (lv' := [(0, .ref (aG G 42)), (1, .int (iI t)), (2, .int (iI 12))]) rfl ?_
  have lp_8 : ∀ (fuel : Nat) (j : Int) (V2 : Nat → Int → Int), (12 ≤ j ∧ j ≤ 19) → (FrO V V2) → (sumsR V2 (FM V) (V 42 4) (t) (12 * V 42 2)) → (∀ z, 12 ≤ z → z < j → V2 52 z = 0) → ((19 : Int) - j) < (fuel : Int) → Xw K G 0 0 (EndQ K G 0 0 (fun vv uu => ∃ (V1 : Nat → Int → Int), vv = some (.int (iI ((opM V t (-1)).1 0))) ∧ uu = (n, V1, R) ∧ (FrO V V1) ∧ (sumsR V1 (FM V) (V 42 4) (t) (12 * V 42 2)) ∧ (∀ z, 0 ≤ z → z ≤ 11 → V1 53 z = (opM V t (-1)).2 z))) n V2 R 8 [(0, .ref (aG G 42)), (1, .int (iI t)), (2, .int (iI j))] [] := by
    intro fuel8
    induction fuel8 with
    | zero => intro j V2 hj hFV2 hS2 hz hfu8; exfalso; omega
    | succ fuel8 ih8 =>
      intro j V2 hj hFV2 hS2 hz hfu8
      refine x_iload_n C 2 dX12_opens_8 rfl rfl ?_
      refine x_aload_n C 0 dX12_opens_9 rfl rfl ?_
      refine x_getr C ok_Model 42 29 (d := 52) dX12_opens_10 (lt67 hn rfl) rfl (by decide) rfl q_4_10 rfl (kz := 29) rfl (lr_42_29 hLR) ?_
      refine x_alen C 52 (w := 19) dX12_opens_13 (lt67 hn rfl) rfl (by decide) rfl ?_
      refine x_icmp_ge C dX12_opens_14 (tgt := 30) (by decide) (by first | assumption | (constructor <;> omega)) (by first | assumption | (constructor <;> omega)) (fun h14 => ?_) (fun h14 => ?_)
      · skip
        refine x_bipush C dX12_opens_30 (w := 11) (by decide) ?_
        refine x_istore_n C dX12_opens_32 rfl (by decide) (lv' := [(0, .ref (aG G 42)), (1, .int (iI t)), (2, .int (iI 11))]) rfl ?_
        have lp_33 : ∀ (fuel : Nat) (y : Int) (V3 : Nat → Int → Int), (-1 ≤ y ∧ y ≤ 11) → (FrO V V3) → (sumsR V3 (FM V) (V 42 4) (t) (12 * V 42 2)) → (∀ z, y < z → z ≤ 18 → V3 52 z = (opM V t y).1 z) → (∀ z, y < z → z ≤ 11 → V3 53 z = (opM V t y).2 z) → ((1 : Int) + y) < (fuel : Int) → Xw K G 0 0 (EndQ K G 0 0 (fun vv uu => ∃ (V1 : Nat → Int → Int), vv = some (.int (iI ((opM V t (-1)).1 0))) ∧ uu = (n, V1, R) ∧ (FrO V V1) ∧ (sumsR V1 (FM V) (V 42 4) (t) (12 * V 42 2)) ∧ (∀ z, 0 ≤ z → z ≤ 11 → V1 53 z = (opM V t (-1)).2 z))) n V3 R 33 [(0, .ref (aG G 42)), (1, .int (iI t)), (2, .int (iI y))] [] := by
          intro fuel33
          induction fuel33 with
          | zero => intro y V3 hy hFV3 hS3 hW hT hfu33; exfalso; omega
          | succ fuel33 ih33 =>
            intro y V3 hy hFV3 hS3 hW hT hfu33
            have hob := opT_b (r := V 42 0) (t := V 42 1) (L := V 42 2) (f := FM V) (m := V 42 4) (pr := V 44) (g := t) hy
            have hob1 := hob.1 (y + 1)
            have hob0 : 0 ≤ (opM V t y).1 (y + 1) ∧ (opM V t y).1 (y + 1) ≤ 456192 := hob1
            have e42V3 : ∀ z, z < 22 → V3 42 z = V 42 z := fun z h => hFV3 42 z (by decide) (by decide) (by decide) (by decide) (by omega)
            have e44V3 : V3 44 = V 44 := hFV3.r
            refine x_iload_n C 2 dX12_opens_33 rfl rfl ?_
            refine x_if_lt C dX12_opens_34 (tgt := 161) (by decide) (by first | assumption | (constructor <;> omega)) (fun h34 => ?_) (fun h34 => ?_)
            · skip
              refine x_aload_n C 0 dX12_opens_161 rfl rfl ?_
              refine x_getr C ok_Model 42 29 (d := 52) dX12_opens_162 (lt67 hn rfl) rfl (by decide) rfl q_4_10 rfl (kz := 29) rfl (lr_42_29 hLR) ?_
              refine x_iconst C dX12_opens_165 ?_
              refine x_iald C 52 dX12_opens_166 (lt67 hn rfl) rfl (by refine ⟨?_, ?_⟩ <;> omega) (fun rg166 => ?_)
              refine x_iret C dX12_opens_167 ⟨_, congrArg (fun z => some (Value.int (iI z))) (by rw [hW 0 (by omega) (by decide), show (-1 : Int) = y by omega]), rfl, ?_, ?_, ?_⟩
              · exact hFV3
              · exact hS3
              · exact fun z a b => by (rw [show (-1 : Int) = y by omega]; exact hT z (by omega) b)
            · skip
              refine x_aload_n C 0 dX12_opens_37 rfl rfl ?_
              refine x_getr C ok_Model 42 29 (d := 52) dX12_opens_38 (lt67 hn rfl) rfl (by decide) rfl q_4_10 rfl (kz := 29) rfl (lr_42_29 hLR) ?_
              refine x_iload_n C 2 dX12_opens_41 rfl rfl ?_
              refine x_aload_n C 0 dX12_opens_42 rfl rfl ?_
              refine x_getr C ok_Model 42 29 (d := 52) dX12_opens_43 (lt67 hn rfl) rfl (by decide) rfl q_4_10 rfl (kz := 29) rfl (lr_42_29 hLR) ?_
              refine x_iload_n C 2 dX12_opens_46 rfl rfl ?_
              refine x_iconst C dX12_opens_47 ?_
              refine x_iadd C dX12_opens_48 ?_
              refine x_iald C 52 dX12_opens_49 (lt67 hn rfl) rfl (by refine ⟨?_, ?_⟩ <;> omega) (fun rg49 => ?_)
              refine x_iast C 52 dX12_opens_50 (lt67 hn rfl) rfl (by refine ⟨?_, ?_⟩ <;> omega) (by first | assumption | (constructor <;> omega)) ?_
              refine x_aload_n C 0 dX12_opens_51 rfl rfl ?_
              refine x_getr C ok_Model 42 30 (d := 53) dX12_opens_52 (lt67 hn rfl) rfl (by decide) rfl q_4_11 rfl (kz := 30) rfl (lr_42_30 hLR) ?_
              refine x_iload_n C 2 dX12_opens_55 rfl rfl ?_
              refine x_iconst C dX12_opens_56 ?_
              refine x_iast C 53 dX12_opens_57 (lt67 hn rfl) rfl (by refine ⟨?_, ?_⟩ <;> omega) (by first | assumption | (constructor <;> omega)) ?_
              refine x_iconst C dX12_opens_58 ?_
              refine x_istore_n C dX12_opens_59 rfl (by decide) (lv' := [(0, .ref (aG G 42)), (1, .int (iI t)), (2, .int (iI y)), (3, .int (iI 1))]) rfl ?_
              have lp_60 : ∀ (fuel : Nat) (k : Int) (V4 : Nat → Int → Int), (1 ≤ k ∧ k ≤ 5) → (FrO V V4) → (sumsR V4 (FM V) (V 42 4) (t) (12 * V 42 2)) → (∀ z, y ≤ z → z ≤ 18 → V4 52 z = u1 (opM V t y).1 y (dpI (bwC (V 42 0) (V 42 1) (V 42 2) (FM V) (V 42 4) t (V 44)) (V 44 6) (V 44 0) (opM V t y).1 y (k - 1)).1 z) → (∀ z, y ≤ z → z ≤ 11 → V4 53 z = u1 (opM V t y).2 y (dpI (bwC (V 42 0) (V 42 1) (V 42 2) (FM V) (V 42 4) t (V 44)) (V 44 6) (V 44 0) (opM V t y).1 y (k - 1)).2 z) → ((5 : Int) - k) < (fuel : Int) → Xw K G 0 0 (EndQ K G 0 0 (fun vv uu => ∃ (V1 : Nat → Int → Int), vv = some (.int (iI ((opM V t (-1)).1 0))) ∧ uu = (n, V1, R) ∧ (FrO V V1) ∧ (sumsR V1 (FM V) (V 42 4) (t) (12 * V 42 2)) ∧ (∀ z, 0 ≤ z → z ≤ 11 → V1 53 z = (opM V t (-1)).2 z))) n V4 R 60 [(0, .ref (aG G 42)), (1, .int (iI t)), (2, .int (iI y)), (3, .int (iI k))] [] := by
                intro fuel60
                induction fuel60 with
                | zero => intro k V4 hk hFV4 hSV4 hW4 hT4 hfu60; exfalso; omega
                | succ fuel60 ih60 =>
                  intro k V4 hk hFV4 hSV4 hW4 hT4 hfu60
                  have e42V4 : ∀ z, z < 22 → V4 42 z = V 42 z := fun z h => hFV4 42 z (by decide) (by decide) (by decide) (by decide) (by omega)
                  have e44V4 : V4 44 = V 44 := hFV4.r
                  have hdb := dpI_b (bw := bwC (V 42 0) (V 42 1) (V 42 2) (FM V) (V 42 4) t (V 44)) (th := V 44 6) (kf := V 44 0) (y := y) hob.1 (fun n _ _ _ => bwC_b _ _ _ _ _ _ _ _ _)
                  refine x_iload_n C 3 dX12_opens_60 rfl rfl ?_
                  refine x_iconst C dX12_opens_61 ?_
                  refine x_icmp_gt C dX12_opens_62 (tgt := 155) (by decide) (by first | assumption | (constructor <;> omega)) (by first | assumption | (constructor <;> omega)) (fun h62 => ?_) (fun h62 => ?_)
                  · skip
                    refine x_iinc C 2 dX12_opens_155 rfl (by decide) (lv' := [(0, .ref (aG G 42)), (1, .int (iI t)), (2, .int (iI (y + (-1)))), (3, .int (iI k))]) rfl ?_
                    refine x_goto C dX12_opens_158 (tgt := 33) (by decide) ?_
                    refine x_sub [0, 1, 2] (lv' := [(0, .ref (aG G 42)), (1, .int (iI t)), (2, .int (iI (y + (-1))))]) rfl ?_
                    exact ih33 ((y + (-1))) (V4) (by omega) (by exact hFV4) (by exact hSV4) (by rw [show y + -1 = y - 1 by omega]; exact fun z a b => by (rw [hW4 z (by omega) b, dpI_end hk (by omega)]; unfold opM opT; rw [dpR_s (by omega)])) (by rw [show y + -1 = y - 1 by omega]; exact fun z a b => by (rw [hT4 z (by omega) b, dpI_end hk (by omega)]; unfold opM opT; rw [dpR_s (by omega)])) (by omega)
                  · skip
                    refine x_iload_n C 2 dX12_opens_65 rfl rfl ?_
                    refine x_iload_n C 3 dX12_opens_66 rfl rfl ?_
                    refine x_iadd C dX12_opens_67 ?_
                    refine x_bipush C dX12_opens_68 (w := 12) (by decide) ?_
                    refine x_icmp_gt C dX12_opens_70 (tgt := 155) (by decide) (by first | assumption | (constructor <;> omega)) (by first | assumption | (constructor <;> omega)) (fun h70 => ?_) (fun h70 => ?_)
                    · skip
                      refine x_iinc C 2 dX12_opens_155 rfl (by decide) (lv' := [(0, .ref (aG G 42)), (1, .int (iI t)), (2, .int (iI (y + (-1)))), (3, .int (iI k))]) rfl ?_
                      refine x_goto C dX12_opens_158 (tgt := 33) (by decide) ?_
                      refine x_sub [0, 1, 2] (lv' := [(0, .ref (aG G 42)), (1, .int (iI t)), (2, .int (iI (y + (-1))))]) rfl ?_
                      exact ih33 ((y + (-1))) (V4) (by omega) (by exact hFV4) (by exact hSV4) (by rw [show y + -1 = y - 1 by omega]; exact fun z a b => by (rw [hW4 z (by omega) b, dpI_end hk (by omega)]; unfold opM opT; rw [dpR_s (by omega)])) (by rw [show y + -1 = y - 1 by omega]; exact fun z a b => by (rw [hT4 z (by omega) b, dpI_end hk (by omega)]; unfold opM opT; rw [dpR_s (by omega)])) (by omega)
                    · skip
                      refine x_aload_n C 0 dX12_opens_73 rfl rfl ?_
                      refine x_getr C ok_Model 42 6 (d := 44) dX12_opens_74 (lt67 hn rfl) rfl (by decide) rfl q_4_2 rfl (kz := 6) rfl (lr_42_6 hLR) ?_
                      refine x_bipush C dX12_opens_77 (w := 6) (by decide) ?_
                      refine x_iald C 44 dX12_opens_79 (lt67 hn rfl) rfl (by refine ⟨?_, ?_⟩ <;> omega) (fun rg79 => ?_)
                      refine x_top (b := (V 44 6)) (by rw [e44V4]) ?_
                      refine x_iload_n C 3 dX12_opens_80 rfl rfl ?_
                      refine x_ishr C dX12_opens_81 ?_
                      refine x_iconst C dX12_opens_82 ?_
                      refine x_iand C dX12_opens_83 ?_
                      refine x_iconst C dX12_opens_84 ?_
                      refine x_icmp_ne C dX12_opens_85 (tgt := 149) (by decide) (by first | exact zAnd_rg _ _ | (constructor <;> omega)) (by first | exact zAnd_rg _ _ | (constructor <;> omega)) (fun h85 => ?_) (fun h85 => ?_)
                      · skip
                        refine x_iinc C 3 dX12_opens_149 rfl (by decide) (lv' := [(0, .ref (aG G 42)), (1, .int (iI t)), (2, .int (iI y)), (3, .int (iI (k + 1)))]) rfl ?_
                        refine x_goto C dX12_opens_152 (tgt := 60) (by decide) ?_
                        exact ih60 ((k + 1)) (V4) (by omega) (by first | exact (hFV5.w (Or.inl rfl)).w (Or.inr rfl) | exact hFV5 | exact hFV4) (by first | exact hSV4 | exact hSV5 | exact sumsR_k hSV5 (fun i h => by rw [u2_n (by decide), u2_n (by decide)]) (fun i h => by rw [u2_n (by decide), u2_n (by decide)])) (by rw [show k + 1 - 1 = k by omega]; first | exact op_y1 hW5 hk.1 (by omega) hbw h85 h120 h131 | exact op_n hk.1 hW5 (fun q => by have := q.2.2.1; omega) | exact op_n hk.1 hW5 (op_c hW5 (by omega) hbw h131) | exact op_n hk.1 hW4 (fun q => h85 q.2.1)) (by rw [show k + 1 - 1 = k by omega]; first | exact op_y2 hW5 hT5 hk.1 (by omega) hbw h85 h120 h131 | exact op_n2 hk.1 hT5 (fun q => by have := q.2.2.1; omega) | exact op_n2 hk.1 hT5 (op_c hW5 (by omega) hbw h131) | exact op_n2 hk.1 hT4 (fun q => h85 q.2.1)) (by omega)
                      · skip
                        refine x_aload_n C 0 dX12_opens_88 rfl rfl ?_
                        refine x_iload_n C 2 dX12_opens_89 rfl rfl ?_
                        refine x_iload_n C 3 dX12_opens_90 rfl rfl ?_
                        refine x_runU (r_callV C ok_Model 42 (lt67 hn rfl) rfl (ce_X12_finds) (m_X12_finds G n V4 R (FM V) (V 42 4) (t) (y) (k) hn hLR (by first | assumption | omega | decide) (by first | assumption | omega | decide) (by rw [hFV4.log.1 0 (by decide) (by decide)]; exact h1) (by rw [hFV4.log.1 1 (by decide) (by decide)]; exact h2) (by rw [hFV4.log.1 2 (by decide) (by decide)]; omega) (by rw [hFV4.log.1 2 (by decide) (by decide)]; exact hSV4) (by rw [hFV4.r]; exact hpr) (by rw [hFV4.r]; exact hsv)) rfl dX12_opens_91 q_34_3 q_34_4 q_34_5 rfl rfl ⟨Nat.le_of_ble_eq_true rfl, Nat.le_of_ble_eq_true rfl⟩ ⟨rfl, rfl⟩ ⟨Nat.le_of_ble_eq_true rfl, Nat.le_of_ble_eq_true rfl⟩ (Nat.le_of_ble_eq_true rfl)) (fun v91 u91 hp91 => ?_)
                        obtain ⟨V5, rfl, rfl, hffV5, hbbV5⟩ := hp91
                        show Xw K G 0 0 _ n V5 R 94 [(0, .ref (aG G 42)), (1, .int (iI t)), (2, .int (iI y)), (3, .int (iI k))] []
                        have hMBV5 : MB V V5 (t) (y) (k) := MB_of hFV4.log hFV4.r hbbV5
                        have hFV5 : FrO V V5 := fun q z a b c d e => by rw [hffV5 q z e]; exact hFV4 q z a b c d e
                        have hSV5 : sumsR V5 (FM V) (V 42 4) (t) (12 * V 42 2) := sumsR_k hSV4 (fun i _ => hffV5 50 i (by omega)) (fun i _ => hffV5 51 i (by omega))
                        have hW5 : ∀ z, y ≤ z → z ≤ 18 → V5 52 z = u1 (opM V t y).1 y (dpI (bwC (V 42 0) (V 42 1) (V 42 2) (FM V) (V 42 4) t (V 44)) (V 44 6) (V 44 0) (opM V t y).1 y (k - 1)).1 z := fun z a b => by rw [hffV5 52 z (by omega)]; exact hW4 z a b
                        have hT5 : ∀ z, y ≤ z → z ≤ 11 → V5 53 z = u1 (opM V t y).2 y (dpI (bwC (V 42 0) (V 42 1) (V 42 2) (FM V) (V 42 4) t (V 44)) (V 44 6) (V 44 0) (opM V t y).1 y (k - 1)).2 z := fun z a b => by rw [hffV5 53 z (by omega)]; exact hT4 z a b
                        obtain ⟨hbw, hbw1, hbw2⟩ := hMBV5.c hru ⟨by omega, by omega⟩ (by omega)
                        have hob2 : 0 ≤ (opM V t y).1 ((y + k) + V 44 0) ∧ (opM V t y).1 ((y + k) + V 44 0) ≤ 456192 := hob.1 ((y + k) + V 44 0)
                        refine x_aload_n C 0 dX12_opens_94 rfl rfl ?_
                        refine x_geti C ok_Model 42 22 dX12_opens_95 (lt67 hn rfl) rfl (by decide) rfl q_33_14 rfl (kz := 22) rfl (fun rg95 => ?_)
                        refine x_aload_n C 0 dX12_opens_98 rfl rfl ?_
                        refine x_getr C ok_Model 42 29 (d := 52) dX12_opens_99 (lt67 hn rfl) rfl (by decide) rfl q_4_10 rfl (kz := 29) rfl (lr_42_29 hLR) ?_
                        refine x_iload_n C 2 dX12_opens_102 rfl rfl ?_
                        refine x_iload_n C 3 dX12_opens_103 rfl rfl ?_
                        refine x_iadd C dX12_opens_104 ?_
                        refine x_aload_n C 0 dX12_opens_105 rfl rfl ?_
                        refine x_getr C ok_Model 42 6 (d := 44) dX12_opens_106 (lt67 hn rfl) rfl (by decide) rfl q_4_2 rfl (kz := 6) rfl (lr_42_6 hLR) ?_
                        refine x_iconst C dX12_opens_109 ?_
                        refine x_iald C 44 dX12_opens_110 (lt67 hn rfl) rfl (by refine ⟨?_, ?_⟩ <;> omega) (fun rg110 => ?_)
                        refine x_top (b := (V 44 0)) (by rw [hFV5.r]) ?_
                        refine x_iadd C dX12_opens_111 ?_
                        refine x_iald C 52 dX12_opens_112 (lt67 hn rfl) rfl (by refine ⟨?_, ?_⟩ <;> omega) (fun rg112 => ?_)
                        refine x_top (b := ((opM V t y).1 ((y + k) + V 44 0))) (by rw [hW5 _ (by omega) (by omega), u1_n (by omega)]) ?_
                        refine x_iadd C dX12_opens_113 ?_
                        refine x_istore C dX12_opens_114 (by decide) (lv' := [(0, .ref (aG G 42)), (1, .int (iI t)), (2, .int (iI y)), (3, .int (iI k)), (4, .int (iI ((V5 42 22) + ((opM V t y).1 ((y + k) + V 44 0)))))]) rfl ?_
                        refine x_aload_n C 0 dX12_opens_116 rfl rfl ?_
                        refine x_geti C ok_Model 42 22 dX12_opens_117 (lt67 hn rfl) rfl (by decide) rfl q_33_14 rfl (kz := 22) rfl (fun rg117 => ?_)
                        refine x_if_le C dX12_opens_120 (tgt := 149) (by decide) (by first | assumption | (constructor <;> omega)) (fun h120 => ?_) (fun h120 => ?_)
                        · skip
                          refine x_iinc C 3 dX12_opens_149 rfl (by decide) (lv' := [(0, .ref (aG G 42)), (1, .int (iI t)), (2, .int (iI y)), (3, .int (iI (k + 1))), (4, .int (iI ((V5 42 22) + ((opM V t y).1 ((y + k) + V 44 0)))))]) rfl ?_
                          refine x_goto C dX12_opens_152 (tgt := 60) (by decide) ?_
                          refine x_sub [0, 1, 2, 3] (lv' := [(0, .ref (aG G 42)), (1, .int (iI t)), (2, .int (iI y)), (3, .int (iI (k + 1)))]) rfl ?_
                          exact ih60 ((k + 1)) (V5) (by omega) (by first | exact (hFV5.w (Or.inl rfl)).w (Or.inr rfl) | exact hFV5 | exact hFV4) (by first | exact hSV4 | exact hSV5 | exact sumsR_k hSV5 (fun i h => by rw [u2_n (by decide), u2_n (by decide)]) (fun i h => by rw [u2_n (by decide), u2_n (by decide)])) (by rw [show k + 1 - 1 = k by omega]; first | exact op_y1 hW5 hk.1 (by omega) hbw h85 h120 h131 | exact op_n hk.1 hW5 (fun q => by have := q.2.2.1; omega) | exact op_n hk.1 hW5 (op_c hW5 (by omega) hbw h131) | exact op_n hk.1 hW4 (fun q => h85 q.2.1)) (by rw [show k + 1 - 1 = k by omega]; first | exact op_y2 hW5 hT5 hk.1 (by omega) hbw h85 h120 h131 | exact op_n2 hk.1 hT5 (fun q => by have := q.2.2.1; omega) | exact op_n2 hk.1 hT5 (op_c hW5 (by omega) hbw h131) | exact op_n2 hk.1 hT4 (fun q => h85 q.2.1)) (by omega)
                        · skip
                          refine x_iload C 4 dX12_opens_123 rfl ?_
                          refine x_aload_n C 0 dX12_opens_125 rfl rfl ?_
                          refine x_getr C ok_Model 42 29 (d := 52) dX12_opens_126 (lt67 hn rfl) rfl (by decide) rfl q_4_10 rfl (kz := 29) rfl (lr_42_29 hLR) ?_
                          refine x_iload_n C 2 dX12_opens_129 rfl rfl ?_
                          refine x_iald C 52 dX12_opens_130 (lt67 hn rfl) rfl (by refine ⟨?_, ?_⟩ <;> omega) (fun rg130 => ?_)
                          refine x_icmp_lt C dX12_opens_131 (tgt := 149) (by decide) (by first | assumption | (constructor <;> omega)) (by first | assumption | (constructor <;> omega)) (fun h131 => ?_) (fun h131 => ?_)
                          · skip
                            refine x_iinc C 3 dX12_opens_149 rfl (by decide) (lv' := [(0, .ref (aG G 42)), (1, .int (iI t)), (2, .int (iI y)), (3, .int (iI (k + 1))), (4, .int (iI ((V5 42 22) + ((opM V t y).1 ((y + k) + V 44 0)))))]) rfl ?_
                            refine x_goto C dX12_opens_152 (tgt := 60) (by decide) ?_
                            refine x_sub [0, 1, 2, 3] (lv' := [(0, .ref (aG G 42)), (1, .int (iI t)), (2, .int (iI y)), (3, .int (iI (k + 1)))]) rfl ?_
                            exact ih60 ((k + 1)) (V5) (by omega) (by first | exact (hFV5.w (Or.inl rfl)).w (Or.inr rfl) | exact hFV5 | exact hFV4) (by first | exact hSV4 | exact hSV5 | exact sumsR_k hSV5 (fun i h => by rw [u2_n (by decide), u2_n (by decide)]) (fun i h => by rw [u2_n (by decide), u2_n (by decide)])) (by rw [show k + 1 - 1 = k by omega]; first | exact op_y1 hW5 hk.1 (by omega) hbw h85 h120 h131 | exact op_n hk.1 hW5 (fun q => by have := q.2.2.1; omega) | exact op_n hk.1 hW5 (op_c hW5 (by omega) hbw h131) | exact op_n hk.1 hW4 (fun q => h85 q.2.1)) (by rw [show k + 1 - 1 = k by omega]; first | exact op_y2 hW5 hT5 hk.1 (by omega) hbw h85 h120 h131 | exact op_n2 hk.1 hT5 (fun q => by have := q.2.2.1; omega) | exact op_n2 hk.1 hT5 (op_c hW5 (by omega) hbw h131) | exact op_n2 hk.1 hT4 (fun q => h85 q.2.1)) (by omega)
                          · skip
                            refine x_aload_n C 0 dX12_opens_134 rfl rfl ?_
                            refine x_getr C ok_Model 42 29 (d := 52) dX12_opens_135 (lt67 hn rfl) rfl (by decide) rfl q_4_10 rfl (kz := 29) rfl (lr_42_29 hLR) ?_
                            refine x_iload_n C 2 dX12_opens_138 rfl rfl ?_
                            refine x_iload C 4 dX12_opens_139 rfl ?_
                            refine x_iast C 52 dX12_opens_141 (lt67 hn rfl) rfl (by refine ⟨?_, ?_⟩ <;> omega) (by first | assumption | (constructor <;> omega)) ?_
                            refine x_aload_n C 0 dX12_opens_142 rfl rfl ?_
                            refine x_getr C ok_Model 42 30 (d := 53) dX12_opens_143 (lt67 hn rfl) rfl (by decide) rfl q_4_11 rfl (kz := 30) rfl (lr_42_30 hLR) ?_
                            refine x_iload_n C 2 dX12_opens_146 rfl rfl ?_
                            refine x_iload_n C 3 dX12_opens_147 rfl rfl ?_
                            refine x_iast C 53 dX12_opens_148 (lt67 hn rfl) rfl (by refine ⟨?_, ?_⟩ <;> omega) (by first | assumption | (constructor <;> omega)) ?_
                            refine x_iinc C 3 dX12_opens_149 rfl (by decide) (lv' := [(0, .ref (aG G 42)), (1, .int (iI t)), (2, .int (iI y)), (3, .int (iI (k + 1))), (4, .int (iI ((V5 42 22) + ((opM V t y).1 ((y + k) + V 44 0)))))]) rfl ?_
                            refine x_goto C dX12_opens_152 (tgt := 60) (by decide) ?_
                            refine x_sub [0, 1, 2, 3] (lv' := [(0, .ref (aG G 42)), (1, .int (iI t)), (2, .int (iI y)), (3, .int (iI (k + 1)))]) rfl ?_
                            exact ih60 ((k + 1)) ((u2 (u2 V5 52 y ((V5 42 22) + ((opM V t y).1 ((y + k) + V 44 0)))) 53 y k)) (by omega) (by first | exact (hFV5.w (Or.inl rfl)).w (Or.inr rfl) | exact hFV5 | exact hFV4) (by first | exact hSV4 | exact hSV5 | exact sumsR_k hSV5 (fun i h => by rw [u2_n (by decide), u2_n (by decide)]) (fun i h => by rw [u2_n (by decide), u2_n (by decide)])) (by rw [show k + 1 - 1 = k by omega]; first | exact op_y1 hW5 hk.1 (by omega) hbw h85 h120 h131 | exact op_n hk.1 hW5 (fun q => by have := q.2.2.1; omega) | exact op_n hk.1 hW5 (op_c hW5 (by omega) hbw h131) | exact op_n hk.1 hW4 (fun q => h85 q.2.1)) (by rw [show k + 1 - 1 = k by omega]; first | exact op_y2 hW5 hT5 hk.1 (by omega) hbw h85 h120 h131 | exact op_n2 hk.1 hT5 (fun q => by have := q.2.2.1; omega) | exact op_n2 hk.1 hT5 (op_c hW5 (by omega) hbw h131) | exact op_n2 hk.1 hT4 (fun q => h85 q.2.1)) (by omega)
              exact lp_60 (((5 : Int) - 1).toNat + 1) (1) ((u2 (u2 V3 52 y (V3 52 (y + 1))) 53 y 0)) (by omega) (by exact (hFV3.w (Or.inl rfl)).w (Or.inr rfl)) (by exact sumsR_k hS3 (fun i h => by rw [u2_n (by decide), u2_n (by decide)]) (fun i h => by rw [u2_n (by decide), u2_n (by decide)])) (by exact op_i1 hW (by omega)) (by exact op_i2 hT) (by omega)
        exact lp_33 (((1 : Int) + 11).toNat + 1) (11) (V2) (by omega) (by exact hFV2) (by exact hS2) (by exact fun z a b => (hz z (by omega) (by omega)).trans opM_0.symm) (by exact fun z a b => by omega) (by omega)
      · skip
        refine x_aload_n C 0 dX12_opens_17 rfl rfl ?_
        refine x_getr C ok_Model 42 29 (d := 52) dX12_opens_18 (lt67 hn rfl) rfl (by decide) rfl q_4_10 rfl (kz := 29) rfl (lr_42_29 hLR) ?_
        refine x_iload_n C 2 dX12_opens_21 rfl rfl ?_
        refine x_iconst C dX12_opens_22 ?_
        refine x_iast C 52 dX12_opens_23 (lt67 hn rfl) rfl (by refine ⟨?_, ?_⟩ <;> omega) (by first | assumption | (constructor <;> omega)) ?_
        refine x_iinc C 2 dX12_opens_24 rfl (by decide) (lv' := [(0, .ref (aG G 42)), (1, .int (iI t)), (2, .int (iI (j + 1)))]) rfl ?_
        refine x_goto C dX12_opens_27 (tgt := 8) (by decide) ?_
        exact ih8 ((j + 1)) ((u2 V2 52 j 0)) (by omega) (by exact hFV2.w (Or.inl rfl)) (by exact sumsR_k hS2 (fun i h => by rw [u2_n (by decide)]) (fun i h => by rw [u2_n (by decide)])) (by exact fun z a b => by (rw [u2_s]; by_cases e : z = j; (rw [e, u1_s]); (rw [u1_n e]; exact hz z a (by omega)))) (by omega)
  exact lp_8 (((19 : Int) - 12).toNat + 1) (12) (Va) (by omega) (by exact hFVa) (by exact hSVa) (by exact fun z a b => by omega) (by omega)
