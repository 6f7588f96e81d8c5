theorem li_f {V V3 : Nat → Int → Int} {a b c d e : Int} (h : FrL V V3) : FrL V (u2 (u2 (u2 V3 54 a b) 55 c d) 42 31 e) := fun q z q1 q2 q3 q4 q5 q6 q7 => by
  rw [u2_at, if_neg (fun x => q7 ⟨x.1, Or.inr x.2⟩), u2_n q6, u2_n q5]; exact h q z q1 q2 q3 q4 q5 q6 q7
theorem li_n {l : List Int} {T : Int → Int} {kf y : Int} {V : Nat → Int → Int} {g : Int → Int} (h : ∃ p : List Int, l = p ++ bl T kf y ∧ V 42 31 = p.length ∧ ∀ i : Int, 0 ≤ i → i < p.length → V 54 i = lat p i ∧ V 55 i = g (lat p i)) (hk : 0 ≤ kf) (hy : y < 12) (ht : ¬ 0 < T y) : ∃ p : List Int, l = p ++ bl T kf (y + 1) ∧ V 42 31 = p.length ∧ ∀ i : Int, 0 ≤ i → i < p.length → V 54 i = lat p i ∧ V 55 i = g (lat p i) := by
  rw [bl_n hk hy ht] at h; exact h
theorem li_e {l : List Int} {T : Int → Int} {kf y : Int} {V : Nat → Int → Int} {g : Int → Int} (h : ∃ p : List Int, l = p ++ bl T kf y ∧ V 42 31 = p.length ∧ ∀ i : Int, 0 ≤ i → i < p.length → V 54 i = lat p i ∧ V 55 i = g (lat p i)) (hy : 12 ≤ y) : V 42 31 = l.length ∧ ∀ i : Int, 0 ≤ i → i < l.length → V 54 i = lat l i ∧ V 55 i = g (lat l i) := by
  obtain ⟨p, h1, h2⟩ := h
  rw [bl_e hy, List.append_nil] at h1
  rw [h1]; exact h2
theorem li_y {l p : List Int} {T : Int → Int} {kf y G : Int} {V3 : Nat → Int → Int} {g : Int → Int} (h1 : l = p ++ y :: bl T kf (y + T y + kf)) (h2 : V3 42 31 = p.length) (h3 : ∀ i : Int, 0 ≤ i → i < p.length → V3 54 i = lat p i ∧ V3 55 i = g (lat p i)) (hg : G = g y) {z : Int} (hz : z = y + T y + kf) {e : Int} (he : e = V3 42 31 + 1) : ∃ p : List Int, l = p ++ bl T kf z ∧ u2 (u2 (u2 V3 54 (V3 42 31) y) 55 (V3 42 31) G) 42 31 e 42 31 = p.length ∧ ∀ i : Int, 0 ≤ i → i < p.length → u2 (u2 (u2 V3 54 (V3 42 31) y) 55 (V3 42 31) G) 42 31 e 54 i = lat p i ∧ u2 (u2 (u2 V3 54 (V3 42 31) y) 55 (V3 42 31) G) 42 31 e 55 i = g (lat p i) := by
  subst hz
  refine ⟨p ++ [y], by rw [h1, List.append_assoc]; rfl, ?_, fun i a b => ?_⟩
  · rw [u2_s, u1_s, he, h2, List.length_append]; simp
  · rw [List.length_append] at b
    simp only [List.length_cons, List.length_nil] at b
    rw [u2_n (by decide), u2_n (by decide), u2_s, u2_n (by decide), u2_s, u2_n (by decide)]
    by_cases q : i = p.length
    · rw [q, h2, u1_s, u1_s, lat_mid rfl, hg]; exact ⟨rfl, rfl⟩
    · rw [u1_n (by omega), u1_n (by omega), lat_app a (by omega)]
      exact h3 i a (by omega)

set_option maxRecDepth 100000 in
set_option maxHeartbeats 4000000 in
theorem m_X12_lists (G : GS) (n : Nat) (V : Nat → Int → Int) (R : Nat → Int → Option Nat) (t : Int) (hn : 67 ≤ n) (hLR : LR R) (hl : LogOk V) (hru : RulesOk (V 44)) (ht : 0 ≤ t ∧ t ≤ 3) (hL1 : 1 ≤ V 42 2) : Cn G yX12_lists cX12_lists 3 none (rmk 6 0 0 155) [.ref (aG G 42), .int (iI t)] n V R 0 0 (fun vv uu => ∃ (V1 : Nat → Int → Int), vv = none ∧ uu = (n, V1, R) ∧ (FrL V V1) ∧ (sumsR V1 (FM V) (V 42 4) (t) (12 * V 42 2)) ∧ (∀ z, 0 ≤ z → z ≤ 11 → V1 53 z = (opM V t (-1)).2 z) ∧ (V1 42 31 = (opLM V t).length ∧ ∀ i : Int, 0 ≤ i → i < (opLM V t).length → V1 54 i = lat (opLM V t) i ∧ V1 55 i = opGM V t (lat (opLM V t) i))) := by
  refine Cn.of (by decide) (Nat.le_of_ble_eq_true rfl) (fun K C hct => ?_)
  show Xw K G 0 0 _ n V R 0 [(0, .ref (aG G 42)), (1, .int (iI t))] []
  obtain ⟨h1, h2, h3, h5, h4, hF⟩ := id hl
  obtain ⟨hkf, hsv, hpr, hth⟩ := id hru
  have hob := opM_b (V := V) (g := t) (y := -1) (by decide)
  refine x_aload_n C 0 dX12_lists_0 rfl rfl ?_
  refine x_iload_n C 1 dX12_lists_1 rfl rfl ?_
  refine x_runU (r_callV C ok_Model 42 (lt67 hn rfl) rfl (ce_X12_opens) (m_X12_opens G n V R (t) hn hLR (by first | assumption | omega | decide) (by first | assumption | omega | decide) (by first | assumption | omega | decide) (by first | assumption | omega | decide)) rfl dX12_lists_2 q_37_22 q_37_23 q_38_0 rfl rfl ⟨Nat.le_of_ble_eq_true rfl, Nat.le_of_ble_eq_true rfl⟩ ⟨rfl, rfl⟩ ⟨Nat.le_of_ble_eq_true rfl, Nat.le_of_ble_eq_true rfl⟩ (Nat.le_of_ble_eq_true rfl)) (fun v2 u2 hp2 => ?_)
  obtain ⟨Va, rfl, rfl, hFVa0, hSVa, hTVa⟩ := hp2
  show Xw K G 0 0 _ n Va R 5 [(0, .ref (aG G 42)), (1, .int (iI t))] [.int (iI ((opM V t (-1)).1 0))]
  refine x_pop C dX12_lists_5 rfl ?_
  refine x_aload_n C 0 dX12_lists_6 rfl rfl ?_
  refine x_iconst C dX12_lists_7 ?_
  refine x_puti C ok_Model 42 31 dX12_lists_8 (lt67 hn rfl) rfl (by decide) rfl q_37_17 rfl rfl (Or.inl rfl) (by first | assumption | (constructor <;> omega)) (kz := 31) rfl ?_
  refine x_iconst C dX12_lists_11 ?_
  refine x_istore_n C dX12_lists_12 rfl (by decide) (lv' := [(0, .ref (aG G 42)), (1, .int (iI t)), (2, .int (iI 0))]) rfl ?_
  have lp_13 : ∀ (fuel : Nat) (y : Int) (V2 : Nat → Int → Int), (0 ≤ y ∧ y ≤ 18) → (FrL V V2) → (sumsR V2 (FM V) (V 42 4) (t) (12 * V 42 2)) → (∀ z, 0 ≤ z → z ≤ 11 → V2 53 z = (opM V t (-1)).2 z) → (∃ p : List Int, opLM V t = p ++ bl (opM V t (-1)).2 (V 44 0) y ∧ V2 42 31 = p.length ∧ ∀ i : Int, 0 ≤ i → i < p.length → V2 54 i = lat p i ∧ V2 55 i = opGM V t (lat p i)) → ((30 : Int) - y) < (fuel : Int) → Xw K G 0 0 (EndQ K G 0 0 (fun vv uu => ∃ (V1 : Nat → Int → Int), vv = none ∧ uu = (n, V1, R) ∧ (FrL V V1) ∧ (sumsR V1 (FM V) (V 42 4) (t) (12 * V 42 2)) ∧ (∀ z, 0 ≤ z → z ≤ 11 → V1 53 z = (opM V t (-1)).2 z) ∧ (V1 42 31 = (opLM V t).length ∧ ∀ i : Int, 0 ≤ i → i < (opLM V t).length → V1 54 i = lat (opLM V t) i ∧ V1 55 i = opGM V t (lat (opLM V t) i)))) n V2 R 13 [(0, .ref (aG G 42)), (1, .int (iI t)), (2, .int (iI y))] [] := by
    intro fuel13
    induction fuel13 with
    | zero => intro y V2 hy hFV2 hSV2 hT hP hfu13; exfalso; omega
    | succ fuel13 ih13 =>
      intro y V2 hy hFV2 hSV2 hT hP hfu13
      refine x_iload_n C 2 dX12_lists_13 rfl rfl ?_
      refine x_bipush C dX12_lists_14 (w := 12) (by decide) ?_
      refine x_icmp_ge C dX12_lists_16 (tgt := 97) (by decide) (by first | assumption | (constructor <;> omega)) (by first | assumption | (constructor <;> omega)) (fun h16 => ?_) (fun h16 => ?_)
      · skip
        refine x_vret C dX12_lists_97 ⟨_, rfl, rfl, ?_, ?_, ?_, ?_⟩
        · exact hFV2
        · exact hSV2
        · exact hT
        · exact li_e hP (by omega)
      · skip
        obtain ⟨hTy1, hTy2, hTy3⟩ := hob.2.1 y
        refine x_aload_n C 0 dX12_lists_19 rfl rfl ?_
        refine x_getr C ok_Model 42 30 (d := 53) dX12_lists_20 (lt67 hn rfl) rfl (by decide) rfl q_4_11 rfl (kz := 30) rfl (lr_42_30 hLR) ?_
        refine x_iload_n C 2 dX12_lists_23 rfl rfl ?_
        refine x_iald C 53 dX12_lists_24 (lt67 hn rfl) rfl (by refine ⟨?_, ?_⟩ <;> omega) (fun rg24 => ?_)
        refine x_top (b := ((opM V t (-1)).2 y)) (by exact hT y (by omega) (by omega)) ?_
        refine x_if_le C dX12_lists_25 (tgt := 91) (by decide) (by first | assumption | (constructor <;> omega)) (fun h25 => ?_) (fun h25 => ?_)
        · skip
          refine x_iinc C 2 dX12_lists_91 rfl (by decide) (lv' := [(0, .ref (aG G 42)), (1, .int (iI t)), (2, .int (iI (y + 1)))]) rfl ?_
          refine x_goto C dX12_lists_94 (tgt := 13) (by decide) ?_
          exact ih13 ((y + 1)) (V2) (by omega) (by first | exact hFV2 | exact li_f hFV3) (by first | exact hSV2 | exact sumsR_k hSV3 (fun i h => by simp [u2_at]) (fun i h => by simp [u2_at])) (by first | exact hT | exact fun z a b => by (simp only [u2_at]; simp; rw [hffV3 53 z (by omega)]; exact hT z a b)) (by first | exact li_n hP (by omega) (by omega) (by omega) | exact li_y hp1 hp5 (fun i a b => by rw [hffV3 54 i (by omega), hffV3 55 i (by omega)]; exact hp3 i a b) hgr (by omega) rfl) (by omega)
        · skip
          refine x_aload_n C 0 dX12_lists_28 rfl rfl ?_
          refine x_iload_n C 2 dX12_lists_29 rfl rfl ?_
          refine x_aload_n C 0 dX12_lists_30 rfl rfl ?_
          refine x_getr C ok_Model 42 30 (d := 53) dX12_lists_31 (lt67 hn rfl) rfl (by decide) rfl q_4_11 rfl (kz := 30) rfl (lr_42_30 hLR) ?_
          refine x_iload_n C 2 dX12_lists_34 rfl rfl ?_
          refine x_iald C 53 dX12_lists_35 (lt67 hn rfl) rfl (by refine ⟨?_, ?_⟩ <;> omega) (fun rg35 => ?_)
          refine x_top (b := ((opM V t (-1)).2 y)) (by exact hT y (by omega) (by omega)) ?_
          refine x_runU (r_callV C ok_Model 42 (lt67 hn rfl) rfl (ce_X12_finds) (m_X12_finds G n V2 R (FM V) (V 42 4) (t) (y) ((opM V t (-1)).2 y) hn hLR (by first | assumption | omega | decide) (by first | assumption | omega | decide) (by rw [hFV2.log.1 0 (by decide) (by decide)]; exact h1) (by rw [hFV2.log.1 1 (by decide) (by decide)]; exact h2) (by rw [hFV2.log.1 2 (by decide) (by decide)]; omega) (by rw [hFV2.log.1 2 (by decide) (by decide)]; exact hSV2) (by rw [hFV2.r]; exact hpr) (by rw [hFV2.r]; exact hsv)) rfl dX12_lists_36 q_34_3 q_34_4 q_34_5 rfl rfl ⟨Nat.le_of_ble_eq_true rfl, Nat.le_of_ble_eq_true rfl⟩ ⟨rfl, rfl⟩ ⟨Nat.le_of_ble_eq_true rfl, Nat.le_of_ble_eq_true rfl⟩ (Nat.le_of_ble_eq_true rfl)) (fun v36 u36 hp36 => ?_)
          obtain ⟨V3, rfl, rfl, hffV3, hbbV3⟩ := hp36
          show Xw K G 0 0 _ n V3 R 39 [(0, .ref (aG G 42)), (1, .int (iI t)), (2, .int (iI y))] []
          have hMBV3 : MB V V3 (t) (y) ((opM V t (-1)).2 y) := MB_of hFV2.log hFV2.r hbbV3
          have hFV3 : FrL V V3 := fun q z a b c d c2 d2 e => by rw [hffV3 q z (fun x => e ⟨x.1, Or.inl x.2⟩)]; exact hFV2 q z a b c d c2 d2 e
          have hSV3 : sumsR V3 (FM V) (V 42 4) (t) (12 * V 42 2) := sumsR_k hSV2 (fun i _ => hffV3 50 i (by omega)) (fun i _ => hffV3 51 i (by omega))
          obtain ⟨hbw, hbw1, hbw2⟩ := hMBV3.c hru ⟨by omega, by omega⟩ (by omega)
          have hbp := hob.2.2.1 y h25
          have hgr := hMBV3.g (by omega)
          obtain ⟨p, hp1, hp2, hp3⟩ := hP
          have hlen := opLM_len (V := V) (g := t) (by omega)
          have hp1l := congrArg List.length hp1
          rw [bl_y (by omega) (by omega) h25] at hp1 hp1l
          rw [List.length_append, List.length_cons] at hp1l
          have hp4 : 0 ≤ V3 42 31 ∧ V3 42 31 ≤ 11 := by rw [hffV3 42 31 (by omega), hp2]; omega
          have hp5 : V3 42 31 = p.length := by rw [hffV3 42 31 (by omega), hp2]
          refine x_aload_n C 0 dX12_lists_39 rfl rfl ?_
          refine x_getr C ok_Model 42 32 (d := 54) dX12_lists_40 (lt67 hn rfl) rfl (by decide) rfl q_4_12 rfl (kz := 32) rfl (lr_42_32 hLR) ?_
          refine x_aload_n C 0 dX12_lists_43 rfl rfl ?_
          refine x_geti C ok_Model 42 31 dX12_lists_44 (lt67 hn rfl) rfl (by decide) rfl q_37_17 rfl (kz := 31) rfl (fun rg44 => ?_)
          refine x_iload_n C 2 dX12_lists_47 rfl rfl ?_
          refine x_iast C 54 dX12_lists_48 (lt67 hn rfl) rfl (by refine ⟨?_, ?_⟩ <;> omega) (by first | assumption | (constructor <;> omega)) ?_
          refine x_aload_n C 0 dX12_lists_49 rfl rfl ?_
          refine x_getr C ok_Model 42 33 (d := 55) dX12_lists_50 (lt67 hn rfl) rfl (by decide) rfl q_4_13 rfl (kz := 33) rfl (lr_42_33 hLR) ?_
          refine x_aload_n C 0 dX12_lists_53 rfl rfl ?_
          refine x_geti C ok_Model 42 31 dX12_lists_54 (lt67 hn rfl) rfl (by decide) rfl q_37_17 rfl (kz := 31) rfl (fun rg54 => ?_)
          refine x_top (b := (V3 42 31)) (by first | rfl | (simp only [u2_at]; simp) | (simp only [u2_at]; first | (rw [if_neg (by omega)]) | omega)) ?_
          refine x_aload_n C 0 dX12_lists_57 rfl rfl ?_
          refine x_geti C ok_Model 42 28 dX12_lists_58 (lt67 hn rfl) rfl (by decide) rfl q_33_19 rfl (kz := 28) rfl (fun rg58 => ?_)
          refine x_top (b := (V3 42 28)) (by first | rfl | (simp only [u2_at]; simp) | (simp only [u2_at]; first | (rw [if_neg (by omega)]) | omega)) ?_
          refine x_iast C 55 dX12_lists_61 (lt67 hn rfl) rfl (by refine ⟨?_, ?_⟩ <;> omega) (by first | assumption | (constructor <;> omega)) ?_
          refine x_aload_n C 0 dX12_lists_62 rfl rfl ?_
          refine x_dup C dX12_lists_63 rfl ?_
          refine x_geti C ok_Model 42 31 dX12_lists_64 (lt67 hn rfl) rfl (by decide) rfl q_37_17 rfl (kz := 31) rfl (fun rg64 => ?_)
          refine x_top (b := (V3 42 31)) (by first | rfl | (simp only [u2_at]; simp) | (simp only [u2_at]; first | (rw [if_neg (by omega)]) | omega)) ?_
          refine x_iconst C dX12_lists_67 ?_
          refine x_iadd C dX12_lists_68 ?_
          refine x_puti C ok_Model 42 31 dX12_lists_69 (lt67 hn rfl) rfl (by decide) rfl q_37_17 rfl rfl (Or.inl rfl) (by first | assumption | (constructor <;> omega)) (kz := 31) rfl ?_
          refine x_iload_n C 2 dX12_lists_72 rfl rfl ?_
          refine x_aload_n C 0 dX12_lists_73 rfl rfl ?_
          refine x_getr C ok_Model 42 30 (d := 53) dX12_lists_74 (lt67 hn rfl) rfl (by decide) rfl q_4_11 rfl (kz := 30) rfl (lr_42_30 hLR) ?_
          refine x_iload_n C 2 dX12_lists_77 rfl rfl ?_
          refine x_iald C 53 dX12_lists_78 (lt67 hn rfl) rfl (by refine ⟨?_, ?_⟩ <;> omega) (fun rg78 => ?_)
          refine x_top (b := (V3 53 y)) (by first | rfl | (simp only [u2_at]; simp) | (simp only [u2_at]; first | (rw [if_neg (by omega)]) | omega)) ?_
          refine x_top (b := ((opM V t (-1)).2 y)) (by rw [hffV3 53 y (by omega)]; exact hT y (by omega) (by omega)) ?_
          refine x_aload_n C 0 dX12_lists_79 rfl rfl ?_
          refine x_getr C ok_Model 42 6 (d := 44) dX12_lists_80 (lt67 hn rfl) rfl (by decide) rfl q_4_2 rfl (kz := 6) rfl (lr_42_6 hLR) ?_
          refine x_iconst C dX12_lists_83 ?_
          refine x_iald C 44 dX12_lists_84 (lt67 hn rfl) rfl (by refine ⟨?_, ?_⟩ <;> omega) (fun rg84 => ?_)
          refine x_top (b := (V3 44 0)) (by first | rfl | (simp only [u2_at]; simp) | (simp only [u2_at]; first | (rw [if_neg (by omega)]) | omega)) ?_
          refine x_top (b := (V 44 0)) (by rw [hFV3.r]) ?_
          refine x_iadd C dX12_lists_85 ?_
          refine x_iadd C dX12_lists_86 ?_
          refine x_istore_n C dX12_lists_87 rfl (by decide) (lv' := [(0, .ref (aG G 42)), (1, .int (iI t)), (2, .int (iI (y + (((opM V t (-1)).2 y) + (V 44 0)))))]) rfl ?_
          refine x_goto C dX12_lists_88 (tgt := 13) (by decide) ?_
          exact ih13 ((y + (((opM V t (-1)).2 y) + (V 44 0)))) ((u2 (u2 (u2 V3 54 (V3 42 31) y) 55 (V3 42 31) (V3 42 28)) 42 31 ((V3 42 31) + 1))) (by omega) (by first | exact hFV2 | exact li_f hFV3) (by first | exact hSV2 | exact sumsR_k hSV3 (fun i h => by simp [u2_at]) (fun i h => by simp [u2_at])) (by first | exact hT | exact fun z a b => by (simp only [u2_at]; simp; rw [hffV3 53 z (by omega)]; exact hT z a b)) (by first | exact li_n hP (by omega) (by omega) (by omega) | exact li_y hp1 hp5 (fun i a b => by rw [hffV3 54 i (by omega), hffV3 55 i (by omega)]; exact hp3 i a b) hgr (by omega) rfl) (by omega)
  exact lp_13 (((30 : Int) - 0).toNat + 1) (0) ((u2 Va 42 31 0)) (by omega) (by exact hFVa0.L.tr (fun q z _ _ _ _ _ _ e => by rw [u2_at, if_neg (fun x => e ⟨x.1, Or.inr x.2⟩)])) (by exact sumsR_k hSVa (fun i h => by rw [u2_n (by decide)]) (fun i h => by rw [u2_n (by decide)])) (by exact fun z a b => by rw [u2_n (by decide)]; exact hTVa z a b) (by exact ⟨[], rfl, rfl, fun i a b => absurd b (by simp; omega)⟩) (by omega)
set_option maxRecDepth 100000 in
set_option maxHeartbeats 4000000 in
theorem m_X12_opening (G : GS) (n : Nat) (V : Nat → Int → Int) (R : Nat → Int → Option Nat) (k : Int) (w : Int) (hn : 67 ≤ n) (hLR : LR R) (gk : Rg k) (gw : Rg w) (hl : LogOk V) (hru : RulesOk (V 44)) : Cn G yX12_opening cX12_opening 3 (some .int) (rmk 7 0 0 177) [.ref (aG G 42), .int (iI k), .int (iI w)] n V R 0 0 (fun vv uu => ∃ (r : Int), ∃ (V1 : Nat → Int → Int), vv = some (.int (iI r)) ∧ uu = (n, V1, R) ∧ (FrL V V1) ∧ ((V 42 2 = 0 ∧ r = -3) ∨ (V 42 2 ≠ 0 ∧ ¬ (0 ≤ w ∧ w ≤ 2) ∧ r = -2) ∨ (V 42 2 ≠ 0 ∧ (0 ≤ w ∧ w ≤ 2) ∧ k = -1 ∧ r = (opLM V (V 42 3)).length) ∨ (V 42 2 ≠ 0 ∧ (0 ≤ w ∧ w ≤ 2) ∧ k ≠ -1 ∧ ¬ (0 ≤ k ∧ k < (opLM V (V 42 3)).length) ∧ r = -12) ∨ (V 42 2 ≠ 0 ∧ (0 ≤ k ∧ k < (opLM V (V 42 3)).length) ∧ ((w = 0 ∧ r = lat (opLM V (V 42 3)) k) ∨ (w = 1 ∧ r = (opM V (V 42 3) (-1)).2 (lat (opLM V (V 42 3)) k)) ∨ (w = 2 ∧ r = opGM V (V 42 3) (lat (opLM V (V 42 3)) k)))))) := by
  refine Cn.of (by decide) (Nat.le_of_ble_eq_true rfl) (fun K C hct => ?_)
  show Xw K G 0 0 _ n V R 0 [(0, .ref (aG G 42)), (1, .int (iI k)), (2, .int (iI w))] []
  obtain ⟨h1, h2, h3, h5, h4, hF⟩ := id hl
  obtain ⟨hkf, hsv, hpr, hth⟩ := id hru
  refine x_aload_n C 0 dX12_opening_0 rfl rfl ?_
  refine x_geti C ok_Model 42 2 dX12_opening_1 (lt67 hn rfl) rfl (by decide) rfl q_6_12 rfl (kz := 2) rfl (fun rg1 => ?_)
  refine x_if_ne C dX12_opening_4 (tgt := 10) (by decide) (by first | assumption | (constructor <;> omega)) (fun h4 => ?_) (fun h4 => ?_)
  · skip
    refine x_iload_n C 2 dX12_opening_10 rfl rfl ?_
    refine x_i2l C dX12_opening_11 (by first | assumption | (constructor <;> omega)) ?_
    refine x_lconst C dX12_opening_12 (w := 0) (by decide) ?_
    refine x_ldc2 C dX12_opening_13 q_6_6 (w := 2) (by decide) ?_
    refine x_runU (r_callS C (ce_X12_in) (m_X12_in G n V R (w) (0) (2) (by first | assumption | omega | decide) (by first | assumption | omega | decide) (by first | assumption | omega | decide)) dX12_opening_16 q_6_15 q_6_16 rfl rfl ⟨Nat.le_of_ble_eq_true rfl, Nat.le_of_ble_eq_true rfl⟩ ⟨rfl, rfl⟩ ⟨Nat.le_of_ble_eq_true rfl, Nat.le_of_ble_eq_true rfl⟩ (Nat.le_of_ble_eq_true rfl)) (fun v16 u16 hp16 => ?_)
    obtain ⟨rfl, rfl⟩ := hp16
    show Xw K G 0 0 _ n V R 19 [(0, .ref (aG G 42)), (1, .int (iI k)), (2, .int (iI w))] [.int (iI (bI (0 ≤ w ∧ w ≤ 2)))]
    refine x_ifne_b C dX12_opening_19 (tgt := 25) (by decide) (fun h19 => ?_) (fun h19 => ?_)
    · skip
      refine x_aload_n C 0 dX12_opening_25 rfl rfl ?_
      refine x_aload_n C 0 dX12_opening_26 rfl rfl ?_
      refine x_geti C ok_Model 42 3 dX12_opening_27 (lt67 hn rfl) rfl (by decide) rfl q_6_13 rfl (kz := 3) rfl (fun rg27 => ?_)
      refine x_runU (r_callV C ok_Model 42 (lt67 hn rfl) rfl (ce_X12_lists) (m_X12_lists G n V R (V 42 3) hn hLR (by first | assumption | omega | decide) (by first | assumption | omega | decide) (by first | assumption | omega | decide) (by first | assumption | omega | decide)) rfl dX12_opening_30 q_37_18 q_37_19 q_37_20 rfl rfl ⟨Nat.le_of_ble_eq_true rfl, Nat.le_of_ble_eq_true rfl⟩ ⟨rfl, rfl⟩ ⟨Nat.le_of_ble_eq_true rfl, Nat.le_of_ble_eq_true rfl⟩ (Nat.le_of_ble_eq_true rfl)) (fun v30 u30 hp30 => ?_)
      obtain ⟨V3, rfl, rfl, hFo, hSo, hTo, hLo⟩ := hp30
      show Xw K G 0 0 _ n V3 R 33 [(0, .ref (aG G 42)), (1, .int (iI k)), (2, .int (iI w))] []
      have hlen := opLM_len (V := V) (g := V 42 3) (by omega)
      have hl31 := hLo.1
      refine x_iload_n C 1 dX12_opening_33 rfl rfl ?_
      refine x_iconst C dX12_opening_34 ?_
      refine x_icmp_ne C dX12_opening_35 (tgt := 43) (by decide) (by first | assumption | (constructor <;> omega)) (by first | assumption | (constructor <;> omega)) (fun h35 => ?_) (fun h35 => ?_)
      · skip
        refine x_iload_n C 1 dX12_opening_43 rfl rfl ?_
        refine x_i2l C dX12_opening_44 (by first | assumption | (constructor <;> omega)) ?_
        refine x_lconst C dX12_opening_45 (w := 0) (by decide) ?_
        refine x_aload_n C 0 dX12_opening_46 rfl rfl ?_
        refine x_geti C ok_Model 42 31 dX12_opening_47 (lt67 hn rfl) rfl (by decide) rfl q_37_17 rfl (kz := 31) rfl (fun rg47 => ?_)
        refine x_iconst C dX12_opening_50 ?_
        refine x_isub C dX12_opening_51 ?_
        refine x_i2l C dX12_opening_52 (by first | assumption | (constructor <;> omega)) ?_
        refine x_runU (r_callS C (ce_X12_in) (m_X12_in G n V3 R (k) (0) ((V3 42 31) - 1) (by first | assumption | omega | decide) (by first | assumption | omega | decide) (by first | assumption | omega | decide)) dX12_opening_53 q_6_15 q_6_16 rfl rfl ⟨Nat.le_of_ble_eq_true rfl, Nat.le_of_ble_eq_true rfl⟩ ⟨rfl, rfl⟩ ⟨Nat.le_of_ble_eq_true rfl, Nat.le_of_ble_eq_true rfl⟩ (Nat.le_of_ble_eq_true rfl)) (fun v53 u53 hp53 => ?_)
        obtain ⟨rfl, rfl⟩ := hp53
        show Xw K G 0 0 _ n V3 R 56 [(0, .ref (aG G 42)), (1, .int (iI k)), (2, .int (iI w))] [.int (iI (bI (0 ≤ k ∧ k ≤ ((V3 42 31) - 1))))]
        refine x_ifne_b C dX12_opening_56 (tgt := 62) (by decide) (fun h56 => ?_) (fun h56 => ?_)
        · skip
          obtain ⟨hl1, hl2⟩ := hLo.2 k (by omega) (by omega)
          have hlm := opLM_mem (V := V) (g := V 42 3) (by omega) (lat_mem (l := opLM V (V 42 3)) (i := k) (by omega) (by omega))
          have hl3 := hTo (lat (opLM V (V 42 3)) k) (by omega) (by omega)
          refine x_iload_n C 2 dX12_opening_62 rfl rfl ?_
          refine x_if_ne C dX12_opening_63 (tgt := 75) (by decide) (by first | assumption | (constructor <;> omega)) (fun h63 => ?_) (fun h63 => ?_)
          · skip
            refine x_iload_n C 2 dX12_opening_75 rfl rfl ?_
            refine x_iconst C dX12_opening_76 ?_
            refine x_icmp_ne C dX12_opening_77 (tgt := 94) (by decide) (by first | assumption | (constructor <;> omega)) (by first | assumption | (constructor <;> omega)) (fun h77 => ?_) (fun h77 => ?_)
            · skip
              refine x_aload_n C 0 dX12_opening_94 rfl rfl ?_
              refine x_getr C ok_Model 42 33 (d := 55) dX12_opening_95 (lt67 hn rfl) rfl (by decide) rfl q_4_13 rfl (kz := 33) rfl (lr_42_33 hLR) ?_
              refine x_iload_n C 1 dX12_opening_98 rfl rfl ?_
              refine x_iald C 55 dX12_opening_99 (lt67 hn rfl) rfl (by refine ⟨?_, ?_⟩ <;> omega) (fun rg99 => ?_)
              refine x_top (b := (opGM V (V 42 3) (lat (opLM V (V 42 3)) k))) (by exact hl2) ?_
              refine x_iret C dX12_opening_100 ⟨_, _, rfl, rfl, ?_, ?_⟩
              · exact hFo
              · first | exact Or.inr (Or.inr (Or.inr (Or.inr ⟨by omega, by omega, Or.inl ⟨by omega, rfl⟩⟩))) | exact Or.inr (Or.inr (Or.inr (Or.inr ⟨by omega, by omega, Or.inr (Or.inl ⟨by omega, rfl⟩)⟩))) | exact Or.inr (Or.inr (Or.inr (Or.inr ⟨by omega, by omega, Or.inr (Or.inr ⟨by omega, rfl⟩)⟩)))
            · skip
              refine x_aload_n C 0 dX12_opening_80 rfl rfl ?_
              refine x_getr C ok_Model 42 30 (d := 53) dX12_opening_81 (lt67 hn rfl) rfl (by decide) rfl q_4_11 rfl (kz := 30) rfl (lr_42_30 hLR) ?_
              refine x_aload_n C 0 dX12_opening_84 rfl rfl ?_
              refine x_getr C ok_Model 42 32 (d := 54) dX12_opening_85 (lt67 hn rfl) rfl (by decide) rfl q_4_12 rfl (kz := 32) rfl (lr_42_32 hLR) ?_
              refine x_iload_n C 1 dX12_opening_88 rfl rfl ?_
              refine x_iald C 54 dX12_opening_89 (lt67 hn rfl) rfl (by refine ⟨?_, ?_⟩ <;> omega) (fun rg89 => ?_)
              refine x_top (b := (lat (opLM V (V 42 3)) k)) (by exact hl1) ?_
              refine x_iald C 53 dX12_opening_90 (lt67 hn rfl) rfl (by refine ⟨?_, ?_⟩ <;> omega) (fun rg90 => ?_)
              refine x_top (b := ((opM V (V 42 3) (-1)).2 (lat (opLM V (V 42 3)) k))) (by exact hl3) ?_
              refine x_goto C dX12_opening_91 (tgt := 100) (by decide) ?_
              refine x_iret C dX12_opening_100 ⟨_, _, rfl, rfl, ?_, ?_⟩
              · exact hFo
              · first | exact Or.inr (Or.inr (Or.inr (Or.inr ⟨by omega, by omega, Or.inl ⟨by omega, rfl⟩⟩))) | exact Or.inr (Or.inr (Or.inr (Or.inr ⟨by omega, by omega, Or.inr (Or.inl ⟨by omega, rfl⟩)⟩))) | exact Or.inr (Or.inr (Or.inr (Or.inr ⟨by omega, by omega, Or.inr (Or.inr ⟨by omega, rfl⟩)⟩)))
          · skip
            refine x_aload_n C 0 dX12_opening_66 rfl rfl ?_
            refine x_getr C ok_Model 42 32 (d := 54) dX12_opening_67 (lt67 hn rfl) rfl (by decide) rfl q_4_12 rfl (kz := 32) rfl (lr_42_32 hLR) ?_
            refine x_iload_n C 1 dX12_opening_70 rfl rfl ?_
            refine x_iald C 54 dX12_opening_71 (lt67 hn rfl) rfl (by refine ⟨?_, ?_⟩ <;> omega) (fun rg71 => ?_)
            refine x_top (b := (lat (opLM V (V 42 3)) k)) (by exact hl1) ?_
            refine x_goto C dX12_opening_72 (tgt := 100) (by decide) ?_
            refine x_iret C dX12_opening_100 ⟨_, _, rfl, rfl, ?_, ?_⟩
            · exact hFo
            · first | exact Or.inr (Or.inr (Or.inr (Or.inr ⟨by omega, by omega, Or.inl ⟨by omega, rfl⟩⟩))) | exact Or.inr (Or.inr (Or.inr (Or.inr ⟨by omega, by omega, Or.inr (Or.inl ⟨by omega, rfl⟩)⟩))) | exact Or.inr (Or.inr (Or.inr (Or.inr ⟨by omega, by omega, Or.inr (Or.inr ⟨by omega, rfl⟩)⟩)))
        · skip
          refine x_bipush C dX12_opening_59 (w := -12) (by decide) ?_
          refine x_iret C dX12_opening_61 ⟨_, _, rfl, rfl, ?_, ?_⟩
          · exact hFo
          · exact Or.inr (Or.inr (Or.inr (Or.inl ⟨by omega, by omega, by omega, by omega, rfl⟩)))
      · skip
        refine x_aload_n C 0 dX12_opening_38 rfl rfl ?_
        refine x_geti C ok_Model 42 31 dX12_opening_39 (lt67 hn rfl) rfl (by decide) rfl q_37_17 rfl (kz := 31) rfl (fun rg39 => ?_)
        refine x_iret C dX12_opening_42 ⟨_, _, rfl, rfl, ?_, ?_⟩
        · exact hFo
        · exact Or.inr (Or.inr (Or.inl ⟨by omega, by omega, by omega, hl31⟩))
    · skip
      refine x_bipush C dX12_opening_22 (w := -2) (by decide) ?_
      refine x_iret C dX12_opening_24 ⟨_, _, rfl, rfl, ?_, ?_⟩
      · first | exact FrL.rf | exact Or.inl ⟨by omega, rfl⟩ | exact Or.inr (Or.inl ⟨by omega, by omega, rfl⟩)
      · first | exact FrL.rf | exact Or.inl ⟨by omega, rfl⟩ | exact Or.inr (Or.inl ⟨by omega, by omega, rfl⟩)
  · skip
    refine x_bipush C dX12_opening_7 (w := -3) (by decide) ?_
    refine x_iret C dX12_opening_9 ⟨_, _, rfl, rfl, ?_, ?_⟩
    · first | exact FrL.rf | exact Or.inl ⟨by omega, rfl⟩ | exact Or.inr (Or.inl ⟨by omega, by omega, rfl⟩)
    · first | exact FrL.rf | exact Or.inl ⟨by omega, rfl⟩ | exact Or.inr (Or.inl ⟨by omega, by omega, rfl⟩)
set_option maxRecDepth 100000 in
set_option maxHeartbeats 4000000 in
theorem m_X12_turnBest (G : GS) (n : Nat) (V : Nat → Int → Int) (R : Nat → Int → Option Nat) (hn : 67 ≤ n) (hLR : LR R) (hl : LogOk V) (hru : RulesOk (V 44)) (hL1 : 1 ≤ V 42 2) : Cn G yX12_turnBest cX12_turnBest 5 (some .int) (rmk 6 0 0 155) [.ref (aG G 42)] n V R 0 0 (fun vv uu => ∃ (r : Int), ∃ (V1 : Nat → Int → Int), vv = some (.int (iI r)) ∧ uu = (n, V1, R) ∧ (FrO V V1) ∧ (turnP (fun u => (opM V u (-1)).1 0) r)) := by
  refine Cn.of (by decide) (Nat.le_of_ble_eq_true rfl) (fun K C hct => ?_)
  show Xw K G 0 0 _ n V R 0 [(0, .ref (aG G 42))] []
  obtain ⟨h1, h2, h3, h5, h4, hF⟩ := id hl
  obtain ⟨hkf, hsv, hpr, hth⟩ := id hru
  have hopb : ∀ u, 0 ≤ (opM V u (-1)).1 0 ∧ (opM V u (-1)).1 0 ≤ 456192 := fun u => (opM_b (V := V) (g := u) (y := -1) (by decide)).1 0
  refine x_iconst C dX12_turnBest_0 ?_
  refine x_istore_n C dX12_turnBest_1 rfl (by decide) (lv' := [(0, .ref (aG G 42)), (1, .int (iI 0))]) rfl ?_
  refine x_aload_n C 0 dX12_turnBest_2 rfl rfl ?_
  refine x_iconst C dX12_turnBest_3 ?_
  refine x_runU (r_callV C ok_Model 42 (lt67 hn rfl) rfl (ce_X12_opens) (m_X12_opens G n V R (0) hn hLR (by first | assumption | omega | decide) (by first | assumption | omega | decide) (by first | assumption | omega | decide) (by first | assumption | omega | decide)) rfl dX12_turnBest_4 q_37_22 q_37_23 q_38_0 rfl rfl ⟨Nat.le_of_ble_eq_true rfl, Nat.le_of_ble_eq_true rfl⟩ ⟨rfl, rfl⟩ ⟨Nat.le_of_ble_eq_true rfl, Nat.le_of_ble_eq_true rfl⟩ (Nat.le_of_ble_eq_true rfl)) (fun v4 u4 hp4 => ?_)
  obtain ⟨Va, rfl, rfl, hFVa, hso, hto⟩ := hp4
  show Xw K G 0 0 _ n Va R 7 [(0, .ref (aG G 42)), (1, .int (iI 0))] [.int (iI ((opM V 0 (-1)).1 0))]
  refine x_istore_n C dX12_turnBest_7 rfl (by decide) (lv' := [(0, .ref (aG G 42)), (1, .int (iI 0)), (2, .int (iI ((opM V 0 (-1)).1 0)))]) rfl ?_
  have hb0 := hopb 0
  refine x_iconst C dX12_turnBest_8 ?_
  refine x_istore_n C dX12_turnBest_9 rfl (by decide) (lv' := [(0, .ref (aG G 42)), (1, .int (iI 0)), (2, .int (iI ((opM V 0 (-1)).1 0))), (3, .int (iI 1))]) rfl ?_
  have lp_10 : ∀ (fuel : Nat) (q : Int) (w : Int) (u : Int) (V2 : Nat → Int → Int), (1 ≤ u ∧ u ≤ 4) → (FrO V V2) → (0 ≤ q ∧ q < u) → (w = (opM V q (-1)).1 0) → (∀ v, 0 ≤ v → v < u → (opM V v (-1)).1 0 ≤ (opM V q (-1)).1 0) → (∀ v, 0 ≤ v → v < q → (opM V v (-1)).1 0 < (opM V q (-1)).1 0) → ((4 : Int) - u) < (fuel : Int) → Xw K G 0 0 (EndQ K G 0 0 (fun vv uu => ∃ (r : Int), ∃ (V1 : Nat → Int → Int), vv = some (.int (iI r)) ∧ uu = (n, V1, R) ∧ (FrO V V1) ∧ (turnP (fun u => (opM V u (-1)).1 0) r))) n V2 R 10 [(0, .ref (aG G 42)), (1, .int (iI q)), (2, .int (iI w)), (3, .int (iI u))] [] := by
    intro fuel10
    induction fuel10 with
    | zero => intro q w u V2 hu hFV2 hq hw h6 h7 hfu10; exfalso; omega
    | succ fuel10 ih10 =>
      intro q w u V2 hu hFV2 hq hw h6 h7 hfu10
      have hbq := hopb q
      refine x_iload_n C 3 dX12_turnBest_10 rfl rfl ?_
      refine x_iconst C dX12_turnBest_11 ?_
      refine x_icmp_ge C dX12_turnBest_12 (tgt := 47) (by decide) (by first | assumption | (constructor <;> omega)) (by first | assumption | (constructor <;> omega)) (fun h12 => ?_) (fun h12 => ?_)
      · skip
        refine x_iload_n C 1 dX12_turnBest_47 rfl rfl ?_
        refine x_iret C dX12_turnBest_48 ⟨_, _, rfl, rfl, ?_, ?_⟩
        · exact hFV2
        · exact ⟨by omega, fun v a b => h6 v a (by omega), h7⟩
      · skip
        refine x_aload_n C 0 dX12_turnBest_15 rfl rfl ?_
        refine x_iload_n C 3 dX12_turnBest_16 rfl rfl ?_
        refine x_runU (r_callV C ok_Model 42 (lt67 hn rfl) rfl (ce_X12_opens) (m_X12_opens G n V2 R (u) hn hLR (by exact hl.eq hFV2.log) (by rw [hFV2.r]; exact hru) (by first | assumption | omega | decide) (by rw [hFV2.log.1 2 (by decide) (by decide)]; exact hL1)) rfl dX12_turnBest_17 q_37_22 q_37_23 q_38_0 rfl rfl ⟨Nat.le_of_ble_eq_true rfl, Nat.le_of_ble_eq_true rfl⟩ ⟨rfl, rfl⟩ ⟨Nat.le_of_ble_eq_true rfl, Nat.le_of_ble_eq_true rfl⟩ (Nat.le_of_ble_eq_true rfl)) (fun v17 u17 hp17 => ?_)
        obtain ⟨V3, rfl, rfl, hfoV3, hsoV3, htoV3⟩ := hp17
        show Xw K G 0 0 _ n V3 R 20 [(0, .ref (aG G 42)), (1, .int (iI q)), (2, .int (iI w)), (3, .int (iI u))] [.int (iI ((opM V2 u (-1)).1 0))]
        have hFV3 : FrO V V3 := hFV2.tr hfoV3
        refine x_top (b := ((opM V u (-1)).1 0)) (by rw [opM_eq hFV2.log hFV2.r]) ?_
        have hb1 := hopb u
        refine x_istore C dX12_turnBest_20 (by decide) (lv' := [(0, .ref (aG G 42)), (1, .int (iI q)), (2, .int (iI w)), (3, .int (iI u)), (4, .int (iI ((opM V u (-1)).1 0)))]) rfl ?_
        refine x_iload C 4 dX12_turnBest_22 rfl ?_
        refine x_iload_n C 2 dX12_turnBest_24 rfl rfl ?_
        refine x_icmp_le C dX12_turnBest_25 (tgt := 32) (by decide) (by first | assumption | (constructor <;> omega)) (by first | assumption | (constructor <;> omega)) (fun h25 => ?_) (fun h25 => ?_)
        · skip
          refine x_iload_n C 1 dX12_turnBest_32 rfl rfl ?_
          refine x_istore_n C dX12_turnBest_33 rfl (by decide) (lv' := [(0, .ref (aG G 42)), (1, .int (iI q)), (2, .int (iI w)), (3, .int (iI u)), (4, .int (iI ((opM V u (-1)).1 0)))]) rfl ?_
          refine x_iload_n C 2 dX12_turnBest_34 rfl rfl ?_
          refine x_iload C 4 dX12_turnBest_35 rfl ?_
          refine x_max C dX12_turnBest_37 q_7_6 q_5_21 q_5_22 q_5_23 ⟨Nat.le_of_ble_eq_true rfl, Nat.le_of_ble_eq_true rfl⟩ ⟨Nat.zero_le _, Nat.zero_le _⟩ (by first | assumption | (constructor <;> omega)) (by first | assumption | (constructor <;> omega)) ?_
          refine x_istore_n C dX12_turnBest_40 rfl (by decide) (lv' := [(0, .ref (aG G 42)), (1, .int (iI q)), (2, .int (iI (max w ((opM V u (-1)).1 0)))), (3, .int (iI u)), (4, .int (iI ((opM V u (-1)).1 0)))]) rfl ?_
          refine x_iinc C 3 dX12_turnBest_41 rfl (by decide) (lv' := [(0, .ref (aG G 42)), (1, .int (iI q)), (2, .int (iI (max w ((opM V u (-1)).1 0)))), (3, .int (iI (u + 1))), (4, .int (iI ((opM V u (-1)).1 0)))]) rfl ?_
          refine x_goto C dX12_turnBest_44 (tgt := 10) (by decide) ?_
          refine x_sub [0, 1, 2, 3] (lv' := [(0, .ref (aG G 42)), (1, .int (iI q)), (2, .int (iI (max w ((opM V u (-1)).1 0)))), (3, .int (iI (u + 1)))]) rfl ?_
          exact ih10 (q) ((max w ((opM V u (-1)).1 0))) ((u + 1)) (V3) (by omega) (by exact hFV3) (by omega) (by omega) (by first | exact fun v a b => (by rcases (show v < u ∨ v = u by omega) with e | e; (have := h6 v a e; omega); (rw [e]; omega)) ) (by first | exact h7 | exact fun v a b => (by have := h6 v a b; omega)) (by omega)
        · skip
          refine x_iload_n C 3 dX12_turnBest_28 rfl rfl ?_
          refine x_goto C dX12_turnBest_29 (tgt := 33) (by decide) ?_
          refine x_istore_n C dX12_turnBest_33 rfl (by decide) (lv' := [(0, .ref (aG G 42)), (1, .int (iI u)), (2, .int (iI w)), (3, .int (iI u)), (4, .int (iI ((opM V u (-1)).1 0)))]) rfl ?_
          refine x_iload_n C 2 dX12_turnBest_34 rfl rfl ?_
          refine x_iload C 4 dX12_turnBest_35 rfl ?_
          refine x_max C dX12_turnBest_37 q_7_6 q_5_21 q_5_22 q_5_23 ⟨Nat.le_of_ble_eq_true rfl, Nat.le_of_ble_eq_true rfl⟩ ⟨Nat.zero_le _, Nat.zero_le _⟩ (by first | assumption | (constructor <;> omega)) (by first | assumption | (constructor <;> omega)) ?_
          refine x_istore_n C dX12_turnBest_40 rfl (by decide) (lv' := [(0, .ref (aG G 42)), (1, .int (iI u)), (2, .int (iI (max w ((opM V u (-1)).1 0)))), (3, .int (iI u)), (4, .int (iI ((opM V u (-1)).1 0)))]) rfl ?_
          refine x_iinc C 3 dX12_turnBest_41 rfl (by decide) (lv' := [(0, .ref (aG G 42)), (1, .int (iI u)), (2, .int (iI (max w ((opM V u (-1)).1 0)))), (3, .int (iI (u + 1))), (4, .int (iI ((opM V u (-1)).1 0)))]) rfl ?_
          refine x_goto C dX12_turnBest_44 (tgt := 10) (by decide) ?_
          refine x_sub [0, 1, 2, 3] (lv' := [(0, .ref (aG G 42)), (1, .int (iI u)), (2, .int (iI (max w ((opM V u (-1)).1 0)))), (3, .int (iI (u + 1)))]) rfl ?_
          exact ih10 (u) ((max w ((opM V u (-1)).1 0))) ((u + 1)) (V3) (by omega) (by exact hFV3) (by omega) (by omega) (by first | exact fun v a b => (by rcases (show v < u ∨ v = u by omega) with e | e; (have := h6 v a e; omega); (rw [e]; omega)) ) (by first | exact h7 | exact fun v a b => (by have := h6 v a b; omega)) (by omega)
  exact lp_10 (((4 : Int) - 1).toNat + 1) (0) (((opM V 0 (-1)).1 0)) (1) (Va) (by omega) (by exact hFVa) (by omega) (by rfl) (by exact fun v a b => by rw [show v = 0 by omega]; exact Int.le_refl _) (by exact fun v a b => by omega) (by omega)
set_option maxRecDepth 100000 in
set_option maxHeartbeats 4000000 in
theorem m_X12_best (G : GS) (n : Nat) (V : Nat → Int → Int) (R : Nat → Int → Option Nat) (t : Int) (hn : 67 ≤ n) (hLR : LR R) (gt : Rg t) (hl : LogOk V) (hru : RulesOk (V 44)) : Cn G yX12_best cX12_best 2 (some .long) (rmk 7 0 0 179) [.ref (aG G 42), .int (iI t)] n V R 0 0 (fun vv uu => ∃ (r : Int), ∃ (V1 : Nat → Int → Int), vv = some (.long (jI r)) ∧ uu = (n, V1, R) ∧ (FrO V V1) ∧ (((V 42 2 = 0 ∨ ¬ (-1 ≤ t ∧ t ≤ 3)) ∧ r = (-4611686018427387904)) ∨ (V 42 2 ≠ 0 ∧ t = -1 ∧ ∃ u, turnP (fun u => (opM V u (-1)).1 0) u ∧ r = (fun u => (opM V u (-1)).1 0) u) ∨ (V 42 2 ≠ 0 ∧ (0 ≤ t ∧ t ≤ 3) ∧ r = (fun u => (opM V u (-1)).1 0) t))) := by
  refine Cn.of (by decide) (Nat.le_of_ble_eq_true rfl) (fun K C hct => ?_)
  show Xw K G 0 0 _ n V R 0 [(0, .ref (aG G 42)), (1, .int (iI t))] []
  obtain ⟨h1, h2, h3, h5, h4, hF⟩ := id hl
  obtain ⟨hkf, hsv, hpr, hth⟩ := id hru
  refine x_aload_n C 0 dX12_best_0 rfl rfl ?_
  refine x_geti C ok_Model 42 2 dX12_best_1 (lt67 hn rfl) rfl (by decide) rfl q_6_12 rfl (kz := 2) rfl (fun rg1 => ?_)
  refine x_if_eq C dX12_best_4 (tgt := 21) (by decide) (by first | assumption | (constructor <;> omega)) (fun h4 => ?_) (fun h4 => ?_)
  · skip
    refine x_ldc2 C dX12_best_21 q_36_2 (w := -4611686018427387904) (by decide) ?_
    refine x_goto C dX12_best_24 (tgt := 44) (by decide) ?_
    refine x_lret C dX12_best_44 ⟨_, _, rfl, rfl, ?_, ?_⟩
    · first | exact FrO.rf | exact hFV3
    · first | exact Or.inl ⟨by omega, rfl⟩ | exact Or.inr (Or.inl ⟨by omega, by omega, u, by assumption, rfl⟩) | (rcases hans with ⟨q, q2⟩ | ⟨q, q2⟩; exact Or.inr (Or.inl ⟨by omega, q, u, q2, rfl⟩); exact Or.inr (Or.inr ⟨by omega, q, by rw [q2]⟩))
  · skip
    refine x_iload_n C 1 dX12_best_7 rfl rfl ?_
    refine x_i2l C dX12_best_8 (by first | assumption | (constructor <;> omega)) ?_
    refine x_ldc2 C dX12_best_9 q_38_18 (w := -1) (by decide) ?_
    refine x_ldc2 C dX12_best_12 q_27_17 (w := 3) (by decide) ?_
    refine x_runU (r_callS C (ce_X12_in) (m_X12_in G n V R (t) (-1) (3) (by first | assumption | omega | decide) (by first | assumption | omega | decide) (by first | assumption | omega | decide)) dX12_best_15 q_6_15 q_6_16 rfl rfl ⟨Nat.le_of_ble_eq_true rfl, Nat.le_of_ble_eq_true rfl⟩ ⟨rfl, rfl⟩ ⟨Nat.le_of_ble_eq_true rfl, Nat.le_of_ble_eq_true rfl⟩ (Nat.le_of_ble_eq_true rfl)) (fun v15 u15 hp15 => ?_)
    obtain ⟨rfl, rfl⟩ := hp15
    show Xw K G 0 0 _ n V R 18 [(0, .ref (aG G 42)), (1, .int (iI t))] [.int (iI (bI ((-1) ≤ t ∧ t ≤ 3)))]
    refine x_ifne_b C dX12_best_18 (tgt := 27) (by decide) (fun h18 => ?_) (fun h18 => ?_)
    · skip
      have lp_40 : ∀ (u : Int) (V2 : Nat → Int → Int), (0 ≤ u ∧ u ≤ 3) → (FrO V V2) → ((t = -1 ∧ turnP (fun u => (opM V u (-1)).1 0) u) ∨ ((0 ≤ t ∧ t ≤ 3) ∧ u = t)) → Xw K G 0 0 (EndQ K G 0 0 (fun vv uu => ∃ (r : Int), ∃ (V1 : Nat → Int → Int), vv = some (.long (jI r)) ∧ uu = (n, V1, R) ∧ (FrO V V1) ∧ (((V 42 2 = 0 ∨ ¬ (-1 ≤ t ∧ t ≤ 3)) ∧ r = (-4611686018427387904)) ∨ (V 42 2 ≠ 0 ∧ t = -1 ∧ ∃ u, turnP (fun u => (opM V u (-1)).1 0) u ∧ r = (fun u => (opM V u (-1)).1 0) u) ∨ (V 42 2 ≠ 0 ∧ (0 ≤ t ∧ t ≤ 3) ∧ r = (fun u => (opM V u (-1)).1 0) t)))) n V2 R 40 [(0, .ref (aG G 42)), (1, .int (iI t))] [.int (iI u), .ref (aG G 42)] := by
        intro u V2 hu hFV2 hans
        have hopb := (opM_b (V := V) (g := u) (y := -1) (by decide)).1 0
        refine x_runU (r_callV C ok_Model 42 (lt67 hn rfl) rfl (ce_X12_opens) (m_X12_opens G n V2 R (u) hn hLR (by exact hl.eq hFV2.log) (by rw [hFV2.r]; exact hru) (by first | assumption | omega | decide) (by rw [hFV2.log.1 2 (by decide) (by decide)]; omega)) rfl dX12_best_40 q_37_22 q_37_23 q_38_0 rfl rfl ⟨Nat.le_of_ble_eq_true rfl, Nat.le_of_ble_eq_true rfl⟩ ⟨rfl, rfl⟩ ⟨Nat.le_of_ble_eq_true rfl, Nat.le_of_ble_eq_true rfl⟩ (Nat.le_of_ble_eq_true rfl)) (fun v40 u40 hp40 => ?_)
        obtain ⟨V3, rfl, rfl, hfoV3, hsoV3, htoV3⟩ := hp40
        show Xw K G 0 0 _ n V3 R 43 [(0, .ref (aG G 42)), (1, .int (iI t))] [.int (iI ((opM V2 u (-1)).1 0))]
        have hFV3 : FrO V V3 := hFV2.tr hfoV3
        refine x_top (b := ((opM V u (-1)).1 0)) (by rw [opM_eq hFV2.log hFV2.r]) ?_
        refine x_i2l C dX12_best_43 (by first | assumption | (constructor <;> omega)) ?_
        refine x_lret C dX12_best_44 ⟨_, _, rfl, rfl, ?_, ?_⟩
        · first | exact FrO.rf | exact hFV3
        · first | exact Or.inl ⟨by omega, rfl⟩ | exact Or.inr (Or.inl ⟨by omega, by omega, u, by assumption, rfl⟩) | (rcases hans with ⟨q, q2⟩ | ⟨q, q2⟩; exact Or.inr (Or.inl ⟨by omega, q, u, q2, rfl⟩); exact Or.inr (Or.inr ⟨by omega, q, by rw [q2]⟩))
      refine x_aload_n C 0 dX12_best_27 rfl rfl ?_
      refine x_iload_n C 1 dX12_best_28 rfl rfl ?_
      refine x_if_ge C dX12_best_29 (tgt := 39) (by decide) (by first | assumption | (constructor <;> omega)) (fun h29 => ?_) (fun h29 => ?_)
      · skip
        refine x_iload_n C 1 dX12_best_39 rfl rfl ?_
        exact lp_40 (t) (V) (by first | omega | exact hpu.1) (by first | exact FrO.rf | exact hFV2) (by first | exact Or.inr ⟨by omega, rfl⟩ | exact Or.inl ⟨by omega, hpu⟩)
      · skip
        refine x_aload_n C 0 dX12_best_32 rfl rfl ?_
        refine x_runU (r_callV C ok_Model 42 (lt67 hn rfl) rfl (ce_X12_turnBest) (m_X12_turnBest G n V R hn hLR (by first | assumption | omega | decide) (by first | assumption | omega | decide) (by first | assumption | omega | decide)) rfl dX12_best_33 q_38_19 q_38_20 q_38_21 rfl rfl ⟨Nat.le_of_ble_eq_true rfl, Nat.le_of_ble_eq_true rfl⟩ ⟨rfl, rfl⟩ ⟨Nat.le_of_ble_eq_true rfl, Nat.le_of_ble_eq_true rfl⟩ (Nat.le_of_ble_eq_true rfl)) (fun v33 u33 hp33 => ?_)
        obtain ⟨u, V2, rfl, rfl, hFV2, hpu⟩ := hp33
        show Xw K G 0 0 _ n V2 R 36 [(0, .ref (aG G 42)), (1, .int (iI t))] [.int (iI u), .ref (aG G 42)]
        refine x_goto C dX12_best_36 (tgt := 40) (by decide) ?_
        exact lp_40 (u) (V2) (by first | omega | exact hpu.1) (by first | exact FrO.rf | exact hFV2) (by first | exact Or.inr ⟨by omega, rfl⟩ | exact Or.inl ⟨by omega, hpu⟩)
    · skip
      refine x_ldc2 C dX12_best_21 q_36_2 (w := -4611686018427387904) (by decide) ?_
      refine x_goto C dX12_best_24 (tgt := 44) (by decide) ?_
      refine x_lret C dX12_best_44 ⟨_, _, rfl, rfl, ?_, ?_⟩
      · first | exact FrO.rf | exact hFV3
      · first | exact Or.inl ⟨by omega, rfl⟩ | exact Or.inr (Or.inl ⟨by omega, by omega, u, by assumption, rfl⟩) | (rcases hans with ⟨q, q2⟩ | ⟨q, q2⟩; exact Or.inr (Or.inl ⟨by omega, q, u, q2, rfl⟩); exact Or.inr (Or.inr ⟨by omega, q, by rw [q2]⟩))
set_option maxRecDepth 100000 in
set_option maxHeartbeats 4000000 in
theorem m_X12_bestTurn (G : GS) (n : Nat) (V : Nat → Int → Int) (R : Nat → Int → Option Nat) (hn : 67 ≤ n) (hLR : LR R) (hl : LogOk V) (hru : RulesOk (V 44)) : Cn G yX12_bestTurn cX12_bestTurn 1 (some .int) (rmk 7 0 0 179) [.ref (aG G 42)] n V R 0 0 (fun vv uu => ∃ (r : Int), ∃ (V1 : Nat → Int → Int), vv = some (.int (iI r)) ∧ uu = (n, V1, R) ∧ (FrO V V1) ∧ ((V 42 2 = 0 ∧ r = -3) ∨ (V 42 2 ≠ 0 ∧ turnP (fun u => (opM V u (-1)).1 0) r))) := by
  refine Cn.of (by decide) (Nat.le_of_ble_eq_true rfl) (fun K C hct => ?_)
  show Xw K G 0 0 _ n V R 0 [(0, .ref (aG G 42))] []
  obtain ⟨h1, h2, h3, h5, h4, hF⟩ := id hl
  obtain ⟨hkf, hsv, hpr, hth⟩ := id hru
  refine x_aload_n C 0 dX12_bestTurn_0 rfl rfl ?_
  refine x_geti C ok_Model 42 2 dX12_bestTurn_1 (lt67 hn rfl) rfl (by decide) rfl q_6_12 rfl (kz := 2) rfl (fun rg1 => ?_)
  refine x_if_ne C dX12_bestTurn_4 (tgt := 12) (by decide) (by first | assumption | (constructor <;> omega)) (fun h4 => ?_) (fun h4 => ?_)
  · skip
    refine x_aload_n C 0 dX12_bestTurn_12 rfl rfl ?_
    refine x_runU (r_callV C ok_Model 42 (lt67 hn rfl) rfl (ce_X12_turnBest) (m_X12_turnBest G n V R hn hLR (by first | assumption | omega | decide) (by first | assumption | omega | decide) (by first | assumption | omega | decide)) rfl dX12_bestTurn_13 q_38_19 q_38_20 q_38_21 rfl rfl ⟨Nat.le_of_ble_eq_true rfl, Nat.le_of_ble_eq_true rfl⟩ ⟨rfl, rfl⟩ ⟨Nat.le_of_ble_eq_true rfl, Nat.le_of_ble_eq_true rfl⟩ (Nat.le_of_ble_eq_true rfl)) (fun v13 u13 hp13 => ?_)
    obtain ⟨r1, V3, rfl, rfl, hfo, hpo⟩ := hp13
    show Xw K G 0 0 _ n V3 R 16 [(0, .ref (aG G 42))] [.int (iI r1)]
    refine x_iret C dX12_bestTurn_16 ⟨_, _, rfl, rfl, ?_, ?_⟩
    · first | exact FrO.rf | exact hfo
    · first | exact Or.inl ⟨by omega, rfl⟩ | exact Or.inr ⟨by omega, hpo⟩
  · skip
    refine x_bipush C dX12_bestTurn_7 (w := -3) (by decide) ?_
    refine x_goto C dX12_bestTurn_9 (tgt := 16) (by decide) ?_
    refine x_iret C dX12_bestTurn_16 ⟨_, _, rfl, rfl, ?_, ?_⟩
    · first | exact FrO.rf | exact hfo
    · first | exact Or.inl ⟨by omega, rfl⟩ | exact Or.inr ⟨by omega, hpo⟩
