
set_option maxRecDepth 100000 in
set_option maxHeartbeats 4000000 in
theorem m_X11_serve (G : GS) (n : Nat) (V : Nat → Int → Int) (R : Nat → Int → Option Nat) (hn : 67 ≤ n) (hLR : LR R) (h8 : 0 ≤ V 1 8 ∧ V 1 8 ≤ 16) (h10 : 0 ≤ V 1 10 ∧ V 1 10 ≤ 6) : Cn G yX11_serve cX11_serve 5 (some .int) (rmk 5 0 0 109) [.ref (aG G 0)] n V R 0 0 (fun vv uu => ∃ (r : Int), ∃ (V1 : Nat → Int → Int), vv = some (.int (iI r)) ∧ uu = (n, V1, R) ∧ (r = popc (omS (V1 40) ((zShl 1 (V 1 8)) - 1) (V 1 10))) ∧ (∀ o, 0 ≤ o → o < V 1 10 → Rg (V1 40 o) ∧ ∀ q, 0 ≤ q → q < 32 → (inS (V1 40 o) q ↔ (q < V 1 8 ∧ meetQ (V 4) (V 5) (4 * q) (4 * o)))) ∧ (∀ q z, q ≠ 40 → q ≠ 4 → q ≠ 5 → ¬ (q = 1 ∧ (z = 8 ∨ z = 10)) → V1 q z = V q z) ∧ (V1 1 8 = keptK (svC (V1 40) (omS (V1 40) ((zShl 1 (V 1 8)) - 1) (V 1 10)) ((zShl 1 (V 1 8)) - 1) 6).2 (V 1 8)) ∧ (∀ z, 0 ≤ z → z < V 1 8 → inS (svC (V1 40) (omS (V1 40) ((zShl 1 (V 1 8)) - 1) (V 1 10)) ((zShl 1 (V 1 8)) - 1) 6).2 z → ∀ j, 0 ≤ j → j < 4 → V1 4 (4 * keptK (svC (V1 40) (omS (V1 40) ((zShl 1 (V 1 8)) - 1) (V 1 10)) ((zShl 1 (V 1 8)) - 1) 6).2 z + j) = V 4 (4 * z + j)) ∧ (V1 1 10 = keptK (zXor (omS (V1 40) ((zShl 1 (V 1 8)) - 1) (V 1 10)) (-1)) (V 1 10)) ∧ (∀ z, 0 ≤ z → z < V 1 10 → inS (zXor (omS (V1 40) ((zShl 1 (V 1 8)) - 1) (V 1 10)) (-1)) z → ∀ j, 0 ≤ j → j < 4 → V1 5 (4 * keptK (zXor (omS (V1 40) ((zShl 1 (V 1 8)) - 1) (V 1 10)) (-1)) z + j) = V 5 (4 * z + j))) := by
  refine Cn.of (by decide) (Nat.le_of_ble_eq_true rfl) (fun K C hct => ?_)
  show Xw K G 0 0 _ n V R 0 [(0, .ref (aG G 0))] []
  refine x_aload_n C 0 dX11_serve_0 rfl rfl ?_
  refine x_runU (r_callV C ok_Class 0 (lt67 hn rfl) rfl (ce_X11_findMeeting) (m_X11_findMeeting G n V R hn hLR (by first | assumption | omega | decide) (by first | assumption | omega | decide)) rfl dX11_serve_1 q_41_9 q_41_10 q_41_11 rfl rfl ⟨Nat.le_of_ble_eq_true rfl, Nat.le_of_ble_eq_true rfl⟩ ⟨rfl, rfl⟩ ⟨Nat.le_of_ble_eq_true rfl, Nat.le_of_ble_eq_true rfl⟩ (Nat.le_of_ble_eq_true rfl)) (fun v1 u1 hp1 => ?_)
  obtain ⟨V1_1, rfl, rfl, hq1_0, hq1_1⟩ := hp1
  show Xw K G 0 0 _ n V1_1 R 4 [(0, .ref (aG G 0))] []
  have e1 : V1_1 1 = V 1 := hq1_0 1 (by decide)
  refine x_aload_n C 0 dX11_serve_4 rfl rfl ?_
  refine x_runU (r_callV C ok_Class 0 (lt67 hn rfl) rfl (ce_X11_ordersMet) (m_X11_ordersMet G n V1_1 R hn hLR (by rw [e1]; exact h8) (by rw [e1]; exact h10)) rfl dX11_serve_5 q_41_21 q_41_22 q_41_23 rfl rfl ⟨Nat.le_of_ble_eq_true rfl, Nat.le_of_ble_eq_true rfl⟩ ⟨rfl, rfl⟩ ⟨Nat.le_of_ble_eq_true rfl, Nat.le_of_ble_eq_true rfl⟩ (Nat.le_of_ble_eq_true rfl)) (fun v5 u5 hp5 => ?_)
  obtain ⟨rfl, rfl⟩ := hp5
  show Xw K G 0 0 _ n V1_1 R 8 [(0, .ref (aG G 0))] [.int (iI (omS (V1_1 40) ((zShl 1 (V1_1 1 8)) - 1) (V1_1 1 10)))]
  have hom := omS_b (M := V1_1 40) (bs := (zShl 1 (V1_1 1 8)) - 1) (k := V1_1 1 10) (by rw [e1]; exact h10)
  have hsb := shl_16 h8
  refine x_istore_n C dX11_serve_8 rfl (by decide) (lv' := [(0, .ref (aG G 0)), (1, .int (iI (omS (V1_1 40) ((zShl 1 (V1_1 1 8)) - 1) (V1_1 1 10))))]) rfl ?_
  refine x_iconst C dX11_serve_9 ?_
  refine x_aload_n C 0 dX11_serve_10 rfl rfl ?_
  refine x_getr C ok_Class 0 0 (d := 1) dX11_serve_11 (lt67 hn rfl) rfl (by decide) rfl q_0_16 rfl (kz := 0) rfl (lr_0_0 hLR) ?_
  refine x_geti C ok_Yard 1 8 dX11_serve_14 (lt67 hn rfl) rfl (by decide) rfl q_39_11 rfl (kz := 8) rfl (fun rg14 => ?_)
  refine x_ishl C dX11_serve_17 ?_
  refine x_iconst C dX11_serve_18 ?_
  refine x_isub C dX11_serve_19 ?_
  refine x_istore_n C dX11_serve_20 rfl (by decide) (lv' := [(0, .ref (aG G 0)), (1, .int (iI (omS (V1_1 40) ((zShl 1 (V1_1 1 8)) - 1) (V1_1 1 10)))), (2, .int (iI ((zShl 1 (V1_1 1 8)) - 1)))]) rfl ?_
  refine x_iload_n C 1 dX11_serve_21 rfl rfl ?_
  refine x_istore_n C dX11_serve_22 rfl (by decide) (lv' := [(0, .ref (aG G 0)), (1, .int (iI (omS (V1_1 40) ((zShl 1 (V1_1 1 8)) - 1) (V1_1 1 10)))), (2, .int (iI ((zShl 1 (V1_1 1 8)) - 1))), (3, .int (iI (omS (V1_1 40) ((zShl 1 (V1_1 1 8)) - 1) (V1_1 1 10))))]) rfl ?_
  refine x_iconst C dX11_serve_23 ?_
  refine x_istore C dX11_serve_24 (by decide) (lv' := [(0, .ref (aG G 0)), (1, .int (iI (omS (V1_1 40) ((zShl 1 (V1_1 1 8)) - 1) (V1_1 1 10)))), (2, .int (iI ((zShl 1 (V1_1 1 8)) - 1))), (3, .int (iI (omS (V1_1 40) ((zShl 1 (V1_1 1 8)) - 1) (V1_1 1 10)))), (4, .int (iI 0))]) rfl ?_
  have lp_26 : ∀ (fuel : Nat) (o : Int) (oth : Int) (bs : Int), (0 ≤ o ∧ o ≤ 6) → (svC (V1_1 40) (omS (V1_1 40) ((zShl 1 (V1_1 1 8)) - 1) (V1_1 1 10)) ((zShl 1 (V1_1 1 8)) - 1) o = (oth, bs)) → ((0 ≤ oth ∧ oth ≤ 63) ∧ o ≤ 6 ∧ Rg bs) → ((7 : Int) - o) < (fuel : Int) → Xw K G 0 0 (EndQ K G 0 0 (fun vv uu => ∃ (r : Int), ∃ (V1 : Nat → Int → Int), vv = some (.int (iI r)) ∧ uu = (n, V1, R) ∧ (r = popc (omS (V1 40) ((zShl 1 (V 1 8)) - 1) (V 1 10))) ∧ (∀ o, 0 ≤ o → o < V 1 10 → Rg (V1 40 o) ∧ ∀ q, 0 ≤ q → q < 32 → (inS (V1 40 o) q ↔ (q < V 1 8 ∧ meetQ (V 4) (V 5) (4 * q) (4 * o)))) ∧ (∀ q z, q ≠ 40 → q ≠ 4 → q ≠ 5 → ¬ (q = 1 ∧ (z = 8 ∨ z = 10)) → V1 q z = V q z) ∧ (V1 1 8 = keptK (svC (V1 40) (omS (V1 40) ((zShl 1 (V 1 8)) - 1) (V 1 10)) ((zShl 1 (V 1 8)) - 1) 6).2 (V 1 8)) ∧ (∀ z, 0 ≤ z → z < V 1 8 → inS (svC (V1 40) (omS (V1 40) ((zShl 1 (V 1 8)) - 1) (V 1 10)) ((zShl 1 (V 1 8)) - 1) 6).2 z → ∀ j, 0 ≤ j → j < 4 → V1 4 (4 * keptK (svC (V1 40) (omS (V1 40) ((zShl 1 (V 1 8)) - 1) (V 1 10)) ((zShl 1 (V 1 8)) - 1) 6).2 z + j) = V 4 (4 * z + j)) ∧ (V1 1 10 = keptK (zXor (omS (V1 40) ((zShl 1 (V 1 8)) - 1) (V 1 10)) (-1)) (V 1 10)) ∧ (∀ z, 0 ≤ z → z < V 1 10 → inS (zXor (omS (V1 40) ((zShl 1 (V 1 8)) - 1) (V 1 10)) (-1)) z → ∀ j, 0 ≤ j → j < 4 → V1 5 (4 * keptK (zXor (omS (V1 40) ((zShl 1 (V 1 8)) - 1) (V 1 10)) (-1)) z + j) = V 5 (4 * z + j)))) n V1_1 R 26 [(0, .ref (aG G 0)), (1, .int (iI (omS (V1_1 40) ((zShl 1 (V1_1 1 8)) - 1) (V1_1 1 10)))), (2, .int (iI bs)), (3, .int (iI oth)), (4, .int (iI o))] [] := by
    intro fuel26
    induction fuel26 with
    | zero => intro o oth bs ho hS hb hfu26; exfalso; omega
    | succ fuel26 ih26 =>
      intro o oth bs ho hS hb hfu26
      refine x_iload C 4 dX11_serve_26 rfl ?_
      refine x_bipush C dX11_serve_28 (w := 6) (by decide) ?_
      refine x_icmp_ge C dX11_serve_30 (tgt := 70) (by decide) (by first | assumption | (constructor <;> omega)) (by first | assumption | (constructor <;> omega)) (fun h30 => ?_) (fun h30 => ?_)
      · skip
        refine x_aload_n C 0 dX11_serve_70 rfl rfl ?_
        refine x_getr C ok_Class 0 0 (d := 1) dX11_serve_71 (lt67 hn rfl) rfl (by decide) rfl q_0_16 rfl (kz := 0) rfl (lr_0_0 hLR) ?_
        refine x_iload_n C 2 dX11_serve_74 rfl rfl ?_
        refine x_runU (r_callV C ok_Yard 1 (lt67 hn rfl) rfl (ce_X10_keepBoards) (m_X10_keepBoards G n V1_1 R (1) (bs) hn hLR (by first | assumption | omega | decide) (by exact hb.2.2) (by rw [e1]; exact h8)) rfl dX11_serve_75 q_44_1 q_44_2 q_44_3 rfl rfl ⟨Nat.le_of_ble_eq_true rfl, Nat.le_of_ble_eq_true rfl⟩ ⟨rfl, rfl⟩ ⟨Nat.le_of_ble_eq_true rfl, Nat.le_of_ble_eq_true rfl⟩ (Nat.le_of_ble_eq_true rfl)) (fun v75 u75 hp75 => ?_)
        obtain ⟨V1_75, rfl, rfl, hq75_0, hq75_1, hq75_2⟩ := hp75
        show Xw K G 0 0 _ n V1_75 R 78 [(0, .ref (aG G 0)), (1, .int (iI (omS (V1_1 40) ((zShl 1 (V1_1 1 8)) - 1) (V1_1 1 10)))), (2, .int (iI bs)), (3, .int (iI oth)), (4, .int (iI o))] []
        refine x_aload_n C 0 dX11_serve_78 rfl rfl ?_
        refine x_getr C ok_Class 0 0 (d := 1) dX11_serve_79 (lt67 hn rfl) rfl (by decide) rfl q_0_16 rfl (kz := 0) rfl (lr_0_0 hLR) ?_
        refine x_iload_n C 1 dX11_serve_82 rfl rfl ?_
        refine x_iconst C dX11_serve_83 ?_
        refine x_ixor C dX11_serve_84 ?_
        refine x_runU (r_callV C ok_Yard 1 (lt67 hn rfl) rfl (ce_X10_keepOrders) (m_X10_keepOrders G n V1_75 R (1) (zXor (omS (V1_1 40) ((zShl 1 (V1_1 1 8)) - 1) (V1_1 1 10)) (-1)) hn hLR (by first | assumption | omega | decide) (by exact zXor_rg _ _) (by rw [hq75_0 1 10 (by decide) (by decide), e1]; exact h10)) rfl dX11_serve_85 q_44_8 q_44_9 q_44_10 rfl rfl ⟨Nat.le_of_ble_eq_true rfl, Nat.le_of_ble_eq_true rfl⟩ ⟨rfl, rfl⟩ ⟨Nat.le_of_ble_eq_true rfl, Nat.le_of_ble_eq_true rfl⟩ (Nat.le_of_ble_eq_true rfl)) (fun v85 u85 hp85 => ?_)
        obtain ⟨V1_85, rfl, rfl, hq85_0, hq85_1, hq85_2⟩ := hp85
        show Xw K G 0 0 _ n V1_85 R 88 [(0, .ref (aG G 0)), (1, .int (iI (omS (V1_1 40) ((zShl 1 (V1_1 1 8)) - 1) (V1_1 1 10)))), (2, .int (iI bs)), (3, .int (iI oth)), (4, .int (iI o))] []
        have hpo := hom
        refine x_iload_n C 1 dX11_serve_88 rfl rfl ?_
        refine x_runU (r_callS C (ce_J6_bitCount_0f7a4) (m_J6_bitCount_0f7a4 G n V1_85 R (omS (V1_1 40) ((zShl 1 (V1_1 1 8)) - 1) (V1_1 1 10))) dX11_serve_89 q_42_10 q_42_11 rfl rfl ⟨Nat.le_of_ble_eq_true rfl, Nat.le_of_ble_eq_true rfl⟩ ⟨rfl, rfl⟩ ⟨Nat.le_of_ble_eq_true rfl, Nat.le_of_ble_eq_true rfl⟩ (Nat.le_of_ble_eq_true rfl)) (fun v89 u89 hp89 => ?_)
        obtain ⟨rfl, rfl⟩ := hp89
        show Xw K G 0 0 _ n V1_85 R 92 [(0, .ref (aG G 0)), (1, .int (iI (omS (V1_1 40) ((zShl 1 (V1_1 1 8)) - 1) (V1_1 1 10)))), (2, .int (iI bs)), (3, .int (iI oth)), (4, .int (iI o))] [.int (iI (popc (omS (V1_1 40) ((zShl 1 (V1_1 1 8)) - 1) (V1_1 1 10))))]
        refine x_iret C dX11_serve_92 ⟨_, _, rfl, rfl, ?_, ?_, ?_, ?_, ?_, ?_, ?_⟩
        · rw [sv_40 hq75_0 hq85_0, e1]
        · rw [sv_40 hq75_0 hq85_0]; exact hq1_1
        · exact fun q z a b c d => by rw [hq85_0 q z c (by omega), hq75_0 q z b (by omega)]; exact congrFun (hq1_0 q a) z
        · rw [sv_40 hq75_0 hq85_0, hq85_0 1 8 (by decide) (by decide), hq75_1, e1]; rw [e1] at hS; rw [show (6 : Int) = o by omega, hS]
        · rw [sv_40 hq75_0 hq85_0, show V1_85 4 = V1_75 4 from funext fun z => hq85_0 4 z (by decide) (by omega)]; rw [e1, hq1_0 4 (by decide)] at hq75_2; rw [e1] at hS; rw [show (6 : Int) = o by omega, hS]; exact hq75_2
        · rw [sv_40 hq75_0 hq85_0, hq85_1, hq75_0 1 10 (by decide) (by decide), e1]
        · rw [sv_40 hq75_0 hq85_0]; rw [hq75_0 1 10 (by decide) (by decide), e1, show V1_75 (1 + 4) = V 5 from funext fun z => (hq75_0 5 z (by decide) (by omega)).trans (congrFun (hq1_0 5 (by decide)) z)] at hq85_2; exact hq85_2
      · skip
        refine x_iload_n C 1 dX11_serve_33 rfl rfl ?_
        refine x_iload C 4 dX11_serve_34 rfl ?_
        refine x_runU (r_callS C (ce_X11_has) (m_X11_has G n V1_1 R (omS (V1_1 40) ((zShl 1 (V1_1 1 8)) - 1) (V1_1 1 10)) (o)) dX11_serve_36 q_42_9 q_36_17 rfl rfl ⟨Nat.le_of_ble_eq_true rfl, Nat.le_of_ble_eq_true rfl⟩ ⟨rfl, rfl⟩ ⟨Nat.le_of_ble_eq_true rfl, Nat.le_of_ble_eq_true rfl⟩ (Nat.le_of_ble_eq_true rfl)) (fun v36 u36 hp36 => ?_)
        obtain ⟨rfl, rfl⟩ := hp36
        show Xw K G 0 0 _ n V1_1 R 39 [(0, .ref (aG G 0)), (1, .int (iI (omS (V1_1 40) ((zShl 1 (V1_1 1 8)) - 1) (V1_1 1 10)))), (2, .int (iI bs)), (3, .int (iI oth)), (4, .int (iI o))] [.int (iI (bI (inS (omS (V1_1 40) ((zShl 1 (V1_1 1 8)) - 1) (V1_1 1 10)) o)))]
        refine x_ifeq_b C dX11_serve_39 (tgt := 64) (by decide) (fun h39 => ?_) (fun h39 => ?_)
        · skip
          refine x_iinc C 4 dX11_serve_64 rfl (by decide) (lv' := [(0, .ref (aG G 0)), (1, .int (iI (omS (V1_1 40) ((zShl 1 (V1_1 1 8)) - 1) (V1_1 1 10)))), (2, .int (iI bs)), (3, .int (iI oth)), (4, .int (iI (o + 1)))]) rfl ?_
          refine x_goto C dX11_serve_67 (tgt := 26) (by decide) ?_
          exact ih26 ((o + 1)) (oth) (bs) (by omega) (by rw [svC_s ho.1, hS]; first | (rw [cif_t (by assumption), bf_u hq57_0]) | (rw [cif_f (by assumption)])) (by first | exact ⟨zAnd_63 hb.1, by omega, zAnd_rg _ _⟩ | exact ⟨hb.1, by omega, hb.2.2⟩) (by omega)
        · skip
          refine x_iload_n C 3 dX11_serve_42 rfl rfl ?_
          refine x_iconst C dX11_serve_43 ?_
          refine x_iload C 4 dX11_serve_44 rfl ?_
          refine x_ishl C dX11_serve_46 ?_
          refine x_iconst C dX11_serve_47 ?_
          refine x_ixor C dX11_serve_48 ?_
          refine x_iand C dX11_serve_49 ?_
          refine x_istore_n C dX11_serve_50 rfl (by decide) (lv' := [(0, .ref (aG G 0)), (1, .int (iI (omS (V1_1 40) ((zShl 1 (V1_1 1 8)) - 1) (V1_1 1 10)))), (2, .int (iI bs)), (3, .int (iI (zAnd oth (zXor (zShl 1 o) (-1))))), (4, .int (iI o))]) rfl ?_
          refine x_iload_n C 2 dX11_serve_51 rfl rfl ?_
          refine x_aload_n C 0 dX11_serve_52 rfl rfl ?_
          refine x_iload C 4 dX11_serve_53 rfl ?_
          refine x_iload_n C 3 dX11_serve_55 rfl rfl ?_
          refine x_iload_n C 2 dX11_serve_56 rfl rfl ?_
          refine x_runU (r_callV C ok_Class 0 (lt67 hn rfl) rfl (ce_X11_boardFor) (m_X11_boardFor G n V1_1 R (o) (zAnd oth (zXor (zShl 1 o) (-1))) (bs) hn hLR (by first | assumption | omega | decide) (by exact zAnd_63 hb.1)) rfl dX11_serve_57 q_43_21 q_43_22 q_43_23 rfl rfl ⟨Nat.le_of_ble_eq_true rfl, Nat.le_of_ble_eq_true rfl⟩ ⟨rfl, rfl⟩ ⟨Nat.le_of_ble_eq_true rfl, Nat.le_of_ble_eq_true rfl⟩ (Nat.le_of_ble_eq_true rfl)) (fun v57 u57 hp57 => ?_)
          obtain ⟨r_57, rfl, rfl, hq57_0⟩ := hp57
          show Xw K G 0 0 _ n V1_1 R 60 [(0, .ref (aG G 0)), (1, .int (iI (omS (V1_1 40) ((zShl 1 (V1_1 1 8)) - 1) (V1_1 1 10)))), (2, .int (iI bs)), (3, .int (iI (zAnd oth (zXor (zShl 1 o) (-1))))), (4, .int (iI o))] [.int (iI r_57), .int (iI bs)]
          refine x_iconst C dX11_serve_60 ?_
          refine x_ixor C dX11_serve_61 ?_
          refine x_iand C dX11_serve_62 ?_
          refine x_istore_n C dX11_serve_63 rfl (by decide) (lv' := [(0, .ref (aG G 0)), (1, .int (iI (omS (V1_1 40) ((zShl 1 (V1_1 1 8)) - 1) (V1_1 1 10)))), (2, .int (iI (zAnd bs (zXor r_57 (-1))))), (3, .int (iI (zAnd oth (zXor (zShl 1 o) (-1))))), (4, .int (iI o))]) rfl ?_
          refine x_iinc C 4 dX11_serve_64 rfl (by decide) (lv' := [(0, .ref (aG G 0)), (1, .int (iI (omS (V1_1 40) ((zShl 1 (V1_1 1 8)) - 1) (V1_1 1 10)))), (2, .int (iI (zAnd bs (zXor r_57 (-1))))), (3, .int (iI (zAnd oth (zXor (zShl 1 o) (-1))))), (4, .int (iI (o + 1)))]) rfl ?_
          refine x_goto C dX11_serve_67 (tgt := 26) (by decide) ?_
          exact ih26 ((o + 1)) ((zAnd oth (zXor (zShl 1 o) (-1)))) ((zAnd bs (zXor r_57 (-1)))) (by omega) (by rw [svC_s ho.1, hS]; first | (rw [cif_t (by assumption), bf_u hq57_0]) | (rw [cif_f (by assumption)])) (by first | exact ⟨zAnd_63 hb.1, by omega, zAnd_rg _ _⟩ | exact ⟨hb.1, by omega, hb.2.2⟩) (by omega)
  exact lp_26 (((7 : Int) - 0).toNat + 1) (0) ((omS (V1_1 40) ((zShl 1 (V1_1 1 8)) - 1) (V1_1 1 10))) (((zShl 1 (V1_1 1 8)) - 1)) (by omega) (by rfl) (by exact ⟨hom, by decide, by have := hsb; rw [e1]; constructor <;> omega⟩) (by omega)
