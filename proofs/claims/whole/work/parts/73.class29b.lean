
set_option maxRecDepth 100000 in
set_option maxHeartbeats 4000000 in
theorem m_X11_ordersMet (G : GS) (n : Nat) (V : Nat → Int → Int) (R : Nat → Int → Option Nat) (hn : 67 ≤ n) (hLR : LR R) (h8 : 0 ≤ V 1 8 ∧ V 1 8 ≤ 16) (h10 : 0 ≤ V 1 10 ∧ V 1 10 ≤ 6) : Cn G yX11_ordersMet cX11_ordersMet 4 (some .int) (rmk 4 0 0 83) [.ref (aG G 0)] n V R 0 0 (fun vv uu => vv = some (.int (iI (omS (V 40) ((zShl 1 (V 1 8)) - 1) (V 1 10)))) ∧ uu = (n, V, R)) := by
  have hsb := shl_16 h8
  refine Cn.of (by decide) (Nat.le_of_ble_eq_true rfl) (fun K C hct => ?_)
  show Xw K G 0 0 _ n V R 0 [(0, .ref (aG G 0))] []
  refine x_iconst C dX11_ordersMet_0 ?_
  refine x_aload_n C 0 dX11_ordersMet_1 rfl rfl ?_
  refine x_getr C ok_Class 0 0 (d := 1) dX11_ordersMet_2 (lt67 hn rfl) rfl (by decide) rfl q_0_16 rfl (kz := 0) rfl (lr_0_0 hLR) ?_
  refine x_geti C ok_Yard 1 8 dX11_ordersMet_5 (lt67 hn rfl) rfl (by decide) rfl q_39_11 rfl (kz := 8) rfl (fun rg5 => ?_)
  refine x_ishl C dX11_ordersMet_8 ?_
  refine x_iconst C dX11_ordersMet_9 ?_
  refine x_isub C dX11_ordersMet_10 ?_
  refine x_istore_n C dX11_ordersMet_11 rfl (by decide) (lv' := [(0, .ref (aG G 0)), (1, .int (iI ((zShl 1 (V 1 8)) - 1)))]) rfl ?_
  refine x_iconst C dX11_ordersMet_12 ?_
  refine x_istore_n C dX11_ordersMet_13 rfl (by decide) (lv' := [(0, .ref (aG G 0)), (1, .int (iI ((zShl 1 (V 1 8)) - 1))), (2, .int (iI 0))]) rfl ?_
  refine x_iconst C dX11_ordersMet_14 ?_
  refine x_istore_n C dX11_ordersMet_15 rfl (by decide) (lv' := [(0, .ref (aG G 0)), (1, .int (iI ((zShl 1 (V 1 8)) - 1))), (2, .int (iI 0)), (3, .int (iI 0))]) rfl ?_
  have lp_16 : ∀ (fuel : Nat) (w : Int) (o : Int), (0 ≤ o ∧ o ≤ V 1 10) → (w = (omS (V 40) ((zShl 1 (V 1 8)) - 1) o)) → (0 ≤ w ∧ w ≤ 63) → ((7 : Int) - o) < (fuel : Int) → Xw K G 0 0 (EndQ K G 0 0 (fun vv uu => vv = some (.int (iI (omS (V 40) ((zShl 1 (V 1 8)) - 1) (V 1 10)))) ∧ uu = (n, V, R))) n V R 16 [(0, .ref (aG G 0)), (1, .int (iI ((zShl 1 (V 1 8)) - 1))), (2, .int (iI w)), (3, .int (iI o))] [] := by
    intro fuel16
    induction fuel16 with
    | zero => intro w o ho hw hw2 hfu16; exfalso; omega
    | succ fuel16 ih16 =>
      intro w o ho hw hw2 hfu16
      refine x_iload_n C 3 dX11_ordersMet_16 rfl rfl ?_
      refine x_aload_n C 0 dX11_ordersMet_17 rfl rfl ?_
      refine x_getr C ok_Class 0 0 (d := 1) dX11_ordersMet_18 (lt67 hn rfl) rfl (by decide) rfl q_0_16 rfl (kz := 0) rfl (lr_0_0 hLR) ?_
      refine x_geti C ok_Yard 1 10 dX11_ordersMet_21 (lt67 hn rfl) rfl (by decide) rfl q_40_18 rfl (kz := 10) rfl (fun rg21 => ?_)
      refine x_icmp_ge C dX11_ordersMet_24 (tgt := 52) (by decide) (by first | assumption | (constructor <;> omega)) (by first | assumption | (constructor <;> omega)) (fun h24 => ?_) (fun h24 => ?_)
      · skip
        refine x_iload_n C 2 dX11_ordersMet_52 rfl rfl ?_
        refine x_iret C dX11_ordersMet_53 ⟨congrArg (fun z => some (Value.int (iI z))) (by rw [hw, show o = V 1 10 by omega]), rfl⟩
      · skip
        refine x_aload_n C 0 dX11_ordersMet_27 rfl rfl ?_
        refine x_iload_n C 2 dX11_ordersMet_28 rfl rfl ?_
        refine x_iconst C dX11_ordersMet_29 ?_
        refine x_iload_n C 3 dX11_ordersMet_30 rfl rfl ?_
        refine x_ishl C dX11_ordersMet_31 ?_
        refine x_ior C dX11_ordersMet_32 ?_
        refine x_iload_n C 1 dX11_ordersMet_33 rfl rfl ?_
        refine x_runU (r_callV C ok_Class 0 (lt67 hn rfl) rfl (ce_X11_canBeMet) (m_X11_canBeMet G n V R (zOr w (zShl 1 o)) ((zShl 1 (V 1 8)) - 1) hn hLR (by exact zOr_63 hw2 (by omega))) rfl dX11_ordersMet_34 q_42_1 q_42_2 q_42_3 rfl rfl ⟨Nat.le_of_ble_eq_true rfl, Nat.le_of_ble_eq_true rfl⟩ ⟨rfl, rfl⟩ ⟨Nat.le_of_ble_eq_true rfl, Nat.le_of_ble_eq_true rfl⟩ (Nat.le_of_ble_eq_true rfl)) (fun v34 u34 hp34 => ?_)
        obtain ⟨rfl, rfl⟩ := hp34
        show Xw K G 0 0 _ n V R 37 [(0, .ref (aG G 0)), (1, .int (iI ((zShl 1 (V 1 8)) - 1))), (2, .int (iI w)), (3, .int (iI o))] [.int (iI (bI (HallQ (V 40) (zOr w (zShl 1 o)) ((zShl 1 (V 1 8)) - 1))))]
        refine x_ifeq_b C dX11_ordersMet_37 (tgt := 46) (by decide) (fun h37 => ?_) (fun h37 => ?_)
        · skip
          refine x_iinc C 3 dX11_ordersMet_46 rfl (by decide) (lv' := [(0, .ref (aG G 0)), (1, .int (iI ((zShl 1 (V 1 8)) - 1))), (2, .int (iI w)), (3, .int (iI (o + 1)))]) rfl ?_
          refine x_goto C dX11_ordersMet_49 (tgt := 16) (by decide) ?_
          exact ih16 (w) ((o + 1)) (by omega) (by rw [omS_s ho.1, ← hw]; first | (rw [cif_t (by assumption)]) | (rw [cif_f (by assumption)])) (by first | exact zOr_63 hw2 (by omega) | exact hw2) (by omega)
        · skip
          refine x_iload_n C 2 dX11_ordersMet_40 rfl rfl ?_
          refine x_iconst C dX11_ordersMet_41 ?_
          refine x_iload_n C 3 dX11_ordersMet_42 rfl rfl ?_
          refine x_ishl C dX11_ordersMet_43 ?_
          refine x_ior C dX11_ordersMet_44 ?_
          refine x_istore_n C dX11_ordersMet_45 rfl (by decide) (lv' := [(0, .ref (aG G 0)), (1, .int (iI ((zShl 1 (V 1 8)) - 1))), (2, .int (iI (zOr w (zShl 1 o)))), (3, .int (iI o))]) rfl ?_
          refine x_iinc C 3 dX11_ordersMet_46 rfl (by decide) (lv' := [(0, .ref (aG G 0)), (1, .int (iI ((zShl 1 (V 1 8)) - 1))), (2, .int (iI (zOr w (zShl 1 o)))), (3, .int (iI (o + 1)))]) rfl ?_
          refine x_goto C dX11_ordersMet_49 (tgt := 16) (by decide) ?_
          exact ih16 ((zOr w (zShl 1 o))) ((o + 1)) (by omega) (by rw [omS_s ho.1, ← hw]; first | (rw [cif_t (by assumption)]) | (rw [cif_f (by assumption)])) (by first | exact zOr_63 hw2 (by omega) | exact hw2) (by omega)
  exact lp_16 (((7 : Int) - 0).toNat + 1) (0) (0) (by omega) (by rfl) (by omega) (by omega)
set_option maxRecDepth 100000 in
set_option maxHeartbeats 4000000 in
theorem m_X11_met (G : GS) (n : Nat) (V : Nat → Int → Int) (R : Nat → Int → Option Nat) (w : Int) (hn : 67 ≤ n) (hLR : LR R) (gw : Rg w) (h8 : 0 ≤ V 1 8 ∧ V 1 8 ≤ 16) (h10 : 0 ≤ V 1 10 ∧ V 1 10 ≤ 6) : Cn G yX11_met cX11_met 2 (some .int) (rmk 5 0 0 106) [.ref (aG G 0), .int (iI w)] n V R 0 0 (fun vv uu => ∃ (r : Int), ∃ (V1 : Nat → Int → Int), vv = some (.int (iI r)) ∧ uu = (n, V1, R) ∧ (∀ q, q ≠ 40 → V1 q = V q) ∧ ((¬ (0 ≤ w ∧ w ≤ 1) ∧ r = -2) ∨ ((∀ o, 0 ≤ o → o < V 1 10 → Rg (V1 40 o) ∧ ∀ q, 0 ≤ q → q < 32 → (inS (V1 40 o) q ↔ (q < V 1 8 ∧ meetQ (V 4) (V 5) (4 * q) (4 * o)))) ∧ ((w = 0 ∧ r = omS (V1 40) ((zShl 1 (V 1 8)) - 1) (V 1 10)) ∨ (w = 1 ∧ r = popc (bmS (V1 40) ((zShl 1 (V 1 10)) - 1) 6)))))) := by
  refine Cn.of (by decide) (Nat.le_of_ble_eq_true rfl) (fun K C hct => ?_)
  show Xw K G 0 0 _ n V R 0 [(0, .ref (aG G 0)), (1, .int (iI w))] []
  refine x_iload_n C 1 dX11_met_0 rfl rfl ?_
  refine x_iconst C dX11_met_1 ?_
  refine x_iconst C dX11_met_2 ?_
  refine x_runU (r_callS C (ce_X11_within) (m_X11_within G n V R (w) (0) (1) (by first | assumption | omega | decide) (by first | assumption | omega | decide) (by first | assumption | omega | decide)) dX11_met_3 q_5_4 q_5_5 rfl rfl ⟨Nat.le_of_ble_eq_true rfl, Nat.le_of_ble_eq_true rfl⟩ ⟨rfl, rfl⟩ ⟨Nat.le_of_ble_eq_true rfl, Nat.le_of_ble_eq_true rfl⟩ (Nat.le_of_ble_eq_true rfl)) (fun v3 u3 hp3 => ?_)
  obtain ⟨rfl, rfl⟩ := hp3
  show Xw K G 0 0 _ n V R 6 [(0, .ref (aG G 0)), (1, .int (iI w))] [.int (iI (bI (0 ≤ w ∧ w ≤ 1)))]
  refine x_ifne_b C dX11_met_6 (tgt := 12) (by decide) (fun h6 => ?_) (fun h6 => ?_)
  · skip
    refine x_aload_n C 0 dX11_met_12 rfl rfl ?_
    refine x_runU (r_callV C ok_Class 0 (lt67 hn rfl) rfl (ce_X11_findMeeting) (m_X11_findMeeting G n V R hn hLR (by first | assumption | omega | decide) (by first | assumption | omega | decide)) rfl dX11_met_13 q_41_9 q_41_10 q_41_11 rfl rfl ⟨Nat.le_of_ble_eq_true rfl, Nat.le_of_ble_eq_true rfl⟩ ⟨rfl, rfl⟩ ⟨Nat.le_of_ble_eq_true rfl, Nat.le_of_ble_eq_true rfl⟩ (Nat.le_of_ble_eq_true rfl)) (fun v13 u13 hp13 => ?_)
    obtain ⟨V1_13, rfl, rfl, hq13_0, hq13_1⟩ := hp13
    show Xw K G 0 0 _ n V1_13 R 16 [(0, .ref (aG G 0)), (1, .int (iI w))] []
    have e1 : V1_13 1 = V 1 := hq13_0 1 (by decide)
    refine x_iload_n C 1 dX11_met_16 rfl rfl ?_
    refine x_if_ne C dX11_met_17 (tgt := 27) (by decide) (by first | assumption | (constructor <;> omega)) (fun h17 => ?_) (fun h17 => ?_)
    · skip
      refine x_aload_n C 0 dX11_met_27 rfl rfl ?_
      refine x_iconst C dX11_met_28 ?_
      refine x_aload_n C 0 dX11_met_29 rfl rfl ?_
      refine x_getr C ok_Class 0 0 (d := 1) dX11_met_30 (lt67 hn rfl) rfl (by decide) rfl q_0_16 rfl (kz := 0) rfl (lr_0_0 hLR) ?_
      refine x_geti C ok_Yard 1 10 dX11_met_33 (lt67 hn rfl) rfl (by decide) rfl q_40_18 rfl (kz := 10) rfl (fun rg33 => ?_)
      refine x_ishl C dX11_met_36 ?_
      refine x_iconst C dX11_met_37 ?_
      refine x_isub C dX11_met_38 ?_
      refine x_runU (r_callV C ok_Class 0 (lt67 hn rfl) rfl (ce_X11_boardsMeeting) (m_X11_boardsMeeting G n V1_13 R ((zShl 1 (V1_13 1 10)) - 1) hn hLR) rfl dX11_met_39 q_42_5 q_42_6 q_42_7 rfl rfl ⟨Nat.le_of_ble_eq_true rfl, Nat.le_of_ble_eq_true rfl⟩ ⟨rfl, rfl⟩ ⟨Nat.le_of_ble_eq_true rfl, Nat.le_of_ble_eq_true rfl⟩ (Nat.le_of_ble_eq_true rfl)) (fun v39 u39 hp39 => ?_)
      obtain ⟨rfl, rfl⟩ := hp39
      show Xw K G 0 0 _ n V1_13 R 42 [(0, .ref (aG G 0)), (1, .int (iI w))] [.int (iI (bmS (V1_13 40) ((zShl 1 (V1_13 1 10)) - 1) 6))]
      refine x_runU (r_callS C (ce_J6_bitCount_0f7a4) (m_J6_bitCount_0f7a4 G n V1_13 R (bmS (V1_13 40) ((zShl 1 (V1_13 1 10)) - 1) 6)) dX11_met_42 q_42_10 q_42_11 rfl rfl ⟨Nat.le_of_ble_eq_true rfl, Nat.le_of_ble_eq_true rfl⟩ ⟨rfl, rfl⟩ ⟨Nat.le_of_ble_eq_true rfl, Nat.le_of_ble_eq_true rfl⟩ (Nat.le_of_ble_eq_true rfl)) (fun v42 u42 hp42 => ?_)
      obtain ⟨rfl, rfl⟩ := hp42
      show Xw K G 0 0 _ n V1_13 R 45 [(0, .ref (aG G 0)), (1, .int (iI w))] [.int (iI (popc (bmS (V1_13 40) ((zShl 1 (V1_13 1 10)) - 1) 6)))]
      refine x_iret C dX11_met_45 ⟨_, _, rfl, rfl, ?_, ?_⟩
      · exact hq13_0
      · first | exact Or.inr ⟨hq13_1, Or.inl ⟨by omega, by rw [e1]⟩⟩ | exact Or.inr ⟨hq13_1, Or.inr ⟨by omega, by rw [e1]⟩⟩
    · skip
      refine x_aload_n C 0 dX11_met_20 rfl rfl ?_
      refine x_runU (r_callV C ok_Class 0 (lt67 hn rfl) rfl (ce_X11_ordersMet) (m_X11_ordersMet G n V1_13 R hn hLR (by rw [e1]; exact h8) (by rw [e1]; exact h10)) rfl dX11_met_21 q_41_21 q_41_22 q_41_23 rfl rfl ⟨Nat.le_of_ble_eq_true rfl, Nat.le_of_ble_eq_true rfl⟩ ⟨rfl, rfl⟩ ⟨Nat.le_of_ble_eq_true rfl, Nat.le_of_ble_eq_true rfl⟩ (Nat.le_of_ble_eq_true rfl)) (fun v21 u21 hp21 => ?_)
      obtain ⟨rfl, rfl⟩ := hp21
      show Xw K G 0 0 _ n V1_13 R 24 [(0, .ref (aG G 0)), (1, .int (iI w))] [.int (iI (omS (V1_13 40) ((zShl 1 (V1_13 1 8)) - 1) (V1_13 1 10)))]
      refine x_goto C dX11_met_24 (tgt := 45) (by decide) ?_
      refine x_iret C dX11_met_45 ⟨_, _, rfl, rfl, ?_, ?_⟩
      · exact hq13_0
      · first | exact Or.inr ⟨hq13_1, Or.inl ⟨by omega, by rw [e1]⟩⟩ | exact Or.inr ⟨hq13_1, Or.inr ⟨by omega, by rw [e1]⟩⟩
  · skip
    refine x_bipush C dX11_met_9 (w := -2) (by decide) ?_
    refine x_iret C dX11_met_11 ⟨_, _, rfl, rfl, ?_, ?_⟩
    · exact fun _ _ => rfl
    · exact Or.inl ⟨by omega, rfl⟩
set_option maxRecDepth 100000 in
set_option maxHeartbeats 4000000 in
theorem m_X11_boardFor (G : GS) (n : Nat) (V : Nat → Int → Int) (R : Nat → Int → Option Nat) (o : Int) (oth : Int) (bs : Int) (hn : 67 ≤ n) (hLR : LR R) (ho : 0 ≤ o ∧ o < 6) (hoth : 0 ≤ oth ∧ oth ≤ 63) : Cn G yX11_boardFor cX11_boardFor 6 (some .int) (rmk 4 0 0 83) [.ref (aG G 0), .int (iI o), .int (iI oth), .int (iI bs)] n V R 0 0 (fun vv uu => ∃ (r : Int), vv = some (.int (iI r)) ∧ uu = (n, V, R) ∧ ((∃ b, 0 ≤ b ∧ b < 16 ∧ r = zShl 1 b ∧ (zAnd (zAnd (V 40 o) bs) (zShl 1 b) ≠ 0 ∧ HallQ (V 40) oth (zAnd bs (zXor (zShl 1 b) (-1)))) ∧ ∀ c, 0 ≤ c → c < b → ¬ (zAnd (zAnd (V 40 o) bs) (zShl 1 c) ≠ 0 ∧ HallQ (V 40) oth (zAnd bs (zXor (zShl 1 c) (-1))))) ∨ (r = 0 ∧ ∀ c, 0 ≤ c → c < 16 → ¬ (zAnd (zAnd (V 40 o) bs) (zShl 1 c) ≠ 0 ∧ HallQ (V 40) oth (zAnd bs (zXor (zShl 1 c) (-1))))))) := by
  refine Cn.of (by decide) (Nat.le_of_ble_eq_true rfl) (fun K C hct => ?_)
  show Xw K G 0 0 _ n V R 0 [(0, .ref (aG G 0)), (1, .int (iI o)), (2, .int (iI oth)), (3, .int (iI bs))] []
  refine x_iconst C dX11_boardFor_0 ?_
  refine x_istore C dX11_boardFor_1 (by decide) (lv' := [(0, .ref (aG G 0)), (1, .int (iI o)), (2, .int (iI oth)), (3, .int (iI bs)), (4, .int (iI 0))]) rfl ?_
  have lp_3 : ∀ (fuel : Nat) (b : Int), (0 ≤ b ∧ b ≤ 16) → (∀ c, 0 ≤ c → c < b → ¬ (zAnd (zAnd (V 40 o) bs) (zShl 1 c) ≠ 0 ∧ HallQ (V 40) oth (zAnd bs (zXor (zShl 1 c) (-1))))) → ((17 : Int) - b) < (fuel : Int) → Xw K G 0 0 (EndQ K G 0 0 (fun vv uu => ∃ (r : Int), vv = some (.int (iI r)) ∧ uu = (n, V, R) ∧ ((∃ b, 0 ≤ b ∧ b < 16 ∧ r = zShl 1 b ∧ (zAnd (zAnd (V 40 o) bs) (zShl 1 b) ≠ 0 ∧ HallQ (V 40) oth (zAnd bs (zXor (zShl 1 b) (-1)))) ∧ ∀ c, 0 ≤ c → c < b → ¬ (zAnd (zAnd (V 40 o) bs) (zShl 1 c) ≠ 0 ∧ HallQ (V 40) oth (zAnd bs (zXor (zShl 1 c) (-1))))) ∨ (r = 0 ∧ ∀ c, 0 ≤ c → c < 16 → ¬ (zAnd (zAnd (V 40 o) bs) (zShl 1 c) ≠ 0 ∧ HallQ (V 40) oth (zAnd bs (zXor (zShl 1 c) (-1)))))))) n V R 3 [(0, .ref (aG G 0)), (1, .int (iI o)), (2, .int (iI oth)), (3, .int (iI bs)), (4, .int (iI b))] [] := by
    intro fuel3
    induction fuel3 with
    | zero => intro b hb hN hfu3; exfalso; omega
    | succ fuel3 ih3 =>
      intro b hb hN hfu3
      refine x_iload C 4 dX11_boardFor_3 rfl ?_
      refine x_bipush C dX11_boardFor_5 (w := 16) (by decide) ?_
      refine x_icmp_ge C dX11_boardFor_7 (tgt := 53) (by decide) (by first | assumption | (constructor <;> omega)) (by first | assumption | (constructor <;> omega)) (fun h7 => ?_) (fun h7 => ?_)
      · skip
        refine x_iconst C dX11_boardFor_53 ?_
        refine x_iret C dX11_boardFor_54 ⟨_, rfl, rfl, ?_⟩
        · exact Or.inr ⟨rfl, fun c a d => hN c a (by omega)⟩
      · skip
        refine x_iconst C dX11_boardFor_10 ?_
        refine x_iload C 4 dX11_boardFor_11 rfl ?_
        refine x_ishl C dX11_boardFor_13 ?_
        refine x_istore C dX11_boardFor_14 (by decide) (lv' := [(0, .ref (aG G 0)), (1, .int (iI o)), (2, .int (iI oth)), (3, .int (iI bs)), (4, .int (iI b)), (5, .int (iI (zShl 1 b)))]) rfl ?_
        refine x_aload_n C 0 dX11_boardFor_16 rfl rfl ?_
        refine x_getr C ok_Class 0 11 (d := 40) dX11_boardFor_17 (lt67 hn rfl) rfl (by decide) rfl q_1_9 rfl (kz := 11) rfl (lr_0_11 hLR) ?_
        refine x_iload_n C 1 dX11_boardFor_20 rfl rfl ?_
        refine x_iald C 40 dX11_boardFor_21 (lt67 hn rfl) rfl (by refine ⟨?_, ?_⟩ <;> omega) (fun rg21 => ?_)
        refine x_iload_n C 3 dX11_boardFor_22 rfl rfl ?_
        refine x_iand C dX11_boardFor_23 ?_
        refine x_iload C 5 dX11_boardFor_24 rfl ?_
        refine x_iand C dX11_boardFor_26 ?_
        have zr_ := zAnd_rg (zAnd (V 40 o) bs) (zShl 1 b)
        refine x_if_eq C dX11_boardFor_27 (tgt := 47) (by decide) (by first | assumption | (constructor <;> omega)) (fun h27 => ?_) (fun h27 => ?_)
        · skip
          refine x_iinc C 4 dX11_boardFor_47 rfl (by decide) (lv' := [(0, .ref (aG G 0)), (1, .int (iI o)), (2, .int (iI oth)), (3, .int (iI bs)), (4, .int (iI (b + 1))), (5, .int (iI (zShl 1 b)))]) rfl ?_
          refine x_goto C dX11_boardFor_50 (tgt := 3) (by decide) ?_
          refine x_sub [0, 1, 2, 3, 4] (lv' := [(0, .ref (aG G 0)), (1, .int (iI o)), (2, .int (iI oth)), (3, .int (iI bs)), (4, .int (iI (b + 1)))]) rfl ?_
          exact ih3 ((b + 1)) (by omega) (by exact fun c a d => by (by_cases w : c = b; (rw [w]; first | exact fun q => absurd (by assumption) q.1 | exact fun q => absurd q.2 (by assumption)); exact hN c a (by omega))) (by omega)
        · skip
          refine x_aload_n C 0 dX11_boardFor_30 rfl rfl ?_
          refine x_iload_n C 2 dX11_boardFor_31 rfl rfl ?_
          refine x_iload_n C 3 dX11_boardFor_32 rfl rfl ?_
          refine x_iload C 5 dX11_boardFor_33 rfl ?_
          refine x_iconst C dX11_boardFor_35 ?_
          refine x_ixor C dX11_boardFor_36 ?_
          refine x_iand C dX11_boardFor_37 ?_
          refine x_runU (r_callV C ok_Class 0 (lt67 hn rfl) rfl (ce_X11_canBeMet) (m_X11_canBeMet G n V R (oth) (zAnd bs (zXor (zShl 1 b) (-1))) hn hLR (by first | assumption | omega | decide)) rfl dX11_boardFor_38 q_42_1 q_42_2 q_42_3 rfl rfl ⟨Nat.le_of_ble_eq_true rfl, Nat.le_of_ble_eq_true rfl⟩ ⟨rfl, rfl⟩ ⟨Nat.le_of_ble_eq_true rfl, Nat.le_of_ble_eq_true rfl⟩ (Nat.le_of_ble_eq_true rfl)) (fun v38 u38 hp38 => ?_)
          obtain ⟨rfl, rfl⟩ := hp38
          show Xw K G 0 0 _ n V R 41 [(0, .ref (aG G 0)), (1, .int (iI o)), (2, .int (iI oth)), (3, .int (iI bs)), (4, .int (iI b)), (5, .int (iI (zShl 1 b)))] [.int (iI (bI (HallQ (V 40) oth (zAnd bs (zXor (zShl 1 b) (-1))))))]
          refine x_ifeq_b C dX11_boardFor_41 (tgt := 47) (by decide) (fun h41 => ?_) (fun h41 => ?_)
          · skip
            refine x_iinc C 4 dX11_boardFor_47 rfl (by decide) (lv' := [(0, .ref (aG G 0)), (1, .int (iI o)), (2, .int (iI oth)), (3, .int (iI bs)), (4, .int (iI (b + 1))), (5, .int (iI (zShl 1 b)))]) rfl ?_
            refine x_goto C dX11_boardFor_50 (tgt := 3) (by decide) ?_
            refine x_sub [0, 1, 2, 3, 4] (lv' := [(0, .ref (aG G 0)), (1, .int (iI o)), (2, .int (iI oth)), (3, .int (iI bs)), (4, .int (iI (b + 1)))]) rfl ?_
            exact ih3 ((b + 1)) (by omega) (by exact fun c a d => by (by_cases w : c = b; (rw [w]; first | exact fun q => absurd (by assumption) q.1 | exact fun q => absurd q.2 (by assumption)); exact hN c a (by omega))) (by omega)
          · skip
            refine x_iload C 5 dX11_boardFor_44 rfl ?_
            refine x_iret C dX11_boardFor_46 ⟨_, rfl, rfl, ?_⟩
            · exact Or.inl ⟨b, hb.1, by omega, rfl, ⟨by assumption, by assumption⟩, hN⟩
  exact lp_3 (((17 : Int) - 0).toNat + 1) (0) (by omega) (by exact fun c a d => by omega) (by omega)
