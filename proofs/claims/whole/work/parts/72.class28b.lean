
set_option maxRecDepth 100000 in
set_option maxHeartbeats 4000000 in
theorem m_X11_findMeeting (G : GS) (n : Nat) (V : Nat → Int → Int) (R : Nat → Int → Option Nat) (hn : 67 ≤ n) (hLR : LR R) (h8 : 0 ≤ V 1 8 ∧ V 1 8 ≤ 16) (h10 : 0 ≤ V 1 10 ∧ V 1 10 ≤ 6) : Cn G yX11_findMeeting cX11_findMeeting 2 none (rmk 3 0 0 61) [.ref (aG G 0)] n V R 0 0 (fun vv uu => ∃ (V1 : Nat → Int → Int), vv = none ∧ uu = (n, V1, R) ∧ (∀ q, q ≠ 40 → V1 q = V q) ∧ (∀ o, 0 ≤ o → o < V 1 10 → Rg (V1 40 o) ∧ ∀ q, 0 ≤ q → q < 32 → (inS (V1 40 o) q ↔ (q < V 1 8 ∧ meetQ (V 4) (V 5) (4 * q) (4 * o))))) := by
  refine Cn.of (by decide) (Nat.le_of_ble_eq_true rfl) (fun K C hct => ?_)
  show Xw K G 0 0 _ n V R 0 [(0, .ref (aG G 0))] []
  refine x_iconst C dX11_findMeeting_0 ?_
  refine x_istore_n C dX11_findMeeting_1 rfl (by decide) (lv' := [(0, .ref (aG G 0)), (1, .int (iI 0))]) rfl ?_
  have lp_2 : ∀ (fuel : Nat) (o : Int) (V2 : Nat → Int → Int), (0 ≤ o ∧ o ≤ V 1 10) → (∀ q, q ≠ 40 → V2 q = V q) → (∀ x, 0 ≤ x → x < o → Rg (V2 40 x) ∧ ∀ q, 0 ≤ q → q < 32 → (inS (V2 40 x) q ↔ (q < V 1 8 ∧ meetQ (V 4) (V 5) (4 * q) (4 * x)))) → ((7 : Int) - o) < (fuel : Int) → Xw K G 0 0 (EndQ K G 0 0 (fun vv uu => ∃ (V1 : Nat → Int → Int), vv = none ∧ uu = (n, V1, R) ∧ (∀ q, q ≠ 40 → V1 q = V q) ∧ (∀ o, 0 ≤ o → o < V 1 10 → Rg (V1 40 o) ∧ ∀ q, 0 ≤ q → q < 32 → (inS (V1 40 o) q ↔ (q < V 1 8 ∧ meetQ (V 4) (V 5) (4 * q) (4 * o)))))) n V2 R 2 [(0, .ref (aG G 0)), (1, .int (iI o))] [] := by
    intro fuel2
    induction fuel2 with
    | zero => intro o V2 ho hF2 hM hfu2; exfalso; omega
    | succ fuel2 ih2 =>
      intro o V2 ho hF2 hM hfu2
      have e1 : V2 1 = V 1 := hF2 1 (by decide)
      have e4 : V2 4 = V 4 := hF2 4 (by decide)
      have e5 : V2 5 = V 5 := hF2 5 (by decide)
      have e10 : V2 1 10 = V 1 10 := by rw [e1]
      refine x_iload_n C 1 dX11_findMeeting_2 rfl rfl ?_
      refine x_aload_n C 0 dX11_findMeeting_3 rfl rfl ?_
      refine x_getr C ok_Class 0 0 (d := 1) dX11_findMeeting_4 (lt67 hn rfl) rfl (by decide) rfl q_0_16 rfl (kz := 0) rfl (lr_0_0 hLR) ?_
      refine x_geti C ok_Yard 1 10 dX11_findMeeting_7 (lt67 hn rfl) rfl (by decide) rfl q_40_18 rfl (kz := 10) rfl (fun rg7 => ?_)
      refine x_icmp_ge C dX11_findMeeting_10 (tgt := 39) (by decide) (by first | assumption | (constructor <;> omega)) (by first | assumption | (constructor <;> omega)) (fun h10 => ?_) (fun h10 => ?_)
      · skip
        refine x_vret C dX11_findMeeting_39 ⟨_, rfl, rfl, ?_, ?_⟩
        · exact hF2
        · exact fun o a b => hM o a (by omega)
      · skip
        refine x_iload_n C 1 dX11_findMeeting_13 rfl rfl ?_
        refine x_bipush C dX11_findMeeting_14 (w := 6) (by decide) ?_
        refine x_icmp_ge C dX11_findMeeting_16 (tgt := 39) (by decide) (by first | assumption | (constructor <;> omega)) (by first | assumption | (constructor <;> omega)) (fun h16 => ?_) (fun h16 => ?_)
        · skip
          refine x_vret C dX11_findMeeting_39 ⟨_, rfl, rfl, ?_, ?_⟩
          · exact hF2
          · exact fun o a b => hM o a (by omega)
        · skip
          refine x_aload_n C 0 dX11_findMeeting_19 rfl rfl ?_
          refine x_getr C ok_Class 0 11 (d := 40) dX11_findMeeting_20 (lt67 hn rfl) rfl (by decide) rfl q_1_9 rfl (kz := 11) rfl (lr_0_11 hLR) ?_
          refine x_iload_n C 1 dX11_findMeeting_23 rfl rfl ?_
          refine x_aload_n C 0 dX11_findMeeting_24 rfl rfl ?_
          refine x_getr C ok_Class 0 0 (d := 1) dX11_findMeeting_25 (lt67 hn rfl) rfl (by decide) rfl q_0_16 rfl (kz := 0) rfl (lr_0_0 hLR) ?_
          refine x_iload_n C 1 dX11_findMeeting_28 rfl rfl ?_
          refine x_runU (r_callV C ok_Yard 1 (lt67 hn rfl) rfl (ce_X10_boardsThatMeet) (m_X10_boardsThatMeet G n V2 R (1) (o) hn hLR (by first | assumption | omega | decide) (by first | assumption | omega | decide) (by rw [e1]; omega)) rfl dX11_findMeeting_29 q_41_13 q_41_14 q_41_15 rfl rfl ⟨Nat.le_of_ble_eq_true rfl, Nat.le_of_ble_eq_true rfl⟩ ⟨rfl, rfl⟩ ⟨Nat.le_of_ble_eq_true rfl, Nat.le_of_ble_eq_true rfl⟩ (Nat.le_of_ble_eq_true rfl)) (fun v29 u29 hp29 => ?_)
          obtain ⟨r_29, rfl, rfl, hq29_0, hq29_1⟩ := hp29
          show Xw K G 0 0 _ n V2 R 32 [(0, .ref (aG G 0)), (1, .int (iI o))] [.int (iI r_29), .int (iI o), .ref (aG G 40)]
          refine x_iast C 40 dX11_findMeeting_32 (lt67 hn rfl) rfl (by refine ⟨?_, ?_⟩ <;> omega) (by first | assumption | (constructor <;> omega)) ?_
          refine x_iinc C 1 dX11_findMeeting_33 rfl (by decide) (lv' := [(0, .ref (aG G 0)), (1, .int (iI (o + 1)))]) rfl ?_
          refine x_goto C dX11_findMeeting_36 (tgt := 2) (by decide) ?_
          exact ih2 ((o + 1)) ((u2 V2 40 o r_29)) (by omega) (by exact fun q a => by rw [u2_n a]; exact hF2 q a) (by exact fun x a b => by (rw [u2_s]; by_cases w : x = o; (rw [w, u1_s]; refine ⟨hq29_0, ?_⟩; rw [e1] at hq29_1; rw [← e4, ← e5]; exact hq29_1); (rw [u1_n w]; exact hM x a (by omega)))) (by omega)
  exact lp_2 (((7 : Int) - 0).toNat + 1) (0) (V) (by omega) (by exact fun _ _ => rfl) (by exact fun x a b => by omega) (by omega)
set_option maxRecDepth 100000 in
set_option maxHeartbeats 4000000 in
theorem m_X11_boardsMeeting (G : GS) (n : Nat) (V : Nat → Int → Int) (R : Nat → Int → Option Nat) (fw : Int) (hn : 67 ≤ n) (hLR : LR R) : Cn G yX11_boardsMeeting cX11_boardsMeeting 4 (some .int) (rmk 2 0 0 37) [.ref (aG G 0), .int (iI fw)] n V R 0 0 (fun vv uu => vv = some (.int (iI (bmS (V 40) fw 6))) ∧ uu = (n, V, R)) := by
  refine Cn.of (by decide) (Nat.le_of_ble_eq_true rfl) (fun K C hct => ?_)
  show Xw K G 0 0 _ n V R 0 [(0, .ref (aG G 0)), (1, .int (iI fw))] []
  refine x_iconst C dX11_boardsMeeting_0 ?_
  refine x_istore_n C dX11_boardsMeeting_1 rfl (by decide) (lv' := [(0, .ref (aG G 0)), (1, .int (iI fw)), (2, .int (iI 0))]) rfl ?_
  refine x_iconst C dX11_boardsMeeting_2 ?_
  refine x_istore_n C dX11_boardsMeeting_3 rfl (by decide) (lv' := [(0, .ref (aG G 0)), (1, .int (iI fw)), (2, .int (iI 0)), (3, .int (iI 0))]) rfl ?_
  have lp_4 : ∀ (fuel : Nat) (w : Int) (o : Int), (0 ≤ o ∧ o ≤ 6) → (w = bmS (V 40) fw o) → ((7 : Int) - o) < (fuel : Int) → Xw K G 0 0 (EndQ K G 0 0 (fun vv uu => vv = some (.int (iI (bmS (V 40) fw 6))) ∧ uu = (n, V, R))) n V R 4 [(0, .ref (aG G 0)), (1, .int (iI fw)), (2, .int (iI w)), (3, .int (iI o))] [] := by
    intro fuel4
    induction fuel4 with
    | zero => intro w o ho hw hfu4; exfalso; omega
    | succ fuel4 ih4 =>
      intro w o ho hw hfu4
      refine x_iload_n C 3 dX11_boardsMeeting_4 rfl rfl ?_
      refine x_bipush C dX11_boardsMeeting_5 (w := 6) (by decide) ?_
      refine x_icmp_ge C dX11_boardsMeeting_7 (tgt := 33) (by decide) (by first | assumption | (constructor <;> omega)) (by first | assumption | (constructor <;> omega)) (fun h7 => ?_) (fun h7 => ?_)
      · skip
        refine x_iload_n C 2 dX11_boardsMeeting_33 rfl rfl ?_
        refine x_iret C dX11_boardsMeeting_34 ⟨congrArg (fun z => some (Value.int (iI z))) (by rw [hw, show o = 6 by omega]), rfl⟩
      · skip
        refine x_iload_n C 1 dX11_boardsMeeting_10 rfl rfl ?_
        refine x_iload_n C 3 dX11_boardsMeeting_11 rfl rfl ?_
        refine x_runU (r_callS C (ce_X11_has) (m_X11_has G n V R (fw) (o)) dX11_boardsMeeting_12 q_42_9 q_36_17 rfl rfl ⟨Nat.le_of_ble_eq_true rfl, Nat.le_of_ble_eq_true rfl⟩ ⟨rfl, rfl⟩ ⟨Nat.le_of_ble_eq_true rfl, Nat.le_of_ble_eq_true rfl⟩ (Nat.le_of_ble_eq_true rfl)) (fun v12 u12 hp12 => ?_)
        obtain ⟨rfl, rfl⟩ := hp12
        show Xw K G 0 0 _ n V R 15 [(0, .ref (aG G 0)), (1, .int (iI fw)), (2, .int (iI w)), (3, .int (iI o))] [.int (iI (bI (inS fw o)))]
        refine x_ifeq_b C dX11_boardsMeeting_15 (tgt := 27) (by decide) (fun h15 => ?_) (fun h15 => ?_)
        · skip
          refine x_iinc C 3 dX11_boardsMeeting_27 rfl (by decide) (lv' := [(0, .ref (aG G 0)), (1, .int (iI fw)), (2, .int (iI w)), (3, .int (iI (o + 1)))]) rfl ?_
          refine x_goto C dX11_boardsMeeting_30 (tgt := 4) (by decide) ?_
          exact ih4 (w) ((o + 1)) (by omega) (by rw [bmS_s ho.1, ← hw]; first | (rw [cif_t (by assumption)]) | (rw [cif_f (by assumption)])) (by omega)
        · skip
          refine x_iload_n C 2 dX11_boardsMeeting_18 rfl rfl ?_
          refine x_aload_n C 0 dX11_boardsMeeting_19 rfl rfl ?_
          refine x_getr C ok_Class 0 11 (d := 40) dX11_boardsMeeting_20 (lt67 hn rfl) rfl (by decide) rfl q_1_9 rfl (kz := 11) rfl (lr_0_11 hLR) ?_
          refine x_iload_n C 3 dX11_boardsMeeting_23 rfl rfl ?_
          refine x_iald C 40 dX11_boardsMeeting_24 (lt67 hn rfl) rfl (by refine ⟨?_, ?_⟩ <;> omega) (fun rg24 => ?_)
          refine x_ior C dX11_boardsMeeting_25 ?_
          refine x_istore_n C dX11_boardsMeeting_26 rfl (by decide) (lv' := [(0, .ref (aG G 0)), (1, .int (iI fw)), (2, .int (iI (zOr w (V 40 o)))), (3, .int (iI o))]) rfl ?_
          refine x_iinc C 3 dX11_boardsMeeting_27 rfl (by decide) (lv' := [(0, .ref (aG G 0)), (1, .int (iI fw)), (2, .int (iI (zOr w (V 40 o)))), (3, .int (iI (o + 1)))]) rfl ?_
          refine x_goto C dX11_boardsMeeting_30 (tgt := 4) (by decide) ?_
          exact ih4 ((zOr w (V 40 o))) ((o + 1)) (by omega) (by rw [bmS_s ho.1, ← hw]; first | (rw [cif_t (by assumption)]) | (rw [cif_f (by assumption)])) (by omega)
  exact lp_4 (((7 : Int) - 0).toNat + 1) (0) (0) (by omega) (by rfl) (by omega)
set_option maxRecDepth 100000 in
set_option maxHeartbeats 4000000 in
theorem m_X11_canBeMet (G : GS) (n : Nat) (V : Nat → Int → Int) (R : Nat → Int → Option Nat) (os : Int) (bs : Int) (hn : 67 ≤ n) (hLR : LR R) (hos : 0 ≤ os ∧ os ≤ 63) : Cn G yX11_canBeMet cX11_canBeMet 4 (some .boolean) (rmk 3 0 0 60) [.ref (aG G 0), .int (iI os), .int (iI bs)] n V R 0 0 (fun vv uu => vv = some (.int (iI (bI (HallQ (V 40) os bs)))) ∧ uu = (n, V, R)) := by
  refine Cn.of (by decide) (Nat.le_of_ble_eq_true rfl) (fun K C hct => ?_)
  show Xw K G 0 0 _ n V R 0 [(0, .ref (aG G 0)), (1, .int (iI os)), (2, .int (iI bs))] []
  refine x_iconst C dX11_canBeMet_0 ?_
  refine x_istore_n C dX11_canBeMet_1 rfl (by decide) (lv' := [(0, .ref (aG G 0)), (1, .int (iI os)), (2, .int (iI bs)), (3, .int (iI 1))]) rfl ?_
  have lp_2 : ∀ (fuel : Nat) (fw : Int), (1 ≤ fw ∧ fw ≤ 64) → (∀ x, 1 ≤ x → x < fw → x ≤ os → zAnd x (zXor os (-1)) = 0 → popc x ≤ popc (zAnd (bmS (V 40) x 6) bs)) → ((65 : Int) - fw) < (fuel : Int) → Xw K G 0 0 (EndQ K G 0 0 (fun vv uu => vv = some (.int (iI (bI (HallQ (V 40) os bs)))) ∧ uu = (n, V, R))) n V R 2 [(0, .ref (aG G 0)), (1, .int (iI os)), (2, .int (iI bs)), (3, .int (iI fw))] [] := by
    intro fuel2
    induction fuel2 with
    | zero => intro fw hf hA hfu2; exfalso; omega
    | succ fuel2 ih2 =>
      intro fw hf hA hfu2
      have p1 := popc_rg fw
      have p2 := popc_rg (zAnd (bmS (V 40) fw 6) bs)
      refine x_iload_n C 3 dX11_canBeMet_2 rfl rfl ?_
      refine x_iload_n C 1 dX11_canBeMet_3 rfl rfl ?_
      refine x_icmp_gt C dX11_canBeMet_4 (tgt := 40) (by decide) (by first | assumption | (constructor <;> omega)) (by first | assumption | (constructor <;> omega)) (fun h4 => ?_) (fun h4 => ?_)
      · skip
        refine x_iconst C dX11_canBeMet_40 ?_
        refine x_zret C (Or.inr rfl) dX11_canBeMet_41 ⟨bI_rt (by exact fun x a b c => hA x a (by omega) b c), rfl⟩
      · skip
        refine x_iload_n C 3 dX11_canBeMet_7 rfl rfl ?_
        refine x_iload_n C 1 dX11_canBeMet_8 rfl rfl ?_
        refine x_iconst C dX11_canBeMet_9 ?_
        refine x_ixor C dX11_canBeMet_10 ?_
        refine x_iand C dX11_canBeMet_11 ?_
        have za := zAnd_rg fw (zXor os (-1))
        refine x_if_ne C dX11_canBeMet_12 (tgt := 34) (by decide) (by first | assumption | (constructor <;> omega)) (fun h12 => ?_) (fun h12 => ?_)
        · skip
          refine x_iinc C 3 dX11_canBeMet_34 rfl (by decide) (lv' := [(0, .ref (aG G 0)), (1, .int (iI os)), (2, .int (iI bs)), (3, .int (iI (fw + 1)))]) rfl ?_
          refine x_goto C dX11_canBeMet_37 (tgt := 2) (by decide) ?_
          exact ih2 ((fw + 1)) (by omega) (by exact fun x a b c d => by (by_cases w : x = fw; (rw [w] at d ⊢; first | omega | exact absurd d (by assumption)); exact hA x a (by omega) c d)) (by omega)
        · skip
          refine x_aload_n C 0 dX11_canBeMet_15 rfl rfl ?_
          refine x_iload_n C 3 dX11_canBeMet_16 rfl rfl ?_
          refine x_runU (r_callV C ok_Class 0 (lt67 hn rfl) rfl (ce_X11_boardsMeeting) (m_X11_boardsMeeting G n V R (fw) hn hLR) rfl dX11_canBeMet_17 q_42_5 q_42_6 q_42_7 rfl rfl ⟨Nat.le_of_ble_eq_true rfl, Nat.le_of_ble_eq_true rfl⟩ ⟨rfl, rfl⟩ ⟨Nat.le_of_ble_eq_true rfl, Nat.le_of_ble_eq_true rfl⟩ (Nat.le_of_ble_eq_true rfl)) (fun v17 u17 hp17 => ?_)
          obtain ⟨rfl, rfl⟩ := hp17
          show Xw K G 0 0 _ n V R 20 [(0, .ref (aG G 0)), (1, .int (iI os)), (2, .int (iI bs)), (3, .int (iI fw))] [.int (iI (bmS (V 40) fw 6))]
          refine x_iload_n C 2 dX11_canBeMet_20 rfl rfl ?_
          refine x_iand C dX11_canBeMet_21 ?_
          refine x_runU (r_callS C (ce_J6_bitCount_0f7a4) (m_J6_bitCount_0f7a4 G n V R (zAnd (bmS (V 40) fw 6) bs)) dX11_canBeMet_22 q_42_10 q_42_11 rfl rfl ⟨Nat.le_of_ble_eq_true rfl, Nat.le_of_ble_eq_true rfl⟩ ⟨rfl, rfl⟩ ⟨Nat.le_of_ble_eq_true rfl, Nat.le_of_ble_eq_true rfl⟩ (Nat.le_of_ble_eq_true rfl)) (fun v22 u22 hp22 => ?_)
          obtain ⟨rfl, rfl⟩ := hp22
          show Xw K G 0 0 _ n V R 25 [(0, .ref (aG G 0)), (1, .int (iI os)), (2, .int (iI bs)), (3, .int (iI fw))] [.int (iI (popc (zAnd (bmS (V 40) fw 6) bs)))]
          refine x_iload_n C 3 dX11_canBeMet_25 rfl rfl ?_
          refine x_runU (r_callS C (ce_J6_bitCount_0f7a4) (m_J6_bitCount_0f7a4 G n V R (fw)) dX11_canBeMet_26 q_42_10 q_42_11 rfl rfl ⟨Nat.le_of_ble_eq_true rfl, Nat.le_of_ble_eq_true rfl⟩ ⟨rfl, rfl⟩ ⟨Nat.le_of_ble_eq_true rfl, Nat.le_of_ble_eq_true rfl⟩ (Nat.le_of_ble_eq_true rfl)) (fun v26 u26 hp26 => ?_)
          obtain ⟨rfl, rfl⟩ := hp26
          show Xw K G 0 0 _ n V R 29 [(0, .ref (aG G 0)), (1, .int (iI os)), (2, .int (iI bs)), (3, .int (iI fw))] [.int (iI (popc fw)), .int (iI (popc (zAnd (bmS (V 40) fw 6) bs)))]
          refine x_icmp_ge C dX11_canBeMet_29 (tgt := 34) (by decide) (by first | assumption | (constructor <;> omega)) (by first | assumption | (constructor <;> omega)) (fun h29 => ?_) (fun h29 => ?_)
          · skip
            refine x_iinc C 3 dX11_canBeMet_34 rfl (by decide) (lv' := [(0, .ref (aG G 0)), (1, .int (iI os)), (2, .int (iI bs)), (3, .int (iI (fw + 1)))]) rfl ?_
            refine x_goto C dX11_canBeMet_37 (tgt := 2) (by decide) ?_
            exact ih2 ((fw + 1)) (by omega) (by exact fun x a b c d => by (by_cases w : x = fw; (rw [w] at d ⊢; first | omega | exact absurd d (by assumption)); exact hA x a (by omega) c d)) (by omega)
          · skip
            refine x_iconst C dX11_canBeMet_32 ?_
            refine x_zret C (Or.inl rfl) dX11_canBeMet_33 ⟨bI_rf (by exact fun h => by have := h fw (by omega) (by omega) (by assumption); omega), rfl⟩
  exact lp_2 (((65 : Int) - 1).toNat + 1) (1) (by omega) (by exact fun x a b => by omega) (by omega)
