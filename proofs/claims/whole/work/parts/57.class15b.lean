
set_option maxRecDepth 100000 in
set_option maxHeartbeats 4000000 in
theorem m_X11_turnOfMost (G : GS) (n : Nat) (V : Nat → Int → Int) (R : Nat → Int → Option Nat) (lr : Int) (lt : Int) (L : Int) (f : Int → Int → Int) (m : Int) (g : Int) (pr : Int → Int) (hn : 67 ≤ n) (hLR : LR R) (hI : CInv n V R lr lt L f m g pr) (hL1 : 1 ≤ L) : Cn G yX11_turnOfMost cX11_turnOfMost 3 (some .int) (rmk 7 0 0 181) [.ref (aG G 0)] n V R 0 0 (fun vv uu => ∃ (r : Int), ∃ (V1 : Nat → Int → Int), vv = some (.int (iI r)) ∧ uu = (n, V1, R) ∧ (∀ q, q < 23 ∨ (34 < q ∧ q ≠ 41) → V1 q = V q) ∧ (CInv n V1 R lr lt L f m g pr) ∧ (turnP (fun u => (opT lr lt L f m pr u (-1)).1 0) r) ∧ (∀ u, 0 ≤ u → u ≤ 3 → V1 41 u = (opT lr lt L f m pr u (-1)).1 0)) := by
  obtain ⟨ea0, ea1, ea2, ea3, ea5⟩ := hI.1.1
  obtain ⟨eb0, eb1, eb2, eb3, eb5⟩ := hI.1.2.1
  refine Cn.of (by decide) (Nat.le_of_ble_eq_true rfl) (fun K C hct => ?_)
  show Xw K G 0 0 _ n V R 0 [(0, .ref (aG G 0))] []
  refine x_iconst C dX11_turnOfMost_0 ?_
  refine x_istore_n C dX11_turnOfMost_1 rfl (by decide) (lv' := [(0, .ref (aG G 0)), (1, .int (iI 0))]) rfl ?_
  refine x_iconst C dX11_turnOfMost_2 ?_
  refine x_istore_n C dX11_turnOfMost_3 rfl (by decide) (lv' := [(0, .ref (aG G 0)), (1, .int (iI 0)), (2, .int (iI 0))]) rfl ?_
  have lp_4 : ∀ (fuel : Nat) (t : Int) (w : Int) (V2 : Nat → Int → Int), (0 ≤ t ∧ t ≤ 4 ∧ 0 ≤ w ∧ w ≤ 3) → (∀ q, q < 23 ∨ (34 < q ∧ q ≠ 41) → V2 q = V q) → (CInv n V2 R lr lt L f m g pr) → (∀ u, 0 ≤ u → u < t → V2 41 u = (opT lr lt L f m pr u (-1)).1 0) → ((t = 0 ∧ w = 0) ∨ (0 < t ∧ 0 ≤ w ∧ w < t ∧ (∀ u, 0 ≤ u → u < t → (opT lr lt L f m pr u (-1)).1 0 ≤ (opT lr lt L f m pr w (-1)).1 0) ∧ ∀ u, 0 ≤ u → u < w → (opT lr lt L f m pr u (-1)).1 0 < (opT lr lt L f m pr w (-1)).1 0)) → ((5 : Int) - t) < (fuel : Int) → Xw K G 0 0 (EndQ K G 0 0 (fun vv uu => ∃ (r : Int), ∃ (V1 : Nat → Int → Int), vv = some (.int (iI r)) ∧ uu = (n, V1, R) ∧ (∀ q, q < 23 ∨ (34 < q ∧ q ≠ 41) → V1 q = V q) ∧ (CInv n V1 R lr lt L f m g pr) ∧ (turnP (fun u => (opT lr lt L f m pr u (-1)).1 0) r) ∧ (∀ u, 0 ≤ u → u ≤ 3 → V1 41 u = (opT lr lt L f m pr u (-1)).1 0))) n V2 R 4 [(0, .ref (aG G 0)), (1, .int (iI w)), (2, .int (iI t))] [] := by
    intro fuel4
    induction fuel4 with
    | zero => intro t w V2 ht hF2 hC2 hT2 hM2 hfu4; exfalso; omega
    | succ fuel4 ih4 =>
      intro t w V2 ht hF2 hC2 hT2 hM2 hfu4
      refine x_iload_n C 2 dX11_turnOfMost_4 rfl rfl ?_
      refine x_iconst C dX11_turnOfMost_5 ?_
      refine x_icmp_ge C dX11_turnOfMost_6 (tgt := 43) (by decide) (by first | assumption | (constructor <;> omega)) (by first | assumption | (constructor <;> omega)) (fun h6 => ?_) (fun h6 => ?_)
      · skip
        refine x_iload_n C 1 dX11_turnOfMost_43 rfl rfl ?_
        refine x_iret C dX11_turnOfMost_44 ⟨_, _, rfl, rfl, ?_, ?_, ?_, ?_⟩
        · exact hF2
        · exact hC2
        · exact tm_e hM2 (by omega)
        · exact fun u a b => hT2 u a (by omega)
      · skip
        refine x_aload_n C 0 dX11_turnOfMost_9 rfl rfl ?_
        refine x_getr C ok_Class 0 12 (d := 41) dX11_turnOfMost_10 (lt67 hn rfl) rfl (by decide) rfl q_1_10 rfl (kz := 12) rfl (lr_0_12 hLR) ?_
        refine x_iload_n C 2 dX11_turnOfMost_13 rfl rfl ?_
        refine x_aload_n C 0 dX11_turnOfMost_14 rfl rfl ?_
        refine x_iload_n C 2 dX11_turnOfMost_15 rfl rfl ?_
        refine x_runU (r_callV C ok_Class 0 (lt67 hn rfl) rfl (ce_X11_openByTurn) (m_X11_openByTurn G n V2 R (lr) (lt) (L) (f) (m) (g) (pr) (t) hn hLR (by exact hC2) (by first | assumption | omega | decide) (by first | assumption | omega | decide)) rfl dX11_turnOfMost_16 q_38_10 q_38_11 q_38_12 rfl rfl ⟨Nat.le_of_ble_eq_true rfl, Nat.le_of_ble_eq_true rfl⟩ ⟨rfl, rfl⟩ ⟨Nat.le_of_ble_eq_true rfl, Nat.le_of_ble_eq_true rfl⟩ (Nat.le_of_ble_eq_true rfl)) (fun v16 u16 hp16 => ?_)
        obtain ⟨V1_16, rfl, rfl, hq16_0, hq16_1, hq16_2, hq16_3⟩ := hp16
        show Xw K G 0 0 _ n V1_16 R 19 [(0, .ref (aG G 0)), (1, .int (iI w)), (2, .int (iI t))] [.int (iI ((opT lr lt L f m pr t (-1)).1 0)), .int (iI t), .ref (aG G 41)]
        have hbt := (opT_b (r := lr) (t := lt) (L := L) (f := f) (m := m) (pr := pr) (g := t) (y := -1) (by decide)).1 0
        have hW2 : ∀ u, 0 ≤ u → u < t → V1_16 41 u = (opT lr lt L f m pr u (-1)).1 0 := fun u a b => by rw [hq16_0 41 (by omega)]; exact hT2 u a b
        refine x_iast C 41 dX11_turnOfMost_19 (lt67 hn rfl) rfl (by refine ⟨?_, ?_⟩ <;> omega) (by first | assumption | (constructor <;> omega)) ?_
        have hbt := (opT_b (r := lr) (t := lt) (L := L) (f := f) (m := m) (pr := pr) (g := t) (y := -1) (by decide)).1 0
        refine x_aload_n C 0 dX11_turnOfMost_20 rfl rfl ?_
        refine x_getr C ok_Class 0 12 (d := 41) dX11_turnOfMost_21 (lt67 hn rfl) rfl (by decide) rfl q_1_10 rfl (kz := 12) rfl (lr_0_12 hLR) ?_
        refine x_iload_n C 2 dX11_turnOfMost_24 rfl rfl ?_
        refine x_iald C 41 dX11_turnOfMost_25 (lt67 hn rfl) rfl (by refine ⟨?_, ?_⟩ <;> omega) (fun rg25 => ?_)
        refine x_top (b := ((opT lr lt L f m pr t (-1)).1 0)) (by first | rfl | (simp only [u2_at]; simp) | (simp only [u2_at]; first | (rw [if_neg (by omega)]) | omega) | (repeat rw [u2_at, if_neg (by omega)])) ?_
        refine x_aload_n C 0 dX11_turnOfMost_26 rfl rfl ?_
        refine x_getr C ok_Class 0 12 (d := 41) dX11_turnOfMost_27 (lt67 hn rfl) rfl (by decide) rfl q_1_10 rfl (kz := 12) rfl (lr_0_12 hLR) ?_
        refine x_iload_n C 1 dX11_turnOfMost_30 rfl rfl ?_
        refine x_iald C 41 dX11_turnOfMost_31 (lt67 hn rfl) rfl (by refine ⟨?_, ?_⟩ <;> omega) (fun rg31 => ?_)
        refine x_top (b := ((opT lr lt L f m pr w (-1)).1 0)) (by exact tm_at hW2 hM2) ?_
        have hbw := (opT_b (r := lr) (t := lt) (L := L) (f := f) (m := m) (pr := pr) (g := w) (y := -1) (by decide)).1 0
        refine x_icmp_le C dX11_turnOfMost_32 (tgt := 37) (by decide) (by first | assumption | (constructor <;> omega)) (by first | assumption | (constructor <;> omega)) (fun h32 => ?_) (fun h32 => ?_)
        · skip
          refine x_iinc C 2 dX11_turnOfMost_37 rfl (by decide) (lv' := [(0, .ref (aG G 0)), (1, .int (iI w)), (2, .int (iI (t + 1)))]) rfl ?_
          refine x_goto C dX11_turnOfMost_40 (tgt := 4) (by decide) ?_
          exact ih4 ((t + 1)) (w) ((u2 V1_16 41 t ((opT lr lt L f m pr t (-1)).1 0))) (by omega) (by exact fun q a => by rw [u2_n (by omega), hq16_0 q (by omega)]; exact hF2 q a) (by exact hq16_3.fr (fun q a => u2_n (by omega))) (by exact fun u a b => by (rw [u2_s]; by_cases e : u = t; (rw [e, u1_s]); (rw [u1_n e]; exact hW2 u a (by omega)))) (by first | exact tm_y hM2 (by omega) (by assumption) | exact tm_n hM2 (by omega) (by assumption)) (by omega)
        · skip
          refine x_iload_n C 2 dX11_turnOfMost_35 rfl rfl ?_
          refine x_istore_n C dX11_turnOfMost_36 rfl (by decide) (lv' := [(0, .ref (aG G 0)), (1, .int (iI t)), (2, .int (iI t))]) rfl ?_
          refine x_iinc C 2 dX11_turnOfMost_37 rfl (by decide) (lv' := [(0, .ref (aG G 0)), (1, .int (iI t)), (2, .int (iI (t + 1)))]) rfl ?_
          refine x_goto C dX11_turnOfMost_40 (tgt := 4) (by decide) ?_
          exact ih4 ((t + 1)) (t) ((u2 V1_16 41 t ((opT lr lt L f m pr t (-1)).1 0))) (by omega) (by exact fun q a => by rw [u2_n (by omega), hq16_0 q (by omega)]; exact hF2 q a) (by exact hq16_3.fr (fun q a => u2_n (by omega))) (by exact fun u a b => by (rw [u2_s]; by_cases e : u = t; (rw [e, u1_s]); (rw [u1_n e]; exact hW2 u a (by omega)))) (by first | exact tm_y hM2 (by omega) (by assumption) | exact tm_n hM2 (by omega) (by assumption)) (by omega)
  exact lp_4 (((5 : Int) - 0).toNat + 1) (0) (0) (V) (by omega) (by exact fun _ _ => rfl) (by exact hI) (by exact fun u a b => by omega) (by exact Or.inl ⟨rfl, rfl⟩) (by omega)
set_option maxRecDepth 100000 in
set_option maxHeartbeats 4000000 in
theorem m_X11_bestTurn (G : GS) (n : Nat) (V : Nat → Int → Int) (R : Nat → Int → Option Nat) (lr : Int) (lt : Int) (L : Int) (f : Int → Int → Int) (m : Int) (g : Int) (pr : Int → Int) (hn : 67 ≤ n) (hLR : LR R) (hI : CInv n V R lr lt L f m g pr) : Cn G yX11_bestTurn cX11_bestTurn 1 (some .int) (rmk 8 0 0 203) [.ref (aG G 0)] n V R 0 0 (fun vv uu => ∃ (r : Int), ∃ (V1 : Nat → Int → Int), vv = some (.int (iI r)) ∧ uu = (n, V1, R) ∧ (∀ q, q < 23 ∨ (34 < q ∧ q ≠ 41) → V1 q = V q) ∧ (CInv n V1 R lr lt L f m g pr) ∧ ((L = 0 ∧ r = -3) ∨ (L ≠ 0 ∧ turnP (fun u => (opT lr lt L f m pr u (-1)).1 0) r))) := by
  obtain ⟨ea0, ea1, ea2, ea3, ea5⟩ := hI.1.1
  obtain ⟨eb0, eb1, eb2, eb3, eb5⟩ := hI.1.2.1
  refine Cn.of (by decide) (Nat.le_of_ble_eq_true rfl) (fun K C hct => ?_)
  show Xw K G 0 0 _ n V R 0 [(0, .ref (aG G 0))] []
  refine x_aload_n C 0 dX11_bestTurn_0 rfl rfl ?_
  refine x_getr C ok_Class 0 0 (d := 1) dX11_bestTurn_1 (lt67 hn rfl) rfl (by decide) rfl q_0_16 rfl (kz := 0) rfl (lr_0_0 hLR) ?_
  refine x_runU (r_callV C ok_Yard 1 (lt67 hn rfl) rfl (ce_X10_hasLog) (m_X10_hasLog G n V R (1) hn hLR (by first | assumption | omega | decide)) rfl dX11_bestTurn_4 q_8_6 q_8_7 q_8_8 rfl rfl ⟨Nat.le_of_ble_eq_true rfl, Nat.le_of_ble_eq_true rfl⟩ ⟨rfl, rfl⟩ ⟨Nat.le_of_ble_eq_true rfl, Nat.le_of_ble_eq_true rfl⟩ (Nat.le_of_ble_eq_true rfl)) (fun v4 u4 hp4 => ?_)
  obtain ⟨rfl, rfl⟩ := hp4
  show Xw K G 0 0 _ n V R 7 [(0, .ref (aG G 0))] [.int (iI (bI (0 < V 1 2)))]
  refine x_ifeq_b C dX11_bestTurn_7 (tgt := 17) (by decide) (fun h7 => ?_) (fun h7 => ?_)
  · skip
    refine x_bipush C dX11_bestTurn_17 (w := -3) (by decide) ?_
    refine x_iret C dX11_bestTurn_19 ⟨_, _, rfl, rfl, ?_, ?_, ?_⟩
    · first | exact fun _ _ => rfl | exact hq11_0 | exact hI | exact hq11_1 | exact Or.inl ⟨by omega, rfl⟩ | exact Or.inr ⟨by omega, hq11_2⟩
    · first | exact fun _ _ => rfl | exact hq11_0 | exact hI | exact hq11_1 | exact Or.inl ⟨by omega, rfl⟩ | exact Or.inr ⟨by omega, hq11_2⟩
    · first | exact fun _ _ => rfl | exact hq11_0 | exact hI | exact hq11_1 | exact Or.inl ⟨by omega, rfl⟩ | exact Or.inr ⟨by omega, hq11_2⟩
  · skip
    refine x_aload_n C 0 dX11_bestTurn_10 rfl rfl ?_
    refine x_runU (r_callV C ok_Class 0 (lt67 hn rfl) rfl (ce_X11_turnOfMost) (m_X11_turnOfMost G n V R (lr) (lt) (L) (f) (m) (g) (pr) hn hLR (by first | assumption | omega | decide) (by first | assumption | omega | decide)) rfl dX11_bestTurn_11 q_38_6 q_38_7 q_38_8 rfl rfl ⟨Nat.le_of_ble_eq_true rfl, Nat.le_of_ble_eq_true rfl⟩ ⟨rfl, rfl⟩ ⟨Nat.le_of_ble_eq_true rfl, Nat.le_of_ble_eq_true rfl⟩ (Nat.le_of_ble_eq_true rfl)) (fun v11 u11 hp11 => ?_)
    obtain ⟨r_11, V1_11, rfl, rfl, hq11_0, hq11_1, hq11_2, hq11_3⟩ := hp11
    show Xw K G 0 0 _ n V1_11 R 14 [(0, .ref (aG G 0))] [.int (iI r_11)]
    refine x_goto C dX11_bestTurn_14 (tgt := 19) (by decide) ?_
    refine x_iret C dX11_bestTurn_19 ⟨_, _, rfl, rfl, ?_, ?_, ?_⟩
    · first | exact fun _ _ => rfl | exact hq11_0 | exact hI | exact hq11_1 | exact Or.inl ⟨by omega, rfl⟩ | exact Or.inr ⟨by omega, hq11_2⟩
    · first | exact fun _ _ => rfl | exact hq11_0 | exact hI | exact hq11_1 | exact Or.inl ⟨by omega, rfl⟩ | exact Or.inr ⟨by omega, hq11_2⟩
    · first | exact fun _ _ => rfl | exact hq11_0 | exact hI | exact hq11_1 | exact Or.inl ⟨by omega, rfl⟩ | exact Or.inr ⟨by omega, hq11_2⟩
set_option maxRecDepth 100000 in
set_option maxHeartbeats 4000000 in
theorem m_X11_best (G : GS) (n : Nat) (V : Nat → Int → Int) (R : Nat → Int → Option Nat) (lr : Int) (lt : Int) (L : Int) (f : Int → Int → Int) (m : Int) (g : Int) (pr : Int → Int) (t : Int) (hn : 67 ≤ n) (hLR : LR R) (hI : CInv n V R lr lt L f m g pr) (gt : Rg t) : Cn G yX11_best cX11_best 2 (some .long) (rmk 8 0 0 203) [.ref (aG G 0), .int (iI t)] n V R 0 0 (fun vv uu => ∃ (r : Int), ∃ (V1 : Nat → Int → Int), vv = some (.long (jI r)) ∧ uu = (n, V1, R) ∧ (∀ q, q < 23 ∨ (34 < q ∧ q ≠ 41) → V1 q = V q) ∧ (CInv n V1 R lr lt L f m g pr) ∧ (((L = 0 ∨ ¬ (-1 ≤ t ∧ t ≤ 3)) ∧ r = (-4611686018427387904)) ∨ (L ≠ 0 ∧ t = -1 ∧ ∃ u, turnP (fun u => (opT lr lt L f m pr u (-1)).1 0) u ∧ r = (fun u => (opT lr lt L f m pr u (-1)).1 0) u) ∨ (L ≠ 0 ∧ (0 ≤ t ∧ t ≤ 3) ∧ r = (fun u => (opT lr lt L f m pr u (-1)).1 0) t))) := by
  obtain ⟨ea0, ea1, ea2, ea3, ea5⟩ := hI.1.1
  obtain ⟨eb0, eb1, eb2, eb3, eb5⟩ := hI.1.2.1
  refine Cn.of (by decide) (Nat.le_of_ble_eq_true rfl) (fun K C hct => ?_)
  show Xw K G 0 0 _ n V R 0 [(0, .ref (aG G 0)), (1, .int (iI t))] []
  refine x_aload_n C 0 dX11_best_0 rfl rfl ?_
  refine x_getr C ok_Class 0 0 (d := 1) dX11_best_1 (lt67 hn rfl) rfl (by decide) rfl q_0_16 rfl (kz := 0) rfl (lr_0_0 hLR) ?_
  refine x_runU (r_callV C ok_Yard 1 (lt67 hn rfl) rfl (ce_X10_hasLog) (m_X10_hasLog G n V R (1) hn hLR (by first | assumption | omega | decide)) rfl dX11_best_4 q_8_6 q_8_7 q_8_8 rfl rfl ⟨Nat.le_of_ble_eq_true rfl, Nat.le_of_ble_eq_true rfl⟩ ⟨rfl, rfl⟩ ⟨Nat.le_of_ble_eq_true rfl, Nat.le_of_ble_eq_true rfl⟩ (Nat.le_of_ble_eq_true rfl)) (fun v4 u4 hp4 => ?_)
  obtain ⟨rfl, rfl⟩ := hp4
  show Xw K G 0 0 _ n V R 7 [(0, .ref (aG G 0)), (1, .int (iI t))] [.int (iI (bI (0 < V 1 2)))]
  refine x_ifeq_b C dX11_best_7 (tgt := 19) (by decide) (fun h7 => ?_) (fun h7 => ?_)
  · skip
    refine x_ldc2 C dX11_best_19 q_35_21 (w := -4611686018427387904) (by decide) ?_
    refine x_lret C dX11_best_22 ⟨_, _, rfl, rfl, ?_, ?_, ?_⟩
    · first | exact fun _ _ => rfl | exact hq33_0 | exact hI | exact hq33_1 | exact hq43_3 | exact fun q a => hq43_0 q (by omega) | exact Or.inl ⟨by omega, rfl⟩ | exact Or.inr (Or.inl ⟨by omega, by omega, ⟨_, hq33_2, rfl⟩⟩) | exact Or.inr (Or.inr ⟨by omega, by omega, rfl⟩)
    · first | exact fun _ _ => rfl | exact hq33_0 | exact hI | exact hq33_1 | exact hq43_3 | exact fun q a => hq43_0 q (by omega) | exact Or.inl ⟨by omega, rfl⟩ | exact Or.inr (Or.inl ⟨by omega, by omega, ⟨_, hq33_2, rfl⟩⟩) | exact Or.inr (Or.inr ⟨by omega, by omega, rfl⟩)
    · first | exact fun _ _ => rfl | exact hq33_0 | exact hI | exact hq33_1 | exact hq43_3 | exact fun q a => hq43_0 q (by omega) | exact Or.inl ⟨by omega, rfl⟩ | exact Or.inr (Or.inl ⟨by omega, by omega, ⟨_, hq33_2, rfl⟩⟩) | exact Or.inr (Or.inr ⟨by omega, by omega, rfl⟩)
  · skip
    refine x_iload_n C 1 dX11_best_10 rfl rfl ?_
    refine x_iconst C dX11_best_11 ?_
    refine x_iconst C dX11_best_12 ?_
    refine x_runU (r_callS C (ce_X11_within) (m_X11_within G n V R (t) (-1) (3) (by first | assumption | omega | decide) (by first | assumption | omega | decide) (by first | assumption | omega | decide)) dX11_best_13 q_5_4 q_5_5 rfl rfl ⟨Nat.le_of_ble_eq_true rfl, Nat.le_of_ble_eq_true rfl⟩ ⟨rfl, rfl⟩ ⟨Nat.le_of_ble_eq_true rfl, Nat.le_of_ble_eq_true rfl⟩ (Nat.le_of_ble_eq_true rfl)) (fun v13 u13 hp13 => ?_)
    obtain ⟨rfl, rfl⟩ := hp13
    show Xw K G 0 0 _ n V R 16 [(0, .ref (aG G 0)), (1, .int (iI t))] [.int (iI (bI ((-1) ≤ t ∧ t ≤ 3)))]
    refine x_ifne_b C dX11_best_16 (tgt := 23) (by decide) (fun h16 => ?_) (fun h16 => ?_)
    · skip
      refine x_iload_n C 1 dX11_best_23 rfl rfl ?_
      refine x_iconst C dX11_best_24 ?_
      refine x_icmp_ne C dX11_best_25 (tgt := 41) (by decide) (by first | assumption | (constructor <;> omega)) (by first | assumption | (constructor <;> omega)) (fun h25 => ?_) (fun h25 => ?_)
      · skip
        refine x_aload_n C 0 dX11_best_41 rfl rfl ?_
        refine x_iload_n C 1 dX11_best_42 rfl rfl ?_
        refine x_runU (r_callV C ok_Class 0 (lt67 hn rfl) rfl (ce_X11_openByTurn) (m_X11_openByTurn G n V R (lr) (lt) (L) (f) (m) (g) (pr) (t) hn hLR (by first | assumption | omega | decide) (by first | assumption | omega | decide) (by first | assumption | omega | decide)) rfl dX11_best_43 q_38_10 q_38_11 q_38_12 rfl rfl ⟨Nat.le_of_ble_eq_true rfl, Nat.le_of_ble_eq_true rfl⟩ ⟨rfl, rfl⟩ ⟨Nat.le_of_ble_eq_true rfl, Nat.le_of_ble_eq_true rfl⟩ (Nat.le_of_ble_eq_true rfl)) (fun v43 u43 hp43 => ?_)
        obtain ⟨V1_43, rfl, rfl, hq43_0, hq43_1, hq43_2, hq43_3⟩ := hp43
        show Xw K G 0 0 _ n V1_43 R 46 [(0, .ref (aG G 0)), (1, .int (iI t))] [.int (iI ((opT lr lt L f m pr t (-1)).1 0))]
        have hbr := (opT_b (r := lr) (t := lt) (L := L) (f := f) (m := m) (pr := pr) (g := t) (y := -1) (by decide)).1 0
        refine x_i2l C dX11_best_46 (by first | assumption | (constructor <;> omega)) ?_
        refine x_lret C dX11_best_47 ⟨_, _, rfl, rfl, ?_, ?_, ?_⟩
        · first | exact fun _ _ => rfl | exact hq33_0 | exact hI | exact hq33_1 | exact hq43_3 | exact fun q a => hq43_0 q (by omega) | exact Or.inl ⟨by omega, rfl⟩ | exact Or.inr (Or.inl ⟨by omega, by omega, ⟨_, hq33_2, rfl⟩⟩) | exact Or.inr (Or.inr ⟨by omega, by omega, rfl⟩)
        · first | exact fun _ _ => rfl | exact hq33_0 | exact hI | exact hq33_1 | exact hq43_3 | exact fun q a => hq43_0 q (by omega) | exact Or.inl ⟨by omega, rfl⟩ | exact Or.inr (Or.inl ⟨by omega, by omega, ⟨_, hq33_2, rfl⟩⟩) | exact Or.inr (Or.inr ⟨by omega, by omega, rfl⟩)
        · first | exact fun _ _ => rfl | exact hq33_0 | exact hI | exact hq33_1 | exact hq43_3 | exact fun q a => hq43_0 q (by omega) | exact Or.inl ⟨by omega, rfl⟩ | exact Or.inr (Or.inl ⟨by omega, by omega, ⟨_, hq33_2, rfl⟩⟩) | exact Or.inr (Or.inr ⟨by omega, by omega, rfl⟩)
      · skip
        refine x_aload_n C 0 dX11_best_28 rfl rfl ?_
        refine x_getr C ok_Class 0 12 (d := 41) dX11_best_29 (lt67 hn rfl) rfl (by decide) rfl q_1_10 rfl (kz := 12) rfl (lr_0_12 hLR) ?_
        refine x_aload_n C 0 dX11_best_32 rfl rfl ?_
        refine x_runU (r_callV C ok_Class 0 (lt67 hn rfl) rfl (ce_X11_turnOfMost) (m_X11_turnOfMost G n V R (lr) (lt) (L) (f) (m) (g) (pr) hn hLR (by first | assumption | omega | decide) (by first | assumption | omega | decide)) rfl dX11_best_33 q_38_6 q_38_7 q_38_8 rfl rfl ⟨Nat.le_of_ble_eq_true rfl, Nat.le_of_ble_eq_true rfl⟩ ⟨rfl, rfl⟩ ⟨Nat.le_of_ble_eq_true rfl, Nat.le_of_ble_eq_true rfl⟩ (Nat.le_of_ble_eq_true rfl)) (fun v33 u33 hp33 => ?_)
        obtain ⟨r_33, V1_33, rfl, rfl, hq33_0, hq33_1, hq33_2, hq33_3⟩ := hp33
        show Xw K G 0 0 _ n V1_33 R 36 [(0, .ref (aG G 0)), (1, .int (iI t))] [.int (iI r_33), .ref (aG G 41)]
        have hr0 := hq33_2.1
        refine x_iald C 41 dX11_best_36 (lt67 hn rfl) rfl (by refine ⟨?_, ?_⟩ <;> omega) (fun rg36 => ?_)
        refine x_top (b := ((opT lr lt L f m pr r_33 (-1)).1 0)) (by exact hq33_3 _ hq33_2.1.1 hq33_2.1.2) ?_
        have hbr := (opT_b (r := lr) (t := lt) (L := L) (f := f) (m := m) (pr := pr) (g := r_33) (y := -1) (by decide)).1 0
        refine x_i2l C dX11_best_37 (by first | assumption | (constructor <;> omega)) ?_
        refine x_goto C dX11_best_38 (tgt := 47) (by decide) ?_
        refine x_lret C dX11_best_47 ⟨_, _, rfl, rfl, ?_, ?_, ?_⟩
        · first | exact fun _ _ => rfl | exact hq33_0 | exact hI | exact hq33_1 | exact hq43_3 | exact fun q a => hq43_0 q (by omega) | exact Or.inl ⟨by omega, rfl⟩ | exact Or.inr (Or.inl ⟨by omega, by omega, ⟨_, hq33_2, rfl⟩⟩) | exact Or.inr (Or.inr ⟨by omega, by omega, rfl⟩)
        · first | exact fun _ _ => rfl | exact hq33_0 | exact hI | exact hq33_1 | exact hq43_3 | exact fun q a => hq43_0 q (by omega) | exact Or.inl ⟨by omega, rfl⟩ | exact Or.inr (Or.inl ⟨by omega, by omega, ⟨_, hq33_2, rfl⟩⟩) | exact Or.inr (Or.inr ⟨by omega, by omega, rfl⟩)
        · first | exact fun _ _ => rfl | exact hq33_0 | exact hI | exact hq33_1 | exact hq43_3 | exact fun q a => hq43_0 q (by omega) | exact Or.inl ⟨by omega, rfl⟩ | exact Or.inr (Or.inl ⟨by omega, by omega, ⟨_, hq33_2, rfl⟩⟩) | exact Or.inr (Or.inr ⟨by omega, by omega, rfl⟩)
    · skip
      refine x_ldc2 C dX11_best_19 q_35_21 (w := -4611686018427387904) (by decide) ?_
      refine x_lret C dX11_best_22 ⟨_, _, rfl, rfl, ?_, ?_, ?_⟩
      · first | exact fun _ _ => rfl | exact hq33_0 | exact hI | exact hq33_1 | exact hq43_3 | exact fun q a => hq43_0 q (by omega) | exact Or.inl ⟨by omega, rfl⟩ | exact Or.inr (Or.inl ⟨by omega, by omega, ⟨_, hq33_2, rfl⟩⟩) | exact Or.inr (Or.inr ⟨by omega, by omega, rfl⟩)
      · first | exact fun _ _ => rfl | exact hq33_0 | exact hI | exact hq33_1 | exact hq43_3 | exact fun q a => hq43_0 q (by omega) | exact Or.inl ⟨by omega, rfl⟩ | exact Or.inr (Or.inl ⟨by omega, by omega, ⟨_, hq33_2, rfl⟩⟩) | exact Or.inr (Or.inr ⟨by omega, by omega, rfl⟩)
      · first | exact fun _ _ => rfl | exact hq33_0 | exact hI | exact hq33_1 | exact hq43_3 | exact fun q a => hq43_0 q (by omega) | exact Or.inl ⟨by omega, rfl⟩ | exact Or.inr (Or.inl ⟨by omega, by omega, ⟨_, hq33_2, rfl⟩⟩) | exact Or.inr (Or.inr ⟨by omega, by omega, rfl⟩)
set_option maxRecDepth 100000 in
set_option maxHeartbeats 4000000 in
theorem m_X11_cell (G : GS) (n : Nat) (V : Nat → Int → Int) (R : Nat → Int → Option Nat) (lr : Int) (lt : Int) (L : Int) (f : Int → Int → Int) (m : Int) (g : Int) (pr : Int → Int) (x : Int) (y : Int) (s : Int) (w : Int) (hn : 67 ≤ n) (hLR : LR R) (hI : CInv n V R lr lt L f m g pr) (gx : Rg x) (gy : Rg y) (gs : Rg s) (gw : Rg w) : Cn G yX11_cell cX11_cell 5 (some .int) (rmk 7 0 0 154) [.ref (aG G 0), .int (iI x), .int (iI y), .int (iI s), .int (iI w)] n V R 0 0 (fun vv uu => ∃ (r : Int), ∃ (V1 : Nat → Int → Int), vv = some (.int (iI r)) ∧ uu = (n, V1, R) ∧ (∀ q, q < 11 ∨ 22 < q → V1 q = V q) ∧ (CInv n V1 R lr lt L f m g pr) ∧ (((L = 0) ∧ r = (-3)) ∨ ((L ≠ 0 ∧ ¬ ((0 ≤ x ∧ x ≤ 11) ∧ (0 ≤ y ∧ y ≤ 11) ∧ (0 ≤ s ∧ s ≤ L - 1) ∧ (0 ≤ w ∧ w ≤ 2))) ∧ r = (-2)) ∨ (L ≠ 0 ∧ (0 ≤ x ∧ x ≤ 11) ∧ (0 ≤ y ∧ y ≤ 11) ∧ (0 ≤ s ∧ s ≤ L - 1) ∧ w = 0 ∧ r = bI (woodP lr lt x y s)) ∨ (L ≠ 0 ∧ (0 ≤ x ∧ x ≤ 11) ∧ (0 ≤ y ∧ y ≤ 11) ∧ (0 ≤ s ∧ s ≤ L - 1) ∧ w = 1 ∧ r = hurtS f m x y s g) ∨ (L ≠ 0 ∧ (0 ≤ x ∧ x ≤ 11) ∧ (0 ≤ y ∧ y ≤ 11) ∧ (0 ≤ s ∧ s ≤ L - 1) ∧ w = 2 ∧ leastP f m (oX x y g) (oY x y g) s r))) := by
  obtain ⟨ea0, ea1, ea2, ea3, ea5⟩ := hI.1.1
  obtain ⟨eb0, eb1, eb2, eb3, eb5⟩ := hI.1.2.1
  refine Cn.of (by decide) (Nat.le_of_ble_eq_true rfl) (fun K C hct => ?_)
  show Xw K G 0 0 _ n V R 0 [(0, .ref (aG G 0)), (1, .int (iI x)), (2, .int (iI y)), (3, .int (iI s)), (4, .int (iI w))] []
  refine x_aload_n C 0 dX11_cell_0 rfl rfl ?_
  refine x_getr C ok_Class 0 0 (d := 1) dX11_cell_1 (lt67 hn rfl) rfl (by decide) rfl q_0_16 rfl (kz := 0) rfl (lr_0_0 hLR) ?_
  refine x_runU (r_callV C ok_Yard 1 (lt67 hn rfl) rfl (ce_X10_hasLog) (m_X10_hasLog G n V R (1) hn hLR (by first | assumption | omega | decide)) rfl dX11_cell_4 q_8_6 q_8_7 q_8_8 rfl rfl ⟨Nat.le_of_ble_eq_true rfl, Nat.le_of_ble_eq_true rfl⟩ ⟨rfl, rfl⟩ ⟨Nat.le_of_ble_eq_true rfl, Nat.le_of_ble_eq_true rfl⟩ (Nat.le_of_ble_eq_true rfl)) (fun v4 u4 hp4 => ?_)
  obtain ⟨rfl, rfl⟩ := hp4
  show Xw K G 0 0 _ n V R 7 [(0, .ref (aG G 0)), (1, .int (iI x)), (2, .int (iI y)), (3, .int (iI s)), (4, .int (iI w))] [.int (iI (bI (0 < V 1 2)))]
  refine x_ifne_b C dX11_cell_7 (tgt := 13) (by decide) (fun h7 => ?_) (fun h7 => ?_)
  · skip
    refine x_iload_n C 1 dX11_cell_13 rfl rfl ?_
    refine x_iconst C dX11_cell_14 ?_
    refine x_bipush C dX11_cell_15 (w := 11) (by decide) ?_
    refine x_runU (r_callS C (ce_X11_within) (m_X11_within G n V R (x) (0) (11) (by first | assumption | omega | decide) (by first | assumption | omega | decide) (by first | assumption | omega | decide)) dX11_cell_17 q_5_4 q_5_5 rfl rfl ⟨Nat.le_of_ble_eq_true rfl, Nat.le_of_ble_eq_true rfl⟩ ⟨rfl, rfl⟩ ⟨Nat.le_of_ble_eq_true rfl, Nat.le_of_ble_eq_true rfl⟩ (Nat.le_of_ble_eq_true rfl)) (fun v17 u17 hp17 => ?_)
    obtain ⟨rfl, rfl⟩ := hp17
    show Xw K G 0 0 _ n V R 20 [(0, .ref (aG G 0)), (1, .int (iI x)), (2, .int (iI y)), (3, .int (iI s)), (4, .int (iI w))] [.int (iI (bI (0 ≤ x ∧ x ≤ 11)))]
    refine x_ifeq_b C dX11_cell_20 (tgt := 50) (by decide) (fun h20 => ?_) (fun h20 => ?_)
    · skip
      refine x_bipush C dX11_cell_50 (w := -2) (by decide) ?_
      refine x_iret C dX11_cell_52 ⟨_, _, rfl, rfl, ?_, ?_, ?_⟩
      · first | exact fun _ _ => rfl | exact hI | exact Or.inl ⟨by omega, rfl⟩ | exact Or.inr (Or.inl ⟨⟨by omega, by omega⟩, rfl⟩)
      · first | exact fun _ _ => rfl | exact hI | exact Or.inl ⟨by omega, rfl⟩ | exact Or.inr (Or.inl ⟨⟨by omega, by omega⟩, rfl⟩)
      · first | exact fun _ _ => rfl | exact hI | exact Or.inl ⟨by omega, rfl⟩ | exact Or.inr (Or.inl ⟨⟨by omega, by omega⟩, rfl⟩)
    · skip
      refine x_iload_n C 2 dX11_cell_23 rfl rfl ?_
      refine x_iconst C dX11_cell_24 ?_
      refine x_bipush C dX11_cell_25 (w := 11) (by decide) ?_
      refine x_runU (r_callS C (ce_X11_within) (m_X11_within G n V R (y) (0) (11) (by first | assumption | omega | decide) (by first | assumption | omega | decide) (by first | assumption | omega | decide)) dX11_cell_27 q_5_4 q_5_5 rfl rfl ⟨Nat.le_of_ble_eq_true rfl, Nat.le_of_ble_eq_true rfl⟩ ⟨rfl, rfl⟩ ⟨Nat.le_of_ble_eq_true rfl, Nat.le_of_ble_eq_true rfl⟩ (Nat.le_of_ble_eq_true rfl)) (fun v27 u27 hp27 => ?_)
      obtain ⟨rfl, rfl⟩ := hp27
      show Xw K G 0 0 _ n V R 30 [(0, .ref (aG G 0)), (1, .int (iI x)), (2, .int (iI y)), (3, .int (iI s)), (4, .int (iI w))] [.int (iI (bI (0 ≤ y ∧ y ≤ 11)))]
      refine x_ifeq_b C dX11_cell_30 (tgt := 50) (by decide) (fun h30 => ?_) (fun h30 => ?_)
      · skip
        refine x_bipush C dX11_cell_50 (w := -2) (by decide) ?_
        refine x_iret C dX11_cell_52 ⟨_, _, rfl, rfl, ?_, ?_, ?_⟩
        · first | exact fun _ _ => rfl | exact hI | exact Or.inl ⟨by omega, rfl⟩ | exact Or.inr (Or.inl ⟨⟨by omega, by omega⟩, rfl⟩)
        · first | exact fun _ _ => rfl | exact hI | exact Or.inl ⟨by omega, rfl⟩ | exact Or.inr (Or.inl ⟨⟨by omega, by omega⟩, rfl⟩)
        · first | exact fun _ _ => rfl | exact hI | exact Or.inl ⟨by omega, rfl⟩ | exact Or.inr (Or.inl ⟨⟨by omega, by omega⟩, rfl⟩)
      · skip
        refine x_iload_n C 3 dX11_cell_33 rfl rfl ?_
        refine x_iconst C dX11_cell_34 ?_
        refine x_aload_n C 0 dX11_cell_35 rfl rfl ?_
        refine x_getr C ok_Class 0 0 (d := 1) dX11_cell_36 (lt67 hn rfl) rfl (by decide) rfl q_0_16 rfl (kz := 0) rfl (lr_0_0 hLR) ?_
        refine x_geti C ok_Yard 1 2 dX11_cell_39 (lt67 hn rfl) rfl (by decide) rfl q_5_15 rfl (kz := 2) rfl (fun rg39 => ?_)
        refine x_iconst C dX11_cell_42 ?_
        refine x_isub C dX11_cell_43 ?_
        refine x_runU (r_callS C (ce_X11_within) (m_X11_within G n V R (s) (0) ((V 1 2) - 1) (by first | assumption | omega | decide) (by first | assumption | omega | decide) (by first | assumption | omega | decide)) dX11_cell_44 q_5_4 q_5_5 rfl rfl ⟨Nat.le_of_ble_eq_true rfl, Nat.le_of_ble_eq_true rfl⟩ ⟨rfl, rfl⟩ ⟨Nat.le_of_ble_eq_true rfl, Nat.le_of_ble_eq_true rfl⟩ (Nat.le_of_ble_eq_true rfl)) (fun v44 u44 hp44 => ?_)
        obtain ⟨rfl, rfl⟩ := hp44
        show Xw K G 0 0 _ n V R 47 [(0, .ref (aG G 0)), (1, .int (iI x)), (2, .int (iI y)), (3, .int (iI s)), (4, .int (iI w))] [.int (iI (bI (0 ≤ s ∧ s ≤ ((V 1 2) - 1))))]
        refine x_ifne_b C dX11_cell_47 (tgt := 53) (by decide) (fun h47 => ?_) (fun h47 => ?_)
        · skip
          refine x_iload C 4 dX11_cell_53 rfl ?_
          rcases (show w = 0 ∨ w = 1 ∨ w = 2 ∨ (w < 0 ∨ 2 < w) by omega) with h55 | h55 | h55 | h55
          · skip
            refine x_tin C 0 h55 dX11_cell_55 (by constructor <;> decide) (by decide) (by decide) (off := 25) rfl (tgt := 80) (by decide) ?_
            refine x_aload_n C 0 dX11_cell_80 rfl rfl ?_
            refine x_getr C ok_Class 0 0 (d := 1) dX11_cell_81 (lt67 hn rfl) rfl (by decide) rfl q_0_16 rfl (kz := 0) rfl (lr_0_0 hLR) ?_
            refine x_iload_n C 1 dX11_cell_84 rfl rfl ?_
            refine x_iload_n C 2 dX11_cell_85 rfl rfl ?_
            refine x_iload_n C 3 dX11_cell_86 rfl rfl ?_
            refine x_runU (r_callV C ok_Yard 1 (lt67 hn rfl) rfl (ce_X10_isWood) (m_X10_isWood G n V R (1) (x) (y) (s) hn hLR (by first | assumption | omega | decide) (by first | assumption | omega | decide) (by first | assumption | omega | decide) (by first | assumption | omega | decide) (by omega) (by omega)) rfl dX11_cell_87 q_5_16 q_5_17 q_5_18 rfl rfl ⟨Nat.le_of_ble_eq_true rfl, Nat.le_of_ble_eq_true rfl⟩ ⟨rfl, rfl⟩ ⟨Nat.le_of_ble_eq_true rfl, Nat.le_of_ble_eq_true rfl⟩ (Nat.le_of_ble_eq_true rfl)) (fun v87 u87 hp87 => ?_)
            obtain ⟨rfl, rfl⟩ := hp87
            show Xw K G 0 0 _ n V R 90 [(0, .ref (aG G 0)), (1, .int (iI x)), (2, .int (iI y)), (3, .int (iI s)), (4, .int (iI w))] [.int (iI (bI (woodP (V 1 0) (V 1 1) x y s)))]
            refine x_ifeq_b C dX11_cell_90 (tgt := 97) (by decide) (fun h90 => ?_) (fun h90 => ?_)
            · skip
              refine x_iconst C dX11_cell_97 ?_
              refine x_iret C dX11_cell_98 ⟨_, _, rfl, rfl, ?_, ?_, ?_⟩
              · exact fun _ _ => rfl
              · exact hI
              · exact Or.inr (Or.inr (Or.inl ⟨by omega, by omega, by omega, by omega, by omega, by first | (rw [bI_t (by rw [← ea0, ← ea1]; assumption)]) | (rw [bI_f (by rw [← ea0, ← ea1]; assumption)])⟩))
            · skip
              refine x_iconst C dX11_cell_93 ?_
              refine x_goto C dX11_cell_94 (tgt := 98) (by decide) ?_
              refine x_iret C dX11_cell_98 ⟨_, _, rfl, rfl, ?_, ?_, ?_⟩
              · exact fun _ _ => rfl
              · exact hI
              · exact Or.inr (Or.inr (Or.inl ⟨by omega, by omega, by omega, by omega, by omega, by first | (rw [bI_t (by rw [← ea0, ← ea1]; assumption)]) | (rw [bI_f (by rw [← ea0, ← ea1]; assumption)])⟩))
          · skip
            refine x_tin C 1 h55 dX11_cell_55 (by constructor <;> decide) (by decide) (by decide) (off := 44) rfl (tgt := 99) (by decide) ?_
            refine x_aload_n C 0 dX11_cell_99 rfl rfl ?_
            refine x_runU (r_callV C ok_Class 0 (lt67 hn rfl) rfl (ce_X11_asItLies) (m_X11_asItLies G n V R (lr) (lt) (L) (f) (m) (g) (pr) hn hLR (by first | assumption | omega | decide) (by first | assumption | omega | decide)) rfl dX11_cell_100 q_28_13 q_28_14 q_28_15 rfl rfl ⟨Nat.le_of_ble_eq_true rfl, Nat.le_of_ble_eq_true rfl⟩ ⟨rfl, rfl⟩ ⟨Nat.le_of_ble_eq_true rfl, Nat.le_of_ble_eq_true rfl⟩ (Nat.le_of_ble_eq_true rfl)) (fun v100 u100 hp100 => ?_)
            obtain ⟨V1_100, rfl, rfl, hq100_0, hq100_1, hq100_2, hq100_3⟩ := hp100
            show Xw K G 0 0 _ n V1_100 R 103 [(0, .ref (aG G 0)), (1, .int (iI x)), (2, .int (iI y)), (3, .int (iI s)), (4, .int (iI w))] [.ref (aG G 11)]
            refine x_iload_n C 1 dX11_cell_103 rfl rfl ?_
            refine x_iload_n C 2 dX11_cell_104 rfl rfl ?_
            refine x_iload_n C 3 dX11_cell_105 rfl rfl ?_
            refine x_runU (r_callV C ok_Saw 11 (lt67 hn rfl) rfl (ce_X6_hurtOf) (m_X6_hurtOf G n V1_100 R (11) (lr) (lt) (L) (f) (m) (g) (pr) (x) (y) (s) hn hLR (by first | assumption | omega | decide) (by exact hq100_2) (by first | assumption | omega | decide) (by first | assumption | omega | decide) (by first | assumption | omega | decide)) rfl dX11_cell_106 q_30_2 q_30_3 q_30_4 rfl rfl ⟨Nat.le_of_ble_eq_true rfl, Nat.le_of_ble_eq_true rfl⟩ ⟨rfl, rfl⟩ ⟨Nat.le_of_ble_eq_true rfl, Nat.le_of_ble_eq_true rfl⟩ (Nat.le_of_ble_eq_true rfl)) (fun v106 u106 hp106 => ?_)
            obtain ⟨rfl, rfl⟩ := hp106
            show Xw K G 0 0 _ n V1_100 R 109 [(0, .ref (aG G 0)), (1, .int (iI x)), (2, .int (iI y)), (3, .int (iI s)), (4, .int (iI w))] [.int (iI (hurtS f m x y s g))]
            refine x_iret C dX11_cell_109 ⟨_, _, rfl, rfl, ?_, ?_, ?_⟩
            · exact hq100_0
            · exact hq100_3
            · exact Or.inr (Or.inr (Or.inr (Or.inl ⟨by omega, by omega, by omega, by omega, by omega, rfl⟩)))
          · skip
            refine x_tin C 2 h55 dX11_cell_55 (by constructor <;> decide) (by decide) (by decide) (off := 55) rfl (tgt := 110) (by decide) ?_
            have hob := o_b (x := x) (y := y) (t := V 1 3) (by omega) (by omega)
            refine x_aload_n C 0 dX11_cell_110 rfl rfl ?_
            refine x_getr C ok_Class 0 0 (d := 1) dX11_cell_111 (lt67 hn rfl) rfl (by decide) rfl q_0_16 rfl (kz := 0) rfl (lr_0_0 hLR) ?_
            refine x_aload_n C 0 dX11_cell_114 rfl rfl ?_
            refine x_getr C ok_Class 0 0 (d := 1) dX11_cell_115 (lt67 hn rfl) rfl (by decide) rfl q_0_16 rfl (kz := 0) rfl (lr_0_0 hLR) ?_
            refine x_geti C ok_Yard 1 3 dX11_cell_118 (lt67 hn rfl) rfl (by decide) rfl q_27_12 rfl (kz := 3) rfl (fun rg118 => ?_)
            refine x_iload_n C 1 dX11_cell_121 rfl rfl ?_
            refine x_iload_n C 2 dX11_cell_122 rfl rfl ?_
            refine x_runU (r_callS C (ce_X11_ownX) (m_X11_ownX G n V R (V 1 3) (x) (y) (by first | assumption | omega | decide)) dX11_cell_123 q_29_20 q_29_16 rfl rfl ⟨Nat.le_of_ble_eq_true rfl, Nat.le_of_ble_eq_true rfl⟩ ⟨rfl, rfl⟩ ⟨Nat.le_of_ble_eq_true rfl, Nat.le_of_ble_eq_true rfl⟩ (Nat.le_of_ble_eq_true rfl)) (fun v123 u123 hp123 => ?_)
            obtain ⟨rfl, rfl⟩ := hp123
            show Xw K G 0 0 _ n V R 126 [(0, .ref (aG G 0)), (1, .int (iI x)), (2, .int (iI y)), (3, .int (iI s)), (4, .int (iI w))] [.int (iI (oX x y (V 1 3))), .ref (aG G 1)]
            refine x_aload_n C 0 dX11_cell_126 rfl rfl ?_
            refine x_getr C ok_Class 0 0 (d := 1) dX11_cell_127 (lt67 hn rfl) rfl (by decide) rfl q_0_16 rfl (kz := 0) rfl (lr_0_0 hLR) ?_
            refine x_geti C ok_Yard 1 3 dX11_cell_130 (lt67 hn rfl) rfl (by decide) rfl q_27_12 rfl (kz := 3) rfl (fun rg130 => ?_)
            refine x_iload_n C 1 dX11_cell_133 rfl rfl ?_
            refine x_iload_n C 2 dX11_cell_134 rfl rfl ?_
            refine x_runU (r_callS C (ce_X11_ownY) (m_X11_ownY G n V R (V 1 3) (x) (y) (by first | assumption | omega | decide)) dX11_cell_135 q_30_6 q_29_18 rfl rfl ⟨Nat.le_of_ble_eq_true rfl, Nat.le_of_ble_eq_true rfl⟩ ⟨rfl, rfl⟩ ⟨Nat.le_of_ble_eq_true rfl, Nat.le_of_ble_eq_true rfl⟩ (Nat.le_of_ble_eq_true rfl)) (fun v135 u135 hp135 => ?_)
            obtain ⟨rfl, rfl⟩ := hp135
            show Xw K G 0 0 _ n V R 138 [(0, .ref (aG G 0)), (1, .int (iI x)), (2, .int (iI y)), (3, .int (iI s)), (4, .int (iI w))] [.int (iI (oY x y (V 1 3))), .int (iI (oX x y (V 1 3))), .ref (aG G 1)]
            refine x_iload_n C 3 dX11_cell_138 rfl rfl ?_
            refine x_runU (r_callV C ok_Yard 1 (lt67 hn rfl) rfl (ce_X10_leastFaultIn) (m_X10_leastFaultIn G n V R (1) (oX x y (V 1 3)) (oY x y (V 1 3)) (s) hn hLR (by first | assumption | omega | decide) (by first | assumption | omega | decide) (by first | assumption | omega | decide) (by first | assumption | omega | decide) (by first | assumption | omega | decide) (by first | assumption | omega | decide) (by rw [ea5]; exact hI.1.2.2.1)) rfl dX11_cell_139 q_30_7 q_30_8 q_30_9 rfl rfl ⟨Nat.le_of_ble_eq_true rfl, Nat.le_of_ble_eq_true rfl⟩ ⟨rfl, rfl⟩ ⟨Nat.le_of_ble_eq_true rfl, Nat.le_of_ble_eq_true rfl⟩ (Nat.le_of_ble_eq_true rfl)) (fun v139 u139 hp139 => ?_)
            obtain ⟨r_139, rfl, rfl, hq139_0⟩ := hp139
            show Xw K G 0 0 _ n V R 142 [(0, .ref (aG G 0)), (1, .int (iI x)), (2, .int (iI y)), (3, .int (iI s)), (4, .int (iI w))] [.int (iI r_139)]
            refine x_iret C dX11_cell_142 ⟨_, _, rfl, rfl, ?_, ?_, ?_⟩
            · exact fun _ _ => rfl
            · exact hI
            · refine Or.inr (Or.inr (Or.inr (Or.inr ⟨by omega, by omega, by omega, by omega, by omega, ?_⟩))); rw [← ea3]; rw [ea5] at hq139_0; exact leastP_c hI.1.2.2.2.2.2 hq139_0
          · skip
            refine x_tout C dX11_cell_55 (tgt := 143) (by decide) (by first | assumption | (constructor <;> omega)) h55 ?_
            refine x_bipush C dX11_cell_143 (w := -2) (by decide) ?_
            refine x_iret C dX11_cell_145 ⟨_, _, rfl, rfl, ?_, ?_, ?_⟩
            · first | exact fun _ _ => rfl | exact hI | exact Or.inl ⟨by omega, rfl⟩ | exact Or.inr (Or.inl ⟨⟨by omega, by omega⟩, rfl⟩)
            · first | exact fun _ _ => rfl | exact hI | exact Or.inl ⟨by omega, rfl⟩ | exact Or.inr (Or.inl ⟨⟨by omega, by omega⟩, rfl⟩)
            · first | exact fun _ _ => rfl | exact hI | exact Or.inl ⟨by omega, rfl⟩ | exact Or.inr (Or.inl ⟨⟨by omega, by omega⟩, rfl⟩)
        · skip
          refine x_bipush C dX11_cell_50 (w := -2) (by decide) ?_
          refine x_iret C dX11_cell_52 ⟨_, _, rfl, rfl, ?_, ?_, ?_⟩
          · first | exact fun _ _ => rfl | exact hI | exact Or.inl ⟨by omega, rfl⟩ | exact Or.inr (Or.inl ⟨⟨by omega, by omega⟩, rfl⟩)
          · first | exact fun _ _ => rfl | exact hI | exact Or.inl ⟨by omega, rfl⟩ | exact Or.inr (Or.inl ⟨⟨by omega, by omega⟩, rfl⟩)
          · first | exact fun _ _ => rfl | exact hI | exact Or.inl ⟨by omega, rfl⟩ | exact Or.inr (Or.inl ⟨⟨by omega, by omega⟩, rfl⟩)
  · skip
    refine x_bipush C dX11_cell_10 (w := -3) (by decide) ?_
    refine x_iret C dX11_cell_12 ⟨_, _, rfl, rfl, ?_, ?_, ?_⟩
    · first | exact fun _ _ => rfl | exact hI | exact Or.inl ⟨by omega, rfl⟩ | exact Or.inr (Or.inl ⟨⟨by omega, by omega⟩, rfl⟩)
    · first | exact fun _ _ => rfl | exact hI | exact Or.inl ⟨by omega, rfl⟩ | exact Or.inr (Or.inl ⟨⟨by omega, by omega⟩, rfl⟩)
    · first | exact fun _ _ => rfl | exact hI | exact Or.inl ⟨by omega, rfl⟩ | exact Or.inr (Or.inl ⟨⟨by omega, by omega⟩, rfl⟩)
