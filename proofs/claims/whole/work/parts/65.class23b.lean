
set_option maxRecDepth 100000 in
set_option maxHeartbeats 4000000 in
theorem m_X11_turnsTold (G : GS) (n : Nat) (V : Nat → Int → Int) (R : Nat → Int → Option Nat) (lr : Int) (lt : Int) (L : Int) (f : Int → Int → Int) (m : Int) (g : Int) (pr : Int → Int) (s : Int) (hn : 67 ≤ n) (hLR : LR R) (hI : CInv n V R lr lt L f m g pr) (hL1 : 1 ≤ L) (hs : 0 ≤ s ∧ s ≤ 3) (hsz : ∀ z, 0 ≤ z → z ≤ 3 → (-1 ≤ V 37 z ∧ V 37 z ≤ 1) ∧ (0 ≤ V 38 z ∧ V 38 z ≤ 40)) : Cn G yX11_turnsTold cX11_turnsTold 4 (some .int) (rmk 7 0 0 181) [.ref (aG G 0), .int (iI s)] n V R 0 0 (fun vv uu => ∃ (V1 : Nat → Int → Int), vv = some (.int (iI (acS (fun t => ∃ x, tellR lr lt L f m pr t (fun q => V 39 (40 * s + q)) (V 38 s) x ∧ x < 0) 4))) ∧ uu = (n, V1, R) ∧ (∀ q, q < 23 ∨ 34 < q → V1 q = V q) ∧ (CInv n V1 R lr lt L f m g pr)) := by
  obtain ⟨ea0, ea1, ea2, ea3, ea5⟩ := hI.1.1
  obtain ⟨eb0, eb1, eb2, eb3, eb5⟩ := hI.1.2.1
  refine Cn.of (by decide) (Nat.le_of_ble_eq_true rfl) (fun K C hct => ?_)
  show Xw K G 0 0 _ n V R 0 [(0, .ref (aG G 0)), (1, .int (iI s))] []
  have hru := hI.1.2.2.2.1
  refine x_iconst C dX11_turnsTold_0 ?_
  refine x_istore_n C dX11_turnsTold_1 rfl (by decide) (lv' := [(0, .ref (aG G 0)), (1, .int (iI s)), (2, .int (iI 0))]) rfl ?_
  refine x_iconst C dX11_turnsTold_2 ?_
  refine x_istore_n C dX11_turnsTold_3 rfl (by decide) (lv' := [(0, .ref (aG G 0)), (1, .int (iI s)), (2, .int (iI 0)), (3, .int (iI 0))]) rfl ?_
  have lp_4 : ∀ (fuel : Nat) (t : Int) (q : Int) (V2 : Nat → Int → Int), (0 ≤ t ∧ t ≤ 4) → (q = acS (fun t => ∃ x, tellR lr lt L f m pr t (fun q => V 39 (40 * s + q)) (V 38 s) x ∧ x < 0) t ∧ Rg q) → (∀ q, q < 23 ∨ 34 < q → V2 q = V q) → (CInv n V2 R lr lt L f m g pr) → ((5 : Int) - t) < (fuel : Int) → Xw K G 0 0 (EndQ K G 0 0 (fun vv uu => ∃ (V1 : Nat → Int → Int), vv = some (.int (iI (acS (fun t => ∃ x, tellR lr lt L f m pr t (fun q => V 39 (40 * s + q)) (V 38 s) x ∧ x < 0) 4))) ∧ uu = (n, V1, R) ∧ (∀ q, q < 23 ∨ 34 < q → V1 q = V q) ∧ (CInv n V1 R lr lt L f m g pr))) n V2 R 4 [(0, .ref (aG G 0)), (1, .int (iI s)), (2, .int (iI q)), (3, .int (iI t))] [] := by
    intro fuel4
    induction fuel4 with
    | zero => intro t q V2 ht hq hF2 hC2 hfu4; exfalso; omega
    | succ fuel4 ih4 =>
      intro t q V2 ht hq hF2 hC2 hfu4
      refine x_iload_n C 3 dX11_turnsTold_4 rfl rfl ?_
      refine x_iconst C dX11_turnsTold_5 ?_
      refine x_icmp_ge C dX11_turnsTold_6 (tgt := 40) (by decide) (by first | assumption | (constructor <;> omega)) (by first | assumption | (constructor <;> omega)) (fun h6 => ?_) (fun h6 => ?_)
      · skip
        refine x_iload_n C 2 dX11_turnsTold_40 rfl rfl ?_
        refine x_iret C dX11_turnsTold_41 ⟨_, (by rw [hq.1, show t = 4 by omega]), rfl, ?_, ?_⟩
        · exact hF2
        · exact hC2
      · skip
        refine x_aload_n C 0 dX11_turnsTold_9 rfl rfl ?_
        refine x_iload_n C 3 dX11_turnsTold_10 rfl rfl ?_
        refine x_runU (r_callV C ok_Class 0 (lt67 hn rfl) rfl (ce_X11_openByTurn) (m_X11_openByTurn G n V2 R (lr) (lt) (L) (f) (m) (g) (pr) (t) hn hLR (by exact hC2) (by first | assumption | omega | decide) (by first | assumption | omega | decide)) rfl dX11_turnsTold_11 q_38_10 q_38_11 q_38_12 rfl rfl ⟨Nat.le_of_ble_eq_true rfl, Nat.le_of_ble_eq_true rfl⟩ ⟨rfl, rfl⟩ ⟨Nat.le_of_ble_eq_true rfl, Nat.le_of_ble_eq_true rfl⟩ (Nat.le_of_ble_eq_true rfl)) (fun v11 u11 hp11 => ?_)
        obtain ⟨V1_11, rfl, rfl, hq11_0, hq11_1, hq11_2, hq11_3⟩ := hp11
        show Xw K G 0 0 _ n V1_11 R 14 [(0, .ref (aG G 0)), (1, .int (iI s)), (2, .int (iI q)), (3, .int (iI t))] [.int (iI ((opT lr lt L f m pr t (-1)).1 0))]
        have e38 : V1_11 38 = V 38 := by rw [hq11_0 38 (by omega)]; exact hF2 38 (by omega)
        have e37 : V1_11 37 = V 37 := by rw [hq11_0 37 (by omega)]; exact hF2 37 (by omega)
        have e39 : V1_11 39 = V 39 := by rw [hq11_0 39 (by omega)]; exact hF2 39 (by omega)
        have hoo := open_rows hq11_2 hru
        refine x_pop C dX11_turnsTold_14 rfl ?_
        refine x_aload_n C 0 dX11_turnsTold_15 rfl rfl ?_
        refine x_iload_n C 1 dX11_turnsTold_16 rfl rfl ?_
        refine x_aload_n C 0 dX11_turnsTold_17 rfl rfl ?_
        refine x_getr C ok_Class 0 4 (d := 23) dX11_turnsTold_18 (lt67 hn rfl) rfl (by decide) rfl q_0_23 rfl (kz := 4) rfl (lr_0_4 hLR) ?_
        refine x_runU (r_callV C ok_Class 0 (lt67 hn rfl) rfl (ce_X11_firstOtherwise) (m_X11_firstOtherwise G n V1_11 R (s) (23) (((opL lr lt L f m pr t).length : Int)) (fun i => opG lr lt L f m pr t (lat (opL lr lt L f m pr t) i)) hn hLR (by first | assumption | omega | decide) (by rw [e38, e37]; exact hsz) (by first | assumption | omega | decide) (by exact hoo.1) (by exact hoo.2)) rfl dX11_turnsTold_21 q_47_19 q_47_20 q_47_21 rfl rfl ⟨Nat.le_of_ble_eq_true rfl, Nat.le_of_ble_eq_true rfl⟩ ⟨rfl, rfl⟩ ⟨Nat.le_of_ble_eq_true rfl, Nat.le_of_ble_eq_true rfl⟩ (Nat.le_of_ble_eq_true rfl)) (fun v21 u21 hp21 => ?_)
        obtain ⟨r_21, rfl, rfl, hq21_0⟩ := hp21
        show Xw K G 0 0 _ n V1_11 R 24 [(0, .ref (aG G 0)), (1, .int (iI s)), (2, .int (iI q)), (3, .int (iI t))] [.int (iI r_21)]
        rw [e38, e39] at hq21_0
        have hrb := oth_b hq21_0 hoo.1.2 (hsz s hs.1 hs.2).2
        refine x_iconst C dX11_turnsTold_24 ?_
        refine x_icmp_ne C dX11_turnsTold_25 (tgt := 34) (by decide) (by first | assumption | (constructor <;> omega)) (by first | assumption | (constructor <;> omega)) (fun h25 => ?_) (fun h25 => ?_)
        · skip
          refine x_iinc C 3 dX11_turnsTold_34 rfl (by decide) (lv' := [(0, .ref (aG G 0)), (1, .int (iI s)), (2, .int (iI q)), (3, .int (iI (t + 1)))]) rfl ?_
          refine x_goto C dX11_turnsTold_37 (tgt := 4) (by decide) ?_
          exact ih4 ((t + 1)) (q) (V1_11) (by omega) (by first | (refine ⟨?_, zOr_rg _ _⟩; rw [acS_s ht.1, ← hq.1, cif_t (p := ∃ x, tellR lr lt L f m pr t (fun q => V 39 (40 * s + q)) (V 38 s) x ∧ x < 0) ⟨_, hq21_0, by omega⟩]) | (refine ⟨?_, hq.2⟩; rw [acS_s ht.1, ← hq.1, cif_f (p := ∃ x, tellR lr lt L f m pr t (fun q => V 39 (40 * s + q)) (V 38 s) x ∧ x < 0) (fun ⟨x, h, h2⟩ => by have := othP_u h hq21_0; omega), zOr_0 hq.2])) (by exact fun p a => (hq11_0 p a).trans (hF2 p a)) (by exact hq11_3) (by omega)
        · skip
          refine x_iload_n C 2 dX11_turnsTold_28 rfl rfl ?_
          refine x_iconst C dX11_turnsTold_29 ?_
          refine x_iload_n C 3 dX11_turnsTold_30 rfl rfl ?_
          refine x_ishl C dX11_turnsTold_31 ?_
          refine x_ior C dX11_turnsTold_32 ?_
          refine x_istore_n C dX11_turnsTold_33 rfl (by decide) (lv' := [(0, .ref (aG G 0)), (1, .int (iI s)), (2, .int (iI (zOr q (zShl 1 t)))), (3, .int (iI t))]) rfl ?_
          refine x_iinc C 3 dX11_turnsTold_34 rfl (by decide) (lv' := [(0, .ref (aG G 0)), (1, .int (iI s)), (2, .int (iI (zOr q (zShl 1 t)))), (3, .int (iI (t + 1)))]) rfl ?_
          refine x_goto C dX11_turnsTold_37 (tgt := 4) (by decide) ?_
          exact ih4 ((t + 1)) ((zOr q (zShl 1 t))) (V1_11) (by omega) (by first | (refine ⟨?_, zOr_rg _ _⟩; rw [acS_s ht.1, ← hq.1, cif_t (p := ∃ x, tellR lr lt L f m pr t (fun q => V 39 (40 * s + q)) (V 38 s) x ∧ x < 0) ⟨_, hq21_0, by omega⟩]) | (refine ⟨?_, hq.2⟩; rw [acS_s ht.1, ← hq.1, cif_f (p := ∃ x, tellR lr lt L f m pr t (fun q => V 39 (40 * s + q)) (V 38 s) x ∧ x < 0) (fun ⟨x, h, h2⟩ => by have := othP_u h hq21_0; omega), zOr_0 hq.2])) (by exact fun p a => (hq11_0 p a).trans (hF2 p a)) (by exact hq11_3) (by omega)
  exact lp_4 (((5 : Int) - 0).toNat + 1) (0) (0) (V) (by omega) (by exact ⟨rfl, by constructor <;> omega⟩) (by exact fun _ _ => rfl) (by exact hI) (by omega)
set_option maxRecDepth 100000 in
set_option maxHeartbeats 4000000 in
theorem m_X11_kerfsTold (G : GS) (n : Nat) (V : Nat → Int → Int) (R : Nat → Int → Option Nat) (lr : Int) (lt : Int) (L : Int) (f : Int → Int → Int) (m : Int) (g : Int) (pr : Int → Int) (s : Int) (hn : 67 ≤ n) (hLR : LR R) (hI : CInv n V R lr lt L f m g pr) (hL1 : 1 ≤ L) (hs : 0 ≤ s ∧ s ≤ 3) (hsz : ∀ z, 0 ≤ z → z ≤ 3 → (-1 ≤ V 37 z ∧ V 37 z ≤ 1) ∧ (0 ≤ V 38 z ∧ V 38 z ≤ 40)) : Cn G yX11_kerfsTold cX11_kerfsTold 4 (some .int) (rmk 6 0 0 160) [.ref (aG G 0), .int (iI s)] n V R 0 0 (fun vv uu => ∃ (V1 : Nat → Int → Int), vv = some (.int (iI (acS (fun k => ∃ x, tellR lr lt L f m (u1 pr 0 k) g (fun q => V 39 (40 * s + q)) (V 38 s) x ∧ x < 0) 3))) ∧ uu = (n, V1, R) ∧ (∀ q, q < 23 ∨ 34 < q → V1 q = V q) ∧ (CInv n V1 R lr lt L f m g pr)) := by
  obtain ⟨ea0, ea1, ea2, ea3, ea5⟩ := hI.1.1
  obtain ⟨eb0, eb1, eb2, eb3, eb5⟩ := hI.1.2.1
  refine Cn.of (by decide) (Nat.le_of_ble_eq_true rfl) (fun K C hct => ?_)
  show Xw K G 0 0 _ n V R 0 [(0, .ref (aG G 0)), (1, .int (iI s))] []
  refine x_iconst C dX11_kerfsTold_0 ?_
  refine x_istore_n C dX11_kerfsTold_1 rfl (by decide) (lv' := [(0, .ref (aG G 0)), (1, .int (iI s)), (2, .int (iI 0))]) rfl ?_
  refine x_aload_n C 0 dX11_kerfsTold_2 rfl rfl ?_
  refine x_getr C ok_Class 0 4 (d := 23) dX11_kerfsTold_3 (lt67 hn rfl) rfl (by decide) rfl q_0_23 rfl (kz := 4) rfl (lr_0_4 hLR) ?_
  refine x_aload_n C 0 dX11_kerfsTold_6 rfl rfl ?_
  refine x_getr C ok_Class 0 0 (d := 1) dX11_kerfsTold_7 (lt67 hn rfl) rfl (by decide) rfl q_0_16 rfl (kz := 0) rfl (lr_0_0 hLR) ?_
  refine x_aload_n C 0 dX11_kerfsTold_10 rfl rfl ?_
  refine x_getr C ok_Class 0 0 (d := 1) dX11_kerfsTold_11 (lt67 hn rfl) rfl (by decide) rfl q_0_16 rfl (kz := 0) rfl (lr_0_0 hLR) ?_
  refine x_geti C ok_Yard 1 3 dX11_kerfsTold_14 (lt67 hn rfl) rfl (by decide) rfl q_27_12 rfl (kz := 3) rfl (fun rg14 => ?_)
  refine x_aload_n C 0 dX11_kerfsTold_17 rfl rfl ?_
  refine x_getr C ok_Class 0 0 (d := 1) dX11_kerfsTold_18 (lt67 hn rfl) rfl (by decide) rfl q_0_16 rfl (kz := 0) rfl (lr_0_0 hLR) ?_
  refine x_getr C ok_Yard 1 4 (d := 2) dX11_kerfsTold_21 (lt67 hn rfl) rfl (by decide) rfl q_28_17 rfl (kz := 4) rfl (lr_1_4 hLR) ?_
  refine x_aload_n C 0 dX11_kerfsTold_24 rfl rfl ?_
  refine x_getr C ok_Class 0 0 (d := 1) dX11_kerfsTold_25 (lt67 hn rfl) rfl (by decide) rfl q_0_16 rfl (kz := 0) rfl (lr_0_0 hLR) ?_
  refine x_geti C ok_Yard 1 5 dX11_kerfsTold_28 (lt67 hn rfl) rfl (by decide) rfl q_8_5 rfl (kz := 5) rfl (fun rg28 => ?_)
  refine x_runU (r_callV C ok_Saw 23 (lt67 hn rfl) rfl (ce_X6_lay) (m_X6_lay G n V R (23) (V 1 3) (2) (V 1 5) hn hLR (by first | assumption | omega | decide) (by exact ⟨by decide, by decide⟩) (by rfl) (by omega) (by omega) (by omega) (by omega) (by omega) (by exact hI.1.rules) (by rw [hI.1.1.2.2.2.2]; exact hI.1.2.2.1) (by exact hI.2.2.2.2.1)) rfl dX11_kerfsTold_31 q_28_18 q_28_19 q_28_20 rfl rfl ⟨Nat.le_of_ble_eq_true rfl, Nat.le_of_ble_eq_true rfl⟩ ⟨rfl, rfl⟩ ⟨Nat.le_of_ble_eq_true rfl, Nat.le_of_ble_eq_true rfl⟩ (Nat.le_of_ble_eq_true rfl)) (fun v31 u31 hp31 => ?_)
  obtain ⟨V1_31, rfl, rfl, hq31_0, hq31_1, hq31_2, hq31_3⟩ := hp31
  show Xw K G 0 0 _ n V1_31 R 34 [(0, .ref (aG G 0)), (1, .int (iI s)), (2, .int (iI 0))] []
  have ok2 : SwOk V1_31 23 lr lt L f m g pr := thought_ok hI (by rw [ea3] at hq31_2; exact hq31_2)
  have hru := hI.1.2.2.2.1
  have h12 : V1_31 (23 + 8) 12 = 0 := (congrFun (hq31_0 31 (by omega) (by omega) (by omega) (by omega) (by omega) (by omega)) 12).trans hI.2.2.2.2.2
  have hf31 : ∀ q, q < 23 ∨ 34 < q → V1_31 q = V q := fun q a => hq31_0 q (by omega) (by omega) (by omega) (by omega) (by omega) (by omega)
  refine x_iconst C dX11_kerfsTold_34 ?_
  refine x_istore_n C dX11_kerfsTold_35 rfl (by decide) (lv' := [(0, .ref (aG G 0)), (1, .int (iI s)), (2, .int (iI 0)), (3, .int (iI 0))]) rfl ?_
  have lp_36 : ∀ (fuel : Nat) (k : Int) (q : Int) (V2 : Nat → Int → Int), (0 ≤ k ∧ k ≤ 3) → (q = acS (fun k => ∃ x, tellR lr lt L f m (u1 pr 0 k) g (fun q => V 39 (40 * s + q)) (V 38 s) x ∧ x < 0) k ∧ Rg q) → (∀ q, q < 23 ∨ 34 < q → V2 q = V q) → (SwOk V2 23 lr lt L f m g pr) → (V2 (23 + 8) 12 = 0 ∧ SwZ V2 23) → ((4 : Int) - k) < (fuel : Int) → Xw K G 0 0 (EndQ K G 0 0 (fun vv uu => ∃ (V1 : Nat → Int → Int), vv = some (.int (iI (acS (fun k => ∃ x, tellR lr lt L f m (u1 pr 0 k) g (fun q => V 39 (40 * s + q)) (V 38 s) x ∧ x < 0) 3))) ∧ uu = (n, V1, R) ∧ (∀ q, q < 23 ∨ 34 < q → V1 q = V q) ∧ (CInv n V1 R lr lt L f m g pr))) n V2 R 36 [(0, .ref (aG G 0)), (1, .int (iI s)), (2, .int (iI q)), (3, .int (iI k))] [] := by
    intro fuel36
    induction fuel36 with
    | zero => intro k q V2 hk hq hF2 ok3 hz3 hfu36; exfalso; omega
    | succ fuel36 ih36 =>
      intro k q V2 hk hq hF2 ok3 hz3 hfu36
      refine x_iload_n C 3 dX11_kerfsTold_36 rfl rfl ?_
      refine x_iconst C dX11_kerfsTold_37 ?_
      refine x_icmp_gt C dX11_kerfsTold_38 (tgt := 75) (by decide) (by first | assumption | (constructor <;> omega)) (by first | assumption | (constructor <;> omega)) (fun h38 => ?_) (fun h38 => ?_)
      · skip
        refine x_iload_n C 2 dX11_kerfsTold_75 rfl rfl ?_
        refine x_iret C dX11_kerfsTold_76 ⟨_, (by rw [hq.1, show k = 3 by omega]), rfl, ?_, ?_⟩
        · exact hF2
        · exact thought_inv hI hF2 hz3.2 hz3.1
      · skip
        refine x_aload_n C 0 dX11_kerfsTold_41 rfl rfl ?_
        refine x_getr C ok_Class 0 4 (d := 23) dX11_kerfsTold_42 (lt67 hn rfl) rfl (by decide) rfl q_0_23 rfl (kz := 4) rfl (lr_0_4 hLR) ?_
        refine x_iload_n C 3 dX11_kerfsTold_45 rfl rfl ?_
        refine x_runU (r_callV C ok_Saw 23 (lt67 hn rfl) rfl (ce_X6_open) (m_X6_open G n V2 R (23) (lr) (lt) (L) (f) (m) (g) (pr) (k) hn hLR (by first | assumption | omega | decide) (by exact ok3) (by first | assumption | omega | decide) (by omega) (by first | assumption | omega | decide)) rfl dX11_kerfsTold_46 q_36_13 q_36_14 q_36_15 rfl rfl ⟨Nat.le_of_ble_eq_true rfl, Nat.le_of_ble_eq_true rfl⟩ ⟨rfl, rfl⟩ ⟨Nat.le_of_ble_eq_true rfl, Nat.le_of_ble_eq_true rfl⟩ (Nat.le_of_ble_eq_true rfl)) (fun v46 u46 hp46 => ?_)
        obtain ⟨V1_46, rfl, rfl, hq46_0, hq46_1, hq46_2, hq46_3, hq46_4⟩ := hp46
        show Xw K G 0 0 _ n V1_46 R 49 [(0, .ref (aG G 0)), (1, .int (iI s)), (2, .int (iI q)), (3, .int (iI k))] [.int (iI ((dpR (bwC lr lt L f m g pr) (pr 6) k (-1)).1 0))]
        have e38 : V1_46 38 = V 38 := by rw [hq46_0 38 (by omega) (by omega)]; exact hF2 38 (by omega)
        have e37 : V1_46 37 = V 37 := by rw [hq46_0 37 (by omega) (by omega)]; exact hF2 37 (by omega)
        have e39 : V1_46 39 = V 39 := by rw [hq46_0 39 (by omega) (by omega)]; exact hF2 39 (by omega)
        have hoo := open_rows (open_kf hq46_4) (fk_ru hru (show 0 ≤ k ∧ k ≤ 2 by omega))
        have hbw := (dpR_bd lr lt L f m g pr k (y := -1) (by decide)).1 0
        refine x_pop C dX11_kerfsTold_49 rfl ?_
        refine x_aload_n C 0 dX11_kerfsTold_50 rfl rfl ?_
        refine x_iload_n C 1 dX11_kerfsTold_51 rfl rfl ?_
        refine x_aload_n C 0 dX11_kerfsTold_52 rfl rfl ?_
        refine x_getr C ok_Class 0 4 (d := 23) dX11_kerfsTold_53 (lt67 hn rfl) rfl (by decide) rfl q_0_23 rfl (kz := 4) rfl (lr_0_4 hLR) ?_
        refine x_runU (r_callV C ok_Class 0 (lt67 hn rfl) rfl (ce_X11_firstOtherwise) (m_X11_firstOtherwise G n V1_46 R (s) (23) (((opL lr lt L f m (u1 pr 0 k) g).length : Int)) (fun i => opG lr lt L f m (u1 pr 0 k) g (lat (opL lr lt L f m (u1 pr 0 k) g) i)) hn hLR (by first | assumption | omega | decide) (by rw [e38, e37]; exact hsz) (by first | assumption | omega | decide) (by exact hoo.1) (by exact hoo.2)) rfl dX11_kerfsTold_56 q_47_19 q_47_20 q_47_21 rfl rfl ⟨Nat.le_of_ble_eq_true rfl, Nat.le_of_ble_eq_true rfl⟩ ⟨rfl, rfl⟩ ⟨Nat.le_of_ble_eq_true rfl, Nat.le_of_ble_eq_true rfl⟩ (Nat.le_of_ble_eq_true rfl)) (fun v56 u56 hp56 => ?_)
        obtain ⟨r_56, rfl, rfl, hq56_0⟩ := hp56
        show Xw K G 0 0 _ n V1_46 R 59 [(0, .ref (aG G 0)), (1, .int (iI s)), (2, .int (iI q)), (3, .int (iI k))] [.int (iI r_56)]
        rw [e38, e39] at hq56_0
        have hrb := oth_b hq56_0 hoo.1.2 (hsz s hs.1 hs.2).2
        refine x_iconst C dX11_kerfsTold_59 ?_
        refine x_icmp_ne C dX11_kerfsTold_60 (tgt := 69) (by decide) (by first | assumption | (constructor <;> omega)) (by first | assumption | (constructor <;> omega)) (fun h60 => ?_) (fun h60 => ?_)
        · skip
          refine x_iinc C 3 dX11_kerfsTold_69 rfl (by decide) (lv' := [(0, .ref (aG G 0)), (1, .int (iI s)), (2, .int (iI q)), (3, .int (iI (k + 1)))]) rfl ?_
          refine x_goto C dX11_kerfsTold_72 (tgt := 36) (by decide) ?_
          exact ih36 ((k + 1)) (q) (V1_46) (by omega) (by first | (refine ⟨?_, zOr_rg _ _⟩; rw [acS_s hk.1, ← hq.1, cif_t (p := ∃ x, tellR lr lt L f m (u1 pr 0 k) g (fun q => V 39 (40 * s + q)) (V 38 s) x ∧ x < 0) ⟨_, hq56_0, by omega⟩]) | (refine ⟨?_, hq.2⟩; rw [acS_s hk.1, ← hq.1, cif_f (p := ∃ x, tellR lr lt L f m (u1 pr 0 k) g (fun q => V 39 (40 * s + q)) (V 38 s) x ∧ x < 0) (fun ⟨x, h, h2⟩ => by have := othP_u h hq56_0; omega), zOr_0 hq.2])) (by exact fun p a => (hq46_0 p (by omega) (by omega)).trans (hF2 p a)) (by exact ok3.fr2 (fun z a => hq46_1 z (by omega) (by omega)) (fun q a => hq46_0 q (by omega) (by omega))) (by exact ⟨hq46_3, hz3.2.fr (hq46_0 _ (by decide) (by decide)) (hq46_0 _ (by decide) (by decide))⟩) (by omega)
        · skip
          refine x_iload_n C 2 dX11_kerfsTold_63 rfl rfl ?_
          refine x_iconst C dX11_kerfsTold_64 ?_
          refine x_iload_n C 3 dX11_kerfsTold_65 rfl rfl ?_
          refine x_ishl C dX11_kerfsTold_66 ?_
          refine x_ior C dX11_kerfsTold_67 ?_
          refine x_istore_n C dX11_kerfsTold_68 rfl (by decide) (lv' := [(0, .ref (aG G 0)), (1, .int (iI s)), (2, .int (iI (zOr q (zShl 1 k)))), (3, .int (iI k))]) rfl ?_
          refine x_iinc C 3 dX11_kerfsTold_69 rfl (by decide) (lv' := [(0, .ref (aG G 0)), (1, .int (iI s)), (2, .int (iI (zOr q (zShl 1 k)))), (3, .int (iI (k + 1)))]) rfl ?_
          refine x_goto C dX11_kerfsTold_72 (tgt := 36) (by decide) ?_
          exact ih36 ((k + 1)) ((zOr q (zShl 1 k))) (V1_46) (by omega) (by first | (refine ⟨?_, zOr_rg _ _⟩; rw [acS_s hk.1, ← hq.1, cif_t (p := ∃ x, tellR lr lt L f m (u1 pr 0 k) g (fun q => V 39 (40 * s + q)) (V 38 s) x ∧ x < 0) ⟨_, hq56_0, by omega⟩]) | (refine ⟨?_, hq.2⟩; rw [acS_s hk.1, ← hq.1, cif_f (p := ∃ x, tellR lr lt L f m (u1 pr 0 k) g (fun q => V 39 (40 * s + q)) (V 38 s) x ∧ x < 0) (fun ⟨x, h, h2⟩ => by have := othP_u h hq56_0; omega), zOr_0 hq.2])) (by exact fun p a => (hq46_0 p (by omega) (by omega)).trans (hF2 p a)) (by exact ok3.fr2 (fun z a => hq46_1 z (by omega) (by omega)) (fun q a => hq46_0 q (by omega) (by omega))) (by exact ⟨hq46_3, hz3.2.fr (hq46_0 _ (by decide) (by decide)) (hq46_0 _ (by decide) (by decide))⟩) (by omega)
  exact lp_36 (((4 : Int) - 0).toNat + 1) (0) (0) (V1_31) (by omega) (by exact ⟨rfl, by constructor <;> omega⟩) (by exact hf31) (by exact ok2) (by exact ⟨h12, hq31_3⟩) (by omega)
set_option maxRecDepth 100000 in
set_option maxHeartbeats 4000000 in
theorem m_X11_tells (G : GS) (n : Nat) (V : Nat → Int → Int) (R : Nat → Int → Option Nat) (lr : Int) (lt : Int) (L : Int) (f : Int → Int → Int) (m : Int) (g : Int) (pr : Int → Int) (s : Int) (w : Int) (hn : 67 ≤ n) (hLR : LR R) (hI : CInv n V R lr lt L f m g pr) (gs : Rg s) (gw : Rg w) (hsz : ∀ z, 0 ≤ z → z ≤ 3 → (-1 ≤ V 37 z ∧ V 37 z ≤ 1) ∧ (0 ≤ V 38 z ∧ V 38 z ≤ 40)) : Cn G yX11_tells cX11_tells 3 (some .int) (rmk 8 0 0 204) [.ref (aG G 0), .int (iI s), .int (iI w)] n V R 0 0 (fun vv uu => ∃ (r : Int), ∃ (V1 : Nat → Int → Int), vv = some (.int (iI r)) ∧ uu = (n, V1, R) ∧ (∀ q, q < 11 ∨ 34 < q → V1 q = V q) ∧ (CInv n V1 R lr lt L f m g pr) ∧ ((L = 0 ∧ r = -3) ∨ (L ≠ 0 ∧ ¬ ((0 ≤ s ∧ s ≤ 3) ∧ (0 ≤ w ∧ w ≤ 2)) ∧ r = -2) ∨ (L ≠ 0 ∧ ((0 ≤ s ∧ s ≤ 3) ∧ (0 ≤ w ∧ w ≤ 2)) ∧ V 37 s = -1 ∧ r = -11) ∨ (L ≠ 0 ∧ ((0 ≤ s ∧ s ≤ 3) ∧ (0 ≤ w ∧ w ≤ 2)) ∧ V 37 s ≠ -1 ∧ 12 < V 38 s ∧ r = -2) ∨ (L ≠ 0 ∧ ((0 ≤ s ∧ s ≤ 3) ∧ (0 ≤ w ∧ w ≤ 2)) ∧ V 37 s ≠ -1 ∧ V 38 s ≤ 12 ∧ ((w = 0 ∧ tellR lr lt L f m pr g (fun q => V 39 (40 * s + q)) (V 38 s) r) ∨ (w = 1 ∧ r = acS (fun t => ∃ x, tellR lr lt L f m pr t (fun q => V 39 (40 * s + q)) (V 38 s) x ∧ x < 0) 4) ∨ (w = 2 ∧ r = acS (fun k => ∃ x, tellR lr lt L f m (u1 pr 0 k) g (fun q => V 39 (40 * s + q)) (V 38 s) x ∧ x < 0) 3))))) := by
  obtain ⟨ea0, ea1, ea2, ea3, ea5⟩ := hI.1.1
  obtain ⟨eb0, eb1, eb2, eb3, eb5⟩ := hI.1.2.1
  refine Cn.of (by decide) (Nat.le_of_ble_eq_true rfl) (fun K C hct => ?_)
  show Xw K G 0 0 _ n V R 0 [(0, .ref (aG G 0)), (1, .int (iI s)), (2, .int (iI w))] []
  refine x_aload_n C 0 dX11_tells_0 rfl rfl ?_
  refine x_getr C ok_Class 0 0 (d := 1) dX11_tells_1 (lt67 hn rfl) rfl (by decide) rfl q_0_16 rfl (kz := 0) rfl (lr_0_0 hLR) ?_
  refine x_runU (r_callV C ok_Yard 1 (lt67 hn rfl) rfl (ce_X10_hasLog) (m_X10_hasLog G n V R (1) hn hLR (by first | assumption | omega | decide)) rfl dX11_tells_4 q_8_6 q_8_7 q_8_8 rfl rfl ⟨Nat.le_of_ble_eq_true rfl, Nat.le_of_ble_eq_true rfl⟩ ⟨rfl, rfl⟩ ⟨Nat.le_of_ble_eq_true rfl, Nat.le_of_ble_eq_true rfl⟩ (Nat.le_of_ble_eq_true rfl)) (fun v4 u4 hp4 => ?_)
  obtain ⟨rfl, rfl⟩ := hp4
  show Xw K G 0 0 _ n V R 7 [(0, .ref (aG G 0)), (1, .int (iI s)), (2, .int (iI w))] [.int (iI (bI (0 < V 1 2)))]
  refine x_ifne_b C dX11_tells_7 (tgt := 13) (by decide) (fun h7 => ?_) (fun h7 => ?_)
  · skip
    refine x_iload_n C 1 dX11_tells_13 rfl rfl ?_
    refine x_runU (r_callS C (ce_X11_isSheet) (m_X11_isSheet G n V R (s) (by first | assumption | omega | decide)) dX11_tells_14 q_47_16 q_47_17 rfl rfl ⟨Nat.le_of_ble_eq_true rfl, Nat.le_of_ble_eq_true rfl⟩ ⟨rfl, rfl⟩ ⟨Nat.le_of_ble_eq_true rfl, Nat.le_of_ble_eq_true rfl⟩ (Nat.le_of_ble_eq_true rfl)) (fun v14 u14 hp14 => ?_)
    obtain ⟨rfl, rfl⟩ := hp14
    show Xw K G 0 0 _ n V R 17 [(0, .ref (aG G 0)), (1, .int (iI s)), (2, .int (iI w))] [.int (iI (bI (0 ≤ s ∧ s ≤ 3)))]
    refine x_ifeq_b C dX11_tells_17 (tgt := 29) (by decide) (fun h17 => ?_) (fun h17 => ?_)
    · skip
      refine x_bipush C dX11_tells_29 (w := -2) (by decide) ?_
      refine x_iret C dX11_tells_31 ⟨_, _, rfl, rfl, ?_, ?_, ?_⟩
      · exact fun _ _ => rfl
      · exact hI
      · exact Or.inr (Or.inl ⟨by omega, by omega, rfl⟩)
    · skip
      refine x_iload_n C 2 dX11_tells_20 rfl rfl ?_
      refine x_iconst C dX11_tells_21 ?_
      refine x_iconst C dX11_tells_22 ?_
      refine x_runU (r_callS C (ce_X11_within) (m_X11_within G n V R (w) (0) (2) (by first | assumption | omega | decide) (by first | assumption | omega | decide) (by first | assumption | omega | decide)) dX11_tells_23 q_5_4 q_5_5 rfl rfl ⟨Nat.le_of_ble_eq_true rfl, Nat.le_of_ble_eq_true rfl⟩ ⟨rfl, rfl⟩ ⟨Nat.le_of_ble_eq_true rfl, Nat.le_of_ble_eq_true rfl⟩ (Nat.le_of_ble_eq_true rfl)) (fun v23 u23 hp23 => ?_)
      obtain ⟨rfl, rfl⟩ := hp23
      show Xw K G 0 0 _ n V R 26 [(0, .ref (aG G 0)), (1, .int (iI s)), (2, .int (iI w))] [.int (iI (bI (0 ≤ w ∧ w ≤ 2)))]
      refine x_ifne_b C dX11_tells_26 (tgt := 32) (by decide) (fun h26 => ?_) (fun h26 => ?_)
      · skip
        have hz := hsz s (by omega) (by omega)
        refine x_aload_n C 0 dX11_tells_32 rfl rfl ?_
        refine x_getr C ok_Class 0 8 (d := 37) dX11_tells_33 (lt67 hn rfl) rfl (by decide) rfl q_1_5 rfl (kz := 8) rfl (lr_0_8 hLR) ?_
        refine x_iload_n C 1 dX11_tells_36 rfl rfl ?_
        refine x_iald C 37 dX11_tells_37 (lt67 hn rfl) rfl (by refine ⟨?_, ?_⟩ <;> omega) (fun rg37 => ?_)
        refine x_iconst C dX11_tells_38 ?_
        refine x_icmp_ne C dX11_tells_39 (tgt := 45) (by decide) (by first | assumption | (constructor <;> omega)) (by first | assumption | (constructor <;> omega)) (fun h39 => ?_) (fun h39 => ?_)
        · skip
          refine x_aload_n C 0 dX11_tells_45 rfl rfl ?_
          refine x_getr C ok_Class 0 9 (d := 38) dX11_tells_46 (lt67 hn rfl) rfl (by decide) rfl q_1_6 rfl (kz := 9) rfl (lr_0_9 hLR) ?_
          refine x_iload_n C 1 dX11_tells_49 rfl rfl ?_
          refine x_iald C 38 dX11_tells_50 (lt67 hn rfl) rfl (by refine ⟨?_, ?_⟩ <;> omega) (fun rg50 => ?_)
          refine x_bipush C dX11_tells_51 (w := 12) (by decide) ?_
          refine x_icmp_le C dX11_tells_53 (tgt := 59) (by decide) (by first | assumption | (constructor <;> omega)) (by first | assumption | (constructor <;> omega)) (fun h53 => ?_) (fun h53 => ?_)
          · skip
            refine x_iload_n C 2 dX11_tells_59 rfl rfl ?_
            rcases (show w = 0 ∨ w = 1 ∨ (w ≠ 0 ∧ w ≠ 1) by omega) with h60 | h60 | h60
            · skip
              refine x_look C dX11_tells_60 (by decide) (by first | assumption | (constructor <;> omega)) (off := 28) (by rw [h60]; decide) (tgt := 88) (by decide) ?_
              refine x_aload_n C 0 dX11_tells_88 rfl rfl ?_
              refine x_iload_n C 1 dX11_tells_89 rfl rfl ?_
              refine x_aload_n C 0 dX11_tells_90 rfl rfl ?_
              refine x_runU (r_callV C ok_Class 0 (lt67 hn rfl) rfl (ce_X11_openedAsItLies) (m_X11_openedAsItLies G n V R (lr) (lt) (L) (f) (m) (g) (pr) hn hLR (by first | assumption | omega | decide) (by first | assumption | omega | decide)) rfl dX11_tells_91 q_36_8 q_36_9 q_36_10 rfl rfl ⟨Nat.le_of_ble_eq_true rfl, Nat.le_of_ble_eq_true rfl⟩ ⟨rfl, rfl⟩ ⟨Nat.le_of_ble_eq_true rfl, Nat.le_of_ble_eq_true rfl⟩ (Nat.le_of_ble_eq_true rfl)) (fun v91 u91 hp91 => ?_)
              obtain ⟨V1_91, rfl, rfl, hq91_0, hq91_1, hq91_2, hq91_3⟩ := hp91
              show Xw K G 0 0 _ n V1_91 R 94 [(0, .ref (aG G 0)), (1, .int (iI s)), (2, .int (iI w))] [.ref (aG G 11), .int (iI s), .ref (aG G 0)]
              have e38 : V1_91 38 = V 38 := hq91_0 38 (by omega)
              have e37 : V1_91 37 = V 37 := hq91_0 37 (by omega)
              have e39 : V1_91 39 = V 39 := hq91_0 39 (by omega)
              have hoo := open_rows hq91_2 hI.1.2.2.2.1
              refine x_runU (r_callV C ok_Class 0 (lt67 hn rfl) rfl (ce_X11_firstOtherwise) (m_X11_firstOtherwise G n V1_91 R (s) (11) (((opL lr lt L f m pr g).length : Int)) (fun i => opG lr lt L f m pr g (lat (opL lr lt L f m pr g) i)) hn hLR (by first | assumption | omega | decide) (by rw [e38, e37]; exact hsz) (by first | assumption | omega | decide) (by exact hoo.1) (by exact hoo.2)) rfl dX11_tells_94 q_47_19 q_47_20 q_47_21 rfl rfl ⟨Nat.le_of_ble_eq_true rfl, Nat.le_of_ble_eq_true rfl⟩ ⟨rfl, rfl⟩ ⟨Nat.le_of_ble_eq_true rfl, Nat.le_of_ble_eq_true rfl⟩ (Nat.le_of_ble_eq_true rfl)) (fun v94 u94 hp94 => ?_)
              obtain ⟨r_94, rfl, rfl, hq94_0⟩ := hp94
              show Xw K G 0 0 _ n V1_91 R 97 [(0, .ref (aG G 0)), (1, .int (iI s)), (2, .int (iI w))] [.int (iI r_94)]
              rw [e38, e39] at hq94_0
              refine x_iret C dX11_tells_97 ⟨_, _, rfl, rfl, ?_, ?_, ?_⟩
              · exact fun q a => hq91_0 q (by omega)
              · exact hq91_3
              · exact Or.inr (Or.inr (Or.inr (Or.inr ⟨by omega, ⟨by omega, by omega⟩, by omega, by omega, Or.inl ⟨by omega, hq94_0⟩⟩)))
            · skip
              refine x_look C dX11_tells_60 (by decide) (by first | assumption | (constructor <;> omega)) (off := 38) (by rw [h60]; decide) (tgt := 98) (by decide) ?_
              refine x_aload_n C 0 dX11_tells_98 rfl rfl ?_
              refine x_iload_n C 1 dX11_tells_99 rfl rfl ?_
              refine x_runU (r_callV C ok_Class 0 (lt67 hn rfl) rfl (ce_X11_turnsTold) (m_X11_turnsTold G n V R (lr) (lt) (L) (f) (m) (g) (pr) (s) hn hLR (by first | assumption | omega | decide) (by first | assumption | omega | decide) (by first | assumption | omega | decide) (by exact hsz)) rfl dX11_tells_100 q_48_0 q_48_1 q_48_2 rfl rfl ⟨Nat.le_of_ble_eq_true rfl, Nat.le_of_ble_eq_true rfl⟩ ⟨rfl, rfl⟩ ⟨Nat.le_of_ble_eq_true rfl, Nat.le_of_ble_eq_true rfl⟩ (Nat.le_of_ble_eq_true rfl)) (fun v100 u100 hp100 => ?_)
              obtain ⟨V1_100, rfl, rfl, hq100_0, hq100_1⟩ := hp100
              show Xw K G 0 0 _ n V1_100 R 103 [(0, .ref (aG G 0)), (1, .int (iI s)), (2, .int (iI w))] [.int (iI (acS (fun t => ∃ x, tellR lr lt L f m pr t (fun q => V 39 (40 * s + q)) (V 38 s) x ∧ x < 0) 4))]
              refine x_iret C dX11_tells_103 ⟨_, _, rfl, rfl, ?_, ?_, ?_⟩
              · exact fun q a => hq100_0 q (by omega)
              · exact hq100_1
              · exact Or.inr (Or.inr (Or.inr (Or.inr ⟨by omega, ⟨by omega, by omega⟩, by omega, by omega, Or.inr (Or.inl ⟨by omega, rfl⟩)⟩)))
            · skip
              refine x_look C dX11_tells_60 (by decide) (by first | assumption | (constructor <;> omega)) (off := 44) (by simp [Op.lookupswitch.offset, h60]; try omega) (tgt := 104) (by decide) ?_
              refine x_aload_n C 0 dX11_tells_104 rfl rfl ?_
              refine x_iload_n C 1 dX11_tells_105 rfl rfl ?_
              refine x_runU (r_callV C ok_Class 0 (lt67 hn rfl) rfl (ce_X11_kerfsTold) (m_X11_kerfsTold G n V R (lr) (lt) (L) (f) (m) (g) (pr) (s) hn hLR (by first | assumption | omega | decide) (by first | assumption | omega | decide) (by first | assumption | omega | decide) (by exact hsz)) rfl dX11_tells_106 q_48_4 q_48_5 q_48_6 rfl rfl ⟨Nat.le_of_ble_eq_true rfl, Nat.le_of_ble_eq_true rfl⟩ ⟨rfl, rfl⟩ ⟨Nat.le_of_ble_eq_true rfl, Nat.le_of_ble_eq_true rfl⟩ (Nat.le_of_ble_eq_true rfl)) (fun v106 u106 hp106 => ?_)
              obtain ⟨V1_106, rfl, rfl, hq106_0, hq106_1⟩ := hp106
              show Xw K G 0 0 _ n V1_106 R 109 [(0, .ref (aG G 0)), (1, .int (iI s)), (2, .int (iI w))] [.int (iI (acS (fun k => ∃ x, tellR lr lt L f m (u1 pr 0 k) g (fun q => V 39 (40 * s + q)) (V 38 s) x ∧ x < 0) 3))]
              refine x_iret C dX11_tells_109 ⟨_, _, rfl, rfl, ?_, ?_, ?_⟩
              · exact fun q a => hq106_0 q (by omega)
              · exact hq106_1
              · exact Or.inr (Or.inr (Or.inr (Or.inr ⟨by omega, ⟨by omega, by omega⟩, by omega, by omega, Or.inr (Or.inr ⟨by omega, rfl⟩)⟩)))
          · skip
            refine x_bipush C dX11_tells_56 (w := -2) (by decide) ?_
            refine x_iret C dX11_tells_58 ⟨_, _, rfl, rfl, ?_, ?_, ?_⟩
            · exact fun _ _ => rfl
            · exact hI
            · exact Or.inr (Or.inr (Or.inr (Or.inl ⟨by omega, by omega, by omega, by omega, rfl⟩)))
        · skip
          refine x_bipush C dX11_tells_42 (w := -11) (by decide) ?_
          refine x_iret C dX11_tells_44 ⟨_, _, rfl, rfl, ?_, ?_, ?_⟩
          · exact fun _ _ => rfl
          · exact hI
          · exact Or.inr (Or.inr (Or.inl ⟨by omega, by omega, by omega, rfl⟩))
      · skip
        refine x_bipush C dX11_tells_29 (w := -2) (by decide) ?_
        refine x_iret C dX11_tells_31 ⟨_, _, rfl, rfl, ?_, ?_, ?_⟩
        · exact fun _ _ => rfl
        · exact hI
        · exact Or.inr (Or.inl ⟨by omega, by omega, rfl⟩)
  · skip
    refine x_bipush C dX11_tells_10 (w := -3) (by decide) ?_
    refine x_iret C dX11_tells_12 ⟨_, _, rfl, rfl, ?_, ?_, ?_⟩
    · exact fun _ _ => rfl
    · exact hI
    · exact Or.inl ⟨by omega, rfl⟩
