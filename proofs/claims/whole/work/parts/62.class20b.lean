
set_option maxRecDepth 100000 in
set_option maxHeartbeats 4000000 in
theorem m_X11_worthInThought (G : GS) (n : Nat) (V : Nat → Int → Int) (R : Nat → Int → Option Nat) (lr : Int) (lt : Int) (L : Int) (f : Int → Int → Int) (m : Int) (g : Int) (pr : Int → Int) (cnt : Int) (hn : 67 ≤ n) (hLR : LR R) (hI : CInv n V R lr lt L f m g pr) (hL1 : 1 ≤ L) (hcnt : 0 ≤ cnt ∧ cnt ≤ 8) (hF35 : FsOk n V R 35 cnt) : Cn G yX11_worthInThought cX11_worthInThought 2 (some .int) (rmk 6 0 0 160) [.ref (aG G 0), .int (iI cnt)] n V R 0 0 (fun vv uu => ∃ (V1 : Nat → Int → Int), vv = some (.int (iI ((opT lr lt L (FR V R 35) cnt pr g (-1)).1 0))) ∧ uu = (n, V1, R) ∧ (∀ q, q < 23 ∨ 34 < q → V1 q = V q) ∧ (CInv n V1 R lr lt L f m g pr)) := by
  obtain ⟨ea0, ea1, ea2, ea3, ea5⟩ := hI.1.1
  obtain ⟨eb0, eb1, eb2, eb3, eb5⟩ := hI.1.2.1
  refine Cn.of (by decide) (Nat.le_of_ble_eq_true rfl) (fun K C hct => ?_)
  show Xw K G 0 0 _ n V R 0 [(0, .ref (aG G 0)), (1, .int (iI cnt))] []
  refine x_aload_n C 0 dX11_worthInThought_0 rfl rfl ?_
  refine x_getr C ok_Class 0 4 (d := 23) dX11_worthInThought_1 (lt67 hn rfl) rfl (by decide) rfl q_0_23 rfl (kz := 4) rfl (lr_0_4 hLR) ?_
  refine x_aload_n C 0 dX11_worthInThought_4 rfl rfl ?_
  refine x_getr C ok_Class 0 0 (d := 1) dX11_worthInThought_5 (lt67 hn rfl) rfl (by decide) rfl q_0_16 rfl (kz := 0) rfl (lr_0_0 hLR) ?_
  refine x_aload_n C 0 dX11_worthInThought_8 rfl rfl ?_
  refine x_getr C ok_Class 0 0 (d := 1) dX11_worthInThought_9 (lt67 hn rfl) rfl (by decide) rfl q_0_16 rfl (kz := 0) rfl (lr_0_0 hLR) ?_
  refine x_geti C ok_Yard 1 3 dX11_worthInThought_12 (lt67 hn rfl) rfl (by decide) rfl q_27_12 rfl (kz := 3) rfl (fun rg12 => ?_)
  refine x_aload_n C 0 dX11_worthInThought_15 rfl rfl ?_
  refine x_getr C ok_Class 0 5 (d := 35) dX11_worthInThought_16 (lt67 hn rfl) rfl (by decide) rfl q_1_1 rfl (kz := 5) rfl (lr_0_5 hLR) ?_
  refine x_iload_n C 1 dX11_worthInThought_19 rfl rfl ?_
  refine x_runU (r_callV C ok_Saw 23 (lt67 hn rfl) rfl (ce_X6_lay) (m_X6_lay G n V R (23) (V 1 3) (35) (cnt) hn hLR (by first | assumption | omega | decide) (by exact ⟨by decide, by decide⟩) (by rfl) (by omega) (by omega) (by omega) (by omega) (by omega) (by exact hI.1.rules) (by exact hF35) (by exact hI.2.2.2.2.1)) rfl dX11_worthInThought_20 q_28_18 q_28_19 q_28_20 rfl rfl ⟨Nat.le_of_ble_eq_true rfl, Nat.le_of_ble_eq_true rfl⟩ ⟨rfl, rfl⟩ ⟨Nat.le_of_ble_eq_true rfl, Nat.le_of_ble_eq_true rfl⟩ (Nat.le_of_ble_eq_true rfl)) (fun v20 u20 hp20 => ?_)
  obtain ⟨V1_20, rfl, rfl, hq20_0, hq20_1, hq20_2, hq20_3⟩ := hp20
  show Xw K G 0 0 _ n V1_20 R 23 [(0, .ref (aG G 0)), (1, .int (iI cnt))] []
  have ok2 : SwOk V1_20 23 lr lt L (FR V R 35) cnt g pr := thought_ok2 hI hq20_2
  have hru := hI.1.2.2.2.1
  have h12 : V1_20 (23 + 8) 12 = 0 := (congrFun (hq20_0 31 (by omega) (by omega) (by omega) (by omega) (by omega) (by omega)) 12).trans hI.2.2.2.2.2
  refine x_aload_n C 0 dX11_worthInThought_23 rfl rfl ?_
  refine x_getr C ok_Class 0 4 (d := 23) dX11_worthInThought_24 (lt67 hn rfl) rfl (by decide) rfl q_0_23 rfl (kz := 4) rfl (lr_0_4 hLR) ?_
  refine x_aload_n C 0 dX11_worthInThought_27 rfl rfl ?_
  refine x_getr C ok_Class 0 0 (d := 1) dX11_worthInThought_28 (lt67 hn rfl) rfl (by decide) rfl q_0_16 rfl (kz := 0) rfl (lr_0_0 hLR) ?_
  refine x_getr C ok_Yard 1 6 (d := 3) dX11_worthInThought_31 (lt67 hn rfl) rfl (by decide) rfl q_27_23 rfl (kz := 6) rfl (lr_1_6 hLR) ?_
  refine x_iconst C dX11_worthInThought_34 ?_
  refine x_iald C 3 dX11_worthInThought_35 (lt67 hn rfl) rfl (by refine ⟨?_, ?_⟩ <;> omega) (fun rg35 => ?_)
  refine x_top (b := (pr 0)) (by rw [hq20_0 3 (by omega) (by omega) (by omega) (by omega) (by omega) (by omega)]; exact hI.1.2.2.2.2.1 0 (by decide) (by decide)) ?_
  refine x_runU (r_callV C ok_Saw 23 (lt67 hn rfl) rfl (ce_X6_open) (m_X6_open G n V1_20 R (23) (lr) (lt) (L) ((FR V R 35)) (cnt) (g) (pr) (pr 0) hn hLR (by first | assumption | omega | decide) (by exact ok2) (by first | assumption | omega | decide) (by exact hru.1) (by first | assumption | omega | decide)) rfl dX11_worthInThought_36 q_36_13 q_36_14 q_36_15 rfl rfl ⟨Nat.le_of_ble_eq_true rfl, Nat.le_of_ble_eq_true rfl⟩ ⟨rfl, rfl⟩ ⟨Nat.le_of_ble_eq_true rfl, Nat.le_of_ble_eq_true rfl⟩ (Nat.le_of_ble_eq_true rfl)) (fun v36 u36 hp36 => ?_)
  obtain ⟨V1_36, rfl, rfl, hq36_0, hq36_1, hq36_2, hq36_3, hq36_4⟩ := hp36
  show Xw K G 0 0 _ n V1_36 R 39 [(0, .ref (aG G 0)), (1, .int (iI cnt))] [.int (iI ((dpR (bwC lr lt L (FR V R 35) cnt g pr) (pr 6) (pr 0) (-1)).1 0))]
  refine x_iret C dX11_worthInThought_39 ⟨_, rfl, rfl, ?_, ?_⟩
  · exact fun q a => (hq36_0 q (by omega) (by omega)).trans (hq20_0 q (by omega) (by omega) (by omega) (by omega) (by omega) (by omega))
  · exact thought_inv hI (fun q a => (hq36_0 q (by omega) (by omega)).trans (hq20_0 q (by omega) (by omega) (by omega) (by omega) (by omega) (by omega))) (hq20_3.fr (hq36_0 _ (by decide) (by decide)) (hq36_0 _ (by decide) (by decide))) hq36_3
set_option maxRecDepth 100000 in
set_option maxHeartbeats 4000000 in
theorem m_X11_without (G : GS) (n : Nat) (V : Nat → Int → Int) (R : Nat → Int → Option Nat) (lr : Int) (lt : Int) (L : Int) (f : Int → Int → Int) (m : Int) (g : Int) (pr : Int → Int) (q : Int) (hn : 67 ≤ n) (hLR : LR R) (hI : CInv n V R lr lt L f m g pr) (gq : Rg q) (hLm : 1 ≤ m → 1 ≤ L) : Cn G yX11_without cX11_without 4 (some .long) (rmk 7 0 0 181) [.ref (aG G 0), .int (iI q)] n V R 0 0 (fun vv uu => ∃ (r : Int), ∃ (V1 : Nat → Int → Int), ∃ (R1 : Nat → Int → Option Nat), vv = some (.long (jI r)) ∧ uu = (n, V1, R1) ∧ (∀ p, p < 23 ∨ 34 < p → V1 p = V p) ∧ (∀ p, p ≠ 35 → R1 p = R p) ∧ (CInv n V1 R1 lr lt L f m g pr) ∧ ((¬ (0 ≤ q ∧ q ≤ m - 1) ∧ r = (-4611686018427387904)) ∨ ((0 ≤ q ∧ q ≤ m - 1) ∧ ∃ F, (∀ j, 0 ≤ j → j < m - 1 → ∀ x, 0 ≤ x → x ≤ 3 → F j x = f (if j < q then j else j + 1) x) ∧ r = (opT lr lt L F (m - 1) pr g (-1)).1 0))) := by
  obtain ⟨ea0, ea1, ea2, ea3, ea5⟩ := hI.1.1
  obtain ⟨eb0, eb1, eb2, eb3, eb5⟩ := hI.1.2.1
  have hF : FsOk n V R 2 (V 1 5) := by rw [ea5]; exact hI.1.2.2.1
  refine Cn.of (by decide) (Nat.le_of_ble_eq_true rfl) (fun K C hct => ?_)
  show Xw K G 0 0 _ n V R 0 [(0, .ref (aG G 0)), (1, .int (iI q))] []
  refine x_aload_n C 0 dX11_without_0 rfl rfl ?_
  refine x_getr C ok_Class 0 0 (d := 1) dX11_without_1 (lt67 hn rfl) rfl (by decide) rfl q_0_16 rfl (kz := 0) rfl (lr_0_0 hLR) ?_
  refine x_iload_n C 1 dX11_without_4 rfl rfl ?_
  refine x_runU (r_callV C ok_Yard 1 (lt67 hn rfl) rfl (ce_X10_faultOf) (m_X10_faultOf G n V R (1) (q) hn hLR (by first | assumption | omega | decide) (by first | assumption | omega | decide) (by first | assumption | omega | decide)) rfl dX11_without_5 q_17_6 q_17_7 q_17_8 rfl rfl ⟨Nat.le_of_ble_eq_true rfl, Nat.le_of_ble_eq_true rfl⟩ ⟨rfl, rfl⟩ ⟨Nat.le_of_ble_eq_true rfl, Nat.le_of_ble_eq_true rfl⟩ (Nat.le_of_ble_eq_true rfl)) (fun v5 u5 hp5 => ?_)
  obtain ⟨rfl, rfl⟩ := hp5
  show Xw K G 0 0 _ n V R 8 [(0, .ref (aG G 0)), (1, .int (iI q))] [rv G.2.1 (cif (0 ≤ q ∧ q ≤ V 1 5 - 1) (R (1 + 1) q) none)]
  by_cases hin : 0 ≤ q ∧ q ≤ V 1 5 - 1
  · skip
    obtain ⟨c0, hRc0, hFc0⟩ := hF q hin.1 (by omega)
    rw [cif_t hin, hRc0]
    show Xw K G 0 0 _ n V R 8 [(0, .ref (aG G 0)), (1, .int (iI q))] [.ref (aG G c0)]
    refine x_ifnonnull C dX11_without_8 (tgt := 15) (by decide) ?_
    have hL1x : 1 ≤ L := hLm (by omega)
    refine x_iconst C dX11_without_15 ?_
    refine x_istore_n C dX11_without_16 rfl (by decide) (lv' := [(0, .ref (aG G 0)), (1, .int (iI q)), (2, .int (iI 0))]) rfl ?_
    refine x_iconst C dX11_without_17 ?_
    refine x_istore_n C dX11_without_18 rfl (by decide) (lv' := [(0, .ref (aG G 0)), (1, .int (iI q)), (2, .int (iI 0)), (3, .int (iI 0))]) rfl ?_
    have lp_19 : ∀ (fuel : Nat) (k : Int) (w : Int) (R2 : Nat → Int → Option Nat), ((0 ≤ k ∧ k ≤ V 1 5) ∧ ((k ≤ q ∧ w = k) ∨ (q < k ∧ w = k - 1))) → (∀ p, p ≠ 35 → R2 p = R p) → (∀ j : Int, 0 ≤ j → j < w → R2 35 j = R 2 (if j < q then j else j + 1)) → ((9 : Int) - k) < (fuel : Int) → Xw K G 0 0 (EndQ K G 0 0 (fun vv uu => ∃ (r : Int), ∃ (V1 : Nat → Int → Int), ∃ (R1 : Nat → Int → Option Nat), vv = some (.long (jI r)) ∧ uu = (n, V1, R1) ∧ (∀ p, p < 23 ∨ 34 < p → V1 p = V p) ∧ (∀ p, p ≠ 35 → R1 p = R p) ∧ (CInv n V1 R1 lr lt L f m g pr) ∧ ((¬ (0 ≤ q ∧ q ≤ m - 1) ∧ r = (-4611686018427387904)) ∨ ((0 ≤ q ∧ q ≤ m - 1) ∧ ∃ F, (∀ j, 0 ≤ j → j < m - 1 → ∀ x, 0 ≤ x → x ≤ 3 → F j x = f (if j < q then j else j + 1) x) ∧ r = (opT lr lt L F (m - 1) pr g (-1)).1 0)))) n V R2 19 [(0, .ref (aG G 0)), (1, .int (iI q)), (2, .int (iI w)), (3, .int (iI k))] [] := by
      intro fuel19
      induction fuel19 with
      | zero => intro k w R2 hk hR hN hfu19; exfalso; omega
      | succ fuel19 ih19 =>
        intro k w R2 hk hR hN hfu19
        have hLR2 := LR_fr (a := 34) (Or.inl rfl) hLR hR
        have hC2 := hI.R (hR 2 (by decide))
        have hF2 : FsOk n V R2 (1 + 1) (V 1 5) := by (intro j a b; rw [hR (1 + 1) (by decide)]; exact hF j a b)
        refine x_iload_n C 3 dX11_without_19 rfl rfl ?_
        refine x_aload_n C 0 dX11_without_20 rfl rfl ?_
        refine x_getr C ok_Class 0 0 (d := 1) dX11_without_21 (lt67 hn rfl) rfl (by decide) rfl q_0_16 rfl (kz := 0) rfl (by exact (lr_0_0 hLR2)) ?_
        refine x_geti C ok_Yard 1 5 dX11_without_24 (lt67 hn rfl) rfl (by decide) rfl q_8_5 rfl (kz := 5) rfl (fun rg24 => ?_)
        refine x_icmp_ge C dX11_without_27 (tgt := 58) (by decide) (by first | assumption | (constructor <;> omega)) (by first | assumption | (constructor <;> omega)) (fun h27 => ?_) (fun h27 => ?_)
        · skip
          refine x_aload_n C 0 dX11_without_58 rfl rfl ?_
          refine x_iload_n C 2 dX11_without_59 rfl rfl ?_
          refine x_runU (r_callV C ok_Class 0 (lt67 hn rfl) rfl (ce_X11_worthInThought) (m_X11_worthInThought G n V R2 (lr) (lt) (L) (f) (m) (g) (pr) (w) hn (by exact hLR2) (by exact hC2) (by exact hL1x) (by first | assumption | omega | decide) (by exact wo_okR hF hN (by omega))) rfl dX11_without_60 q_45_4 q_45_5 q_45_6 rfl rfl ⟨Nat.le_of_ble_eq_true rfl, Nat.le_of_ble_eq_true rfl⟩ ⟨rfl, rfl⟩ ⟨Nat.le_of_ble_eq_true rfl, Nat.le_of_ble_eq_true rfl⟩ (Nat.le_of_ble_eq_true rfl)) (fun v60 u60 hp60 => ?_)
          obtain ⟨V1_60, rfl, rfl, hq60_0, hq60_1⟩ := hp60
          show Xw K G 0 0 _ n V1_60 R2 63 [(0, .ref (aG G 0)), (1, .int (iI q)), (2, .int (iI w)), (3, .int (iI k))] [.int (iI ((opT lr lt L (FR V R2 35) w pr g (-1)).1 0))]
          have hbw := (opT_b (r := lr) (t := lt) (L := L) (f := FR V R2 35) (m := w) (pr := pr) (g := g) (y := -1) (by decide)).1 0
          refine x_i2l C dX11_without_63 (by first | assumption | (constructor <;> omega)) ?_
          refine x_lret C dX11_without_64 ⟨_, _, _, rfl, rfl, ?_, ?_, ?_, ?_⟩
          · exact hq60_0
          · exact hR
          · exact hq60_1
          · refine Or.inr ⟨by omega, FR V R2 35, fun j a b x c d => ?_, by rw [show m - 1 = w by omega]⟩; exact wo_FR hI.1.2.2.2.2.2 (hN j a (by omega)) (by omega) c d
        · skip
          refine x_iload_n C 3 dX11_without_30 rfl rfl ?_
          refine x_iload_n C 1 dX11_without_31 rfl rfl ?_
          refine x_icmp_eq C dX11_without_32 (tgt := 52) (by decide) (by first | assumption | (constructor <;> omega)) (by first | assumption | (constructor <;> omega)) (fun h32 => ?_) (fun h32 => ?_)
          · skip
            refine x_iinc C 3 dX11_without_52 rfl (by decide) (lv' := [(0, .ref (aG G 0)), (1, .int (iI q)), (2, .int (iI w)), (3, .int (iI (k + 1)))]) rfl ?_
            refine x_goto C dX11_without_55 (tgt := 19) (by decide) ?_
            exact ih19 ((k + 1)) (w) (R2) (by omega) (by first | exact hR | exact fun p a => by rw [u2_n a]; exact hR p a) (by first | exact hN | exact fun j a b => by (rw [u2_at]; by_cases e : j = w; (rw [if_pos ⟨rfl, e⟩, ← hRc]; congr 1; split <;> omega); (rw [if_neg (by omega)]; exact hN j a (by omega)))) (by omega)
          · skip
            refine x_aload_n C 0 dX11_without_35 rfl rfl ?_
            refine x_getr C ok_Class 0 5 (d := 35) dX11_without_36 (lt67 hn rfl) rfl (by decide) rfl q_1_1 rfl (kz := 5) rfl (by exact (lr_0_5 hLR2)) ?_
            refine x_iload_n C 2 dX11_without_39 rfl rfl ?_
            refine x_aload_n C 0 dX11_without_40 rfl rfl ?_
            refine x_getr C ok_Class 0 0 (d := 1) dX11_without_41 (lt67 hn rfl) rfl (by decide) rfl q_0_16 rfl (kz := 0) rfl (by exact (lr_0_0 hLR2)) ?_
            refine x_iload_n C 3 dX11_without_44 rfl rfl ?_
            refine x_runU (r_callV C ok_Yard 1 (lt67 hn rfl) rfl (ce_X10_faultOf) (m_X10_faultOf G n V R2 (1) (k) hn (by exact hLR2) (by first | assumption | omega | decide) (by first | assumption | omega | decide) (by first | assumption | omega | decide)) rfl dX11_without_45 q_17_6 q_17_7 q_17_8 rfl rfl ⟨Nat.le_of_ble_eq_true rfl, Nat.le_of_ble_eq_true rfl⟩ ⟨rfl, rfl⟩ ⟨Nat.le_of_ble_eq_true rfl, Nat.le_of_ble_eq_true rfl⟩ (Nat.le_of_ble_eq_true rfl)) (fun v45 u45 hp45 => ?_)
            obtain ⟨rfl, rfl⟩ := hp45
            show Xw K G 0 0 _ n V R2 48 [(0, .ref (aG G 0)), (1, .int (iI q)), (2, .int (iI w)), (3, .int (iI k))] [rv G.2.1 (cif (0 ≤ k ∧ k ≤ V 1 5 - 1) (R2 (1 + 1) k) none), .int (iI w), .ref (aG G 35)]
            by_cases hin2 : 0 ≤ k ∧ k ≤ V 1 5 - 1
            · skip
              obtain ⟨c, hRc, hFc⟩ := hF k hin2.1 (by omega)
              have htc := tb_dyn hFc.1
              have hcc := hFc.2.1
              have hRc2 : R2 2 k = some c := by rw [hR 2 (by decide)]; exact hRc
              rw [cif_t hin2, hRc2]
              show Xw K G 0 0 _ n V R2 48 [(0, .ref (aG G 0)), (1, .int (iI q)), (2, .int (iI w)), (3, .int (iI k))] [.ref (aG G c), .int (iI w), .ref (aG G 35)]
              refine x_aast C 35 dX11_without_48 (lt67 hn rfl) rfl (by refine ⟨?_, ?_⟩ <;> omega) hcc htc ?_
              refine x_iinc C 2 dX11_without_49 rfl (by decide) (lv' := [(0, .ref (aG G 0)), (1, .int (iI q)), (2, .int (iI (w + 1))), (3, .int (iI k))]) rfl ?_
              refine x_iinc C 3 dX11_without_52 rfl (by decide) (lv' := [(0, .ref (aG G 0)), (1, .int (iI q)), (2, .int (iI (w + 1))), (3, .int (iI (k + 1)))]) rfl ?_
              refine x_goto C dX11_without_55 (tgt := 19) (by decide) ?_
              exact ih19 ((k + 1)) ((w + 1)) ((u2 R2 35 w (some c))) (by omega) (by first | exact hR | exact fun p a => by rw [u2_n a]; exact hR p a) (by first | exact hN | exact fun j a b => by (rw [u2_at]; by_cases e : j = w; (rw [if_pos ⟨rfl, e⟩, ← hRc]; congr 1; split <;> omega); (rw [if_neg (by omega)]; exact hN j a (by omega)))) (by omega)
            · skip
              exfalso; omega
    exact lp_19 (((9 : Int) - 0).toNat + 1) (0) (0) (R) (by omega) (by exact fun _ _ => rfl) (by exact fun j a b => by omega) (by omega)
  · skip
    rw [cif_f hin]
    show Xw K G 0 0 _ n V R 8 [(0, .ref (aG G 0)), (1, .int (iI q))] [.null]
    refine x_ifnonnullN C dX11_without_8 ?_
    refine x_ldc2 C dX11_without_11 q_35_21 (w := -4611686018427387904) (by decide) ?_
    refine x_lret C dX11_without_14 ⟨_, _, _, rfl, rfl, ?_, ?_, ?_, ?_⟩
    · exact fun _ _ => rfl
    · exact fun _ _ => rfl
    · exact hI
    · exact Or.inl ⟨by omega, rfl⟩
set_option maxRecDepth 100000 in
set_option maxHeartbeats 4000000 in
theorem m_X11_next (G : GS) (n : Nat) (V : Nat → Int → Int) (R : Nat → Int → Option Nat) (z : Int) : Cn G yX11_next cX11_next 1 (some .int) (rmk 1 0 0 16) [.int (iI z)] n V R 0 0 (fun vv uu => vv = some (.int (iI (wr (z * 1103515245 + 12345)))) ∧ uu = (n, V, R)) := by
  refine Cn.of (by decide) (Nat.le_of_ble_eq_true rfl) (fun K C hct => ?_)
  show Xw K G 0 0 _ n V R 0 [(0, .int (iI z))] []
  refine x_iload_n C 0 dX11_next_0 rfl rfl ?_
  refine x_ldcw C dX11_next_1 q_46_7 (w := 1103515245) (by decide) ?_
  refine x_imul C dX11_next_4 ?_
  refine x_sipush C dX11_next_5 (w := 12345) (by decide) ?_
  refine x_iadd C dX11_next_8 ?_
  refine x_iret C dX11_next_9 ⟨(by rw [iI_wr]), rfl⟩
