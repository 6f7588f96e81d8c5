
set_option maxRecDepth 100000 in
set_option maxHeartbeats 4000000 in
theorem m_X6_lay (G : GS) (n : Nat) (V : Nat → Int → Int) (R : Nat → Int → Option Nat) (sv : Nat) (g : Int) (fa : Nat) (cnt : Int) (hn : 67 ≤ n) (hLR : LR R) (hsv : sv = 11 ∨ sv = 23) (hfa : fa < 67 ∧ fa ≠ sv + 3) (htf : tb fa = (23, 8)) (hcnt : 0 ≤ cnt ∧ cnt ≤ 8) (hg : 0 ≤ g ∧ g ≤ 3) (hr : 0 ≤ V 1 0 ∧ V 1 0 ≤ 6) (hta : 0 ≤ V 1 1 ∧ V 1 1 ≤ 4) (hL8 : 1 ≤ V 1 2 ∧ V 1 2 ≤ 8) (hRu : RulesOk (V 3)) (hFs : FsOk n V R fa cnt) (hZ : SwZ V sv) : Cn G yX6_lay cX6_lay 7 none (rmk 5 0 0 108) [.ref (aG G sv), .ref (aG G 1), .int (iI g), .ref (aG G fa), .int (iI cnt)] n V R 0 0 (fun vv uu => ∃ (V1 : Nat → Int → Int), vv = none ∧ uu = (n, V1, R) ∧ (∀ q, q ≠ sv → q ≠ sv + 1 → q ≠ sv + 2 → q ≠ sv + 3 → q ≠ sv + 4 → q ≠ sv + 5 → V1 q = V q) ∧ (V1 sv 0 = 1 ∧ V1 sv 1 = 0 ∧ V1 sv 2 = V sv 2) ∧ (SwOk V1 sv (V 1 0) (V 1 1) (V 1 2) (FR V R fa) cnt g (V 3)) ∧ (SwZ V1 sv)) := by
  refine Cn.of (by decide) (Nat.le_of_ble_eq_true rfl) (fun K C hct => ?_)
  show Xw K G 0 0 _ n V R 0 [(0, .ref (aG G sv)), (1, .ref (aG G 1)), (2, .int (iI g)), (3, .ref (aG G fa)), (4, .int (iI cnt))] []
  refine x_aload_n C 0 dX6_lay_0 rfl rfl ?_
  refine x_aload_n C 1 dX6_lay_1 rfl rfl ?_
  refine x_geti C ok_Yard 1 2 dX6_lay_2 (lt67 hn rfl) rfl (by decide) rfl q_28_22 rfl (kz := 2) rfl (fun rg2 => ?_)
  refine x_bipush C dX6_lay_5 (w := 8) (by decide) ?_
  refine x_min C dX6_lay_7 q_28_23 q_10_5 q_5_22 q_10_6 ⟨Nat.le_of_ble_eq_true rfl, Nat.le_of_ble_eq_true rfl⟩ ⟨Nat.zero_le _, Nat.zero_le _⟩ (by first | assumption | (constructor <;> omega)) (by first | assumption | (constructor <;> omega)) ?_
  refine x_top (b := (V 1 2)) (by omega) ?_
  refine x_puti C ok_Saw sv 3 dX6_lay_10 (ltS hsv hn (by decide) : sv + 0 < n) (tbS_0 hsv) (by decide) rfl q_2_13 rfl rfl (Or.inl rfl) (by first | assumption | (constructor <;> omega)) (kz := 3) rfl ?_
  refine x_aload_n C 1 dX6_lay_13 rfl rfl ?_
  refine x_getr C ok_Yard 1 6 (d := 3) dX6_lay_14 (lt67 hn rfl) rfl (by decide) rfl q_29_0 rfl (kz := 6) rfl (lr_1_6 hLR) ?_
  refine x_iconst C dX6_lay_17 ?_
  refine x_aload_n C 0 dX6_lay_18 rfl rfl ?_
  refine x_getr C ok_Saw sv 5 (d := (sv + 1)) dX6_lay_19 (ltS hsv hn (by decide) : sv + 0 < n) (tbS_0 hsv) (by decide) rfl q_2_15 rfl (kz := 5) rfl (lrS_5 hsv hLR) ?_
  refine x_iconst C dX6_lay_22 ?_
  refine x_bipush C dX6_lay_23 (w := 7) (by decide) ?_
  refine x_acpi C 3 (sv + 1) dX6_lay_25 (lt67 hn rfl) (ltS hsv hn (by decide)) rfl (tbS_1 hsv) (by refine ⟨?_, ?_, ?_, ?_, ?_⟩ <;> omega) q_29_1 q_2_4 q_2_5 q_2_6 (Nat.le_of_ble_eq_true rfl) (Nat.le_of_ble_eq_true rfl) ?_
  refine x_aload_n C 0 dX6_lay_28 rfl rfl ?_
  refine x_iconst C dX6_lay_29 ?_
  refine x_puti C ok_Saw sv 4 dX6_lay_30 (ltS hsv hn (by decide) : sv + 0 < n) (tbS_0 hsv) (by decide) rfl q_2_14 rfl rfl (Or.inl rfl) (by first | assumption | (constructor <;> omega)) (kz := 4) rfl ?_
  refine x_iconst C dX6_lay_33 ?_
  refine x_istore C dX6_lay_34 (by decide) (lv' := [(0, .ref (aG G sv)), (1, .ref (aG G 1)), (2, .int (iI g)), (3, .ref (aG G fa)), (4, .int (iI cnt)), (5, .int (iI 0))]) rfl ?_
  have lp_36 : ∀ (fuel : Nat) (j : Int) (VA : Nat → Int → Int), (0 ≤ j ∧ j ≤ 4) → (∀ q, q ≠ sv → q ≠ sv + 1 → VA q = V q) → (∀ z, 0 ≤ z → z < 7 → VA (sv + 1) z = V 3 z) → (VA sv 3 = V 1 2 ∧ VA sv 2 = V sv 2) → ((0 ≤ VA sv 4 ∧ VA sv 4 ≤ 99) ∧ ∀ z, 2 ≤ z → z < 2 + j → V 3 z ≤ VA sv 4) → ((5 : Int) - j) < (fuel : Int) → Xw K G 0 0 (EndQ K G 0 0 (fun vv uu => ∃ (V1 : Nat → Int → Int), vv = none ∧ uu = (n, V1, R) ∧ (∀ q, q ≠ sv → q ≠ sv + 1 → q ≠ sv + 2 → q ≠ sv + 3 → q ≠ sv + 4 → q ≠ sv + 5 → V1 q = V q) ∧ (V1 sv 0 = 1 ∧ V1 sv 1 = 0 ∧ V1 sv 2 = V sv 2) ∧ (SwOk V1 sv (V 1 0) (V 1 1) (V 1 2) (FR V R fa) cnt g (V 3)) ∧ (SwZ V1 sv))) n VA R 36 [(0, .ref (aG G sv)), (1, .ref (aG G 1)), (2, .int (iI g)), (3, .ref (aG G fa)), (4, .int (iI cnt)), (5, .int (iI j))] [] := by
    intro fuel36
    induction fuel36 with
    | zero => intro j VA hj hA1 hA2 hA3 hA4 hfu36; exfalso; omega
    | succ fuel36 ih36 =>
      intro j VA hj hA1 hA2 hA3 hA4 hfu36
      refine x_iload C 5 dX6_lay_36 rfl ?_
      refine x_iconst C dX6_lay_38 ?_
      refine x_icmp_ge C dX6_lay_39 (tgt := 68) (by decide) (by first | assumption | (constructor <;> omega)) (by first | assumption | (constructor <;> omega)) (fun h39 => ?_) (fun h39 => ?_)
      · skip
        have eA1 : VA 1 = V 1 := hA1 1 (by omega) (by omega)
        refine x_aload_n C 0 dX6_lay_68 rfl rfl ?_
        refine x_aload_n C 1 dX6_lay_69 rfl rfl ?_
        refine x_runU (r_callV C ok_Saw sv (ltS hsv hn (by decide) : sv + 0 < n) (tbS_0 hsv) (ce_X6_findFirstWood) (m_X6_findFirstWood G n VA R (sv) (1) (V 1 2) hn hLR (by first | assumption | omega | decide) (by first | assumption | omega | decide) (by exact hA3.1) (by first | assumption | omega | decide) (by rw [eA1]; exact hr) (by rw [eA1]; exact hta)) rfl dX6_lay_70 q_29_3 q_29_4 q_29_5 rfl rfl ⟨Nat.le_of_ble_eq_true rfl, Nat.le_of_ble_eq_true rfl⟩ ⟨rfl, rfl⟩ ⟨Nat.le_of_ble_eq_true rfl, Nat.le_of_ble_eq_true rfl⟩ (Nat.le_of_ble_eq_true rfl)) (fun v70 u70 hp70 => ?_)
        obtain ⟨V1_70, rfl, rfl, hq70_0, hq70_1⟩ := hp70
        show Xw K G 0 0 _ n V1_70 R 73 [(0, .ref (aG G sv)), (1, .ref (aG G 1)), (2, .int (iI g)), (3, .ref (aG G fa)), (4, .int (iI cnt)), (5, .int (iI j))] []
        refine x_aload_n C 0 dX6_lay_73 rfl rfl ?_
        refine x_getr C ok_Saw sv 7 (d := (sv + 3)) dX6_lay_74 (ltS hsv hn (by decide) : sv + 0 < n) (tbS_0 hsv) (by decide) rfl q_2_17 rfl (kz := 7) rfl (lrS_7 hsv hLR) ?_
        refine x_iconst C dX6_lay_77 ?_
        refine x_runU (r_callS C (ce_J7_fill_53178) (m_J7_fill_53178 G n V1_70 R (sv + 3) (1152) (0) hn hLR (by omega) (by exact tbS_3 hsv) (by first | assumption | omega | decide) (by first | assumption | omega | decide)) dX6_lay_78 q_29_8 q_3_18 rfl rfl ⟨Nat.le_of_ble_eq_true rfl, Nat.le_of_ble_eq_true rfl⟩ ⟨rfl, rfl⟩ ⟨Nat.le_of_ble_eq_true rfl, Nat.le_of_ble_eq_true rfl⟩ (Nat.le_of_ble_eq_true rfl)) (fun v78 u78 hp78 => ?_)
        obtain ⟨V1_78, rfl, rfl, hq78_0, hq78_1⟩ := hp78
        show Xw K G 0 0 _ n V1_78 R 81 [(0, .ref (aG G sv)), (1, .ref (aG G 1)), (2, .int (iI g)), (3, .ref (aG G fa)), (4, .int (iI cnt)), (5, .int (iI j))] []
        refine x_iconst C dX6_lay_81 ?_
        refine x_istore C dX6_lay_82 (by decide) (lv' := [(0, .ref (aG G sv)), (1, .ref (aG G 1)), (2, .int (iI g)), (3, .ref (aG G fa)), (4, .int (iI cnt)), (5, .int (iI 0))]) rfl ?_
        have lp_84 : ∀ (fuel : Nat) (j2 : Int) (VD : Nat → Int → Int), (0 ≤ j2 ∧ j2 ≤ cnt) → (∀ q, q ≠ sv + 3 → VD q = V1_78 q) → (∀ s p, 0 ≤ s → s < V 1 2 → 0 ≤ p → p < 144 → VD (sv + 3) (s * 144 + p) = hurtS (FR V R fa) j2 (p % 12) (p / 12) s g) → ((9 : Int) - j2) < (fuel : Int) → Xw K G 0 0 (EndQ K G 0 0 (fun vv uu => ∃ (V1 : Nat → Int → Int), vv = none ∧ uu = (n, V1, R) ∧ (∀ q, q ≠ sv → q ≠ sv + 1 → q ≠ sv + 2 → q ≠ sv + 3 → q ≠ sv + 4 → q ≠ sv + 5 → V1 q = V q) ∧ (V1 sv 0 = 1 ∧ V1 sv 1 = 0 ∧ V1 sv 2 = V sv 2) ∧ (SwOk V1 sv (V 1 0) (V 1 1) (V 1 2) (FR V R fa) cnt g (V 3)) ∧ (SwZ V1 sv))) n VD R 84 [(0, .ref (aG G sv)), (1, .ref (aG G 1)), (2, .int (iI g)), (3, .ref (aG G fa)), (4, .int (iI cnt)), (5, .int (iI j2))] [] := by
          intro fuel84
          induction fuel84 with
          | zero => intro j2 VD hj2 hD1 hD2 hfu84; exfalso; omega
          | succ fuel84 ih84 =>
            intro j2 VD hj2 hD1 hD2 hfu84
            refine x_iload C 5 dX6_lay_84 rfl ?_
            refine x_iload C 4 dX6_lay_86 rfl ?_
            refine x_icmp_ge C dX6_lay_88 (tgt := 122) (by decide) (by first | assumption | (constructor <;> omega)) (by first | assumption | (constructor <;> omega)) (fun h88 => ?_) (fun h88 => ?_)
            · skip
              have eD3 : VD sv 3 = V 1 2 := by rw [hD1 sv (by omega), hq78_0 sv (by omega), hq70_0 sv (by omega)]; exact hA3.1
              have eD4 : VD (sv + 4) = V (sv + 4) := by rw [hD1 _ (by omega), hq78_0 _ (by omega), hq70_0 _ (by omega), hA1 _ (by omega) (by omega)]
              have eD5 : VD (sv + 5) = V (sv + 5) := by rw [hD1 _ (by omega), hq78_0 _ (by omega), hq70_0 _ (by omega), hA1 _ (by omega) (by omega)]
              refine x_aload_n C 0 dX6_lay_122 rfl rfl ?_
              refine x_runU (r_callV C ok_Saw sv (ltS hsv hn (by decide) : sv + 0 < n) (tbS_0 hsv) (ce_X6_addUp) (m_X6_addUp G n VD R (sv) (fun i y c => hurtS (FR V R fa) cnt c y i g) (V 1 2) hn hLR (by first | assumption | omega | decide) (by exact eD3) (by first | assumption | omega | decide) (by exact fun s y x a b c d e f => by (rw [show s * 144 + y * 12 + x = s * 144 + (y * 12 + x) by omega, hD2 s (y * 12 + x) a b (by omega) (by omega), show (y * 12 + x) % 12 = x by omega, show (y * 12 + x) / 12 = y by omega, show j2 = cnt by omega])) (by exact fun s y x => hurtS_b _ _ _ _ _ _) (by exact hZ.fr eD4 eD5)) rfl dX6_lay_123 q_29_22 q_29_23 q_30_0 rfl rfl ⟨Nat.le_of_ble_eq_true rfl, Nat.le_of_ble_eq_true rfl⟩ ⟨rfl, rfl⟩ ⟨Nat.le_of_ble_eq_true rfl, Nat.le_of_ble_eq_true rfl⟩ (Nat.le_of_ble_eq_true rfl)) (fun v123 u123 hp123 => ?_)
              obtain ⟨V1_123, rfl, rfl, hq123_0, hq123_1, hq123_2⟩ := hp123
              show Xw K G 0 0 _ n V1_123 R 126 [(0, .ref (aG G sv)), (1, .ref (aG G 1)), (2, .int (iI g)), (3, .ref (aG G fa)), (4, .int (iI cnt)), (5, .int (iI j2))] []
              refine x_aload_n C 0 dX6_lay_126 rfl rfl ?_
              refine x_iconst C dX6_lay_127 ?_
              refine x_puti C ok_Saw sv 0 dX6_lay_128 (ltS hsv hn (by decide) : sv + 0 < n) (tbS_0 hsv) (by decide) rfl q_2_10 rfl rfl (Or.inr ⟨rfl, by first | exact Or.inl rfl | exact Or.inr rfl | omega⟩) (by first | assumption | (constructor <;> omega)) (kz := 0) rfl ?_
              refine x_aload_n C 0 dX6_lay_131 rfl rfl ?_
              refine x_iconst C dX6_lay_132 ?_
              refine x_puti C ok_Saw sv 1 dX6_lay_133 (ltS hsv hn (by decide) : sv + 0 < n) (tbS_0 hsv) (by decide) rfl q_2_11 rfl rfl (Or.inr ⟨rfl, by first | exact Or.inl rfl | exact Or.inr rfl | omega⟩) (by first | assumption | (constructor <;> omega)) (kz := 1) rfl ?_
              refine x_vret C dX6_lay_136 ⟨_, rfl, rfl, ?_, ?_, ?_, ?_⟩
              · exact fun q a0 a1 a2 a3 a4 a5 => by rw [u2_n a0, u2_n a0, hq123_0 q a4 a5, hD1 q a3, hq78_0 q a3, hq70_0 q a2, hA1 q a0 a1]
              · refine ⟨?_, ?_, ?_⟩; (rw [u2_at, if_neg (by omega), u2_at, if_pos ⟨rfl, rfl⟩]); (rw [u2_at, if_pos ⟨rfl, rfl⟩]); (rw [u2_at, if_neg (by omega), u2_at, if_neg (by omega), hq123_0 sv (by omega) (by omega), hD1 sv (by omega), hq78_0 sv (by omega), hq70_0 sv (by omega)]; exact hA3.2)
              · exact lay_ok (fun q a => by rw [u2_n a, u2_n a]) (fun z a => by rw [u2_at, if_neg (by omega), u2_at, if_neg (by omega)]) hq123_0 hD1 hq78_0 hq70_0 hA2 hA3.1 hA4 (by omega) hRu hL8 hq70_1 (by rw [show cnt = j2 by omega]; exact hD2) hq123_1
              · exact hq123_2.fr (u2_nn (by omega) (by omega)) (u2_nn (by omega) (by omega))
            · skip
              refine x_iload C 5 dX6_lay_91 rfl ?_
              refine x_aload_n C 3 dX6_lay_93 rfl rfl ?_
              refine x_alen C fa (w := 8) dX6_lay_94 (by omega) htf (by decide) rfl ?_
              refine x_icmp_ge C dX6_lay_95 (tgt := 122) (by decide) (by first | assumption | (constructor <;> omega)) (by first | assumption | (constructor <;> omega)) (fun h95 => ?_) (fun h95 => ?_)
              · skip
                exfalso; omega
              · skip
                refine x_aload_n C 3 dX6_lay_98 rfl rfl ?_
                refine x_iload C 5 dX6_lay_99 rfl ?_
                obtain ⟨c, hRc, hFc⟩ := hFs j2 (by omega) (by omega)
                have htc := tb_dyn hFc.1
                have hcc := hFc.2.1
                have ec : VD c = V c := by have := hFc.1; rw [hD1 c (by omega), hq78_0 c (by omega), hq70_0 c (by omega), hA1 c (by omega) (by omega)]
                refine x_aald C fa dX6_lay_101 (by omega) htf (by refine ⟨?_, ?_⟩ <;> omega) ?_
                refine x_topR (d := c) (by exact hRc) ?_
                refine x_astore C dX6_lay_102 (by decide) (lv' := [(0, .ref (aG G sv)), (1, .ref (aG G 1)), (2, .int (iI g)), (3, .ref (aG G fa)), (4, .int (iI cnt)), (5, .int (iI j2)), (6, .ref (aG G c))]) rfl ?_
                refine x_aload C 6 dX6_lay_104 rfl ?_
                refine x_ifnull C dX6_lay_106 ?_
                refine x_rg (fun hRg => ?_)
                have hB : ∀ z, Rg (VD (sv + 3) z) := fun z => (hRg (sv + 3) z).2 (by rw [tbS_3 hsv]; decide)
                refine x_aload_n C 0 dX6_lay_109 rfl rfl ?_
                refine x_aload C 6 dX6_lay_110 rfl ?_
                refine x_iload_n C 2 dX6_lay_112 rfl rfl ?_
                refine x_runU (r_callV C ok_Saw sv (ltS hsv hn (by decide) : sv + 0 < n) (tbS_0 hsv) (ce_X6_mark) (m_X6_mark G n VD R (sv) (c) (g) (V 1 2) hn hLR (by first | assumption | omega | decide) (by exact hFc.fr ec) (by first | assumption | omega | decide) (by rw [hD1 sv (by omega), hq78_0 sv (by omega), hq70_0 sv (by omega)]; exact hA3.1) (by first | assumption | omega | decide) (by first | assumption | omega | decide)) rfl dX6_lay_113 q_29_9 q_29_10 q_29_11 rfl rfl ⟨Nat.le_of_ble_eq_true rfl, Nat.le_of_ble_eq_true rfl⟩ ⟨rfl, rfl⟩ ⟨Nat.le_of_ble_eq_true rfl, Nat.le_of_ble_eq_true rfl⟩ (Nat.le_of_ble_eq_true rfl)) (fun v113 u113 hp113 => ?_)
                obtain ⟨V1_113, rfl, rfl, hq113_0, hq113_1⟩ := hp113
                show Xw K G 0 0 _ n V1_113 R 116 [(0, .ref (aG G sv)), (1, .ref (aG G 1)), (2, .int (iI g)), (3, .ref (aG G fa)), (4, .int (iI cnt)), (5, .int (iI j2)), (6, .ref (aG G c))] []
                refine x_iinc C 5 dX6_lay_116 rfl (by decide) (lv' := [(0, .ref (aG G sv)), (1, .ref (aG G 1)), (2, .int (iI g)), (3, .ref (aG G fa)), (4, .int (iI cnt)), (5, .int (iI (j2 + 1))), (6, .ref (aG G c))]) rfl ?_
                refine x_goto C dX6_lay_119 (tgt := 84) (by decide) ?_
                refine x_sub [0, 1, 2, 3, 4, 5] (lv' := [(0, .ref (aG G sv)), (1, .ref (aG G 1)), (2, .int (iI g)), (3, .ref (aG G fa)), (4, .int (iI cnt)), (5, .int (iI (j2 + 1)))]) rfl ?_
                exact ih84 ((j2 + 1)) (V1_113) (by omega) (by exact fun q a => by rw [hq113_0 q a]; exact hD1 q a) (by exact mk_hurt hRc ec hj2.1 hD2 hq113_1) (by omega)
        exact lp_84 (((9 : Int) - 0).toNat + 1) (0) (V1_78) (by omega) (by exact fun _ _ => rfl) (by exact fun s p a b c d => hq78_1 _ (by omega) (by omega)) (by omega)
      · skip
        refine x_aload_n C 0 dX6_lay_42 rfl rfl ?_
        refine x_aload_n C 0 dX6_lay_43 rfl rfl ?_
        refine x_geti C ok_Saw sv 4 dX6_lay_44 (ltS hsv hn (by decide) : sv + 0 < n) (tbS_0 hsv) (by decide) rfl q_2_14 rfl (kz := 4) rfl (fun rg44 => ?_)
        refine x_aload_n C 0 dX6_lay_47 rfl rfl ?_
        refine x_getr C ok_Saw sv 5 (d := (sv + 1)) dX6_lay_48 (ltS hsv hn (by decide) : sv + 0 < n) (tbS_0 hsv) (by decide) rfl q_2_15 rfl (kz := 5) rfl (lrS_5 hsv hLR) ?_
        refine x_iconst C dX6_lay_51 ?_
        refine x_iload C 5 dX6_lay_52 rfl ?_
        refine x_iadd C dX6_lay_54 ?_
        refine x_iald C (sv + 1) dX6_lay_55 (ltS hsv hn (by decide)) (tbS_1 hsv) (by refine ⟨?_, ?_⟩ <;> omega) (fun rg55 => ?_)
        refine x_top (b := (V 3 (2 + j))) (by exact hA2 _ (by omega) (by omega)) ?_
        have hpj := hRu.2.2.1 (2 + j) (by omega) (by omega)
        refine x_max C dX6_lay_56 q_29_2 q_5_21 q_5_22 q_5_23 ⟨Nat.le_of_ble_eq_true rfl, Nat.le_of_ble_eq_true rfl⟩ ⟨Nat.zero_le _, Nat.zero_le _⟩ (by first | assumption | (constructor <;> omega)) (by first | assumption | (constructor <;> omega)) ?_
        refine x_puti C ok_Saw sv 4 dX6_lay_59 (ltS hsv hn (by decide) : sv + 0 < n) (tbS_0 hsv) (by decide) rfl q_2_14 rfl rfl (Or.inl rfl) (by first | assumption | (constructor <;> omega)) (kz := 4) rfl ?_
        refine x_iinc C 5 dX6_lay_62 rfl (by decide) (lv' := [(0, .ref (aG G sv)), (1, .ref (aG G 1)), (2, .int (iI g)), (3, .ref (aG G fa)), (4, .int (iI cnt)), (5, .int (iI (j + 1)))]) rfl ?_
        refine x_goto C dX6_lay_65 (tgt := 36) (by decide) ?_
        exact ih36 ((j + 1)) ((u2 VA sv 4 (max (VA sv 4) (V 3 (2 + j))))) (by omega) (by exact fun q a b => by rw [u2_n a]; exact hA1 q a b) (by exact fun z a b => by rw [u2_n (by omega)]; exact hA2 z a b) (by refine ⟨?_, ?_⟩; (rw [u2_at, if_neg (by omega)]; exact hA3.1); (rw [u2_at, if_neg (by omega)]; exact hA3.2)) (by rw [u2_s, u1_s]; exact ⟨by omega, fun z a b => by (by_cases w : z = 2 + j; (rw [w]; omega); (have := hA4.2 z a (by omega); omega))⟩) (by omega)
  exact lp_36 (((5 : Int) - 0).toNat + 1) (0) ((u2 (cpy (u2 V sv 3 (V 1 2)) 3 (sv + 1) 0 0 7) sv 4 0)) (by omega) (by exact fun q a b => by rw [u2_n a, cpy_n b, u2_n a]) (by exact fun z a b => by rw [u2_n (by omega), cpy_s, if_pos (by omega), u2_n (by omega), show 0 + (z - 0) = z by omega]) (by refine ⟨?_, ?_⟩; (rw [u2_at, if_neg (by omega), cpy_n (by omega), u2_at, if_pos ⟨rfl, rfl⟩]); (rw [u2_at, if_neg (by omega), cpy_n (by omega), u2_at, if_neg (by omega)])) (by rw [u2_s, u1_s]; exact ⟨by omega, fun z a b => by omega⟩) (by omega)
