
set_option maxRecDepth 100000 in
set_option maxHeartbeats 4000000 in
theorem m_X11_drawFaults (G : GS) (n : Nat) (V : Nat → Int → Int) (R : Nat → Int → Option Nat) (lr : Int) (lt : Int) (L : Int) (f : Int → Int → Int) (m : Int) (g : Int) (pr : Int → Int) (seed : Int) (k : Int) (hn : 67 ≤ n) (hLR : LR R) (hI : CInv n V R lr lt L f m g pr) (gs : Rg seed) (hk : 0 ≤ k ∧ k ≤ 8) : Cn G yX11_drawFaults cX11_drawFaults 9 (some .int) (rmk 6 8 24 131) [.ref (aG G 0), .int (iI seed), .int (iI k)] n V R 8 24 (fun vv uu => ∃ (r : Int), ∃ (n1 : Nat), ∃ (V1 : Nat → Int → Int), ∃ (R1 : Nat → Int → Option Nat), vv = some (.int (iI r)) ∧ uu = (n1, V1, R1) ∧ (DrC n n1 V V1 R R1 f m seed k r)) := by
  obtain ⟨ea0, ea1, ea2, ea3, ea5⟩ := hI.1.1
  obtain ⟨eb0, eb1, eb2, eb3, eb5⟩ := hI.1.2.1
  have hF : FsOk n V R 2 (V 1 5) := by rw [ea5]; exact hI.1.2.2.1
  refine Cn.of (by decide) (Nat.le_of_ble_eq_true rfl) (fun K C hct => ?_)
  show Xw K G 0 0 _ n V R 0 [(0, .ref (aG G 0)), (1, .int (iI seed)), (2, .int (iI k))] []
  refine x_aload_n C 0 dX11_drawFaults_0 rfl rfl ?_
  refine x_getr C ok_Class 0 0 (d := 1) dX11_drawFaults_1 (lt67 hn rfl) rfl (by decide) rfl q_0_16 rfl (kz := 0) rfl (lr_0_0 hLR) ?_
  refine x_geti C ok_Yard 1 5 dX11_drawFaults_4 (lt67 hn rfl) rfl (by decide) rfl q_8_5 rfl (kz := 5) rfl (fun rg4 => ?_)
  refine x_istore_n C dX11_drawFaults_7 rfl (by decide) (lv' := [(0, .ref (aG G 0)), (1, .int (iI seed)), (2, .int (iI k)), (3, .int (iI (V 1 5)))]) rfl ?_
  refine x_iconst C dX11_drawFaults_8 ?_
  refine x_istore C dX11_drawFaults_9 (by decide) (lv' := [(0, .ref (aG G 0)), (1, .int (iI seed)), (2, .int (iI k)), (3, .int (iI (V 1 5))), (4, .int (iI 0))]) rfl ?_
  have lp_11 : ∀ (fuel : Nat) (j : Int) (R2 : Nat → Int → Option Nat), (0 ≤ j ∧ j ≤ V 1 5) → (∀ p, p ≠ 35 → R2 p = R p) → (∀ x : Int, 0 ≤ x → x < j → R2 35 x = R 2 x) → ((9 : Int) - j) < (fuel : Int) → Xw K G 0 0 (EndQ K G 8 24 (fun vv uu => ∃ (r : Int), ∃ (n1 : Nat), ∃ (V1 : Nat → Int → Int), ∃ (R1 : Nat → Int → Option Nat), vv = some (.int (iI r)) ∧ uu = (n1, V1, R1) ∧ (DrC n n1 V V1 R R1 f m seed k r))) n V R2 11 [(0, .ref (aG G 0)), (1, .int (iI seed)), (2, .int (iI k)), (3, .int (iI (V 1 5))), (4, .int (iI j))] [] := by
    intro fuel11
    induction fuel11 with
    | zero => intro j R2 hj hR hN hfu11; exfalso; omega
    | succ fuel11 ih11 =>
      intro j R2 hj hR hN hfu11
      have hLR2 := LR_fr (a := 34) (Or.inl rfl) hLR hR
      have hF2 : FsOk n V R2 (1 + 1) (V 1 5) := by (intro x a b; rw [hR (1 + 1) (by decide)]; exact hF x a b)
      refine x_iload C 4 dX11_drawFaults_11 rfl ?_
      refine x_iload_n C 3 dX11_drawFaults_13 rfl rfl ?_
      refine x_icmp_ge C dX11_drawFaults_14 (tgt := 39) (by decide) (by first | assumption | (constructor <;> omega)) (by first | assumption | (constructor <;> omega)) (fun h14 => ?_) (fun h14 => ?_)
      · skip
        refine x_iload_n C 1 dX11_drawFaults_39 rfl rfl ?_
        refine x_istore C dX11_drawFaults_40 (by decide) (lv' := [(0, .ref (aG G 0)), (1, .int (iI seed)), (2, .int (iI k)), (3, .int (iI (V 1 5))), (4, .int (iI seed))]) rfl ?_
        refine x_iconst C dX11_drawFaults_42 ?_
        refine x_istore C dX11_drawFaults_43 (by decide) (lv' := [(0, .ref (aG G 0)), (1, .int (iI seed)), (2, .int (iI k)), (3, .int (iI (V 1 5))), (4, .int (iI seed)), (5, .int (iI 0))]) rfl ?_
        have lp_45 : ∀ (fuel : Nat) (i : Int) (z : Int) (cnt : Int) (n2 : Nat) (V2 : Nat → Int → Int) (R2b : Nat → Int → Option Nat) (cc : Nat) (ss : Nat), (0 ≤ i ∧ i ≤ k ∧ cnt = m + i ∧ cnt ≤ 8) → (z = dsd seed (4 * i)) → (cc = i.toNat ∧ ss = 3 * i.toNat ∧ n2 = n + i.toNat) → (∀ q, q < n → V2 q = V q) → (∀ p, p ≠ 35 → R2b p = R p) → (∀ x : Int, 0 ≤ x → x < m → R2b 35 x = R 2 x) → (∀ x : Int, 0 ≤ x → x < i → ∃ c, R2b 35 (m + x) = some c ∧ n ≤ c ∧ c < n2 ∧ V2 c 3 = drF seed x 0 ∧ V2 c 0 = drF seed x 1 ∧ V2 c 1 = drF seed x 2 ∧ V2 c 2 = drF seed x 3) → (k + 1 - i) < (fuel : Int) → Xw K G cc ss (EndQ K G 8 24 (fun vv uu => ∃ (r : Int), ∃ (n1 : Nat), ∃ (V1 : Nat → Int → Int), ∃ (R1 : Nat → Int → Option Nat), vv = some (.int (iI r)) ∧ uu = (n1, V1, R1) ∧ (DrC n n1 V V1 R R1 f m seed k r))) n2 V2 R2b 45 [(0, .ref (aG G 0)), (1, .int (iI seed)), (2, .int (iI k)), (3, .int (iI cnt)), (4, .int (iI z)), (5, .int (iI i))] [] := by
          intro fuel45
          induction fuel45 with
          | zero => intro i z cnt n2 V2 R2b cc ss hi hz hcc hV hRb hNb hD hfu45; exfalso; omega
          | succ fuel45 ih45 =>
            intro i z cnt n2 V2 R2b cc ss hi hz hcc hV hRb hNb hD hfu45
            have hLR2 := LR_fr (a := 34) (Or.inl rfl) hLR hRb
            have hn2 : 67 ≤ n2 := by omega
            refine x_iload C 5 dX11_drawFaults_45 rfl ?_
            refine x_iload_n C 2 dX11_drawFaults_47 rfl rfl ?_
            refine x_icmp_ge C dX11_drawFaults_48 (tgt := 136) (by decide) (by first | assumption | (constructor <;> omega)) (by first | assumption | (constructor <;> omega)) (fun h48 => ?_) (fun h48 => ?_)
            · skip
              refine x_iload_n C 3 dX11_drawFaults_136 rfl rfl ?_
              refine x_wid (cells' := 8) (slots' := 24) (by first | decide | omega) (by first | decide | omega) ?_
              refine x_iret C dX11_drawFaults_137 ⟨_, _, _, _, rfl, rfl, ?_⟩
              · exact dr_end hI (by omega) (by omega) (by omega) (by omega) hV hRb hNb hD
            · skip
              refine x_iload_n C 3 dX11_drawFaults_51 rfl rfl ?_
              refine x_bipush C dX11_drawFaults_52 (w := 8) (by decide) ?_
              refine x_icmp_ge C dX11_drawFaults_54 (tgt := 136) (by decide) (by first | assumption | (constructor <;> omega)) (by first | assumption | (constructor <;> omega)) (fun h54 => ?_) (fun h54 => ?_)
              · skip
                refine x_iload_n C 3 dX11_drawFaults_136 rfl rfl ?_
                refine x_wid (cells' := 8) (slots' := 24) (by first | decide | omega) (by first | decide | omega) ?_
                refine x_iret C dX11_drawFaults_137 ⟨_, _, _, _, rfl, rfl, ?_⟩
                · exact dr_end hI (by omega) (by omega) (by omega) (by omega) hV hRb hNb hD
              · skip
                refine x_iload C 4 dX11_drawFaults_57 rfl ?_
                refine x_runU (r_callS C (ce_X11_next) (m_X11_next G n2 V2 R2b (z)) dX11_drawFaults_59 q_46_4 q_46_5 rfl rfl ⟨Nat.le_of_ble_eq_true rfl, Nat.le_of_ble_eq_true rfl⟩ ⟨rfl, rfl⟩ ⟨(show cc + 0 ≤ 8 from by omega), (show ss + 0 ≤ 24 from by omega)⟩ (Nat.le_of_ble_eq_true rfl)) (fun v59 u59 hp59 => ?_)
                obtain ⟨rfl, rfl⟩ := hp59
                show Xw K G cc ss _ n2 V2 R2b 62 [(0, .ref (aG G 0)), (1, .int (iI seed)), (2, .int (iI k)), (3, .int (iI cnt)), (4, .int (iI z)), (5, .int (iI i))] [.int (iI (wr (z * 1103515245 + 12345)))]
                refine x_top (b := (dsd seed (4 * i + 1))) (by rw [hz, ← dsd_s (by omega)]) ?_
                refine x_istore C dX11_drawFaults_62 (by decide) (lv' := [(0, .ref (aG G 0)), (1, .int (iI seed)), (2, .int (iI k)), (3, .int (iI cnt)), (4, .int (iI z)), (5, .int (iI i)), (6, .int (iI (dsd seed (4 * i + 1))))]) rfl ?_
                refine x_iload C 6 dX11_drawFaults_64 rfl ?_
                refine x_runU (r_callS C (ce_X11_next) (m_X11_next G n2 V2 R2b (dsd seed (4 * i + 1))) dX11_drawFaults_66 q_46_4 q_46_5 rfl rfl ⟨Nat.le_of_ble_eq_true rfl, Nat.le_of_ble_eq_true rfl⟩ ⟨rfl, rfl⟩ ⟨(show cc + 0 ≤ 8 from by omega), (show ss + 0 ≤ 24 from by omega)⟩ (Nat.le_of_ble_eq_true rfl)) (fun v66 u66 hp66 => ?_)
                obtain ⟨rfl, rfl⟩ := hp66
                show Xw K G cc ss _ n2 V2 R2b 69 [(0, .ref (aG G 0)), (1, .int (iI seed)), (2, .int (iI k)), (3, .int (iI cnt)), (4, .int (iI z)), (5, .int (iI i)), (6, .int (iI (dsd seed (4 * i + 1))))] [.int (iI (wr ((dsd seed (4 * i + 1)) * 1103515245 + 12345)))]
                refine x_top (b := (dsd seed (4 * i + 2))) (by rw [← dsd_s (by omega), show 4 * i + 1 + 1 = 4 * i + 2 by omega]) ?_
                refine x_istore C dX11_drawFaults_69 (by decide) (lv' := [(0, .ref (aG G 0)), (1, .int (iI seed)), (2, .int (iI k)), (3, .int (iI cnt)), (4, .int (iI z)), (5, .int (iI i)), (6, .int (iI (dsd seed (4 * i + 1)))), (7, .int (iI (dsd seed (4 * i + 2))))]) rfl ?_
                refine x_iload C 7 dX11_drawFaults_71 rfl ?_
                refine x_runU (r_callS C (ce_X11_next) (m_X11_next G n2 V2 R2b (dsd seed (4 * i + 2))) dX11_drawFaults_73 q_46_4 q_46_5 rfl rfl ⟨Nat.le_of_ble_eq_true rfl, Nat.le_of_ble_eq_true rfl⟩ ⟨rfl, rfl⟩ ⟨(show cc + 0 ≤ 8 from by omega), (show ss + 0 ≤ 24 from by omega)⟩ (Nat.le_of_ble_eq_true rfl)) (fun v73 u73 hp73 => ?_)
                obtain ⟨rfl, rfl⟩ := hp73
                show Xw K G cc ss _ n2 V2 R2b 76 [(0, .ref (aG G 0)), (1, .int (iI seed)), (2, .int (iI k)), (3, .int (iI cnt)), (4, .int (iI z)), (5, .int (iI i)), (6, .int (iI (dsd seed (4 * i + 1)))), (7, .int (iI (dsd seed (4 * i + 2))))] [.int (iI (wr ((dsd seed (4 * i + 2)) * 1103515245 + 12345)))]
                refine x_top (b := (dsd seed (4 * i + 3))) (by rw [← dsd_s (by omega), show 4 * i + 2 + 1 = 4 * i + 3 by omega]) ?_
                refine x_istore C dX11_drawFaults_76 (by decide) (lv' := [(0, .ref (aG G 0)), (1, .int (iI seed)), (2, .int (iI k)), (3, .int (iI cnt)), (4, .int (iI z)), (5, .int (iI i)), (6, .int (iI (dsd seed (4 * i + 1)))), (7, .int (iI (dsd seed (4 * i + 2)))), (8, .int (iI (dsd seed (4 * i + 3))))]) rfl ?_
                refine x_iload C 8 dX11_drawFaults_78 rfl ?_
                refine x_runU (r_callS C (ce_X11_next) (m_X11_next G n2 V2 R2b (dsd seed (4 * i + 3))) dX11_drawFaults_80 q_46_4 q_46_5 rfl rfl ⟨Nat.le_of_ble_eq_true rfl, Nat.le_of_ble_eq_true rfl⟩ ⟨rfl, rfl⟩ ⟨(show cc + 0 ≤ 8 from by omega), (show ss + 0 ≤ 24 from by omega)⟩ (Nat.le_of_ble_eq_true rfl)) (fun v80 u80 hp80 => ?_)
                obtain ⟨rfl, rfl⟩ := hp80
                show Xw K G cc ss _ n2 V2 R2b 83 [(0, .ref (aG G 0)), (1, .int (iI seed)), (2, .int (iI k)), (3, .int (iI cnt)), (4, .int (iI z)), (5, .int (iI i)), (6, .int (iI (dsd seed (4 * i + 1)))), (7, .int (iI (dsd seed (4 * i + 2)))), (8, .int (iI (dsd seed (4 * i + 3))))] [.int (iI (wr ((dsd seed (4 * i + 3)) * 1103515245 + 12345)))]
                refine x_top (b := (dsd seed (4 * i + 4))) (by rw [← dsd_s (by omega), show 4 * i + 3 + 1 = 4 * i + 4 by omega]) ?_
                refine x_istore C dX11_drawFaults_83 (by decide) (lv' := [(0, .ref (aG G 0)), (1, .int (iI seed)), (2, .int (iI k)), (3, .int (iI cnt)), (4, .int (iI (dsd seed (4 * i + 4)))), (5, .int (iI i)), (6, .int (iI (dsd seed (4 * i + 1)))), (7, .int (iI (dsd seed (4 * i + 2)))), (8, .int (iI (dsd seed (4 * i + 3))))]) rfl ?_
                have u1_ := zUshr9 (dsd seed (4 * i + 1))
                have u2_ := zUshr9 (dsd seed (4 * i + 2))
                have u3_ := zUshr9 (dsd seed (4 * i + 3))
                have u4_ := zUshr9 (dsd seed (4 * i + 4))
                refine x_aload_n C 0 dX11_drawFaults_85 rfl rfl ?_
                refine x_getr C ok_Class 0 5 (d := 35) dX11_drawFaults_86 (by omega) rfl (by decide) rfl q_1_1 rfl (kz := 5) rfl (by exact (lr_0_5 hLR2)) ?_
                refine x_iload_n C 3 dX11_drawFaults_89 rfl rfl ?_
                refine x_iload C 6 dX11_drawFaults_90 rfl ?_
                refine x_bipush C dX11_drawFaults_92 (w := 9) (by decide) ?_
                refine x_iushr C dX11_drawFaults_94 ?_
                refine x_bipush C dX11_drawFaults_95 (w := 7) (by decide) ?_
                refine x_irem C dX11_drawFaults_97 (by exact zUshr_rg _ _) (by first | assumption | (constructor <;> omega)) (by omega) (by omega) ?_
                refine x_iload C 7 dX11_drawFaults_98 rfl ?_
                refine x_bipush C dX11_drawFaults_100 (w := 9) (by decide) ?_
                refine x_iushr C dX11_drawFaults_102 ?_
                refine x_bipush C dX11_drawFaults_103 (w := 8) (by decide) ?_
                refine x_irem C dX11_drawFaults_105 (by exact zUshr_rg _ _) (by first | assumption | (constructor <;> omega)) (by omega) (by omega) ?_
                refine x_iload C 8 dX11_drawFaults_106 rfl ?_
                refine x_bipush C dX11_drawFaults_108 (w := 9) (by decide) ?_
                refine x_iushr C dX11_drawFaults_110 ?_
                refine x_bipush C dX11_drawFaults_111 (w := 8) (by decide) ?_
                refine x_irem C dX11_drawFaults_113 (by exact zUshr_rg _ _) (by first | assumption | (constructor <;> omega)) (by omega) (by omega) ?_
                refine x_iload C 4 dX11_drawFaults_114 rfl ?_
                refine x_bipush C dX11_drawFaults_116 (w := 9) (by decide) ?_
                refine x_iushr C dX11_drawFaults_118 ?_
                refine x_iconst C dX11_drawFaults_119 ?_
                refine x_irem C dX11_drawFaults_120 (by exact zUshr_rg _ _) (by first | assumption | (constructor <;> omega)) (by omega) (by omega) ?_
                refine x_iconst C dX11_drawFaults_121 ?_
                refine x_iadd C dX11_drawFaults_122 ?_
                refine x_runU (r_callS C (ce_X11_newFault) (m_X11_newFault G n2 V2 R2b ((zUshr (dsd seed (4 * i + 1)) 9) % 7) ((zUshr (dsd seed (4 * i + 2)) 9) % 8) ((zUshr (dsd seed (4 * i + 3)) 9) % 8) (((zUshr (dsd seed (4 * i + 4)) 9) % 4) + 1) (by omega) (by exact hLR2) (by first | assumption | omega | decide) (by first | assumption | omega | decide) (by first | assumption | omega | decide) (by first | assumption | omega | decide)) dX11_drawFaults_123 q_12_21 q_12_22 rfl rfl ⟨Nat.le_of_ble_eq_true rfl, Nat.le_of_ble_eq_true rfl⟩ ⟨rfl, rfl⟩ (by exact ⟨by show cc + 1 ≤ 8; omega, by show ss + 3 ≤ 24; omega⟩) (Nat.le_of_ble_eq_true rfl)) (fun v123 u123 hp123 => ?_)
                obtain ⟨V1_123, rfl, rfl, hq123_0⟩ := hp123
                show Xw K G (cc + 1) (ss + 3) _ (n2 + 1) V1_123 R2b 126 [(0, .ref (aG G 0)), (1, .int (iI seed)), (2, .int (iI k)), (3, .int (iI cnt)), (4, .int (iI (dsd seed (4 * i + 4)))), (5, .int (iI i)), (6, .int (iI (dsd seed (4 * i + 1)))), (7, .int (iI (dsd seed (4 * i + 2)))), (8, .int (iI (dsd seed (4 * i + 3))))] [.ref (aG G n2), .int (iI cnt), .ref (aG G 35)]
                have hn3 : 67 ≤ n2 + 1 := by omega
                refine x_aast C 35 dX11_drawFaults_126 (by omega) rfl (by refine ⟨?_, ?_⟩ <;> omega) (by omega) (tb_dyn hn2) ?_
                refine x_iinc C 3 dX11_drawFaults_127 rfl (by decide) (lv' := [(0, .ref (aG G 0)), (1, .int (iI seed)), (2, .int (iI k)), (3, .int (iI (cnt + 1))), (4, .int (iI (dsd seed (4 * i + 4)))), (5, .int (iI i)), (6, .int (iI (dsd seed (4 * i + 1)))), (7, .int (iI (dsd seed (4 * i + 2)))), (8, .int (iI (dsd seed (4 * i + 3))))]) rfl ?_
                refine x_iinc C 5 dX11_drawFaults_130 rfl (by decide) (lv' := [(0, .ref (aG G 0)), (1, .int (iI seed)), (2, .int (iI k)), (3, .int (iI (cnt + 1))), (4, .int (iI (dsd seed (4 * i + 4)))), (5, .int (iI (i + 1))), (6, .int (iI (dsd seed (4 * i + 1)))), (7, .int (iI (dsd seed (4 * i + 2)))), (8, .int (iI (dsd seed (4 * i + 3))))]) rfl ?_
                refine x_goto C dX11_drawFaults_133 (tgt := 45) (by decide) ?_
                refine x_sub [0, 1, 2, 3, 4, 5] (lv' := [(0, .ref (aG G 0)), (1, .int (iI seed)), (2, .int (iI k)), (3, .int (iI (cnt + 1))), (4, .int (iI (dsd seed (4 * i + 4)))), (5, .int (iI (i + 1)))]) rfl ?_
                exact ih45 ((i + 1)) ((dsd seed (4 * i + 4))) ((cnt + 1)) ((n2 + 1)) (V1_123) ((u2 R2b 35 cnt (some n2))) (cc + 1) (ss + 3) (by omega) (by rw [show 4 * (i + 1) = 4 * i + 4 by omega]) (by omega) (by exact fun q a => (hq123_0.2.2.2.2 q (by omega)).trans (hV q a)) (by exact fun p a => by rw [u2_n a]; exact hRb p a) (by exact fun x a b => by rw [u2_at, if_neg (by omega)]; exact hNb x a b) (by exact dr_st hD hq123_0 hi.2.2.1 (by omega) (by omega)) (by omega)
        exact lp_45 ((k + 1 - 0).toNat + 1) (0) (seed) ((V 1 5)) (n) (V) (R2) (0) (0) (by omega) (by rfl) (by exact ⟨rfl, rfl, rfl⟩) (by exact fun _ _ => rfl) (by exact hR) (by exact fun x a b => hN x a (by omega)) (by exact fun x a b => by omega) (by omega)
      · skip
        refine x_aload_n C 0 dX11_drawFaults_17 rfl rfl ?_
        refine x_getr C ok_Class 0 5 (d := 35) dX11_drawFaults_18 (lt67 hn rfl) rfl (by decide) rfl q_1_1 rfl (kz := 5) rfl (by exact (lr_0_5 hLR2)) ?_
        refine x_iload C 4 dX11_drawFaults_21 rfl ?_
        refine x_aload_n C 0 dX11_drawFaults_23 rfl rfl ?_
        refine x_getr C ok_Class 0 0 (d := 1) dX11_drawFaults_24 (lt67 hn rfl) rfl (by decide) rfl q_0_16 rfl (kz := 0) rfl (by exact (lr_0_0 hLR2)) ?_
        refine x_iload C 4 dX11_drawFaults_27 rfl ?_
        refine x_runU (r_callV C ok_Yard 1 (lt67 hn rfl) rfl (ce_X10_faultOf) (m_X10_faultOf G n V R2 (1) (j) hn (by exact hLR2) (by first | assumption | omega | decide) (by first | assumption | omega | decide) (by first | assumption | omega | decide)) rfl dX11_drawFaults_29 q_17_6 q_17_7 q_17_8 rfl rfl ⟨Nat.le_of_ble_eq_true rfl, Nat.le_of_ble_eq_true rfl⟩ ⟨rfl, rfl⟩ ⟨Nat.le_of_ble_eq_true rfl, Nat.le_of_ble_eq_true rfl⟩ (Nat.le_of_ble_eq_true rfl)) (fun v29 u29 hp29 => ?_)
        obtain ⟨rfl, rfl⟩ := hp29
        show Xw K G 0 0 _ n V R2 32 [(0, .ref (aG G 0)), (1, .int (iI seed)), (2, .int (iI k)), (3, .int (iI (V 1 5))), (4, .int (iI j))] [rv G.2.1 (cif (0 ≤ j ∧ j ≤ V 1 5 - 1) (R2 (1 + 1) j) none), .int (iI j), .ref (aG G 35)]
        by_cases hin2 : 0 ≤ j ∧ j ≤ V 1 5 - 1
        · skip
          obtain ⟨c, hRc, hFc⟩ := hF j hin2.1 (by omega)
          have htc := tb_dyn hFc.1
          have hcc0 := hFc.2.1
          have hRc2 : R2 2 j = some c := by rw [hR 2 (by decide)]; exact hRc
          rw [cif_t hin2, hRc2]
          show Xw K G 0 0 _ n V R2 32 [(0, .ref (aG G 0)), (1, .int (iI seed)), (2, .int (iI k)), (3, .int (iI (V 1 5))), (4, .int (iI j))] [.ref (aG G c), .int (iI j), .ref (aG G 35)]
          refine x_aast C 35 dX11_drawFaults_32 (lt67 hn rfl) rfl (by refine ⟨?_, ?_⟩ <;> omega) (by omega) htc ?_
          refine x_iinc C 4 dX11_drawFaults_33 rfl (by decide) (lv' := [(0, .ref (aG G 0)), (1, .int (iI seed)), (2, .int (iI k)), (3, .int (iI (V 1 5))), (4, .int (iI (j + 1)))]) rfl ?_
          refine x_goto C dX11_drawFaults_36 (tgt := 11) (by decide) ?_
          exact ih11 ((j + 1)) ((u2 R2 35 j (some c))) (by omega) (by exact fun p a => by rw [u2_n a]; exact hR p a) (by exact fun x a b => by (rw [u2_at]; by_cases e : x = j; (rw [if_pos ⟨rfl, e⟩, e]; exact hRc.symm); (rw [if_neg (by omega)]; exact hN x a (by omega)))) (by omega)
        · skip
          exfalso; omega
  exact lp_11 (((9 : Int) - 0).toNat + 1) (0) (R) (by omega) (by exact fun _ _ => rfl) (by exact fun x a b => by omega) (by omega)
set_option maxRecDepth 100000 in
set_option maxHeartbeats 4000000 in
theorem m_X11_drawn (G : GS) (n : Nat) (V : Nat → Int → Int) (R : Nat → Int → Option Nat) (lr : Int) (lt : Int) (L : Int) (f : Int → Int → Int) (m : Int) (g : Int) (pr : Int → Int) (seed : Int) (k : Int) (hn : 67 ≤ n) (hLR : LR R) (hI : CInv n V R lr lt L f m g pr) (gs : Rg seed) (gk : Rg k) : Cn G yX11_drawn cX11_drawn 3 (some .long) (rmk 7 8 24 181) [.ref (aG G 0), .int (iI seed), .int (iI k)] n V R 8 24 (fun vv uu => ∃ (r : Int), ∃ (n1 : Nat), ∃ (V1 : Nat → Int → Int), ∃ (R1 : Nat → Int → Option Nat), vv = some (.long (jI r)) ∧ uu = (n1, V1, R1) ∧ (n ≤ n1) ∧ (∀ q, q < 23 ∨ (34 < q ∧ q < n) → V1 q = V q) ∧ (∀ q, q ≠ 35 → R1 q = R q) ∧ (CInv n1 V1 R1 lr lt L f m g pr) ∧ (((L = 0 ∨ ¬ (0 ≤ k ∧ k ≤ 8)) ∧ r = (-4611686018427387904)) ∨ (L ≠ 0 ∧ (0 ≤ k ∧ k ≤ 8) ∧ r = dwV lr lt L f m pr g seed k))) := by
  obtain ⟨ea0, ea1, ea2, ea3, ea5⟩ := hI.1.1
  obtain ⟨eb0, eb1, eb2, eb3, eb5⟩ := hI.1.2.1
  refine Cn.of (by decide) (Nat.le_of_ble_eq_true rfl) (fun K C hct => ?_)
  show Xw K G 0 0 _ n V R 0 [(0, .ref (aG G 0)), (1, .int (iI seed)), (2, .int (iI k))] []
  refine x_aload_n C 0 dX11_drawn_0 rfl rfl ?_
  refine x_getr C ok_Class 0 0 (d := 1) dX11_drawn_1 (lt67 hn rfl) rfl (by decide) rfl q_0_16 rfl (kz := 0) rfl (lr_0_0 hLR) ?_
  refine x_runU (r_callV C ok_Yard 1 (lt67 hn rfl) rfl (ce_X10_hasLog) (m_X10_hasLog G n V R (1) hn hLR (by first | assumption | omega | decide)) rfl dX11_drawn_4 q_8_6 q_8_7 q_8_8 rfl rfl ⟨Nat.le_of_ble_eq_true rfl, Nat.le_of_ble_eq_true rfl⟩ ⟨rfl, rfl⟩ ⟨Nat.le_of_ble_eq_true rfl, Nat.le_of_ble_eq_true rfl⟩ (Nat.le_of_ble_eq_true rfl)) (fun v4 u4 hp4 => ?_)
  obtain ⟨rfl, rfl⟩ := hp4
  show Xw K G 0 0 _ n V R 7 [(0, .ref (aG G 0)), (1, .int (iI seed)), (2, .int (iI k))] [.int (iI (bI (0 < V 1 2)))]
  refine x_ifeq_b C dX11_drawn_7 (tgt := 20) (by decide) (fun h7 => ?_) (fun h7 => ?_)
  · skip
    refine x_ldc2 C dX11_drawn_20 q_35_21 (w := -4611686018427387904) (by decide) ?_
    refine x_wid (cells' := 8) (slots' := 24) (by first | decide | omega) (by first | decide | omega) ?_
    refine x_lret C dX11_drawn_23 ⟨_, _, _, _, rfl, rfl, ?_, ?_, ?_, ?_, ?_⟩
    · exact Nat.le_refl _
    · exact fun _ _ => rfl
    · exact fun _ _ => rfl
    · exact hI
    · exact Or.inl ⟨by omega, rfl⟩
  · skip
    refine x_iload_n C 2 dX11_drawn_10 rfl rfl ?_
    refine x_iconst C dX11_drawn_11 ?_
    refine x_bipush C dX11_drawn_12 (w := 8) (by decide) ?_
    refine x_runU (r_callS C (ce_X11_within) (m_X11_within G n V R (k) (0) (8) (by first | assumption | omega | decide) (by first | assumption | omega | decide) (by first | assumption | omega | decide)) dX11_drawn_14 q_5_4 q_5_5 rfl rfl ⟨Nat.le_of_ble_eq_true rfl, Nat.le_of_ble_eq_true rfl⟩ ⟨rfl, rfl⟩ ⟨Nat.le_of_ble_eq_true rfl, Nat.le_of_ble_eq_true rfl⟩ (Nat.le_of_ble_eq_true rfl)) (fun v14 u14 hp14 => ?_)
    obtain ⟨rfl, rfl⟩ := hp14
    show Xw K G 0 0 _ n V R 17 [(0, .ref (aG G 0)), (1, .int (iI seed)), (2, .int (iI k))] [.int (iI (bI (0 ≤ k ∧ k ≤ 8)))]
    refine x_ifne_b C dX11_drawn_17 (tgt := 24) (by decide) (fun h17 => ?_) (fun h17 => ?_)
    · skip
      refine x_aload_n C 0 dX11_drawn_24 rfl rfl ?_
      refine x_aload_n C 0 dX11_drawn_25 rfl rfl ?_
      refine x_iload_n C 1 dX11_drawn_26 rfl rfl ?_
      refine x_iload_n C 2 dX11_drawn_27 rfl rfl ?_
      refine x_runU (r_callV C ok_Class 0 (lt67 hn rfl) rfl (ce_X11_drawFaults) (m_X11_drawFaults G n V R (lr) (lt) (L) (f) (m) (g) (pr) (seed) (k) hn hLR (by first | assumption | omega | decide) (by first | assumption | omega | decide) (by first | assumption | omega | decide)) rfl dX11_drawn_28 q_46_0 q_46_1 q_46_2 rfl rfl ⟨Nat.le_of_ble_eq_true rfl, Nat.le_of_ble_eq_true rfl⟩ ⟨rfl, rfl⟩ ⟨Nat.le_of_ble_eq_true rfl, Nat.le_of_ble_eq_true rfl⟩ (Nat.le_of_ble_eq_true rfl)) (fun v28 u28 hp28 => ?_)
      obtain ⟨r_28, n1_28, V1_28, R1_28, rfl, rfl, hq28_0⟩ := hp28
      show Xw K G (0 + 8) (0 + 24) _ n1_28 V1_28 R1_28 31 [(0, .ref (aG G 0)), (1, .int (iI seed)), (2, .int (iI k))] [.int (iI r_28), .ref (aG G 0)]
      have hC2 := hI.grow hq28_0.1 hq28_0.2.1 hq28_0.2.2.1
      have hLR2 := LR_fr (a := 34) (Or.inl rfl) hLR hq28_0.2.2.1
      have hn2 : 67 ≤ n1_28 := by have := hq28_0.1; omega
      have hcb := hq28_0.2.2.2.1
      refine x_runU (r_callV C ok_Class 0 (by omega) rfl (ce_X11_worthInThought) (m_X11_worthInThought G n1_28 V1_28 R1_28 (lr) (lt) (L) (f) (m) (g) (pr) (r_28) (by exact hn2) (by exact hLR2) (by exact hC2) (by first | assumption | omega | decide) (by first | assumption | omega | decide) (by exact hq28_0.2.2.2.2.1)) rfl dX11_drawn_31 q_45_4 q_45_5 q_45_6 rfl rfl ⟨Nat.le_of_ble_eq_true rfl, Nat.le_of_ble_eq_true rfl⟩ ⟨rfl, rfl⟩ ⟨Nat.le_of_ble_eq_true rfl, Nat.le_of_ble_eq_true rfl⟩ (Nat.le_of_ble_eq_true rfl)) (fun v31 u31 hp31 => ?_)
      obtain ⟨V1_31, rfl, rfl, hq31_0, hq31_1⟩ := hp31
      show Xw K G (0 + 8) (0 + 24) _ n1_28 V1_31 R1_28 34 [(0, .ref (aG G 0)), (1, .int (iI seed)), (2, .int (iI k))] [.int (iI ((opT lr lt L (FR V1_28 R1_28 35) r_28 pr g (-1)).1 0))]
      have hbw := (opT_b (r := lr) (t := lt) (L := L) (f := FR V1_28 R1_28 35) (m := r_28) (pr := pr) (g := g) (y := -1) (by decide)).1 0
      refine x_i2l C dX11_drawn_34 (by first | assumption | (constructor <;> omega)) ?_
      refine x_wid (cells' := 8) (slots' := 24) (by first | decide | omega) (by first | decide | omega) ?_
      refine x_lret C dX11_drawn_35 ⟨_, _, _, _, rfl, rfl, ?_, ?_, ?_, ?_, ?_⟩
      · exact hq28_0.1
      · exact fun q a => (hq31_0 q (by omega)).trans (hq28_0.2.1 q (by omega))
      · exact hq28_0.2.2.1
      · exact hq31_1
      · exact Or.inr ⟨by omega, by omega, dw_eq hq28_0⟩
    · skip
      refine x_ldc2 C dX11_drawn_20 q_35_21 (w := -4611686018427387904) (by decide) ?_
      refine x_wid (cells' := 8) (slots' := 24) (by first | decide | omega) (by first | decide | omega) ?_
      refine x_lret C dX11_drawn_23 ⟨_, _, _, _, rfl, rfl, ?_, ?_, ?_, ?_, ?_⟩
      · exact Nat.le_refl _
      · exact fun _ _ => rfl
      · exact fun _ _ => rfl
      · exact hI
      · exact Or.inl ⟨by omega, rfl⟩
