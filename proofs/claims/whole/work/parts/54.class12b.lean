
set_option maxRecDepth 100000 in
set_option maxHeartbeats 4000000 in
theorem m_X6_open (G : GS) (n : Nat) (V : Nat → Int → Int) (R : Nat → Int → Option Nat) (sv : Nat) (lr : Int) (lt : Int) (L : Int) (f : Int → Int → Int) (m : Int) (g : Int) (pr : Int → Int) (kf : Int) (hn : 67 ≤ n) (hLR : LR R) (hsv : sv = 11 ∨ sv = 23) (ok : SwOk V sv lr lt L f m g pr) (hru : RulesOk pr) (hkf : 0 ≤ kf ∧ kf ≤ 2) (h12 : V (sv + 8) 12 = 0) : Cn G yX6_open cX6_open 6 (some .int) (rmk 5 0 0 135) [.ref (aG G sv), .int (iI kf)] n V R 0 0 (fun vv uu => ∃ (V1 : Nat → Int → Int), vv = some (.int (iI ((dpR (bwC lr lt L f m g pr) (pr 6) kf (-1)).1 0))) ∧ uu = (n, V1, R) ∧ (∀ q, q ≠ sv → q < sv + 6 ∨ sv + 11 < q → V1 q = V q) ∧ (∀ z, z ≠ 1 → z ≠ 2 → V1 sv z = V sv z) ∧ (V1 sv 1 = 1) ∧ (V1 (sv + 8) 12 = 0) ∧ (OpenOk V1 sv lr lt L f m g pr kf)) := by
  have hL8 := ok.L
  refine Cn.of (by decide) (Nat.le_of_ble_eq_true rfl) (fun K C hct => ?_)
  show Xw K G 0 0 _ n V R 0 [(0, .ref (aG G sv)), (1, .int (iI kf))] []
  refine x_bipush C dX6_open_0 (w := 11) (by decide) ?_
  refine x_istore_n C dX6_open_2 rfl (by decide) (lv' := [(0, .ref (aG G sv)), (1, .int (iI kf)), (2, .int (iI 11))]) rfl ?_
  have lp_3 : ∀ (fuel : Nat) (y : Int) (V3 : Nat → Int → Int), (-1 ≤ y ∧ y ≤ 11) → (∀ q, q < sv + 6 ∨ sv + 11 < q → V3 q = V q) → (OO (V3 (sv + 8)) (V3 (sv + 9)) (V3 (sv + 10)) (bwC lr lt L f m g pr) (bestG lr lt L f m g pr) (pr 6) kf (y)) → ((2 : Int) + y) < (fuel : Int) → Xw K G 0 0 (EndQ K G 0 0 (fun vv uu => ∃ (V1 : Nat → Int → Int), vv = some (.int (iI ((dpR (bwC lr lt L f m g pr) (pr 6) kf (-1)).1 0))) ∧ uu = (n, V1, R) ∧ (∀ q, q ≠ sv → q < sv + 6 ∨ sv + 11 < q → V1 q = V q) ∧ (∀ z, z ≠ 1 → z ≠ 2 → V1 sv z = V sv z) ∧ (V1 sv 1 = 1) ∧ (V1 (sv + 8) 12 = 0) ∧ (OpenOk V1 sv lr lt L f m g pr kf))) n V3 R 3 [(0, .ref (aG G sv)), (1, .int (iI kf)), (2, .int (iI y))] [] := by
    intro fuel3
    induction fuel3 with
    | zero => intro y V3 hyy hF3 hO3 hfu3; exfalso; omega
    | succ fuel3 ih3 =>
      intro y V3 hyy hF3 hO3 hfu3
      have hob := dpR_bd lr lt L f m g pr kf hyy
      have hob1 := hob.1 (y + 1)
      refine x_iload_n C 2 dX6_open_3 rfl rfl ?_
      refine x_if_lt C dX6_open_4 (tgt := 148) (by decide) (by first | assumption | (constructor <;> omega)) (fun h4 => ?_) (fun h4 => ?_)
      · skip
        refine x_aload_n C 0 dX6_open_148 rfl rfl ?_
        refine x_iload_n C 1 dX6_open_149 rfl rfl ?_
        refine x_runU (r_callV C ok_Saw sv (ltS hsv hn (by decide) : sv + 0 < n) (tbS_0 hsv) (ce_X6_listRows) (m_X6_listRows G n V3 R (sv) ((dpR (bwC lr lt L f m g pr) (pr 6) kf (-1)).2) (kf) hn hLR (by first | assumption | omega | decide) (by exact fun z a b => by have h := (hO3.2 z (by omega) b).1; have hx := hob.2.1 z; rw [show y = -1 by omega] at h hx; exact ⟨h, hx.1, hx.2.1⟩) (by first | assumption | omega | decide)) rfl dX6_open_150 q_36_20 q_36_21 q_36_22 rfl rfl ⟨Nat.le_of_ble_eq_true rfl, Nat.le_of_ble_eq_true rfl⟩ ⟨rfl, rfl⟩ ⟨Nat.le_of_ble_eq_true rfl, Nat.le_of_ble_eq_true rfl⟩ (Nat.le_of_ble_eq_true rfl)) (fun v150 u150 hp150 => ?_)
        obtain ⟨V1_150, rfl, rfl, hq150_0, hq150_1, hq150_2⟩ := hp150
        show Xw K G 0 0 _ n V1_150 R 153 [(0, .ref (aG G sv)), (1, .int (iI kf)), (2, .int (iI y))] []
        refine x_aload_n C 0 dX6_open_153 rfl rfl ?_
        refine x_iconst C dX6_open_154 ?_
        refine x_puti C ok_Saw sv 1 dX6_open_155 (ltS hsv hn (by decide) : sv + 0 < n) (tbS_0 hsv) (by decide) rfl q_2_11 rfl rfl (Or.inr ⟨rfl, by first | exact Or.inl rfl | exact Or.inr rfl | omega⟩) (by first | assumption | (constructor <;> omega)) (kz := 1) rfl ?_
        refine x_aload_n C 0 dX6_open_158 rfl rfl ?_
        refine x_getr C ok_Saw sv 12 (d := (sv + 8)) dX6_open_159 (ltS hsv hn (by decide) : sv + 0 < n) (tbS_0 hsv) (by decide) rfl q_3_1 rfl (kz := 12) rfl (lrS_12 hsv hLR) ?_
        refine x_iconst C dX6_open_162 ?_
        refine x_iald C (sv + 8) dX6_open_163 (ltS hsv hn (by decide)) (tbS_8 hsv) (by refine ⟨?_, ?_⟩ <;> omega) (fun rg163 => ?_)
        refine x_top (b := (V1_150 (sv + 8) 0)) (by first | rfl | (simp only [u2_at]; simp) | (simp only [u2_at]; first | (rw [if_neg (by omega)]) | omega) | (repeat rw [u2_at, if_neg (by omega)])) ?_
        refine x_iret C dX6_open_164 ⟨_, (by refine congrArg (fun z => some (Value.int (iI z))) ?_; rw [hq150_0 (sv + 8) (by omega) (by omega)]; have h := hO3.1 0 (by omega) (by decide); rw [show y = -1 by omega] at h; exact h), rfl, ?_, ?_, ?_, ?_, ?_⟩
        · exact fun q a b => by rw [u2_n a, hq150_0 q a (by omega)]; exact hF3 q b
        · exact fun z a b => by rw [u2_at, if_neg (by omega), hq150_1 z b, hF3 sv (by omega)]
        · rw [u2_s, u1_s]
        · rw [u2_n (by omega), hq150_0 (sv + 8) (by omega) (by omega)]; have h := hO3.1 12 (by omega) (by decide); rw [h]; exact hob.2.2 12 (by decide)
        · exact open_ok (by rw [show (-1 : Int) = y by omega]; exact hO3) (by rw [u2_n (by omega)]; exact hq150_0 _ (by omega) (by omega)) (by rw [u2_n (by omega)]; exact hq150_0 _ (by omega) (by omega)) (by rw [u2_at, if_neg (by omega)]; exact hq150_2.1) (by rw [u2_n (by omega)]; exact hq150_2.2)
      · skip
        refine x_aload_n C 0 dX6_open_7 rfl rfl ?_
        refine x_getr C ok_Saw sv 12 (d := (sv + 8)) dX6_open_8 (ltS hsv hn (by decide) : sv + 0 < n) (tbS_0 hsv) (by decide) rfl q_3_1 rfl (kz := 12) rfl (lrS_12 hsv hLR) ?_
        refine x_iload_n C 2 dX6_open_11 rfl rfl ?_
        refine x_aload_n C 0 dX6_open_12 rfl rfl ?_
        refine x_getr C ok_Saw sv 12 (d := (sv + 8)) dX6_open_13 (ltS hsv hn (by decide) : sv + 0 < n) (tbS_0 hsv) (by decide) rfl q_3_1 rfl (kz := 12) rfl (lrS_12 hsv hLR) ?_
        refine x_iload_n C 2 dX6_open_16 rfl rfl ?_
        refine x_iconst C dX6_open_17 ?_
        refine x_iadd C dX6_open_18 ?_
        refine x_iald C (sv + 8) dX6_open_19 (ltS hsv hn (by decide)) (tbS_8 hsv) (by refine ⟨?_, ?_⟩ <;> omega) (fun rg19 => ?_)
        refine x_iast C (sv + 8) dX6_open_20 (ltS hsv hn (by decide)) (tbS_8 hsv) (by refine ⟨?_, ?_⟩ <;> omega) (by first | assumption | (constructor <;> omega)) ?_
        refine x_aload_n C 0 dX6_open_21 rfl rfl ?_
        refine x_getr C ok_Saw sv 13 (d := (sv + 9)) dX6_open_22 (ltS hsv hn (by decide) : sv + 0 < n) (tbS_0 hsv) (by decide) rfl q_3_2 rfl (kz := 13) rfl (lrS_13 hsv hLR) ?_
        refine x_iload_n C 2 dX6_open_25 rfl rfl ?_
        refine x_iconst C dX6_open_26 ?_
        refine x_iast C (sv + 9) dX6_open_27 (ltS hsv hn (by decide)) (tbS_9 hsv) (by refine ⟨?_, ?_⟩ <;> omega) (by first | assumption | (constructor <;> omega)) ?_
        refine x_iconst C dX6_open_28 ?_
        refine x_istore_n C dX6_open_29 rfl (by decide) (lv' := [(0, .ref (aG G sv)), (1, .int (iI kf)), (2, .int (iI y)), (3, .int (iI 1))]) rfl ?_
        have lp_30 : ∀ (fuel : Nat) (k : Int) (V4 : Nat → Int → Int), (1 ≤ k ∧ k ≤ 5) → (∀ q, q < sv + 6 ∨ sv + 11 < q → V4 q = V q) → (OI (V4 (sv + 8)) (V4 (sv + 9)) (V4 (sv + 10)) (bwC lr lt L f m g pr) (bestG lr lt L f m g pr) (pr 6) kf (dpR (bwC lr lt L f m g pr) (pr 6) kf (y)).1 (dpR (bwC lr lt L f m g pr) (pr 6) kf (y)).2 y (k - 1)) → ((6 : Int) - k) < (fuel : Int) → Xw K G 0 0 (EndQ K G 0 0 (fun vv uu => ∃ (V1 : Nat → Int → Int), vv = some (.int (iI ((dpR (bwC lr lt L f m g pr) (pr 6) kf (-1)).1 0))) ∧ uu = (n, V1, R) ∧ (∀ q, q ≠ sv → q < sv + 6 ∨ sv + 11 < q → V1 q = V q) ∧ (∀ z, z ≠ 1 → z ≠ 2 → V1 sv z = V sv z) ∧ (V1 sv 1 = 1) ∧ (V1 (sv + 8) 12 = 0) ∧ (OpenOk V1 sv lr lt L f m g pr kf))) n V4 R 30 [(0, .ref (aG G sv)), (1, .int (iI kf)), (2, .int (iI y)), (3, .int (iI k))] [] := by
          intro fuel30
          induction fuel30 with
          | zero => intro k V4 hk hF4 hO4 hfu30; exfalso; omega
          | succ fuel30 ih30 =>
            intro k V4 hk hF4 hO4 hfu30
            have ok4 := ok.fr2 (fun z _ => by rw [hF4 sv (by omega)]) (fun q a => hF4 q (by omega))
            refine x_iload_n C 3 dX6_open_30 rfl rfl ?_
            refine x_iconst C dX6_open_31 ?_
            refine x_icmp_gt C dX6_open_32 (tgt := 142) (by decide) (by first | assumption | (constructor <;> omega)) (by first | assumption | (constructor <;> omega)) (fun h32 => ?_) (fun h32 => ?_)
            · skip
              refine x_iinc C 2 dX6_open_142 rfl (by decide) (lv' := [(0, .ref (aG G sv)), (1, .int (iI kf)), (2, .int (iI (y + (-1)))), (3, .int (iI k))]) rfl ?_
              refine x_goto C dX6_open_145 (tgt := 3) (by decide) ?_
              refine x_sub [0, 1, 2] (lv' := [(0, .ref (aG G sv)), (1, .int (iI kf)), (2, .int (iI (y + (-1))))]) rfl ?_
              exact ih3 ((y + (-1))) (V4) (by omega) (by assumption) (by rw [show y + -1 = y - 1 by omega]; exact hO4.out hk.1 hk.2 (by omega) (by omega)) (by omega)
            · skip
              refine x_iload_n C 2 dX6_open_35 rfl rfl ?_
              refine x_iload_n C 3 dX6_open_36 rfl rfl ?_
              refine x_iadd C dX6_open_37 ?_
              refine x_bipush C dX6_open_38 (w := 12) (by decide) ?_
              refine x_icmp_gt C dX6_open_40 (tgt := 142) (by decide) (by first | assumption | (constructor <;> omega)) (by first | assumption | (constructor <;> omega)) (fun h40 => ?_) (fun h40 => ?_)
              · skip
                refine x_iinc C 2 dX6_open_142 rfl (by decide) (lv' := [(0, .ref (aG G sv)), (1, .int (iI kf)), (2, .int (iI (y + (-1)))), (3, .int (iI k))]) rfl ?_
                refine x_goto C dX6_open_145 (tgt := 3) (by decide) ?_
                refine x_sub [0, 1, 2] (lv' := [(0, .ref (aG G sv)), (1, .int (iI kf)), (2, .int (iI (y + (-1))))]) rfl ?_
                exact ih3 ((y + (-1))) (V4) (by omega) (by assumption) (by rw [show y + -1 = y - 1 by omega]; exact hO4.out hk.1 hk.2 (by omega) (by omega)) (by omega)
              · skip
                refine x_aload_n C 0 dX6_open_43 rfl rfl ?_
                refine x_getr C ok_Saw sv 5 (d := (sv + 1)) dX6_open_44 (ltS hsv hn (by decide) : sv + 0 < n) (tbS_0 hsv) (by decide) rfl q_2_15 rfl (kz := 5) rfl (lrS_5 hsv hLR) ?_
                refine x_bipush C dX6_open_47 (w := 6) (by decide) ?_
                refine x_iald C (sv + 1) dX6_open_49 (ltS hsv hn (by decide)) (tbS_1 hsv) (by refine ⟨?_, ?_⟩ <;> omega) (fun rg49 => ?_)
                refine x_top (b := (pr 6)) (by exact ok4.r 6 (by decide) (by decide)) ?_
                refine x_iload_n C 3 dX6_open_50 rfl rfl ?_
                refine x_runU (r_callSN C (ce_X11_has) (m_X11_has G n V4 R (pr 6) (k)) dX6_open_51 (List.mem_of_getElem? (i := 24) rfl) q_36_17 rfl rfl ⟨Nat.le_of_ble_eq_true rfl, Nat.le_of_ble_eq_true rfl⟩ ⟨rfl, rfl⟩ ⟨Nat.le_of_ble_eq_true rfl, Nat.le_of_ble_eq_true rfl⟩ (Nat.le_of_ble_eq_true rfl)) (fun v51 u51 hp51 => ?_)
                obtain ⟨rfl, rfl⟩ := hp51
                show Xw K G 0 0 _ n V4 R 54 [(0, .ref (aG G sv)), (1, .int (iI kf)), (2, .int (iI y)), (3, .int (iI k))] [.int (iI (bI (inS (pr 6) k)))]
                refine x_ifne_b C dX6_open_54 (tgt := 60) (by decide) (fun h54 => ?_) (fun h54 => ?_)
                · skip
                  refine x_aload_n C 0 dX6_open_60 rfl rfl ?_
                  refine x_iload_n C 2 dX6_open_61 rfl rfl ?_
                  refine x_iload_n C 3 dX6_open_62 rfl rfl ?_
                  refine x_runU (r_callV C ok_Saw sv (ltS hsv hn (by decide) : sv + 0 < n) (tbS_0 hsv) (ce_X6_bestPiece) (m_X6_bestPiece G n V4 R (sv) (lr) (lt) (L) (f) (m) (g) (pr) (y) (k) hn hLR (by first | assumption | omega | decide) (by exact ok4) (by first | assumption | omega | decide) (by first | assumption | omega | decide) (by exact hru.2.1)) rfl dX6_open_63 q_36_19 q_32_7 q_32_8 rfl rfl ⟨Nat.le_of_ble_eq_true rfl, Nat.le_of_ble_eq_true rfl⟩ ⟨rfl, rfl⟩ ⟨Nat.le_of_ble_eq_true rfl, Nat.le_of_ble_eq_true rfl⟩ (Nat.le_of_ble_eq_true rfl)) (fun v63 u63 hp63 => ?_)
                  obtain ⟨V1_63, rfl, rfl, hq63_0, hq63_1, hq63_2, hq63_3⟩ := hp63
                  show Xw K G 0 0 _ n V1_63 R 66 [(0, .ref (aG G sv)), (1, .int (iI kf)), (2, .int (iI y)), (3, .int (iI k))] [.ref (aG G (sv + 7))]
                  obtain ⟨hbw, hbw1, hbw2⟩ := hq63_1.c hru ⟨by omega, by omega⟩ hL8
                  have hO5 : OI (V1_63 (sv + 8)) (V1_63 (sv + 9)) (V1_63 (sv + 10)) (bwC lr lt L f m g pr) (bestG lr lt L f m g pr) (pr 6) kf (dpR (bwC lr lt L f m g pr) (pr 6) kf (y)).1 (dpR (bwC lr lt L f m g pr) (pr 6) kf (y)).2 y (k - 1) := by rw [hq63_0 (sv + 8) (by omega) (by omega), hq63_0 (sv + 9) (by omega) (by omega), hq63_0 (sv + 10) (by omega) (by omega)]; exact hO4
                  have hF5 := hob.1 (y + k + kf)
                  refine x_astore C dX6_open_66 (by decide) (lv' := [(0, .ref (aG G sv)), (1, .int (iI kf)), (2, .int (iI y)), (3, .int (iI k)), (4, .ref (aG G (sv + 7)))]) rfl ?_
                  refine x_aload C 4 dX6_open_68 rfl ?_
                  refine x_geti C ok_Piece (sv + 7) 8 dX6_open_70 (ltS hsv hn (by decide)) (tbS_7 hsv) (by decide) rfl q_32_10 rfl (kz := 8) rfl (fun rg70 => ?_)
                  refine x_aload_n C 0 dX6_open_73 rfl rfl ?_
                  refine x_getr C ok_Saw sv 12 (d := (sv + 8)) dX6_open_74 (ltS hsv hn (by decide) : sv + 0 < n) (tbS_0 hsv) (by decide) rfl q_3_1 rfl (kz := 12) rfl (lrS_12 hsv hLR) ?_
                  refine x_bipush C dX6_open_77 (w := 12) (by decide) ?_
                  refine x_iload_n C 2 dX6_open_79 rfl rfl ?_
                  refine x_iload_n C 3 dX6_open_80 rfl rfl ?_
                  refine x_iadd C dX6_open_81 ?_
                  refine x_iload_n C 1 dX6_open_82 rfl rfl ?_
                  refine x_iadd C dX6_open_83 ?_
                  refine x_min C dX6_open_84 q_28_23 q_10_5 q_5_22 q_10_6 ⟨Nat.le_of_ble_eq_true rfl, Nat.le_of_ble_eq_true rfl⟩ ⟨Nat.zero_le _, Nat.zero_le _⟩ (by first | assumption | (constructor <;> omega)) (by first | assumption | (constructor <;> omega)) ?_
                  refine x_iald C (sv + 8) dX6_open_87 (ltS hsv hn (by decide)) (tbS_8 hsv) (by refine ⟨?_, ?_⟩ <;> omega) (fun rg87 => ?_)
                  refine x_top (b := ((dpR (bwC lr lt L f m g pr) (pr 6) kf (y)).1 (y + k + kf))) (by exact hO5.at hob.2 (by omega) (by omega)) ?_
                  refine x_iadd C dX6_open_88 ?_
                  refine x_istore C dX6_open_89 (by decide) (lv' := [(0, .ref (aG G sv)), (1, .int (iI kf)), (2, .int (iI y)), (3, .int (iI k)), (4, .ref (aG G (sv + 7))), (5, .int (iI ((V1_63 (sv + 7) 8) + ((dpR (bwC lr lt L f m g pr) (pr 6) kf (y)).1 (y + k + kf)))))]) rfl ?_
                  refine x_aload C 4 dX6_open_91 rfl ?_
                  refine x_geti C ok_Piece (sv + 7) 8 dX6_open_93 (ltS hsv hn (by decide)) (tbS_7 hsv) (by decide) rfl q_32_10 rfl (kz := 8) rfl (fun rg93 => ?_)
                  refine x_if_le C dX6_open_96 (tgt := 136) (by decide) (by first | assumption | (constructor <;> omega)) (fun h96 => ?_) (fun h96 => ?_)
                  · skip
                    refine x_iinc C 3 dX6_open_136 rfl (by decide) (lv' := [(0, .ref (aG G sv)), (1, .int (iI kf)), (2, .int (iI y)), (3, .int (iI (k + 1))), (4, .ref (aG G (sv + 7))), (5, .int (iI ((V1_63 (sv + 7) 8) + ((dpR (bwC lr lt L f m g pr) (pr 6) kf (y)).1 (y + k + kf)))))]) rfl ?_
                    refine x_goto C dX6_open_139 (tgt := 30) (by decide) ?_
                    refine x_sub [0, 1, 2, 3] (lv' := [(0, .ref (aG G sv)), (1, .int (iI kf)), (2, .int (iI y)), (3, .int (iI (k + 1)))]) rfl ?_
                    exact ih30 ((k + 1)) (V1_63) (by omega) (by first | exact hF4 | exact fun q a => by rw [hq63_0 q (by omega) (by omega)]; exact hF4 q a | exact fun q a => by rw [u2_n (by omega), u2_n (by omega), u2_n (by omega), hq63_0 q (by omega) (by omega)]; exact hF4 q a) (by rw [show k + 1 - 1 = k by omega]; first | exact hO4.no hk.1 (fun q => (by assumption : ¬ inS (pr 6) k) q.2.1) | exact hO5.no hk.1 (fun q => by have := q.2.2.1; omega) | exact hO5.no hk.1 (hO5.lt (by omega) hbw (by assumption)) | (rw [u2_n (show sv + 8 ≠ sv + 10 by omega), u2_n (show sv + 8 ≠ sv + 9 by omega), u2_s, u2_n (show sv + 9 ≠ sv + 10 by omega), u2_s, u2_n (show sv + 9 ≠ sv + 8 by omega), u2_s, u2_n (show sv + 10 ≠ sv + 9 by omega), u2_n (show sv + 10 ≠ sv + 8 by omega)]; exact hO5.yes hk.1 (by omega) (by assumption) hbw (by assumption) (by assumption) (hq63_1.g (by assumption)))) (by omega)
                  · skip
                    refine x_iload C 5 dX6_open_99 rfl ?_
                    refine x_aload_n C 0 dX6_open_101 rfl rfl ?_
                    refine x_getr C ok_Saw sv 12 (d := (sv + 8)) dX6_open_102 (ltS hsv hn (by decide) : sv + 0 < n) (tbS_0 hsv) (by decide) rfl q_3_1 rfl (kz := 12) rfl (lrS_12 hsv hLR) ?_
                    refine x_iload_n C 2 dX6_open_105 rfl rfl ?_
                    refine x_iald C (sv + 8) dX6_open_106 (ltS hsv hn (by decide)) (tbS_8 hsv) (by refine ⟨?_, ?_⟩ <;> omega) (fun rg106 => ?_)
                    refine x_icmp_lt C dX6_open_107 (tgt := 136) (by decide) (by first | assumption | (constructor <;> omega)) (by first | assumption | (constructor <;> omega)) (fun h107 => ?_) (fun h107 => ?_)
                    · skip
                      refine x_iinc C 3 dX6_open_136 rfl (by decide) (lv' := [(0, .ref (aG G sv)), (1, .int (iI kf)), (2, .int (iI y)), (3, .int (iI (k + 1))), (4, .ref (aG G (sv + 7))), (5, .int (iI ((V1_63 (sv + 7) 8) + ((dpR (bwC lr lt L f m g pr) (pr 6) kf (y)).1 (y + k + kf)))))]) rfl ?_
                      refine x_goto C dX6_open_139 (tgt := 30) (by decide) ?_
                      refine x_sub [0, 1, 2, 3] (lv' := [(0, .ref (aG G sv)), (1, .int (iI kf)), (2, .int (iI y)), (3, .int (iI (k + 1)))]) rfl ?_
                      exact ih30 ((k + 1)) (V1_63) (by omega) (by first | exact hF4 | exact fun q a => by rw [hq63_0 q (by omega) (by omega)]; exact hF4 q a | exact fun q a => by rw [u2_n (by omega), u2_n (by omega), u2_n (by omega), hq63_0 q (by omega) (by omega)]; exact hF4 q a) (by rw [show k + 1 - 1 = k by omega]; first | exact hO4.no hk.1 (fun q => (by assumption : ¬ inS (pr 6) k) q.2.1) | exact hO5.no hk.1 (fun q => by have := q.2.2.1; omega) | exact hO5.no hk.1 (hO5.lt (by omega) hbw (by assumption)) | (rw [u2_n (show sv + 8 ≠ sv + 10 by omega), u2_n (show sv + 8 ≠ sv + 9 by omega), u2_s, u2_n (show sv + 9 ≠ sv + 10 by omega), u2_s, u2_n (show sv + 9 ≠ sv + 8 by omega), u2_s, u2_n (show sv + 10 ≠ sv + 9 by omega), u2_n (show sv + 10 ≠ sv + 8 by omega)]; exact hO5.yes hk.1 (by omega) (by assumption) hbw (by assumption) (by assumption) (hq63_1.g (by assumption)))) (by omega)
                    · skip
                      have hgr := (hq63_1.r hL8 (by omega)).2.2.2.2
                      refine x_aload_n C 0 dX6_open_110 rfl rfl ?_
                      refine x_getr C ok_Saw sv 12 (d := (sv + 8)) dX6_open_111 (ltS hsv hn (by decide) : sv + 0 < n) (tbS_0 hsv) (by decide) rfl q_3_1 rfl (kz := 12) rfl (lrS_12 hsv hLR) ?_
                      refine x_iload_n C 2 dX6_open_114 rfl rfl ?_
                      refine x_iload C 5 dX6_open_115 rfl ?_
                      refine x_iast C (sv + 8) dX6_open_117 (ltS hsv hn (by decide)) (tbS_8 hsv) (by refine ⟨?_, ?_⟩ <;> omega) (by first | assumption | (constructor <;> omega)) ?_
                      refine x_aload_n C 0 dX6_open_118 rfl rfl ?_
                      refine x_getr C ok_Saw sv 13 (d := (sv + 9)) dX6_open_119 (ltS hsv hn (by decide) : sv + 0 < n) (tbS_0 hsv) (by decide) rfl q_3_2 rfl (kz := 13) rfl (lrS_13 hsv hLR) ?_
                      refine x_iload_n C 2 dX6_open_122 rfl rfl ?_
                      refine x_iload_n C 3 dX6_open_123 rfl rfl ?_
                      refine x_iast C (sv + 9) dX6_open_124 (ltS hsv hn (by decide)) (tbS_9 hsv) (by refine ⟨?_, ?_⟩ <;> omega) (by first | assumption | (constructor <;> omega)) ?_
                      refine x_aload_n C 0 dX6_open_125 rfl rfl ?_
                      refine x_getr C ok_Saw sv 14 (d := (sv + 10)) dX6_open_126 (ltS hsv hn (by decide) : sv + 0 < n) (tbS_0 hsv) (by decide) rfl q_3_3 rfl (kz := 14) rfl (lrS_14 hsv hLR) ?_
                      refine x_iload_n C 2 dX6_open_129 rfl rfl ?_
                      refine x_aload C 4 dX6_open_130 rfl ?_
                      refine x_geti C ok_Piece (sv + 7) 4 dX6_open_132 (ltS hsv hn (by decide)) (tbS_7 hsv) (by decide) rfl q_33_0 rfl (kz := 4) rfl (fun rg132 => ?_)
                      refine x_top (b := (V1_63 (sv + 7) 4)) (by first | rfl | (simp only [u2_at]; simp) | (simp only [u2_at]; first | (rw [if_neg (by omega)]) | omega) | (repeat rw [u2_at, if_neg (by omega)])) ?_
                      refine x_iast C (sv + 10) dX6_open_135 (ltS hsv hn (by decide)) (tbS_10 hsv) (by refine ⟨?_, ?_⟩ <;> omega) (by first | assumption | (constructor <;> omega)) ?_
                      refine x_iinc C 3 dX6_open_136 rfl (by decide) (lv' := [(0, .ref (aG G sv)), (1, .int (iI kf)), (2, .int (iI y)), (3, .int (iI (k + 1))), (4, .ref (aG G (sv + 7))), (5, .int (iI ((V1_63 (sv + 7) 8) + ((dpR (bwC lr lt L f m g pr) (pr 6) kf (y)).1 (y + k + kf)))))]) rfl ?_
                      refine x_goto C dX6_open_139 (tgt := 30) (by decide) ?_
                      refine x_sub [0, 1, 2, 3] (lv' := [(0, .ref (aG G sv)), (1, .int (iI kf)), (2, .int (iI y)), (3, .int (iI (k + 1)))]) rfl ?_
                      exact ih30 ((k + 1)) ((u2 (u2 (u2 V1_63 (sv + 8) y ((V1_63 (sv + 7) 8) + ((dpR (bwC lr lt L f m g pr) (pr 6) kf (y)).1 (y + k + kf)))) (sv + 9) y k) (sv + 10) y (V1_63 (sv + 7) 4))) (by omega) (by first | exact hF4 | exact fun q a => by rw [hq63_0 q (by omega) (by omega)]; exact hF4 q a | exact fun q a => by rw [u2_n (by omega), u2_n (by omega), u2_n (by omega), hq63_0 q (by omega) (by omega)]; exact hF4 q a) (by rw [show k + 1 - 1 = k by omega]; first | exact hO4.no hk.1 (fun q => (by assumption : ¬ inS (pr 6) k) q.2.1) | exact hO5.no hk.1 (fun q => by have := q.2.2.1; omega) | exact hO5.no hk.1 (hO5.lt (by omega) hbw (by assumption)) | (rw [u2_n (show sv + 8 ≠ sv + 10 by omega), u2_n (show sv + 8 ≠ sv + 9 by omega), u2_s, u2_n (show sv + 9 ≠ sv + 10 by omega), u2_s, u2_n (show sv + 9 ≠ sv + 8 by omega), u2_s, u2_n (show sv + 10 ≠ sv + 9 by omega), u2_n (show sv + 10 ≠ sv + 8 by omega)]; exact hO5.yes hk.1 (by omega) (by assumption) hbw (by assumption) (by assumption) (hq63_1.g (by assumption)))) (by omega)
                · skip
                  refine x_goto C dX6_open_57 (tgt := 136) (by decide) ?_
                  refine x_iinc C 3 dX6_open_136 rfl (by decide) (lv' := [(0, .ref (aG G sv)), (1, .int (iI kf)), (2, .int (iI y)), (3, .int (iI (k + 1)))]) rfl ?_
                  refine x_goto C dX6_open_139 (tgt := 30) (by decide) ?_
                  exact ih30 ((k + 1)) (V4) (by omega) (by first | exact hF4 | exact fun q a => by rw [hq63_0 q (by omega) (by omega)]; exact hF4 q a | exact fun q a => by rw [u2_n (by omega), u2_n (by omega), u2_n (by omega), hq63_0 q (by omega) (by omega)]; exact hF4 q a) (by rw [show k + 1 - 1 = k by omega]; first | exact hO4.no hk.1 (fun q => (by assumption : ¬ inS (pr 6) k) q.2.1) | exact hO5.no hk.1 (fun q => by have := q.2.2.1; omega) | exact hO5.no hk.1 (hO5.lt (by omega) hbw (by assumption)) | (rw [u2_n (show sv + 8 ≠ sv + 10 by omega), u2_n (show sv + 8 ≠ sv + 9 by omega), u2_s, u2_n (show sv + 9 ≠ sv + 10 by omega), u2_s, u2_n (show sv + 9 ≠ sv + 8 by omega), u2_s, u2_n (show sv + 10 ≠ sv + 9 by omega), u2_n (show sv + 10 ≠ sv + 8 by omega)]; exact hO5.yes hk.1 (by omega) (by assumption) hbw (by assumption) (by assumption) (hq63_1.g (by assumption)))) (by omega)
        exact lp_30 (((6 : Int) - 1).toNat + 1) (1) ((u2 (u2 V3 (sv + 8) y (V3 (sv + 8) (y + 1))) (sv + 9) y 0)) (by omega) (by exact fun q a => by rw [u2_n (by omega), u2_n (by omega)]; exact hF3 q a) (by rw [u2_n (show sv + 8 ≠ sv + 9 by omega), u2_s, u2_s, u2_n (show sv + 9 ≠ sv + 8 by omega), u2_n (show sv + 10 ≠ sv + 9 by omega), u2_n (show sv + 10 ≠ sv + 8 by omega)]; exact hO3.in (by omega)) (by omega)
  exact lp_3 (((2 : Int) + 11).toNat + 1) (11) (V) (by omega) (by exact fun _ _ => rfl) (by exact OO.zero h12) (by omega)
set_option maxRecDepth 100000 in
set_option maxHeartbeats 4000000 in
theorem m_X6_pieceAt (G : GS) (n : Nat) (V : Nat → Int → Int) (R : Nat → Int → Option Nat) (sv : Nat) (lr : Int) (lt : Int) (L : Int) (f : Int → Int → Int) (m : Int) (g : Int) (pr : Int → Int) (k : Int) (rw_ : Int) (th : Int) (hn : 67 ≤ n) (hLR : LR R) (hsv : sv = 11 ∨ sv = 23) (ok : SwOk V sv lr lt L f m g pr) (hru : RulesOk pr) (hk : 0 ≤ k ∧ k ≤ 11) (hrw : 0 ≤ rw_ ∧ rw_ + th ≤ 12) (hth : 1 ≤ th ∧ th ≤ 4) (e1 : V (sv + 11) k = rw_) (e2 : V (sv + 9) rw_ = th) : Cn G yX6_pieceAt cX6_pieceAt 2 (some (.object "LogSawyer$Piece")) (rmk 5 0 0 135) [.ref (aG G sv), .int (iI k)] n V R 0 0 (fun vv uu => ∃ (V1 : Nat → Int → Int), vv = some (.ref (aG G (sv + 7))) ∧ uu = (n, V1, R) ∧ (∀ q, q ≠ sv + 6 → q ≠ sv + 7 → V1 q = V q) ∧ (BestB lr lt L f m g pr rw_ th (V1 (sv + 7) 8) (V1 (sv + 7) 7) (V1 (sv + 7) 0) (V1 (sv + 7) 1) (V1 (sv + 7) 2) (V1 (sv + 7) 3) (V1 (sv + 7) 4))) := by
  refine Cn.of (by decide) (Nat.le_of_ble_eq_true rfl) (fun K C hct => ?_)
  show Xw K G 0 0 _ n V R 0 [(0, .ref (aG G sv)), (1, .int (iI k))] []
  refine x_aload_n C 0 dX6_pieceAt_0 rfl rfl ?_
  refine x_aload_n C 0 dX6_pieceAt_1 rfl rfl ?_
  refine x_iload_n C 1 dX6_pieceAt_2 rfl rfl ?_
  refine x_runU (r_callV C ok_Saw sv (ltS hsv hn (by decide) : sv + 0 < n) (tbS_0 hsv) (ce_X6_rowAt) (m_X6_rowAt G n V R (sv) (k) hn hLR (by first | assumption | omega | decide) (by first | assumption | omega | decide)) rfl dX6_pieceAt_3 q_37_8 q_37_1 q_37_2 rfl rfl ⟨Nat.le_of_ble_eq_true rfl, Nat.le_of_ble_eq_true rfl⟩ ⟨rfl, rfl⟩ ⟨Nat.le_of_ble_eq_true rfl, Nat.le_of_ble_eq_true rfl⟩ (Nat.le_of_ble_eq_true rfl)) (fun v3 u3 hp3 => ?_)
  obtain ⟨rfl, rfl⟩ := hp3
  show Xw K G 0 0 _ n V R 6 [(0, .ref (aG G sv)), (1, .int (iI k))] [.int (iI (V (sv + 11) k)), .ref (aG G sv)]
  refine x_top (b := rw_) (by exact e1) ?_
  refine x_aload_n C 0 dX6_pieceAt_6 rfl rfl ?_
  refine x_iload_n C 1 dX6_pieceAt_7 rfl rfl ?_
  refine x_runU (r_callV C ok_Saw sv (ltS hsv hn (by decide) : sv + 0 < n) (tbS_0 hsv) (ce_X6_thicknessAt) (m_X6_thicknessAt G n V R (sv) (k) hn hLR (by first | assumption | omega | decide) (by first | assumption | omega | decide) (by first | assumption | omega | decide)) rfl dX6_pieceAt_8 q_39_16 q_37_5 q_37_6 rfl rfl ⟨Nat.le_of_ble_eq_true rfl, Nat.le_of_ble_eq_true rfl⟩ ⟨rfl, rfl⟩ ⟨Nat.le_of_ble_eq_true rfl, Nat.le_of_ble_eq_true rfl⟩ (Nat.le_of_ble_eq_true rfl)) (fun v8 u8 hp8 => ?_)
  obtain ⟨rfl, rfl⟩ := hp8
  show Xw K G 0 0 _ n V R 11 [(0, .ref (aG G sv)), (1, .int (iI k))] [.int (iI (V (sv + 9) (V (sv + 11) k))), .int (iI rw_), .ref (aG G sv)]
  refine x_top (b := th) (by rw [e1]; exact e2) ?_
  refine x_runU (r_callV C ok_Saw sv (ltS hsv hn (by decide) : sv + 0 < n) (tbS_0 hsv) (ce_X6_bestPiece) (m_X6_bestPiece G n V R (sv) (lr) (lt) (L) (f) (m) (g) (pr) (rw_) (th) hn hLR (by first | assumption | omega | decide) (by first | assumption | omega | decide) (by first | assumption | omega | decide) (by first | assumption | omega | decide) (by exact hru.2.1)) rfl dX6_pieceAt_11 q_36_19 q_32_7 q_32_8 rfl rfl ⟨Nat.le_of_ble_eq_true rfl, Nat.le_of_ble_eq_true rfl⟩ ⟨rfl, rfl⟩ ⟨Nat.le_of_ble_eq_true rfl, Nat.le_of_ble_eq_true rfl⟩ (Nat.le_of_ble_eq_true rfl)) (fun v11 u11 hp11 => ?_)
  obtain ⟨V1_11, rfl, rfl, hq11_0, hq11_1, hq11_2, hq11_3⟩ := hp11
  show Xw K G 0 0 _ n V1_11 R 14 [(0, .ref (aG G sv)), (1, .int (iI k))] [.ref (aG G (sv + 7))]
  refine x_aret C dX6_pieceAt_14 ⟨_, rfl, rfl, ?_, ?_⟩
  · exact hq11_0
  · exact hq11_1
