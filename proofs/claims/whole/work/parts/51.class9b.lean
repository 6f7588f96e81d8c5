
set_option maxRecDepth 100000 in
set_option maxHeartbeats 4000000 in
theorem m_X6_addUp (G : GS) (n : Nat) (V : Nat → Int → Int) (R : Nat → Int → Option Nat) (sv : Nat) (H : Int → Int → Int → Int) (L : Int) (hn : 67 ≤ n) (hLR : LR R) (hsv : sv = 11 ∨ sv = 23) (hl : V sv 3 = L) (hL8 : 1 ≤ L ∧ L ≤ 8) (hH : ∀ s y x, 0 ≤ s → s < L → 0 ≤ y → y < 12 → 0 ≤ x → x < 12 → V (sv + 3) (s * 144 + y * 12 + x) = H s y x) (hHb : ∀ s y x, 0 ≤ H s y x ∧ H s y x ≤ 9) (hZ : SwZ V sv) : Cn G yX6_addUp cX6_addUp 8 none (rmk 1 0 0 16) [.ref (aG G sv)] n V R 0 0 (fun vv uu => ∃ (V1 : Nat → Int → Int), vv = none ∧ uu = (n, V1, R) ∧ (∀ q, q ≠ sv + 4 → q ≠ sv + 5 → V1 q = V q) ∧ (SwSum V1 sv H L) ∧ (SwZ V1 sv)) := by
  refine Cn.of (by decide) (Nat.le_of_ble_eq_true rfl) (fun K C hct => ?_)
  show Xw K G 0 0 _ n V R 0 [(0, .ref (aG G sv))] []
  refine x_iconst C dX6_addUp_0 ?_
  refine x_istore_n C dX6_addUp_1 rfl (by decide) (lv' := [(0, .ref (aG G sv)), (1, .int (iI 0))]) rfl ?_
  have lp_2 : ∀ (fuel : Nat) (y : Int) (VA : Nat → Int → Int), (∀ q, q ≠ sv + 4 → q ≠ sv + 5 → VA q = V q) → (0 ≤ y ∧ y ≤ 12) → (SumI VA sv H L (y) (0) (0)) → (SwZ VA sv) → ((13 : Int) - y) < (fuel : Int) → Xw K G 0 0 (EndQ K G 0 0 (fun vv uu => ∃ (V1 : Nat → Int → Int), vv = none ∧ uu = (n, V1, R) ∧ (∀ q, q ≠ sv + 4 → q ≠ sv + 5 → V1 q = V q) ∧ (SwSum V1 sv H L) ∧ (SwZ V1 sv))) n VA R 2 [(0, .ref (aG G sv)), (1, .int (iI y))] [] := by
    intro fuel2
    induction fuel2 with
    | zero => intro y VA hF1 hr1 hI1 hZ1 hfu2; exfalso; omega
    | succ fuel2 ih2 =>
      intro y VA hF1 hr1 hI1 hZ1 hfu2
      have e31 : VA sv 3 = L := by rw [hF1 sv (by omega) (by omega)]; exact hl
      refine x_iload_n C 1 dX6_addUp_2 rfl rfl ?_
      refine x_bipush C dX6_addUp_3 (w := 12) (by decide) ?_
      refine x_icmp_ge C dX6_addUp_5 (tgt := 150) (by decide) (by first | assumption | (constructor <;> omega)) (by first | assumption | (constructor <;> omega)) (fun h5 => ?_) (fun h5 => ?_)
      · skip
        refine x_vret C dX6_addUp_150 ⟨_, rfl, rfl, ?_, ?_, ?_⟩
        · assumption
        · exact SumI.out hI1 (by omega)
        · assumption
      · skip
        refine x_iconst C dX6_addUp_8 ?_
        refine x_istore_n C dX6_addUp_9 rfl (by decide) (lv' := [(0, .ref (aG G sv)), (1, .int (iI y)), (2, .int (iI 0))]) rfl ?_
        have lp_10 : ∀ (fuel : Nat) (s : Int) (VB : Nat → Int → Int), (∀ q, q ≠ sv + 4 → q ≠ sv + 5 → VB q = V q) → (0 ≤ s ∧ s ≤ L) → (SumI VB sv H L (y) (s) (0)) → (SwZ VB sv) → (L + 1 - s) < (fuel : Int) → Xw K G 0 0 (EndQ K G 0 0 (fun vv uu => ∃ (V1 : Nat → Int → Int), vv = none ∧ uu = (n, V1, R) ∧ (∀ q, q ≠ sv + 4 → q ≠ sv + 5 → V1 q = V q) ∧ (SwSum V1 sv H L) ∧ (SwZ V1 sv))) n VB R 10 [(0, .ref (aG G sv)), (1, .int (iI y)), (2, .int (iI s))] [] := by
          intro fuel10
          induction fuel10 with
          | zero => intro s VB hF2 hr2 hI2 hZ2 hfu10; exfalso; omega
          | succ fuel10 ih10 =>
            intro s VB hF2 hr2 hI2 hZ2 hfu10
            have e32 : VB sv 3 = L := by rw [hF2 sv (by omega) (by omega)]; exact hl
            refine x_iload_n C 2 dX6_addUp_10 rfl rfl ?_
            refine x_aload_n C 0 dX6_addUp_11 rfl rfl ?_
            refine x_geti C ok_Saw sv 3 dX6_addUp_12 (ltS hsv hn (by decide) : sv + 0 < n) (tbS_0 hsv) (by decide) rfl q_2_13 rfl (kz := 3) rfl (fun rg12 => ?_)
            refine x_icmp_ge C dX6_addUp_15 (tgt := 144) (by decide) (by first | assumption | (constructor <;> omega)) (by first | assumption | (constructor <;> omega)) (fun h15 => ?_) (fun h15 => ?_)
            · skip
              refine x_iinc C 1 dX6_addUp_144 rfl (by decide) (lv' := [(0, .ref (aG G sv)), (1, .int (iI (y + 1))), (2, .int (iI s))]) rfl ?_
              refine x_goto C dX6_addUp_147 (tgt := 2) (by decide) ?_
              refine x_sub [0, 1] (lv' := [(0, .ref (aG G sv)), (1, .int (iI (y + 1)))]) rfl ?_
              exact ih2 ((y + 1)) (VB) (by assumption) (by omega) (by exact SumI.col hI2 hZ2 (by omega)) (by assumption) (by omega)
            · skip
              refine x_iconst C dX6_addUp_18 ?_
              refine x_istore_n C dX6_addUp_19 rfl (by decide) (lv' := [(0, .ref (aG G sv)), (1, .int (iI y)), (2, .int (iI s)), (3, .int (iI 0))]) rfl ?_
              refine x_iconst C dX6_addUp_20 ?_
              refine x_istore C dX6_addUp_21 (by decide) (lv' := [(0, .ref (aG G sv)), (1, .int (iI y)), (2, .int (iI s)), (3, .int (iI 0)), (4, .int (iI 0))]) rfl ?_
              refine x_iconst C dX6_addUp_23 ?_
              refine x_istore C dX6_addUp_24 (by decide) (lv' := [(0, .ref (aG G sv)), (1, .int (iI y)), (2, .int (iI s)), (3, .int (iI 0)), (4, .int (iI 0)), (5, .int (iI 0))]) rfl ?_
              have lp_26 : ∀ (fuel : Nat) (x : Int) (hs : Int) (ws : Int) (VC : Nat → Int → Int), (∀ q, q ≠ sv + 4 → q ≠ sv + 5 → VC q = V q) → (0 ≤ x ∧ x ≤ 12 ∧ hs = sm (H s y) x ∧ ws = sm (fun c => bI (H s y c = 9)) x ∧ 0 ≤ hs ∧ hs ≤ 9 * x ∧ 0 ≤ ws ∧ ws ≤ x) → (SumI VC sv H L (y) (s) (x)) → (SwZ VC sv) → ((13 : Int) - x) < (fuel : Int) → Xw K G 0 0 (EndQ K G 0 0 (fun vv uu => ∃ (V1 : Nat → Int → Int), vv = none ∧ uu = (n, V1, R) ∧ (∀ q, q ≠ sv + 4 → q ≠ sv + 5 → V1 q = V q) ∧ (SwSum V1 sv H L) ∧ (SwZ V1 sv))) n VC R 26 [(0, .ref (aG G sv)), (1, .int (iI y)), (2, .int (iI s)), (3, .int (iI hs)), (4, .int (iI ws)), (5, .int (iI x))] [] := by
                intro fuel26
                induction fuel26 with
                | zero => intro x hs ws VC hF3 hr3 hI3 hZ3 hfu26; exfalso; omega
                | succ fuel26 ih26 =>
                  intro x hs ws VC hF3 hr3 hI3 hZ3 hfu26
                  have e33 : VC sv 3 = L := by rw [hF3 sv (by omega) (by omega)]; exact hl
                  refine x_iload C 5 dX6_addUp_26 rfl ?_
                  refine x_bipush C dX6_addUp_28 (w := 12) (by decide) ?_
                  refine x_icmp_ge C dX6_addUp_30 (tgt := 138) (by decide) (by first | assumption | (constructor <;> omega)) (by first | assumption | (constructor <;> omega)) (fun h30 => ?_) (fun h30 => ?_)
                  · skip
                    refine x_iinc C 2 dX6_addUp_138 rfl (by decide) (lv' := [(0, .ref (aG G sv)), (1, .int (iI y)), (2, .int (iI (s + 1))), (3, .int (iI hs)), (4, .int (iI ws)), (5, .int (iI x))]) rfl ?_
                    refine x_goto C dX6_addUp_141 (tgt := 10) (by decide) ?_
                    refine x_sub [0, 1, 2] (lv' := [(0, .ref (aG G sv)), (1, .int (iI y)), (2, .int (iI (s + 1)))]) rfl ?_
                    exact ih10 ((s + 1)) (VC) (by assumption) (by omega) (by exact SumI.row hI3 hZ3 (by omega)) (by assumption) (by omega)
                  · skip
                    refine x_aload_n C 0 dX6_addUp_33 rfl rfl ?_
                    refine x_getr C ok_Saw sv 7 (d := (sv + 3)) dX6_addUp_34 (ltS hsv hn (by decide) : sv + 0 < n) (tbS_0 hsv) (by decide) rfl q_2_17 rfl (kz := 7) rfl (lrS_7 hsv hLR) ?_
                    refine x_iload_n C 2 dX6_addUp_37 rfl rfl ?_
                    refine x_sipush C dX6_addUp_38 (w := 144) (by decide) ?_
                    refine x_imul C dX6_addUp_41 ?_
                    refine x_iload_n C 1 dX6_addUp_42 rfl rfl ?_
                    refine x_bipush C dX6_addUp_43 (w := 12) (by decide) ?_
                    refine x_imul C dX6_addUp_45 ?_
                    refine x_iadd C dX6_addUp_46 ?_
                    refine x_iload C 5 dX6_addUp_47 rfl ?_
                    refine x_iadd C dX6_addUp_49 ?_
                    refine x_iald C (sv + 3) dX6_addUp_50 (ltS hsv hn (by decide)) (tbS_3 hsv) (by refine ⟨?_, ?_⟩ <;> omega) (fun rg50 => ?_)
                    refine x_top (b := (H s y x)) (by rw [hF3 (sv + 3) (by omega) (by omega)]; exact hH s y x (by omega) (by omega) (by omega) (by omega) (by omega) (by omega)) ?_
                    refine x_istore C dX6_addUp_51 (by decide) (lv' := [(0, .ref (aG G sv)), (1, .int (iI y)), (2, .int (iI s)), (3, .int (iI hs)), (4, .int (iI ws)), (5, .int (iI x)), (6, .int (iI (H s y x)))]) rfl ?_
                    have hb1 := hHb s y x
                    refine x_iload_n C 3 dX6_addUp_53 rfl rfl ?_
                    refine x_iload C 6 dX6_addUp_54 rfl ?_
                    refine x_iadd C dX6_addUp_56 ?_
                    refine x_istore_n C dX6_addUp_57 rfl (by decide) (lv' := [(0, .ref (aG G sv)), (1, .int (iI y)), (2, .int (iI s)), (3, .int (iI (hs + (H s y x)))), (4, .int (iI ws)), (5, .int (iI x)), (6, .int (iI (H s y x)))]) rfl ?_
                    refine x_iload C 4 dX6_addUp_58 rfl ?_
                    refine x_iload C 6 dX6_addUp_60 rfl ?_
                    refine x_bipush C dX6_addUp_62 (w := 9) (by decide) ?_
                    refine x_icmp_ne C dX6_addUp_64 (tgt := 71) (by decide) (by first | assumption | (constructor <;> omega)) (by first | assumption | (constructor <;> omega)) (fun h64 => ?_) (fun h64 => ?_)
                    · skip
                      refine x_iconst C dX6_addUp_71 ?_
                      refine x_iadd C dX6_addUp_72 ?_
                      refine x_istore C dX6_addUp_73 (by decide) (lv' := [(0, .ref (aG G sv)), (1, .int (iI y)), (2, .int (iI s)), (3, .int (iI (hs + (H s y x)))), (4, .int (iI (ws + 0))), (5, .int (iI x)), (6, .int (iI (H s y x)))]) rfl ?_
                      refine x_iload_n C 1 dX6_addUp_75 rfl rfl ?_
                      refine x_bipush C dX6_addUp_76 (w := 117) (by decide) ?_
                      refine x_imul C dX6_addUp_78 ?_
                      refine x_iload_n C 2 dX6_addUp_79 rfl rfl ?_
                      refine x_iconst C dX6_addUp_80 ?_
                      refine x_iadd C dX6_addUp_81 ?_
                      refine x_bipush C dX6_addUp_82 (w := 13) (by decide) ?_
                      refine x_imul C dX6_addUp_84 ?_
                      refine x_iadd C dX6_addUp_85 ?_
                      refine x_iload C 5 dX6_addUp_86 rfl ?_
                      refine x_iadd C dX6_addUp_88 ?_
                      refine x_iconst C dX6_addUp_89 ?_
                      refine x_iadd C dX6_addUp_90 ?_
                      refine x_nm (fun p h_p => ?_)
                      refine x_istore C dX6_addUp_91 (by decide) (lv' := [(0, .ref (aG G sv)), (1, .int (iI y)), (2, .int (iI s)), (3, .int (iI (hs + (H s y x)))), (4, .int (iI (ws + 0))), (5, .int (iI x)), (6, .int (iI (H s y x))), (7, .int (iI p))]) rfl ?_
                      have hp13 := hI3 y s (x + 1) (by omega) (by omega) (by omega) (by omega) (by omega) (by omega) (by omega)
                      rw [show y * 117 + s * 13 + (x + 1) = p - 13 by omega] at hp13
                      have sb1 := SS_b (r := fun i => H i y) (fun i c => hHb i y c) (s := s) (x := x + 1) (by omega) (by omega)
                      have sb2 := SS_b (r := fun i c => bI (H i y c = 9)) (fun i c => by have := bI_b (H i y c = 9); omega) (s := s) (x := x + 1) (by omega) (by omega)
                      have hpr1 : -1 ≤ p - 13 ∧ p < 1404 := by omega
                      refine x_aload_n C 0 dX6_addUp_93 rfl rfl ?_
                      refine x_getr C ok_Saw sv 8 (d := (sv + 4)) dX6_addUp_94 (ltS hsv hn (by decide) : sv + 0 < n) (tbS_0 hsv) (by decide) rfl q_2_18 rfl (kz := 8) rfl (lrS_8 hsv hLR) ?_
                      refine x_iload C 7 dX6_addUp_97 rfl ?_
                      refine x_aload_n C 0 dX6_addUp_99 rfl rfl ?_
                      refine x_getr C ok_Saw sv 8 (d := (sv + 4)) dX6_addUp_100 (ltS hsv hn (by decide) : sv + 0 < n) (tbS_0 hsv) (by decide) rfl q_2_18 rfl (kz := 8) rfl (lrS_8 hsv hLR) ?_
                      refine x_iload C 7 dX6_addUp_103 rfl ?_
                      refine x_bipush C dX6_addUp_105 (w := 13) (by decide) ?_
                      refine x_isub C dX6_addUp_107 ?_
                      refine x_iald C (sv + 4) dX6_addUp_108 (ltS hsv hn (by decide)) (tbS_4 hsv) (by refine ⟨?_, ?_⟩ <;> omega) (fun rg108 => ?_)
                      refine x_iload_n C 3 dX6_addUp_109 rfl rfl ?_
                      refine x_iadd C dX6_addUp_110 ?_
                      refine x_iast C (sv + 4) dX6_addUp_111 (ltS hsv hn (by decide)) (tbS_4 hsv) (by refine ⟨?_, ?_⟩ <;> omega) (by first | assumption | (constructor <;> omega)) ?_
                      refine x_aload_n C 0 dX6_addUp_112 rfl rfl ?_
                      refine x_getr C ok_Saw sv 9 (d := (sv + 5)) dX6_addUp_113 (ltS hsv hn (by decide) : sv + 0 < n) (tbS_0 hsv) (by decide) rfl q_2_19 rfl (kz := 9) rfl (lrS_9 hsv hLR) ?_
                      refine x_iload C 7 dX6_addUp_116 rfl ?_
                      refine x_aload_n C 0 dX6_addUp_118 rfl rfl ?_
                      refine x_getr C ok_Saw sv 9 (d := (sv + 5)) dX6_addUp_119 (ltS hsv hn (by decide) : sv + 0 < n) (tbS_0 hsv) (by decide) rfl q_2_19 rfl (kz := 9) rfl (lrS_9 hsv hLR) ?_
                      refine x_iload C 7 dX6_addUp_122 rfl ?_
                      refine x_bipush C dX6_addUp_124 (w := 13) (by decide) ?_
                      refine x_isub C dX6_addUp_126 ?_
                      refine x_iald C (sv + 5) dX6_addUp_127 (ltS hsv hn (by decide)) (tbS_5 hsv) (by refine ⟨?_, ?_⟩ <;> omega) (fun rg127 => ?_)
                      refine x_top (b := (VC (sv + 5) (p - 13))) (by first | rfl | (simp only [u2_at]; simp) | (simp only [u2_at]; first | (rw [if_neg (by omega)]) | omega) | (repeat rw [u2_at, if_neg (by omega)])) ?_
                      refine x_iload C 4 dX6_addUp_128 rfl ?_
                      refine x_iadd C dX6_addUp_130 ?_
                      refine x_iast C (sv + 5) dX6_addUp_131 (ltS hsv hn (by decide)) (tbS_5 hsv) (by refine ⟨?_, ?_⟩ <;> omega) (by first | assumption | (constructor <;> omega)) ?_
                      refine x_iinc C 5 dX6_addUp_132 rfl (by decide) (lv' := [(0, .ref (aG G sv)), (1, .int (iI y)), (2, .int (iI s)), (3, .int (iI (hs + (H s y x)))), (4, .int (iI (ws + 0))), (5, .int (iI (x + 1))), (6, .int (iI (H s y x))), (7, .int (iI p))]) rfl ?_
                      refine x_goto C dX6_addUp_135 (tgt := 26) (by decide) ?_
                      refine x_sub [0, 1, 2, 3, 4, 5] (lv' := [(0, .ref (aG G sv)), (1, .int (iI y)), (2, .int (iI s)), (3, .int (iI (hs + (H s y x)))), (4, .int (iI (ws + 0))), (5, .int (iI (x + 1)))]) rfl ?_
                      exact ih26 ((x + 1)) ((hs + (H s y x))) ((ws + 0)) ((u2 (u2 VC (sv + 4) p ((VC (sv + 4) (p - 13)) + (hs + (H s y x)))) (sv + 5) p ((VC (sv + 5) (p - 13)) + (ws + 0)))) (by exact fun q a b => by rw [u2_n b, u2_n a]; exact hF3 q a b) (by (refine ⟨by omega, by omega, ?_, ?_, by omega, by omega, by omega, by omega⟩; (rw [sm_s hr3.1, ← hr3.2.2.1]); (rw [sm_s hr3.1, ← hr3.2.2.2.1]; first | rw [bI_t (by assumption)] | rw [bI_f (by assumption)]))) (by exact SumI.step hI3 h_p (by omega) (by omega) (by omega) (by omega) (by rw [hp13.1]; exact SS_step (h := fun i => H i y) (by omega) (by rw [sm_s hr3.1, ← hr3.2.2.1])) (by rw [hp13.2]; exact SS_step (h := fun i c => bI (H i y c = 9)) (by omega) (by rw [sm_s hr3.1, ← hr3.2.2.2.1]; first | rw [bI_t (by assumption)] | rw [bI_f (by assumption)]))) (by exact SwZ.step hZ3 h_p (by omega) (by omega) (by omega)) (by omega)
                    · skip
                      refine x_iconst C dX6_addUp_67 ?_
                      refine x_goto C dX6_addUp_68 (tgt := 72) (by decide) ?_
                      refine x_iadd C dX6_addUp_72 ?_
                      refine x_istore C dX6_addUp_73 (by decide) (lv' := [(0, .ref (aG G sv)), (1, .int (iI y)), (2, .int (iI s)), (3, .int (iI (hs + (H s y x)))), (4, .int (iI (ws + 1))), (5, .int (iI x)), (6, .int (iI (H s y x)))]) rfl ?_
                      refine x_iload_n C 1 dX6_addUp_75 rfl rfl ?_
                      refine x_bipush C dX6_addUp_76 (w := 117) (by decide) ?_
                      refine x_imul C dX6_addUp_78 ?_
                      refine x_iload_n C 2 dX6_addUp_79 rfl rfl ?_
                      refine x_iconst C dX6_addUp_80 ?_
                      refine x_iadd C dX6_addUp_81 ?_
                      refine x_bipush C dX6_addUp_82 (w := 13) (by decide) ?_
                      refine x_imul C dX6_addUp_84 ?_
                      refine x_iadd C dX6_addUp_85 ?_
                      refine x_iload C 5 dX6_addUp_86 rfl ?_
                      refine x_iadd C dX6_addUp_88 ?_
                      refine x_iconst C dX6_addUp_89 ?_
                      refine x_iadd C dX6_addUp_90 ?_
                      refine x_nm (fun p h_p => ?_)
                      refine x_istore C dX6_addUp_91 (by decide) (lv' := [(0, .ref (aG G sv)), (1, .int (iI y)), (2, .int (iI s)), (3, .int (iI (hs + (H s y x)))), (4, .int (iI (ws + 1))), (5, .int (iI x)), (6, .int (iI (H s y x))), (7, .int (iI p))]) rfl ?_
                      have hp13 := hI3 y s (x + 1) (by omega) (by omega) (by omega) (by omega) (by omega) (by omega) (by omega)
                      rw [show y * 117 + s * 13 + (x + 1) = p - 13 by omega] at hp13
                      have sb1 := SS_b (r := fun i => H i y) (fun i c => hHb i y c) (s := s) (x := x + 1) (by omega) (by omega)
                      have sb2 := SS_b (r := fun i c => bI (H i y c = 9)) (fun i c => by have := bI_b (H i y c = 9); omega) (s := s) (x := x + 1) (by omega) (by omega)
                      have hpr1 : -1 ≤ p - 13 ∧ p < 1404 := by omega
                      refine x_aload_n C 0 dX6_addUp_93 rfl rfl ?_
                      refine x_getr C ok_Saw sv 8 (d := (sv + 4)) dX6_addUp_94 (ltS hsv hn (by decide) : sv + 0 < n) (tbS_0 hsv) (by decide) rfl q_2_18 rfl (kz := 8) rfl (lrS_8 hsv hLR) ?_
                      refine x_iload C 7 dX6_addUp_97 rfl ?_
                      refine x_aload_n C 0 dX6_addUp_99 rfl rfl ?_
                      refine x_getr C ok_Saw sv 8 (d := (sv + 4)) dX6_addUp_100 (ltS hsv hn (by decide) : sv + 0 < n) (tbS_0 hsv) (by decide) rfl q_2_18 rfl (kz := 8) rfl (lrS_8 hsv hLR) ?_
                      refine x_iload C 7 dX6_addUp_103 rfl ?_
                      refine x_bipush C dX6_addUp_105 (w := 13) (by decide) ?_
                      refine x_isub C dX6_addUp_107 ?_
                      refine x_iald C (sv + 4) dX6_addUp_108 (ltS hsv hn (by decide)) (tbS_4 hsv) (by refine ⟨?_, ?_⟩ <;> omega) (fun rg108 => ?_)
                      refine x_iload_n C 3 dX6_addUp_109 rfl rfl ?_
                      refine x_iadd C dX6_addUp_110 ?_
                      refine x_iast C (sv + 4) dX6_addUp_111 (ltS hsv hn (by decide)) (tbS_4 hsv) (by refine ⟨?_, ?_⟩ <;> omega) (by first | assumption | (constructor <;> omega)) ?_
                      refine x_aload_n C 0 dX6_addUp_112 rfl rfl ?_
                      refine x_getr C ok_Saw sv 9 (d := (sv + 5)) dX6_addUp_113 (ltS hsv hn (by decide) : sv + 0 < n) (tbS_0 hsv) (by decide) rfl q_2_19 rfl (kz := 9) rfl (lrS_9 hsv hLR) ?_
                      refine x_iload C 7 dX6_addUp_116 rfl ?_
                      refine x_aload_n C 0 dX6_addUp_118 rfl rfl ?_
                      refine x_getr C ok_Saw sv 9 (d := (sv + 5)) dX6_addUp_119 (ltS hsv hn (by decide) : sv + 0 < n) (tbS_0 hsv) (by decide) rfl q_2_19 rfl (kz := 9) rfl (lrS_9 hsv hLR) ?_
                      refine x_iload C 7 dX6_addUp_122 rfl ?_
                      refine x_bipush C dX6_addUp_124 (w := 13) (by decide) ?_
                      refine x_isub C dX6_addUp_126 ?_
                      refine x_iald C (sv + 5) dX6_addUp_127 (ltS hsv hn (by decide)) (tbS_5 hsv) (by refine ⟨?_, ?_⟩ <;> omega) (fun rg127 => ?_)
                      refine x_top (b := (VC (sv + 5) (p - 13))) (by first | rfl | (simp only [u2_at]; simp) | (simp only [u2_at]; first | (rw [if_neg (by omega)]) | omega) | (repeat rw [u2_at, if_neg (by omega)])) ?_
                      refine x_iload C 4 dX6_addUp_128 rfl ?_
                      refine x_iadd C dX6_addUp_130 ?_
                      refine x_iast C (sv + 5) dX6_addUp_131 (ltS hsv hn (by decide)) (tbS_5 hsv) (by refine ⟨?_, ?_⟩ <;> omega) (by first | assumption | (constructor <;> omega)) ?_
                      refine x_iinc C 5 dX6_addUp_132 rfl (by decide) (lv' := [(0, .ref (aG G sv)), (1, .int (iI y)), (2, .int (iI s)), (3, .int (iI (hs + (H s y x)))), (4, .int (iI (ws + 1))), (5, .int (iI (x + 1))), (6, .int (iI (H s y x))), (7, .int (iI p))]) rfl ?_
                      refine x_goto C dX6_addUp_135 (tgt := 26) (by decide) ?_
                      refine x_sub [0, 1, 2, 3, 4, 5] (lv' := [(0, .ref (aG G sv)), (1, .int (iI y)), (2, .int (iI s)), (3, .int (iI (hs + (H s y x)))), (4, .int (iI (ws + 1))), (5, .int (iI (x + 1)))]) rfl ?_
                      exact ih26 ((x + 1)) ((hs + (H s y x))) ((ws + 1)) ((u2 (u2 VC (sv + 4) p ((VC (sv + 4) (p - 13)) + (hs + (H s y x)))) (sv + 5) p ((VC (sv + 5) (p - 13)) + (ws + 1)))) (by exact fun q a b => by rw [u2_n b, u2_n a]; exact hF3 q a b) (by (refine ⟨by omega, by omega, ?_, ?_, by omega, by omega, by omega, by omega⟩; (rw [sm_s hr3.1, ← hr3.2.2.1]); (rw [sm_s hr3.1, ← hr3.2.2.2.1]; first | rw [bI_t (by assumption)] | rw [bI_f (by assumption)]))) (by exact SumI.step hI3 h_p (by omega) (by omega) (by omega) (by omega) (by rw [hp13.1]; exact SS_step (h := fun i => H i y) (by omega) (by rw [sm_s hr3.1, ← hr3.2.2.1])) (by rw [hp13.2]; exact SS_step (h := fun i c => bI (H i y c = 9)) (by omega) (by rw [sm_s hr3.1, ← hr3.2.2.2.1]; first | rw [bI_t (by assumption)] | rw [bI_f (by assumption)]))) (by exact SwZ.step hZ3 h_p (by omega) (by omega) (by omega)) (by omega)
              exact lp_26 (((13 : Int) - 0).toNat + 1) (0) (0) (0) (VB) (by assumption) (by exact ⟨by omega, by omega, rfl, rfl, by omega, by omega, by omega, by omega⟩) (by assumption) (by assumption) (by omega)
        exact lp_10 ((L + 1 - 0).toNat + 1) (0) (VA) (by assumption) (by omega) (by assumption) (by assumption) (by omega)
  exact lp_2 (((13 : Int) - 0).toNat + 1) (0) (V) (by exact fun _ _ _ => rfl) (by omega) (by exact SumI.base hZ) (by assumption) (by omega)
