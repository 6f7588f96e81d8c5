
set_option maxRecDepth 100000 in
set_option maxHeartbeats 4000000 in
theorem m_X6_bestPiece (G : GS) (n : Nat) (V : Nat → Int → Int) (R : Nat → Int → Option Nat) (sv : Nat) (lr : Int) (lt : Int) (L : Int) (f : Int → Int → Int) (m : Int) (g : Int) (pr : Int → Int) (y : Int) (k : Int) (hn : 67 ≤ n) (hLR : LR R) (hsv : sv = 11 ∨ sv = 23) (ok : SwOk V sv lr lt L f m g pr) (hyy : 0 ≤ y ∧ y + k ≤ 12) (hk : 1 ≤ k ∧ k ≤ 4) (hs1 : 0 ≤ pr 1 ∧ pr 1 ≤ 1) : Cn G yX6_bestPiece cX6_bestPiece 12 (some (.object "LogSawyer$Piece")) (rmk 4 0 0 104) [.ref (aG G sv), .int (iI y), .int (iI k)] n V R 0 0 (fun vv uu => ∃ (V1 : Nat → Int → Int), vv = some (.ref (aG G (sv + 7))) ∧ uu = (n, V1, R) ∧ (∀ q, q ≠ sv + 6 → q ≠ sv + 7 → V1 q = V q) ∧ (BestB lr lt L f m g pr y k (V1 (sv + 7) 8) (V1 (sv + 7) 7) (V1 (sv + 7) 0) (V1 (sv + 7) 1) (V1 (sv + 7) 2) (V1 (sv + 7) 3) (V1 (sv + 7) 4)) ∧ (0 ≤ V1 (sv + 7) 8 ∧ V1 (sv + 7) 8 ≤ 38016) ∧ (0 < V1 (sv + 7) 8 → V1 (sv + 7) 5 = faceH f m g y (V1 (sv + 7) 0) (V1 (sv + 7) 1) (V1 (sv + 7) 2) (V1 (sv + 7) 3) ∧ V1 (sv + 7) 6 = faceH f m g (y + k - 1) (V1 (sv + 7) 0) (V1 (sv + 7) 1) (V1 (sv + 7) 2) (V1 (sv + 7) 3))) := by
  have hL8 := ok.L
  have hF6 : ∀ x, 0 ≤ fcS lr lt y k x := fun x => (fcS_b lr lt y k x).1
  refine Cn.of (by decide) (Nat.le_of_ble_eq_true rfl) (fun K C hct => ?_)
  show Xw K G 0 0 _ n V R 0 [(0, .ref (aG G sv)), (1, .int (iI y)), (2, .int (iI k))] []
  refine x_aload_n C 0 dX6_bestPiece_0 rfl rfl ?_
  refine x_getr C ok_Saw sv 11 (d := (sv + 7)) dX6_bestPiece_1 (ltS hsv hn (by decide) : sv + 0 < n) (tbS_0 hsv) (by decide) rfl q_3_0 rfl (kz := 11) rfl (lrS_11 hsv hLR) ?_
  refine x_iconst C dX6_bestPiece_4 ?_
  refine x_puti C ok_Piece (sv + 7) 8 dX6_bestPiece_5 (ltS hsv hn (by decide)) (tbS_7 hsv) (by decide) rfl q_32_10 rfl rfl (Or.inl rfl) (by first | assumption | (constructor <;> omega)) (kz := 8) rfl ?_
  refine x_aload_n C 0 dX6_bestPiece_8 rfl rfl ?_
  refine x_getr C ok_Saw sv 11 (d := (sv + 7)) dX6_bestPiece_9 (ltS hsv hn (by decide) : sv + 0 < n) (tbS_0 hsv) (by decide) rfl q_3_0 rfl (kz := 11) rfl (lrS_11 hsv hLR) ?_
  refine x_iconst C dX6_bestPiece_12 ?_
  refine x_puti C ok_Piece (sv + 7) 7 dX6_bestPiece_13 (ltS hsv hn (by decide)) (tbS_7 hsv) (by decide) rfl q_32_11 rfl rfl (Or.inl rfl) (by first | assumption | (constructor <;> omega)) (kz := 7) rfl ?_
  refine x_iconst C dX6_bestPiece_16 ?_
  refine x_istore_n C dX6_bestPiece_17 rfl (by decide) (lv' := [(0, .ref (aG G sv)), (1, .int (iI y)), (2, .int (iI k)), (3, .int (iI 0))]) rfl ?_
  have lp_18 : ∀ (fuel : Nat) (z : Int) (VA : Nat → Int → Int), (0 ≤ z ∧ z ≤ L) → (∀ q, q ≠ sv + 6 → q ≠ sv + 7 → VA q = V q) → (∀ x, 0 ≤ x → x < z → VA (sv + 6) x = fcS lr lt y k x) → (VA (sv + 7) 8 = 0 ∧ VA (sv + 7) 7 = 0) → (L + 1 - z) < (fuel : Int) → Xw K G 0 0 (EndQ K G 0 0 (fun vv uu => ∃ (V1 : Nat → Int → Int), vv = some (.ref (aG G (sv + 7))) ∧ uu = (n, V1, R) ∧ (∀ q, q ≠ sv + 6 → q ≠ sv + 7 → V1 q = V q) ∧ (BestB lr lt L f m g pr y k (V1 (sv + 7) 8) (V1 (sv + 7) 7) (V1 (sv + 7) 0) (V1 (sv + 7) 1) (V1 (sv + 7) 2) (V1 (sv + 7) 3) (V1 (sv + 7) 4)) ∧ (0 ≤ V1 (sv + 7) 8 ∧ V1 (sv + 7) 8 ≤ 38016) ∧ (0 < V1 (sv + 7) 8 → V1 (sv + 7) 5 = faceH f m g y (V1 (sv + 7) 0) (V1 (sv + 7) 1) (V1 (sv + 7) 2) (V1 (sv + 7) 3) ∧ V1 (sv + 7) 6 = faceH f m g (y + k - 1) (V1 (sv + 7) 0) (V1 (sv + 7) 1) (V1 (sv + 7) 2) (V1 (sv + 7) 3)))) n VA R 18 [(0, .ref (aG G sv)), (1, .int (iI y)), (2, .int (iI k)), (3, .int (iI z))] [] := by
    intro fuel18
    induction fuel18 with
    | zero => intro z VA hz hFA hCA hWA hfu18; exfalso; omega
    | succ fuel18 ih18 =>
      intro z VA hz hFA hCA hWA hfu18
      have okA := ok.fr hFA
      have e3A : VA sv 3 = L := okA.l
      have e8A : VA (sv + 8) = V (sv + 8) := hFA (sv + 8) (by omega) (by omega)
      refine x_iload_n C 3 dX6_bestPiece_18 rfl rfl ?_
      refine x_aload_n C 0 dX6_bestPiece_19 rfl rfl ?_
      refine x_geti C ok_Saw sv 3 dX6_bestPiece_20 (ltS hsv hn (by decide) : sv + 0 < n) (tbS_0 hsv) (by decide) rfl q_2_13 rfl (kz := 3) rfl (fun rg20 => ?_)
      refine x_icmp_ge C dX6_bestPiece_23 (tgt := 45) (by decide) (by first | assumption | (constructor <;> omega)) (by first | assumption | (constructor <;> omega)) (fun h23 => ?_) (fun h23 => ?_)
      · skip
        refine x_aload_n C 0 dX6_bestPiece_45 rfl rfl ?_
        refine x_getr C ok_Saw sv 5 (d := (sv + 1)) dX6_bestPiece_46 (ltS hsv hn (by decide) : sv + 0 < n) (tbS_0 hsv) (by decide) rfl q_2_15 rfl (kz := 5) rfl (lrS_5 hsv hLR) ?_
        refine x_iconst C dX6_bestPiece_49 ?_
        refine x_iald C (sv + 1) dX6_bestPiece_50 (ltS hsv hn (by decide)) (tbS_1 hsv) (by refine ⟨?_, ?_⟩ <;> omega) (fun rg50 => ?_)
        refine x_top (b := (pr 1)) (by exact okA.r 1 (by decide) (by decide)) ?_
        refine x_iconst C dX6_bestPiece_51 ?_
        refine x_icmp_ne C dX6_bestPiece_52 (tgt := 59) (by decide) (by first | assumption | (constructor <;> omega)) (by first | assumption | (constructor <;> omega)) (fun h52 => ?_) (fun h52 => ?_)
        · skip
          refine x_iconst C dX6_bestPiece_59 ?_
          refine x_istore_n C dX6_bestPiece_60 rfl (by decide) (lv' := [(0, .ref (aG G sv)), (1, .int (iI y)), (2, .int (iI k)), (3, .int (iI 0))]) rfl ?_
          refine x_iconst C dX6_bestPiece_61 ?_
          refine x_istore C dX6_bestPiece_62 (by decide) (lv' := [(0, .ref (aG G sv)), (1, .int (iI y)), (2, .int (iI k)), (3, .int (iI 0)), (4, .int (iI 0))]) rfl ?_
          have lp_64 : ∀ (fuel : Nat) (s : Int) (VS : Nat → Int → Int), (∀ q, q ≠ sv + 6 → q ≠ sv + 7 → VS q = V q) → (∀ z, 0 ≤ z → z < L → VS (sv + 6) z = fcS lr lt y k z) → (0 ≤ s ∧ s ≤ L) → (FInv VS sv lr lt L f m g pr y k (1521 * s)) → (L + 1 - s) < (fuel : Int) → Xw K G 0 0 (EndQ K G 0 0 (fun vv uu => ∃ (V1 : Nat → Int → Int), vv = some (.ref (aG G (sv + 7))) ∧ uu = (n, V1, R) ∧ (∀ q, q ≠ sv + 6 → q ≠ sv + 7 → V1 q = V q) ∧ (BestB lr lt L f m g pr y k (V1 (sv + 7) 8) (V1 (sv + 7) 7) (V1 (sv + 7) 0) (V1 (sv + 7) 1) (V1 (sv + 7) 2) (V1 (sv + 7) 3) (V1 (sv + 7) 4)) ∧ (0 ≤ V1 (sv + 7) 8 ∧ V1 (sv + 7) 8 ≤ 38016) ∧ (0 < V1 (sv + 7) 8 → V1 (sv + 7) 5 = faceH f m g y (V1 (sv + 7) 0) (V1 (sv + 7) 1) (V1 (sv + 7) 2) (V1 (sv + 7) 3) ∧ V1 (sv + 7) 6 = faceH f m g (y + k - 1) (V1 (sv + 7) 0) (V1 (sv + 7) 1) (V1 (sv + 7) 2) (V1 (sv + 7) 3)))) n VS R 64 [(0, .ref (aG G sv)), (1, .int (iI y)), (2, .int (iI k)), (3, .int (iI 0)), (4, .int (iI s))] [] := by
            intro fuel64
            induction fuel64 with
            | zero => intro s VS hF2 hC2 hR2 hI2 hfu64; exfalso; omega
            | succ fuel64 ih64 =>
              intro s VS hF2 hC2 hR2 hI2 hfu64
              have ok2 := ok.fr hF2
              have e32 : VS sv 3 = L := ok2.l
              have e82 : VS (sv + 8) = V (sv + 8) := hF2 (sv + 8) (by omega) (by omega)
              refine x_iload C 4 dX6_bestPiece_64 rfl ?_
              refine x_aload_n C 0 dX6_bestPiece_66 rfl rfl ?_
              refine x_geti C ok_Saw sv 3 dX6_bestPiece_67 (ltS hsv hn (by decide) : sv + 0 < n) (tbS_0 hsv) (by decide) rfl q_2_13 rfl (kz := 3) rfl (fun rg67 => ?_)
              refine x_icmp_ge C dX6_bestPiece_70 (tgt := 233) (by decide) (by first | assumption | (constructor <;> omega)) (by first | assumption | (constructor <;> omega)) (fun h70 => ?_) (fun h70 => ?_)
              · skip
                refine x_aload_n C 0 dX6_bestPiece_233 rfl rfl ?_
                refine x_getr C ok_Saw sv 11 (d := (sv + 7)) dX6_bestPiece_234 (ltS hsv hn (by decide) : sv + 0 < n) (tbS_0 hsv) (by decide) rfl q_3_0 rfl (kz := 11) rfl (lrS_11 hsv hLR) ?_
                refine x_aret C dX6_bestPiece_237 ⟨_, rfl, rfl, ?_, ?_, ?_, ?_⟩
                · assumption
                · exact FInv.out hI2 hF6 hL8 (by omega)
                · exact hI2.2.1
                · exact fun h => (hI2.2.2.2 h).2
              · skip
                refine x_iload C 4 dX6_bestPiece_73 rfl ?_
                refine x_istore C dX6_bestPiece_75 (by decide) (lv' := [(0, .ref (aG G sv)), (1, .int (iI y)), (2, .int (iI k)), (3, .int (iI 0)), (4, .int (iI s)), (5, .int (iI s))]) rfl ?_
                have lp_77 : ∀ (fuel : Nat) (t : Int) (VT : Nat → Int → Int), (∀ q, q ≠ sv + 6 → q ≠ sv + 7 → VT q = V q) → (∀ z, 0 ≤ z → z < L → VT (sv + 6) z = fcS lr lt y k z) → (0 ≤ s ∧ s < L ∧ s ≤ t ∧ t ≤ L) → (FInv VT sv lr lt L f m g pr y k (1521 * s + 169 * t)) → (L + 1 - t) < (fuel : Int) → Xw K G 0 0 (EndQ K G 0 0 (fun vv uu => ∃ (V1 : Nat → Int → Int), vv = some (.ref (aG G (sv + 7))) ∧ uu = (n, V1, R) ∧ (∀ q, q ≠ sv + 6 → q ≠ sv + 7 → V1 q = V q) ∧ (BestB lr lt L f m g pr y k (V1 (sv + 7) 8) (V1 (sv + 7) 7) (V1 (sv + 7) 0) (V1 (sv + 7) 1) (V1 (sv + 7) 2) (V1 (sv + 7) 3) (V1 (sv + 7) 4)) ∧ (0 ≤ V1 (sv + 7) 8 ∧ V1 (sv + 7) 8 ≤ 38016) ∧ (0 < V1 (sv + 7) 8 → V1 (sv + 7) 5 = faceH f m g y (V1 (sv + 7) 0) (V1 (sv + 7) 1) (V1 (sv + 7) 2) (V1 (sv + 7) 3) ∧ V1 (sv + 7) 6 = faceH f m g (y + k - 1) (V1 (sv + 7) 0) (V1 (sv + 7) 1) (V1 (sv + 7) 2) (V1 (sv + 7) 3)))) n VT R 77 [(0, .ref (aG G sv)), (1, .int (iI y)), (2, .int (iI k)), (3, .int (iI 0)), (4, .int (iI s)), (5, .int (iI t))] [] := by
                  intro fuel77
                  induction fuel77 with
                  | zero => intro t VT hF3 hC3 hR3 hI3 hfu77; exfalso; omega
                  | succ fuel77 ih77 =>
                    intro t VT hF3 hC3 hR3 hI3 hfu77
                    have ok3 := ok.fr hF3
                    have e33 : VT sv 3 = L := ok3.l
                    have e83 : VT (sv + 8) = V (sv + 8) := hF3 (sv + 8) (by omega) (by omega)
                    refine x_iload C 5 dX6_bestPiece_77 rfl ?_
                    refine x_aload_n C 0 dX6_bestPiece_79 rfl rfl ?_
                    refine x_geti C ok_Saw sv 3 dX6_bestPiece_80 (ltS hsv hn (by decide) : sv + 0 < n) (tbS_0 hsv) (by decide) rfl q_2_13 rfl (kz := 3) rfl (fun rg80 => ?_)
                    refine x_icmp_ge C dX6_bestPiece_83 (tgt := 227) (by decide) (by first | assumption | (constructor <;> omega)) (by first | assumption | (constructor <;> omega)) (fun h83 => ?_) (fun h83 => ?_)
                    · skip
                      refine x_iinc C 4 dX6_bestPiece_227 rfl (by decide) (lv' := [(0, .ref (aG G sv)), (1, .int (iI y)), (2, .int (iI k)), (3, .int (iI 0)), (4, .int (iI (s + 1))), (5, .int (iI t))]) rfl ?_
                      refine x_goto C dX6_bestPiece_230 (tgt := 64) (by decide) ?_
                      refine x_sub [0, 1, 2, 3, 4] (lv' := [(0, .ref (aG G sv)), (1, .int (iI y)), (2, .int (iI k)), (3, .int (iI 0)), (4, .int (iI (s + 1)))]) rfl ?_
                      exact ih64 ((s + 1)) (VT) (by assumption) (by assumption) (by omega) (by exact FInv.next hI3 (by omega) (fun x z u v c k1 k2 => by have cb := CandP_b c hF6 hL8; omega)) (by omega)
                    · skip
                      refine x_iload C 4 dX6_bestPiece_86 rfl ?_
                      refine x_if_ne C dX6_bestPiece_88 (tgt := 106) (by decide) (by first | assumption | (constructor <;> omega)) (fun h88 => ?_) (fun h88 => ?_)
                      · skip
                        refine x_iconst C dX6_bestPiece_106 ?_
                        refine x_istore C dX6_bestPiece_107 (by decide) (lv' := [(0, .ref (aG G sv)), (1, .int (iI y)), (2, .int (iI k)), (3, .int (iI 0)), (4, .int (iI s)), (5, .int (iI t)), (6, .int (iI 0))]) rfl ?_
                        refine x_iload_n C 3 dX6_bestPiece_109 rfl rfl ?_
                        refine x_if_ne C dX6_bestPiece_110 (tgt := 121) (by decide) (by first | assumption | (constructor <;> omega)) (fun h110 => (by exfalso; omega)) (fun h110 => ?_)
                        refine x_iload C 6 dX6_bestPiece_113 rfl ?_
                        refine x_if_ne C dX6_bestPiece_115 (tgt := 121) (by decide) (by first | assumption | (constructor <;> omega)) (fun h115 => (by exfalso; omega)) (fun h115 => ?_)
                        refine x_goto C dX6_bestPiece_118 (tgt := 221) (by decide) ?_
                        refine x_iinc C 5 dX6_bestPiece_221 rfl (by decide) (lv' := [(0, .ref (aG G sv)), (1, .int (iI y)), (2, .int (iI k)), (3, .int (iI 0)), (4, .int (iI s)), (5, .int (iI (t + 1))), (6, .int (iI 0))]) rfl ?_
                        refine x_goto C dX6_bestPiece_224 (tgt := 77) (by decide) ?_
                        refine x_sub [0, 1, 2, 3, 4, 5] (lv' := [(0, .ref (aG G sv)), (1, .int (iI y)), (2, .int (iI k)), (3, .int (iI 0)), (4, .int (iI s)), (5, .int (iI (t + 1)))]) rfl ?_
                        exact ih77 ((t + 1)) (VT) (by assumption) (by assumption) (by omega) (by first | exact FInv.next hI4 (by omega) (fun x z u v c k1 k2 => by have cb := CandP_b c hF6 hL8; obtain ⟨eu, ev⟩ := key_t (u := u) (v := v) (x := x) (z := z) (s := s) (t := t) (by omega) (by omega) (by omega) (by omega) (by omega) (by omega); have e1 : fcS lr lt y k v = fcS lr lt y k t := (by rw [ev]); have e2 : t = L - 1 → fcS lr lt y k (L - 1) = fcS lr lt y k t := (fun h => by rw [h]); unfold CandP at c; omega) | exact FInv.next hI3 (by omega) (fun x z u v c k1 k2 => by have cb := CandP_b c hF6 hL8; obtain ⟨eu, ev⟩ := key_t (u := u) (v := v) (x := x) (z := z) (s := s) (t := t) (by omega) (by omega) (by omega) (by omega) (by omega) (by omega); have e1 : fcS lr lt y k v = fcS lr lt y k t := (by rw [ev]); have e2 : t = L - 1 → fcS lr lt y k (L - 1) = fcS lr lt y k t := (fun h => by rw [h]); unfold CandP at c; omega)) (by omega)
                      · skip
                        refine x_iload C 5 dX6_bestPiece_91 rfl ?_
                        refine x_aload_n C 0 dX6_bestPiece_93 rfl rfl ?_
                        refine x_geti C ok_Saw sv 3 dX6_bestPiece_94 (ltS hsv hn (by decide) : sv + 0 < n) (tbS_0 hsv) (by decide) rfl q_2_13 rfl (kz := 3) rfl (fun rg94 => ?_)
                        refine x_iconst C dX6_bestPiece_97 ?_
                        refine x_isub C dX6_bestPiece_98 ?_
                        refine x_icmp_ne C dX6_bestPiece_99 (tgt := 106) (by decide) (by first | assumption | (constructor <;> omega)) (by first | assumption | (constructor <;> omega)) (fun h99 => ?_) (fun h99 => ?_)
                        · skip
                          refine x_iconst C dX6_bestPiece_106 ?_
                          refine x_istore C dX6_bestPiece_107 (by decide) (lv' := [(0, .ref (aG G sv)), (1, .int (iI y)), (2, .int (iI k)), (3, .int (iI 0)), (4, .int (iI s)), (5, .int (iI t)), (6, .int (iI 0))]) rfl ?_
                          refine x_iload_n C 3 dX6_bestPiece_109 rfl rfl ?_
                          refine x_if_ne C dX6_bestPiece_110 (tgt := 121) (by decide) (by first | assumption | (constructor <;> omega)) (fun h110 => (by exfalso; omega)) (fun h110 => ?_)
                          refine x_iload C 6 dX6_bestPiece_113 rfl ?_
                          refine x_if_ne C dX6_bestPiece_115 (tgt := 121) (by decide) (by first | assumption | (constructor <;> omega)) (fun h115 => (by exfalso; omega)) (fun h115 => ?_)
                          refine x_goto C dX6_bestPiece_118 (tgt := 221) (by decide) ?_
                          refine x_iinc C 5 dX6_bestPiece_221 rfl (by decide) (lv' := [(0, .ref (aG G sv)), (1, .int (iI y)), (2, .int (iI k)), (3, .int (iI 0)), (4, .int (iI s)), (5, .int (iI (t + 1))), (6, .int (iI 0))]) rfl ?_
                          refine x_goto C dX6_bestPiece_224 (tgt := 77) (by decide) ?_
                          refine x_sub [0, 1, 2, 3, 4, 5] (lv' := [(0, .ref (aG G sv)), (1, .int (iI y)), (2, .int (iI k)), (3, .int (iI 0)), (4, .int (iI s)), (5, .int (iI (t + 1)))]) rfl ?_
                          exact ih77 ((t + 1)) (VT) (by assumption) (by assumption) (by omega) (by first | exact FInv.next hI4 (by omega) (fun x z u v c k1 k2 => by have cb := CandP_b c hF6 hL8; obtain ⟨eu, ev⟩ := key_t (u := u) (v := v) (x := x) (z := z) (s := s) (t := t) (by omega) (by omega) (by omega) (by omega) (by omega) (by omega); have e1 : fcS lr lt y k v = fcS lr lt y k t := (by rw [ev]); have e2 : t = L - 1 → fcS lr lt y k (L - 1) = fcS lr lt y k t := (fun h => by rw [h]); unfold CandP at c; omega) | exact FInv.next hI3 (by omega) (fun x z u v c k1 k2 => by have cb := CandP_b c hF6 hL8; obtain ⟨eu, ev⟩ := key_t (u := u) (v := v) (x := x) (z := z) (s := s) (t := t) (by omega) (by omega) (by omega) (by omega) (by omega) (by omega); have e1 : fcS lr lt y k v = fcS lr lt y k t := (by rw [ev]); have e2 : t = L - 1 → fcS lr lt y k (L - 1) = fcS lr lt y k t := (fun h => by rw [h]); unfold CandP at c; omega)) (by omega)
                        · skip
                          refine x_iconst C dX6_bestPiece_102 ?_
                          refine x_goto C dX6_bestPiece_103 (tgt := 107) (by decide) ?_
                          refine x_istore C dX6_bestPiece_107 (by decide) (lv' := [(0, .ref (aG G sv)), (1, .int (iI y)), (2, .int (iI k)), (3, .int (iI 0)), (4, .int (iI s)), (5, .int (iI t)), (6, .int (iI 1))]) rfl ?_
                          refine x_iload_n C 3 dX6_bestPiece_109 rfl rfl ?_
                          refine x_if_ne C dX6_bestPiece_110 (tgt := 121) (by decide) (by first | assumption | (constructor <;> omega)) (fun h110 => (by exfalso; omega)) (fun h110 => ?_)
                          refine x_iload C 6 dX6_bestPiece_113 rfl ?_
                          refine x_if_ne C dX6_bestPiece_115 (tgt := 121) (by decide) (by first | assumption | (constructor <;> omega)) (fun h115 => ?_) (fun h115 => (by exfalso; omega))
                          refine x_aload_n C 0 dX6_bestPiece_121 rfl rfl ?_
                          refine x_getr C ok_Saw sv 10 (d := (sv + 6)) dX6_bestPiece_122 (ltS hsv hn (by decide) : sv + 0 < n) (tbS_0 hsv) (by decide) rfl q_2_20 rfl (kz := 10) rfl (lrS_10 hsv hLR) ?_
                          refine x_iload C 5 dX6_bestPiece_125 rfl ?_
                          refine x_iald C (sv + 6) dX6_bestPiece_127 (ltS hsv hn (by decide)) (tbS_6 hsv) (by refine ⟨?_, ?_⟩ <;> omega) (fun rg127 => ?_)
                          refine x_top (b := (fcS lr lt y k t)) (by exact hC3 t (by omega) (by omega)) ?_
                          have hfb := fcS_b lr lt y k t
                          refine x_istore C dX6_bestPiece_128 (by decide) (lv' := [(0, .ref (aG G sv)), (1, .int (iI y)), (2, .int (iI k)), (3, .int (iI 0)), (4, .int (iI s)), (5, .int (iI t)), (6, .int (iI 1)), (7, .int (iI (fcS lr lt y k t)))]) rfl ?_
                          refine x_bipush C dX6_bestPiece_130 (w := 11) (by decide) ?_
                          refine x_iload C 7 dX6_bestPiece_132 rfl ?_
                          refine x_isub C dX6_bestPiece_134 ?_
                          refine x_istore C dX6_bestPiece_135 (by decide) (lv' := [(0, .ref (aG G sv)), (1, .int (iI y)), (2, .int (iI k)), (3, .int (iI 0)), (4, .int (iI s)), (5, .int (iI t)), (6, .int (iI 1)), (7, .int (iI (fcS lr lt y k t))), (8, .int (iI (11 - (fcS lr lt y k t))))]) rfl ?_
                          refine x_iload_n C 3 dX6_bestPiece_137 rfl rfl ?_
                          refine x_if_eq C dX6_bestPiece_138 (tgt := 150) (by decide) (by first | assumption | (constructor <;> omega)) (fun h138 => ?_) (fun h138 => (by exfalso; omega))
                          refine x_iconst C dX6_bestPiece_150 ?_
                          refine x_istore C dX6_bestPiece_151 (by decide) (lv' := [(0, .ref (aG G sv)), (1, .int (iI y)), (2, .int (iI k)), (3, .int (iI 0)), (4, .int (iI s)), (5, .int (iI t)), (6, .int (iI 1)), (7, .int (iI (fcS lr lt y k t))), (8, .int (iI (11 - (fcS lr lt y k t)))), (9, .int (iI 0))]) rfl ?_
                          refine x_iload C 7 dX6_bestPiece_153 rfl ?_
                          refine x_istore C dX6_bestPiece_155 (by decide) (lv' := [(0, .ref (aG G sv)), (1, .int (iI y)), (2, .int (iI k)), (3, .int (iI 0)), (4, .int (iI s)), (5, .int (iI t)), (6, .int (iI 1)), (7, .int (iI (fcS lr lt y k t))), (8, .int (iI (11 - (fcS lr lt y k t)))), (9, .int (iI 0)), (10, .int (iI (fcS lr lt y k t)))]) rfl ?_
                          have lp_157 : ∀ (fuel : Nat) (a : Int) (VX : Nat → Int → Int), (∀ q, q ≠ sv + 6 → q ≠ sv + 7 → VX q = V q) → (∀ z, 0 ≤ z → z < L → VX (sv + 6) z = fcS lr lt y k z) → (fcS lr lt y k t ≤ a ∧ a ≤ 12) → (FInv VX sv lr lt L f m g pr y k (1521 * s + 169 * t + 13 * a)) → ((14 : Int) - a) < (fuel : Int) → Xw K G 0 0 (EndQ K G 0 0 (fun vv uu => ∃ (V1 : Nat → Int → Int), vv = some (.ref (aG G (sv + 7))) ∧ uu = (n, V1, R) ∧ (∀ q, q ≠ sv + 6 → q ≠ sv + 7 → V1 q = V q) ∧ (BestB lr lt L f m g pr y k (V1 (sv + 7) 8) (V1 (sv + 7) 7) (V1 (sv + 7) 0) (V1 (sv + 7) 1) (V1 (sv + 7) 2) (V1 (sv + 7) 3) (V1 (sv + 7) 4)) ∧ (0 ≤ V1 (sv + 7) 8 ∧ V1 (sv + 7) 8 ≤ 38016) ∧ (0 < V1 (sv + 7) 8 → V1 (sv + 7) 5 = faceH f m g y (V1 (sv + 7) 0) (V1 (sv + 7) 1) (V1 (sv + 7) 2) (V1 (sv + 7) 3) ∧ V1 (sv + 7) 6 = faceH f m g (y + k - 1) (V1 (sv + 7) 0) (V1 (sv + 7) 1) (V1 (sv + 7) 2) (V1 (sv + 7) 3)))) n VX R 157 [(0, .ref (aG G sv)), (1, .int (iI y)), (2, .int (iI k)), (3, .int (iI 0)), (4, .int (iI s)), (5, .int (iI t)), (6, .int (iI 1)), (7, .int (iI (fcS lr lt y k t))), (8, .int (iI (11 - (fcS lr lt y k t)))), (9, .int (iI 0)), (10, .int (iI a))] [] := by
                            intro fuel157
                            induction fuel157 with
                            | zero => intro a VX hF4 hC4 hR4 hI4 hfu157; exfalso; omega
                            | succ fuel157 ih157 =>
                              intro a VX hF4 hC4 hR4 hI4 hfu157
                              have ok4 := ok.fr hF4
                              have e34 : VX sv 3 = L := ok4.l
                              have e84 : VX (sv + 8) = V (sv + 8) := hF4 (sv + 8) (by omega) (by omega)
                              refine x_iload C 10 dX6_bestPiece_157 rfl ?_
                              refine x_iload C 9 dX6_bestPiece_159 rfl ?_
                              refine x_if_eq C dX6_bestPiece_161 (tgt := 169) (by decide) (by first | assumption | (constructor <;> omega)) (fun h161 => ?_) (fun h161 => (by exfalso; omega))
                              refine x_iload C 7 dX6_bestPiece_169 rfl ?_
                              refine x_icmp_gt C dX6_bestPiece_171 (tgt := 221) (by decide) (by first | assumption | (constructor <;> omega)) (by first | assumption | (constructor <;> omega)) (fun h171 => ?_) (fun h171 => ?_)
                              · skip
                                refine x_iinc C 5 dX6_bestPiece_221 rfl (by decide) (lv' := [(0, .ref (aG G sv)), (1, .int (iI y)), (2, .int (iI k)), (3, .int (iI 0)), (4, .int (iI s)), (5, .int (iI (t + 1))), (6, .int (iI 1)), (7, .int (iI (fcS lr lt y k t))), (8, .int (iI (11 - (fcS lr lt y k t)))), (9, .int (iI 0)), (10, .int (iI a))]) rfl ?_
                                refine x_goto C dX6_bestPiece_224 (tgt := 77) (by decide) ?_
                                refine x_sub [0, 1, 2, 3, 4, 5] (lv' := [(0, .ref (aG G sv)), (1, .int (iI y)), (2, .int (iI k)), (3, .int (iI 0)), (4, .int (iI s)), (5, .int (iI (t + 1)))]) rfl ?_
                                exact ih77 ((t + 1)) (VX) (by assumption) (by assumption) (by omega) (by first | exact FInv.next hI4 (by omega) (fun x z u v c k1 k2 => by have cb := CandP_b c hF6 hL8; obtain ⟨eu, ev⟩ := key_t (u := u) (v := v) (x := x) (z := z) (s := s) (t := t) (by omega) (by omega) (by omega) (by omega) (by omega) (by omega); have e1 : fcS lr lt y k v = fcS lr lt y k t := (by rw [ev]); have e2 : t = L - 1 → fcS lr lt y k (L - 1) = fcS lr lt y k t := (fun h => by rw [h]); unfold CandP at c; omega) | exact FInv.next hI3 (by omega) (fun x z u v c k1 k2 => by have cb := CandP_b c hF6 hL8; obtain ⟨eu, ev⟩ := key_t (u := u) (v := v) (x := x) (z := z) (s := s) (t := t) (by omega) (by omega) (by omega) (by omega) (by omega) (by omega); have e1 : fcS lr lt y k v = fcS lr lt y k t := (by rw [ev]); have e2 : t = L - 1 → fcS lr lt y k (L - 1) = fcS lr lt y k t := (fun h => by rw [h]); unfold CandP at c; omega)) (by omega)
                              · skip
                                refine x_iload C 9 dX6_bestPiece_174 rfl ?_
                                refine x_if_eq C dX6_bestPiece_176 (tgt := 184) (by decide) (by first | assumption | (constructor <;> omega)) (fun h176 => ?_) (fun h176 => (by exfalso; omega))
                                refine x_iload C 8 dX6_bestPiece_184 rfl ?_
                                refine x_istore C dX6_bestPiece_186 (by decide) (lv' := [(0, .ref (aG G sv)), (1, .int (iI y)), (2, .int (iI k)), (3, .int (iI 0)), (4, .int (iI s)), (5, .int (iI t)), (6, .int (iI 1)), (7, .int (iI (fcS lr lt y k t))), (8, .int (iI (11 - (fcS lr lt y k t)))), (9, .int (iI 0)), (10, .int (iI a)), (11, .int (iI (11 - (fcS lr lt y k t))))]) rfl ?_
                                have lp_188 : ∀ (fuel : Nat) (b : Int) (VY : Nat → Int → Int), (∀ q, q ≠ sv + 6 → q ≠ sv + 7 → VY q = V q) → (∀ z, 0 ≤ z → z < L → VY (sv + 6) z = fcS lr lt y k z) → (((pr 1 = 1 ∧ s = 0 ∧ t = L - 1 ∧ a ≤ b) ∨ 11 - fcS lr lt y k t ≤ b) ∧ b ≤ 12 ∧ a ≤ b + 1 ∧ 0 ≤ b) → (FInv VY sv lr lt L f m g pr y k (1521 * s + 169 * t + 13 * a + b)) → ((14 : Int) - b) < (fuel : Int) → Xw K G 0 0 (EndQ K G 0 0 (fun vv uu => ∃ (V1 : Nat → Int → Int), vv = some (.ref (aG G (sv + 7))) ∧ uu = (n, V1, R) ∧ (∀ q, q ≠ sv + 6 → q ≠ sv + 7 → V1 q = V q) ∧ (BestB lr lt L f m g pr y k (V1 (sv + 7) 8) (V1 (sv + 7) 7) (V1 (sv + 7) 0) (V1 (sv + 7) 1) (V1 (sv + 7) 2) (V1 (sv + 7) 3) (V1 (sv + 7) 4)) ∧ (0 ≤ V1 (sv + 7) 8 ∧ V1 (sv + 7) 8 ≤ 38016) ∧ (0 < V1 (sv + 7) 8 → V1 (sv + 7) 5 = faceH f m g y (V1 (sv + 7) 0) (V1 (sv + 7) 1) (V1 (sv + 7) 2) (V1 (sv + 7) 3) ∧ V1 (sv + 7) 6 = faceH f m g (y + k - 1) (V1 (sv + 7) 0) (V1 (sv + 7) 1) (V1 (sv + 7) 2) (V1 (sv + 7) 3)))) n VY R 188 [(0, .ref (aG G sv)), (1, .int (iI y)), (2, .int (iI k)), (3, .int (iI 0)), (4, .int (iI s)), (5, .int (iI t)), (6, .int (iI 1)), (7, .int (iI (fcS lr lt y k t))), (8, .int (iI (11 - (fcS lr lt y k t)))), (9, .int (iI 0)), (10, .int (iI a)), (11, .int (iI b))] [] := by
                                  intro fuel188
                                  induction fuel188 with
                                  | zero => intro b VY hF5 hC5 hR5 hI5 hfu188; exfalso; omega
                                  | succ fuel188 ih188 =>
                                    intro b VY hF5 hC5 hR5 hI5 hfu188
                                    have ok5 := ok.fr hF5
                                    have e35 : VY sv 3 = L := ok5.l
                                    have e85 : VY (sv + 8) = V (sv + 8) := hF5 (sv + 8) (by omega) (by omega)
                                    refine x_iload C 11 dX6_bestPiece_188 rfl ?_
                                    refine x_iload C 8 dX6_bestPiece_190 rfl ?_
                                    refine x_icmp_gt C dX6_bestPiece_192 (tgt := 215) (by decide) (by first | assumption | (constructor <;> omega)) (by first | assumption | (constructor <;> omega)) (fun h192 => ?_) (fun h192 => ?_)
                                    · skip
                                      refine x_iinc C 10 dX6_bestPiece_215 rfl (by decide) (lv' := [(0, .ref (aG G sv)), (1, .int (iI y)), (2, .int (iI k)), (3, .int (iI 0)), (4, .int (iI s)), (5, .int (iI t)), (6, .int (iI 1)), (7, .int (iI (fcS lr lt y k t))), (8, .int (iI (11 - (fcS lr lt y k t)))), (9, .int (iI 0)), (10, .int (iI (a + 1))), (11, .int (iI b))]) rfl ?_
                                      refine x_goto C dX6_bestPiece_218 (tgt := 157) (by decide) ?_
                                      refine x_sub [0, 1, 2, 3, 4, 5, 6, 7, 8, 9, 10] (lv' := [(0, .ref (aG G sv)), (1, .int (iI y)), (2, .int (iI k)), (3, .int (iI 0)), (4, .int (iI s)), (5, .int (iI t)), (6, .int (iI 1)), (7, .int (iI (fcS lr lt y k t))), (8, .int (iI (11 - (fcS lr lt y k t)))), (9, .int (iI 0)), (10, .int (iI (a + 1)))]) rfl ?_
                                      exact ih157 ((a + 1)) (VY) (by assumption) (by assumption) (by omega) (by exact FInv.next hI5 (by omega) (fun x z u v c k1 k2 => by have cb := CandP_b c hF6 hL8; obtain ⟨eu, ev⟩ := key_t (u := u) (v := v) (x := x) (z := z) (s := s) (t := t) (by omega) (by omega) (by omega) (by omega) (by omega) (by omega); have e1 : fcS lr lt y k v = fcS lr lt y k t := (by rw [ev]); have e2 : t = L - 1 → fcS lr lt y k (L - 1) = fcS lr lt y k t := (fun h => by rw [h]); unfold CandP at c; omega)) (by omega)
                                    · skip
                                      refine x_aload_n C 0 dX6_bestPiece_195 rfl rfl ?_
                                      refine x_iload_n C 1 dX6_bestPiece_196 rfl rfl ?_
                                      refine x_iload_n C 2 dX6_bestPiece_197 rfl rfl ?_
                                      refine x_iload C 10 dX6_bestPiece_198 rfl ?_
                                      refine x_iload C 11 dX6_bestPiece_200 rfl ?_
                                      refine x_iload C 4 dX6_bestPiece_202 rfl ?_
                                      refine x_iload C 5 dX6_bestPiece_204 rfl ?_
                                      refine x_runU (r_callV C ok_Saw sv (ltS hsv hn (by decide) : sv + 0 < n) (tbS_0 hsv) (ce_X6_tryPiece) (m_X6_tryPiece G n VY R (sv) (lr) (lt) (L) (f) (m) (g) (pr) (y) (k) (a) (b) (s) (t) hn hLR (by first | assumption | omega | decide) (by exact ok5) (by first | assumption | omega | decide) (by first | assumption | omega | decide) (by first | assumption | omega | decide) (by first | assumption | omega | decide) (by first | assumption | omega | decide) (by first | assumption | omega | decide) (by exact hI5.2.1) (by exact hI5.2.2.1) (by exact fun h => (hI5.2.2.2 h).1)) rfl dX6_bestPiece_206 q_32_16 q_32_17 q_32_18 rfl rfl ⟨Nat.le_of_ble_eq_true rfl, Nat.le_of_ble_eq_true rfl⟩ ⟨rfl, rfl⟩ ⟨Nat.le_of_ble_eq_true rfl, Nat.le_of_ble_eq_true rfl⟩ (Nat.le_of_ble_eq_true rfl)) (fun v206 u206 hp206 => ?_)
                                      obtain ⟨V1_206, rfl, rfl, hq206_0, hq206_1⟩ := hp206
                                      show Xw K G 0 0 _ n V1_206 R 209 [(0, .ref (aG G sv)), (1, .int (iI y)), (2, .int (iI k)), (3, .int (iI 0)), (4, .int (iI s)), (5, .int (iI t)), (6, .int (iI 1)), (7, .int (iI (fcS lr lt y k t))), (8, .int (iI (11 - (fcS lr lt y k t)))), (9, .int (iI 0)), (10, .int (iI a)), (11, .int (iI b))] []
                                      refine x_iinc C 11 dX6_bestPiece_209 rfl (by decide) (lv' := [(0, .ref (aG G sv)), (1, .int (iI y)), (2, .int (iI k)), (3, .int (iI 0)), (4, .int (iI s)), (5, .int (iI t)), (6, .int (iI 1)), (7, .int (iI (fcS lr lt y k t))), (8, .int (iI (11 - (fcS lr lt y k t)))), (9, .int (iI 0)), (10, .int (iI a)), (11, .int (iI (b + 1)))]) rfl ?_
                                      refine x_goto C dX6_bestPiece_212 (tgt := 188) (by decide) ?_
                                      exact ih188 ((b + 1)) (V1_206) (by exact fun q a b => (hq206_0 q b).trans (hF5 q a b)) (by exact fun z a b => by rw [hq206_0 (sv + 6) (by omega)]; exact hC5 z a b) (by omega) (by exact FInv.try hI5 hq206_1 (hq206_0 _ (by omega)) ok5 hk hF6 (by omega) (by omega) (by omega) (fun h => by have e2 : t = L - 1 → fcS lr lt y k (L - 1) = fcS lr lt y k t := (fun h => by rw [h]); unfold CandP; omega)) (by omega)
                                exact lp_188 (((14 : Int) - (11 - (fcS lr lt y k t))).toNat + 1) ((11 - (fcS lr lt y k t))) (VX) (by assumption) (by assumption) (by omega) (by exact FInv.next hI4 (by omega) (fun x z u v c k1 k2 => by have cb := CandP_b c hF6 hL8; obtain ⟨eu, ev⟩ := key_t (u := u) (v := v) (x := x) (z := z) (s := s) (t := t) (by omega) (by omega) (by omega) (by omega) (by omega) (by omega); have e1 : fcS lr lt y k v = fcS lr lt y k t := (by rw [ev]); have e2 : t = L - 1 → fcS lr lt y k (L - 1) = fcS lr lt y k t := (fun h => by rw [h]); unfold CandP at c; omega)) (by omega)
                          exact lp_157 (((14 : Int) - (fcS lr lt y k t)).toNat + 1) ((fcS lr lt y k t)) (VT) (by assumption) (by assumption) (by omega) (by exact FInv.next hI3 (by omega) (fun x z u v c k1 k2 => by have cb := CandP_b c hF6 hL8; obtain ⟨eu, ev⟩ := key_t (u := u) (v := v) (x := x) (z := z) (s := s) (t := t) (by omega) (by omega) (by omega) (by omega) (by omega) (by omega); have e1 : fcS lr lt y k v = fcS lr lt y k t := (by rw [ev]); have e2 : t = L - 1 → fcS lr lt y k (L - 1) = fcS lr lt y k t := (fun h => by rw [h]); unfold CandP at c; omega)) (by omega)
                exact lp_77 ((L + 1 - s).toNat + 1) (s) (VS) (by assumption) (by assumption) (by omega) (by exact FInv.next hI2 (by omega) (fun x z u v c k1 k2 => by have cb := CandP_b c hF6 hL8; omega)) (by omega)
          exact lp_64 ((L + 1 - 0).toNat + 1) (0) (VA) (by assumption) (by exact fun x a b => hCA x a (by omega)) (by omega) (by exact FInv.zero hWA hF6 hL8) (by omega)
        · skip
          refine x_iconst C dX6_bestPiece_55 ?_
          refine x_goto C dX6_bestPiece_56 (tgt := 60) (by decide) ?_
          refine x_istore_n C dX6_bestPiece_60 rfl (by decide) (lv' := [(0, .ref (aG G sv)), (1, .int (iI y)), (2, .int (iI k)), (3, .int (iI 1))]) rfl ?_
          refine x_iconst C dX6_bestPiece_61 ?_
          refine x_istore C dX6_bestPiece_62 (by decide) (lv' := [(0, .ref (aG G sv)), (1, .int (iI y)), (2, .int (iI k)), (3, .int (iI 1)), (4, .int (iI 0))]) rfl ?_
          have lp_64 : ∀ (fuel : Nat) (s : Int) (VS : Nat → Int → Int), (∀ q, q ≠ sv + 6 → q ≠ sv + 7 → VS q = V q) → (∀ z, 0 ≤ z → z < L → VS (sv + 6) z = fcS lr lt y k z) → (0 ≤ s ∧ s ≤ L) → (FInv VS sv lr lt L f m g pr y k (1521 * s)) → (L + 1 - s) < (fuel : Int) → Xw K G 0 0 (EndQ K G 0 0 (fun vv uu => ∃ (V1 : Nat → Int → Int), vv = some (.ref (aG G (sv + 7))) ∧ uu = (n, V1, R) ∧ (∀ q, q ≠ sv + 6 → q ≠ sv + 7 → V1 q = V q) ∧ (BestB lr lt L f m g pr y k (V1 (sv + 7) 8) (V1 (sv + 7) 7) (V1 (sv + 7) 0) (V1 (sv + 7) 1) (V1 (sv + 7) 2) (V1 (sv + 7) 3) (V1 (sv + 7) 4)) ∧ (0 ≤ V1 (sv + 7) 8 ∧ V1 (sv + 7) 8 ≤ 38016) ∧ (0 < V1 (sv + 7) 8 → V1 (sv + 7) 5 = faceH f m g y (V1 (sv + 7) 0) (V1 (sv + 7) 1) (V1 (sv + 7) 2) (V1 (sv + 7) 3) ∧ V1 (sv + 7) 6 = faceH f m g (y + k - 1) (V1 (sv + 7) 0) (V1 (sv + 7) 1) (V1 (sv + 7) 2) (V1 (sv + 7) 3)))) n VS R 64 [(0, .ref (aG G sv)), (1, .int (iI y)), (2, .int (iI k)), (3, .int (iI 1)), (4, .int (iI s))] [] := by
            intro fuel64
            induction fuel64 with
            | zero => intro s VS hF2 hC2 hR2 hI2 hfu64; exfalso; omega
            | succ fuel64 ih64 =>
              intro s VS hF2 hC2 hR2 hI2 hfu64
              have ok2 := ok.fr hF2
              have e32 : VS sv 3 = L := ok2.l
              have e82 : VS (sv + 8) = V (sv + 8) := hF2 (sv + 8) (by omega) (by omega)
              refine x_iload C 4 dX6_bestPiece_64 rfl ?_
              refine x_aload_n C 0 dX6_bestPiece_66 rfl rfl ?_
              refine x_geti C ok_Saw sv 3 dX6_bestPiece_67 (ltS hsv hn (by decide) : sv + 0 < n) (tbS_0 hsv) (by decide) rfl q_2_13 rfl (kz := 3) rfl (fun rg67 => ?_)
              refine x_icmp_ge C dX6_bestPiece_70 (tgt := 233) (by decide) (by first | assumption | (constructor <;> omega)) (by first | assumption | (constructor <;> omega)) (fun h70 => ?_) (fun h70 => ?_)
              · skip
                refine x_aload_n C 0 dX6_bestPiece_233 rfl rfl ?_
                refine x_getr C ok_Saw sv 11 (d := (sv + 7)) dX6_bestPiece_234 (ltS hsv hn (by decide) : sv + 0 < n) (tbS_0 hsv) (by decide) rfl q_3_0 rfl (kz := 11) rfl (lrS_11 hsv hLR) ?_
                refine x_aret C dX6_bestPiece_237 ⟨_, rfl, rfl, ?_, ?_, ?_, ?_⟩
                · assumption
                · exact FInv.out hI2 hF6 hL8 (by omega)
                · exact hI2.2.1
                · exact fun h => (hI2.2.2.2 h).2
              · skip
                refine x_iload C 4 dX6_bestPiece_73 rfl ?_
                refine x_istore C dX6_bestPiece_75 (by decide) (lv' := [(0, .ref (aG G sv)), (1, .int (iI y)), (2, .int (iI k)), (3, .int (iI 1)), (4, .int (iI s)), (5, .int (iI s))]) rfl ?_
                have lp_77 : ∀ (fuel : Nat) (t : Int) (VT : Nat → Int → Int), (∀ q, q ≠ sv + 6 → q ≠ sv + 7 → VT q = V q) → (∀ z, 0 ≤ z → z < L → VT (sv + 6) z = fcS lr lt y k z) → (0 ≤ s ∧ s < L ∧ s ≤ t ∧ t ≤ L) → (FInv VT sv lr lt L f m g pr y k (1521 * s + 169 * t)) → (L + 1 - t) < (fuel : Int) → Xw K G 0 0 (EndQ K G 0 0 (fun vv uu => ∃ (V1 : Nat → Int → Int), vv = some (.ref (aG G (sv + 7))) ∧ uu = (n, V1, R) ∧ (∀ q, q ≠ sv + 6 → q ≠ sv + 7 → V1 q = V q) ∧ (BestB lr lt L f m g pr y k (V1 (sv + 7) 8) (V1 (sv + 7) 7) (V1 (sv + 7) 0) (V1 (sv + 7) 1) (V1 (sv + 7) 2) (V1 (sv + 7) 3) (V1 (sv + 7) 4)) ∧ (0 ≤ V1 (sv + 7) 8 ∧ V1 (sv + 7) 8 ≤ 38016) ∧ (0 < V1 (sv + 7) 8 → V1 (sv + 7) 5 = faceH f m g y (V1 (sv + 7) 0) (V1 (sv + 7) 1) (V1 (sv + 7) 2) (V1 (sv + 7) 3) ∧ V1 (sv + 7) 6 = faceH f m g (y + k - 1) (V1 (sv + 7) 0) (V1 (sv + 7) 1) (V1 (sv + 7) 2) (V1 (sv + 7) 3)))) n VT R 77 [(0, .ref (aG G sv)), (1, .int (iI y)), (2, .int (iI k)), (3, .int (iI 1)), (4, .int (iI s)), (5, .int (iI t))] [] := by
                  intro fuel77
                  induction fuel77 with
                  | zero => intro t VT hF3 hC3 hR3 hI3 hfu77; exfalso; omega
                  | succ fuel77 ih77 =>
                    intro t VT hF3 hC3 hR3 hI3 hfu77
                    have ok3 := ok.fr hF3
                    have e33 : VT sv 3 = L := ok3.l
                    have e83 : VT (sv + 8) = V (sv + 8) := hF3 (sv + 8) (by omega) (by omega)
                    refine x_iload C 5 dX6_bestPiece_77 rfl ?_
                    refine x_aload_n C 0 dX6_bestPiece_79 rfl rfl ?_
                    refine x_geti C ok_Saw sv 3 dX6_bestPiece_80 (ltS hsv hn (by decide) : sv + 0 < n) (tbS_0 hsv) (by decide) rfl q_2_13 rfl (kz := 3) rfl (fun rg80 => ?_)
                    refine x_icmp_ge C dX6_bestPiece_83 (tgt := 227) (by decide) (by first | assumption | (constructor <;> omega)) (by first | assumption | (constructor <;> omega)) (fun h83 => ?_) (fun h83 => ?_)
                    · skip
                      refine x_iinc C 4 dX6_bestPiece_227 rfl (by decide) (lv' := [(0, .ref (aG G sv)), (1, .int (iI y)), (2, .int (iI k)), (3, .int (iI 1)), (4, .int (iI (s + 1))), (5, .int (iI t))]) rfl ?_
                      refine x_goto C dX6_bestPiece_230 (tgt := 64) (by decide) ?_
                      refine x_sub [0, 1, 2, 3, 4] (lv' := [(0, .ref (aG G sv)), (1, .int (iI y)), (2, .int (iI k)), (3, .int (iI 1)), (4, .int (iI (s + 1)))]) rfl ?_
                      exact ih64 ((s + 1)) (VT) (by assumption) (by assumption) (by omega) (by exact FInv.next hI3 (by omega) (fun x z u v c k1 k2 => by have cb := CandP_b c hF6 hL8; omega)) (by omega)
                    · skip
                      refine x_iload C 4 dX6_bestPiece_86 rfl ?_
                      refine x_if_ne C dX6_bestPiece_88 (tgt := 106) (by decide) (by first | assumption | (constructor <;> omega)) (fun h88 => ?_) (fun h88 => ?_)
                      · skip
                        refine x_iconst C dX6_bestPiece_106 ?_
                        refine x_istore C dX6_bestPiece_107 (by decide) (lv' := [(0, .ref (aG G sv)), (1, .int (iI y)), (2, .int (iI k)), (3, .int (iI 1)), (4, .int (iI s)), (5, .int (iI t)), (6, .int (iI 0))]) rfl ?_
                        refine x_iload_n C 3 dX6_bestPiece_109 rfl rfl ?_
                        refine x_if_ne C dX6_bestPiece_110 (tgt := 121) (by decide) (by first | assumption | (constructor <;> omega)) (fun h110 => ?_) (fun h110 => (by exfalso; omega))
                        refine x_aload_n C 0 dX6_bestPiece_121 rfl rfl ?_
                        refine x_getr C ok_Saw sv 10 (d := (sv + 6)) dX6_bestPiece_122 (ltS hsv hn (by decide) : sv + 0 < n) (tbS_0 hsv) (by decide) rfl q_2_20 rfl (kz := 10) rfl (lrS_10 hsv hLR) ?_
                        refine x_iload C 5 dX6_bestPiece_125 rfl ?_
                        refine x_iald C (sv + 6) dX6_bestPiece_127 (ltS hsv hn (by decide)) (tbS_6 hsv) (by refine ⟨?_, ?_⟩ <;> omega) (fun rg127 => ?_)
                        refine x_top (b := (fcS lr lt y k t)) (by exact hC3 t (by omega) (by omega)) ?_
                        have hfb := fcS_b lr lt y k t
                        refine x_istore C dX6_bestPiece_128 (by decide) (lv' := [(0, .ref (aG G sv)), (1, .int (iI y)), (2, .int (iI k)), (3, .int (iI 1)), (4, .int (iI s)), (5, .int (iI t)), (6, .int (iI 0)), (7, .int (iI (fcS lr lt y k t)))]) rfl ?_
                        refine x_bipush C dX6_bestPiece_130 (w := 11) (by decide) ?_
                        refine x_iload C 7 dX6_bestPiece_132 rfl ?_
                        refine x_isub C dX6_bestPiece_134 ?_
                        refine x_istore C dX6_bestPiece_135 (by decide) (lv' := [(0, .ref (aG G sv)), (1, .int (iI y)), (2, .int (iI k)), (3, .int (iI 1)), (4, .int (iI s)), (5, .int (iI t)), (6, .int (iI 0)), (7, .int (iI (fcS lr lt y k t))), (8, .int (iI (11 - (fcS lr lt y k t))))]) rfl ?_
                        refine x_iload_n C 3 dX6_bestPiece_137 rfl rfl ?_
                        refine x_if_eq C dX6_bestPiece_138 (tgt := 150) (by decide) (by first | assumption | (constructor <;> omega)) (fun h138 => (by exfalso; omega)) (fun h138 => ?_)
                        refine x_iload C 6 dX6_bestPiece_141 rfl ?_
                        refine x_if_eq C dX6_bestPiece_143 (tgt := 150) (by decide) (by first | assumption | (constructor <;> omega)) (fun h143 => ?_) (fun h143 => (by exfalso; omega))
                        refine x_iconst C dX6_bestPiece_150 ?_
                        refine x_istore C dX6_bestPiece_151 (by decide) (lv' := [(0, .ref (aG G sv)), (1, .int (iI y)), (2, .int (iI k)), (3, .int (iI 1)), (4, .int (iI s)), (5, .int (iI t)), (6, .int (iI 0)), (7, .int (iI (fcS lr lt y k t))), (8, .int (iI (11 - (fcS lr lt y k t)))), (9, .int (iI 0))]) rfl ?_
                        refine x_iload C 7 dX6_bestPiece_153 rfl ?_
                        refine x_istore C dX6_bestPiece_155 (by decide) (lv' := [(0, .ref (aG G sv)), (1, .int (iI y)), (2, .int (iI k)), (3, .int (iI 1)), (4, .int (iI s)), (5, .int (iI t)), (6, .int (iI 0)), (7, .int (iI (fcS lr lt y k t))), (8, .int (iI (11 - (fcS lr lt y k t)))), (9, .int (iI 0)), (10, .int (iI (fcS lr lt y k t)))]) rfl ?_
                        have lp_157 : ∀ (fuel : Nat) (a : Int) (VX : Nat → Int → Int), (∀ q, q ≠ sv + 6 → q ≠ sv + 7 → VX q = V q) → (∀ z, 0 ≤ z → z < L → VX (sv + 6) z = fcS lr lt y k z) → (fcS lr lt y k t ≤ a ∧ a ≤ 12) → (FInv VX sv lr lt L f m g pr y k (1521 * s + 169 * t + 13 * a)) → ((14 : Int) - a) < (fuel : Int) → Xw K G 0 0 (EndQ K G 0 0 (fun vv uu => ∃ (V1 : Nat → Int → Int), vv = some (.ref (aG G (sv + 7))) ∧ uu = (n, V1, R) ∧ (∀ q, q ≠ sv + 6 → q ≠ sv + 7 → V1 q = V q) ∧ (BestB lr lt L f m g pr y k (V1 (sv + 7) 8) (V1 (sv + 7) 7) (V1 (sv + 7) 0) (V1 (sv + 7) 1) (V1 (sv + 7) 2) (V1 (sv + 7) 3) (V1 (sv + 7) 4)) ∧ (0 ≤ V1 (sv + 7) 8 ∧ V1 (sv + 7) 8 ≤ 38016) ∧ (0 < V1 (sv + 7) 8 → V1 (sv + 7) 5 = faceH f m g y (V1 (sv + 7) 0) (V1 (sv + 7) 1) (V1 (sv + 7) 2) (V1 (sv + 7) 3) ∧ V1 (sv + 7) 6 = faceH f m g (y + k - 1) (V1 (sv + 7) 0) (V1 (sv + 7) 1) (V1 (sv + 7) 2) (V1 (sv + 7) 3)))) n VX R 157 [(0, .ref (aG G sv)), (1, .int (iI y)), (2, .int (iI k)), (3, .int (iI 1)), (4, .int (iI s)), (5, .int (iI t)), (6, .int (iI 0)), (7, .int (iI (fcS lr lt y k t))), (8, .int (iI (11 - (fcS lr lt y k t)))), (9, .int (iI 0)), (10, .int (iI a))] [] := by
                          intro fuel157
                          induction fuel157 with
                          | zero => intro a VX hF4 hC4 hR4 hI4 hfu157; exfalso; omega
                          | succ fuel157 ih157 =>
                            intro a VX hF4 hC4 hR4 hI4 hfu157
                            have ok4 := ok.fr hF4
                            have e34 : VX sv 3 = L := ok4.l
                            have e84 : VX (sv + 8) = V (sv + 8) := hF4 (sv + 8) (by omega) (by omega)
                            refine x_iload C 10 dX6_bestPiece_157 rfl ?_
                            refine x_iload C 9 dX6_bestPiece_159 rfl ?_
                            refine x_if_eq C dX6_bestPiece_161 (tgt := 169) (by decide) (by first | assumption | (constructor <;> omega)) (fun h161 => ?_) (fun h161 => (by exfalso; omega))
                            refine x_iload C 7 dX6_bestPiece_169 rfl ?_
                            refine x_icmp_gt C dX6_bestPiece_171 (tgt := 221) (by decide) (by first | assumption | (constructor <;> omega)) (by first | assumption | (constructor <;> omega)) (fun h171 => ?_) (fun h171 => ?_)
                            · skip
                              refine x_iinc C 5 dX6_bestPiece_221 rfl (by decide) (lv' := [(0, .ref (aG G sv)), (1, .int (iI y)), (2, .int (iI k)), (3, .int (iI 1)), (4, .int (iI s)), (5, .int (iI (t + 1))), (6, .int (iI 0)), (7, .int (iI (fcS lr lt y k t))), (8, .int (iI (11 - (fcS lr lt y k t)))), (9, .int (iI 0)), (10, .int (iI a))]) rfl ?_
                              refine x_goto C dX6_bestPiece_224 (tgt := 77) (by decide) ?_
                              refine x_sub [0, 1, 2, 3, 4, 5] (lv' := [(0, .ref (aG G sv)), (1, .int (iI y)), (2, .int (iI k)), (3, .int (iI 1)), (4, .int (iI s)), (5, .int (iI (t + 1)))]) rfl ?_
                              exact ih77 ((t + 1)) (VX) (by assumption) (by assumption) (by omega) (by first | exact FInv.next hI4 (by omega) (fun x z u v c k1 k2 => by have cb := CandP_b c hF6 hL8; obtain ⟨eu, ev⟩ := key_t (u := u) (v := v) (x := x) (z := z) (s := s) (t := t) (by omega) (by omega) (by omega) (by omega) (by omega) (by omega); have e1 : fcS lr lt y k v = fcS lr lt y k t := (by rw [ev]); have e2 : t = L - 1 → fcS lr lt y k (L - 1) = fcS lr lt y k t := (fun h => by rw [h]); unfold CandP at c; omega) | exact FInv.next hI3 (by omega) (fun x z u v c k1 k2 => by have cb := CandP_b c hF6 hL8; obtain ⟨eu, ev⟩ := key_t (u := u) (v := v) (x := x) (z := z) (s := s) (t := t) (by omega) (by omega) (by omega) (by omega) (by omega) (by omega); have e1 : fcS lr lt y k v = fcS lr lt y k t := (by rw [ev]); have e2 : t = L - 1 → fcS lr lt y k (L - 1) = fcS lr lt y k t := (fun h => by rw [h]); unfold CandP at c; omega)) (by omega)
                            · skip
                              refine x_iload C 9 dX6_bestPiece_174 rfl ?_
                              refine x_if_eq C dX6_bestPiece_176 (tgt := 184) (by decide) (by first | assumption | (constructor <;> omega)) (fun h176 => ?_) (fun h176 => (by exfalso; omega))
                              refine x_iload C 8 dX6_bestPiece_184 rfl ?_
                              refine x_istore C dX6_bestPiece_186 (by decide) (lv' := [(0, .ref (aG G sv)), (1, .int (iI y)), (2, .int (iI k)), (3, .int (iI 1)), (4, .int (iI s)), (5, .int (iI t)), (6, .int (iI 0)), (7, .int (iI (fcS lr lt y k t))), (8, .int (iI (11 - (fcS lr lt y k t)))), (9, .int (iI 0)), (10, .int (iI a)), (11, .int (iI (11 - (fcS lr lt y k t))))]) rfl ?_
                              have lp_188 : ∀ (fuel : Nat) (b : Int) (VY : Nat → Int → Int), (∀ q, q ≠ sv + 6 → q ≠ sv + 7 → VY q = V q) → (∀ z, 0 ≤ z → z < L → VY (sv + 6) z = fcS lr lt y k z) → (((pr 1 = 1 ∧ s = 0 ∧ t = L - 1 ∧ a ≤ b) ∨ 11 - fcS lr lt y k t ≤ b) ∧ b ≤ 12 ∧ a ≤ b + 1 ∧ 0 ≤ b) → (FInv VY sv lr lt L f m g pr y k (1521 * s + 169 * t + 13 * a + b)) → ((14 : Int) - b) < (fuel : Int) → Xw K G 0 0 (EndQ K G 0 0 (fun vv uu => ∃ (V1 : Nat → Int → Int), vv = some (.ref (aG G (sv + 7))) ∧ uu = (n, V1, R) ∧ (∀ q, q ≠ sv + 6 → q ≠ sv + 7 → V1 q = V q) ∧ (BestB lr lt L f m g pr y k (V1 (sv + 7) 8) (V1 (sv + 7) 7) (V1 (sv + 7) 0) (V1 (sv + 7) 1) (V1 (sv + 7) 2) (V1 (sv + 7) 3) (V1 (sv + 7) 4)) ∧ (0 ≤ V1 (sv + 7) 8 ∧ V1 (sv + 7) 8 ≤ 38016) ∧ (0 < V1 (sv + 7) 8 → V1 (sv + 7) 5 = faceH f m g y (V1 (sv + 7) 0) (V1 (sv + 7) 1) (V1 (sv + 7) 2) (V1 (sv + 7) 3) ∧ V1 (sv + 7) 6 = faceH f m g (y + k - 1) (V1 (sv + 7) 0) (V1 (sv + 7) 1) (V1 (sv + 7) 2) (V1 (sv + 7) 3)))) n VY R 188 [(0, .ref (aG G sv)), (1, .int (iI y)), (2, .int (iI k)), (3, .int (iI 1)), (4, .int (iI s)), (5, .int (iI t)), (6, .int (iI 0)), (7, .int (iI (fcS lr lt y k t))), (8, .int (iI (11 - (fcS lr lt y k t)))), (9, .int (iI 0)), (10, .int (iI a)), (11, .int (iI b))] [] := by
                                intro fuel188
                                induction fuel188 with
                                | zero => intro b VY hF5 hC5 hR5 hI5 hfu188; exfalso; omega
                                | succ fuel188 ih188 =>
                                  intro b VY hF5 hC5 hR5 hI5 hfu188
                                  have ok5 := ok.fr hF5
                                  have e35 : VY sv 3 = L := ok5.l
                                  have e85 : VY (sv + 8) = V (sv + 8) := hF5 (sv + 8) (by omega) (by omega)
                                  refine x_iload C 11 dX6_bestPiece_188 rfl ?_
                                  refine x_iload C 8 dX6_bestPiece_190 rfl ?_
                                  refine x_icmp_gt C dX6_bestPiece_192 (tgt := 215) (by decide) (by first | assumption | (constructor <;> omega)) (by first | assumption | (constructor <;> omega)) (fun h192 => ?_) (fun h192 => ?_)
                                  · skip
                                    refine x_iinc C 10 dX6_bestPiece_215 rfl (by decide) (lv' := [(0, .ref (aG G sv)), (1, .int (iI y)), (2, .int (iI k)), (3, .int (iI 1)), (4, .int (iI s)), (5, .int (iI t)), (6, .int (iI 0)), (7, .int (iI (fcS lr lt y k t))), (8, .int (iI (11 - (fcS lr lt y k t)))), (9, .int (iI 0)), (10, .int (iI (a + 1))), (11, .int (iI b))]) rfl ?_
                                    refine x_goto C dX6_bestPiece_218 (tgt := 157) (by decide) ?_
                                    refine x_sub [0, 1, 2, 3, 4, 5, 6, 7, 8, 9, 10] (lv' := [(0, .ref (aG G sv)), (1, .int (iI y)), (2, .int (iI k)), (3, .int (iI 1)), (4, .int (iI s)), (5, .int (iI t)), (6, .int (iI 0)), (7, .int (iI (fcS lr lt y k t))), (8, .int (iI (11 - (fcS lr lt y k t)))), (9, .int (iI 0)), (10, .int (iI (a + 1)))]) rfl ?_
                                    exact ih157 ((a + 1)) (VY) (by assumption) (by assumption) (by omega) (by exact FInv.next hI5 (by omega) (fun x z u v c k1 k2 => by have cb := CandP_b c hF6 hL8; obtain ⟨eu, ev⟩ := key_t (u := u) (v := v) (x := x) (z := z) (s := s) (t := t) (by omega) (by omega) (by omega) (by omega) (by omega) (by omega); have e1 : fcS lr lt y k v = fcS lr lt y k t := (by rw [ev]); have e2 : t = L - 1 → fcS lr lt y k (L - 1) = fcS lr lt y k t := (fun h => by rw [h]); unfold CandP at c; omega)) (by omega)
                                  · skip
                                    refine x_aload_n C 0 dX6_bestPiece_195 rfl rfl ?_
                                    refine x_iload_n C 1 dX6_bestPiece_196 rfl rfl ?_
                                    refine x_iload_n C 2 dX6_bestPiece_197 rfl rfl ?_
                                    refine x_iload C 10 dX6_bestPiece_198 rfl ?_
                                    refine x_iload C 11 dX6_bestPiece_200 rfl ?_
                                    refine x_iload C 4 dX6_bestPiece_202 rfl ?_
                                    refine x_iload C 5 dX6_bestPiece_204 rfl ?_
                                    refine x_runU (r_callV C ok_Saw sv (ltS hsv hn (by decide) : sv + 0 < n) (tbS_0 hsv) (ce_X6_tryPiece) (m_X6_tryPiece G n VY R (sv) (lr) (lt) (L) (f) (m) (g) (pr) (y) (k) (a) (b) (s) (t) hn hLR (by first | assumption | omega | decide) (by exact ok5) (by first | assumption | omega | decide) (by first | assumption | omega | decide) (by first | assumption | omega | decide) (by first | assumption | omega | decide) (by first | assumption | omega | decide) (by first | assumption | omega | decide) (by exact hI5.2.1) (by exact hI5.2.2.1) (by exact fun h => (hI5.2.2.2 h).1)) rfl dX6_bestPiece_206 q_32_16 q_32_17 q_32_18 rfl rfl ⟨Nat.le_of_ble_eq_true rfl, Nat.le_of_ble_eq_true rfl⟩ ⟨rfl, rfl⟩ ⟨Nat.le_of_ble_eq_true rfl, Nat.le_of_ble_eq_true rfl⟩ (Nat.le_of_ble_eq_true rfl)) (fun v206 u206 hp206 => ?_)
                                    obtain ⟨V1_206, rfl, rfl, hq206_0, hq206_1⟩ := hp206
                                    show Xw K G 0 0 _ n V1_206 R 209 [(0, .ref (aG G sv)), (1, .int (iI y)), (2, .int (iI k)), (3, .int (iI 1)), (4, .int (iI s)), (5, .int (iI t)), (6, .int (iI 0)), (7, .int (iI (fcS lr lt y k t))), (8, .int (iI (11 - (fcS lr lt y k t)))), (9, .int (iI 0)), (10, .int (iI a)), (11, .int (iI b))] []
                                    refine x_iinc C 11 dX6_bestPiece_209 rfl (by decide) (lv' := [(0, .ref (aG G sv)), (1, .int (iI y)), (2, .int (iI k)), (3, .int (iI 1)), (4, .int (iI s)), (5, .int (iI t)), (6, .int (iI 0)), (7, .int (iI (fcS lr lt y k t))), (8, .int (iI (11 - (fcS lr lt y k t)))), (9, .int (iI 0)), (10, .int (iI a)), (11, .int (iI (b + 1)))]) rfl ?_
                                    refine x_goto C dX6_bestPiece_212 (tgt := 188) (by decide) ?_
                                    exact ih188 ((b + 1)) (V1_206) (by exact fun q a b => (hq206_0 q b).trans (hF5 q a b)) (by exact fun z a b => by rw [hq206_0 (sv + 6) (by omega)]; exact hC5 z a b) (by omega) (by exact FInv.try hI5 hq206_1 (hq206_0 _ (by omega)) ok5 hk hF6 (by omega) (by omega) (by omega) (fun h => by have e2 : t = L - 1 → fcS lr lt y k (L - 1) = fcS lr lt y k t := (fun h => by rw [h]); unfold CandP; omega)) (by omega)
                              exact lp_188 (((14 : Int) - (11 - (fcS lr lt y k t))).toNat + 1) ((11 - (fcS lr lt y k t))) (VX) (by assumption) (by assumption) (by omega) (by exact FInv.next hI4 (by omega) (fun x z u v c k1 k2 => by have cb := CandP_b c hF6 hL8; obtain ⟨eu, ev⟩ := key_t (u := u) (v := v) (x := x) (z := z) (s := s) (t := t) (by omega) (by omega) (by omega) (by omega) (by omega) (by omega); have e1 : fcS lr lt y k v = fcS lr lt y k t := (by rw [ev]); have e2 : t = L - 1 → fcS lr lt y k (L - 1) = fcS lr lt y k t := (fun h => by rw [h]); unfold CandP at c; omega)) (by omega)
                        exact lp_157 (((14 : Int) - (fcS lr lt y k t)).toNat + 1) ((fcS lr lt y k t)) (VT) (by assumption) (by assumption) (by omega) (by exact FInv.next hI3 (by omega) (fun x z u v c k1 k2 => by have cb := CandP_b c hF6 hL8; obtain ⟨eu, ev⟩ := key_t (u := u) (v := v) (x := x) (z := z) (s := s) (t := t) (by omega) (by omega) (by omega) (by omega) (by omega) (by omega); have e1 : fcS lr lt y k v = fcS lr lt y k t := (by rw [ev]); have e2 : t = L - 1 → fcS lr lt y k (L - 1) = fcS lr lt y k t := (fun h => by rw [h]); unfold CandP at c; omega)) (by omega)
                      · skip
                        refine x_iload C 5 dX6_bestPiece_91 rfl ?_
                        refine x_aload_n C 0 dX6_bestPiece_93 rfl rfl ?_
                        refine x_geti C ok_Saw sv 3 dX6_bestPiece_94 (ltS hsv hn (by decide) : sv + 0 < n) (tbS_0 hsv) (by decide) rfl q_2_13 rfl (kz := 3) rfl (fun rg94 => ?_)
                        refine x_iconst C dX6_bestPiece_97 ?_
                        refine x_isub C dX6_bestPiece_98 ?_
                        refine x_icmp_ne C dX6_bestPiece_99 (tgt := 106) (by decide) (by first | assumption | (constructor <;> omega)) (by first | assumption | (constructor <;> omega)) (fun h99 => ?_) (fun h99 => ?_)
                        · skip
                          refine x_iconst C dX6_bestPiece_106 ?_
                          refine x_istore C dX6_bestPiece_107 (by decide) (lv' := [(0, .ref (aG G sv)), (1, .int (iI y)), (2, .int (iI k)), (3, .int (iI 1)), (4, .int (iI s)), (5, .int (iI t)), (6, .int (iI 0))]) rfl ?_
                          refine x_iload_n C 3 dX6_bestPiece_109 rfl rfl ?_
                          refine x_if_ne C dX6_bestPiece_110 (tgt := 121) (by decide) (by first | assumption | (constructor <;> omega)) (fun h110 => ?_) (fun h110 => (by exfalso; omega))
                          refine x_aload_n C 0 dX6_bestPiece_121 rfl rfl ?_
                          refine x_getr C ok_Saw sv 10 (d := (sv + 6)) dX6_bestPiece_122 (ltS hsv hn (by decide) : sv + 0 < n) (tbS_0 hsv) (by decide) rfl q_2_20 rfl (kz := 10) rfl (lrS_10 hsv hLR) ?_
                          refine x_iload C 5 dX6_bestPiece_125 rfl ?_
                          refine x_iald C (sv + 6) dX6_bestPiece_127 (ltS hsv hn (by decide)) (tbS_6 hsv) (by refine ⟨?_, ?_⟩ <;> omega) (fun rg127 => ?_)
                          refine x_top (b := (fcS lr lt y k t)) (by exact hC3 t (by omega) (by omega)) ?_
                          have hfb := fcS_b lr lt y k t
                          refine x_istore C dX6_bestPiece_128 (by decide) (lv' := [(0, .ref (aG G sv)), (1, .int (iI y)), (2, .int (iI k)), (3, .int (iI 1)), (4, .int (iI s)), (5, .int (iI t)), (6, .int (iI 0)), (7, .int (iI (fcS lr lt y k t)))]) rfl ?_
                          refine x_bipush C dX6_bestPiece_130 (w := 11) (by decide) ?_
                          refine x_iload C 7 dX6_bestPiece_132 rfl ?_
                          refine x_isub C dX6_bestPiece_134 ?_
                          refine x_istore C dX6_bestPiece_135 (by decide) (lv' := [(0, .ref (aG G sv)), (1, .int (iI y)), (2, .int (iI k)), (3, .int (iI 1)), (4, .int (iI s)), (5, .int (iI t)), (6, .int (iI 0)), (7, .int (iI (fcS lr lt y k t))), (8, .int (iI (11 - (fcS lr lt y k t))))]) rfl ?_
                          refine x_iload_n C 3 dX6_bestPiece_137 rfl rfl ?_
                          refine x_if_eq C dX6_bestPiece_138 (tgt := 150) (by decide) (by first | assumption | (constructor <;> omega)) (fun h138 => (by exfalso; omega)) (fun h138 => ?_)
                          refine x_iload C 6 dX6_bestPiece_141 rfl ?_
                          refine x_if_eq C dX6_bestPiece_143 (tgt := 150) (by decide) (by first | assumption | (constructor <;> omega)) (fun h143 => ?_) (fun h143 => (by exfalso; omega))
                          refine x_iconst C dX6_bestPiece_150 ?_
                          refine x_istore C dX6_bestPiece_151 (by decide) (lv' := [(0, .ref (aG G sv)), (1, .int (iI y)), (2, .int (iI k)), (3, .int (iI 1)), (4, .int (iI s)), (5, .int (iI t)), (6, .int (iI 0)), (7, .int (iI (fcS lr lt y k t))), (8, .int (iI (11 - (fcS lr lt y k t)))), (9, .int (iI 0))]) rfl ?_
                          refine x_iload C 7 dX6_bestPiece_153 rfl ?_
                          refine x_istore C dX6_bestPiece_155 (by decide) (lv' := [(0, .ref (aG G sv)), (1, .int (iI y)), (2, .int (iI k)), (3, .int (iI 1)), (4, .int (iI s)), (5, .int (iI t)), (6, .int (iI 0)), (7, .int (iI (fcS lr lt y k t))), (8, .int (iI (11 - (fcS lr lt y k t)))), (9, .int (iI 0)), (10, .int (iI (fcS lr lt y k t)))]) rfl ?_
                          have lp_157 : ∀ (fuel : Nat) (a : Int) (VX : Nat → Int → Int), (∀ q, q ≠ sv + 6 → q ≠ sv + 7 → VX q = V q) → (∀ z, 0 ≤ z → z < L → VX (sv + 6) z = fcS lr lt y k z) → (fcS lr lt y k t ≤ a ∧ a ≤ 12) → (FInv VX sv lr lt L f m g pr y k (1521 * s + 169 * t + 13 * a)) → ((14 : Int) - a) < (fuel : Int) → Xw K G 0 0 (EndQ K G 0 0 (fun vv uu => ∃ (V1 : Nat → Int → Int), vv = some (.ref (aG G (sv + 7))) ∧ uu = (n, V1, R) ∧ (∀ q, q ≠ sv + 6 → q ≠ sv + 7 → V1 q = V q) ∧ (BestB lr lt L f m g pr y k (V1 (sv + 7) 8) (V1 (sv + 7) 7) (V1 (sv + 7) 0) (V1 (sv + 7) 1) (V1 (sv + 7) 2) (V1 (sv + 7) 3) (V1 (sv + 7) 4)) ∧ (0 ≤ V1 (sv + 7) 8 ∧ V1 (sv + 7) 8 ≤ 38016) ∧ (0 < V1 (sv + 7) 8 → V1 (sv + 7) 5 = faceH f m g y (V1 (sv + 7) 0) (V1 (sv + 7) 1) (V1 (sv + 7) 2) (V1 (sv + 7) 3) ∧ V1 (sv + 7) 6 = faceH f m g (y + k - 1) (V1 (sv + 7) 0) (V1 (sv + 7) 1) (V1 (sv + 7) 2) (V1 (sv + 7) 3)))) n VX R 157 [(0, .ref (aG G sv)), (1, .int (iI y)), (2, .int (iI k)), (3, .int (iI 1)), (4, .int (iI s)), (5, .int (iI t)), (6, .int (iI 0)), (7, .int (iI (fcS lr lt y k t))), (8, .int (iI (11 - (fcS lr lt y k t)))), (9, .int (iI 0)), (10, .int (iI a))] [] := by
                            intro fuel157
                            induction fuel157 with
                            | zero => intro a VX hF4 hC4 hR4 hI4 hfu157; exfalso; omega
                            | succ fuel157 ih157 =>
                              intro a VX hF4 hC4 hR4 hI4 hfu157
                              have ok4 := ok.fr hF4
                              have e34 : VX sv 3 = L := ok4.l
                              have e84 : VX (sv + 8) = V (sv + 8) := hF4 (sv + 8) (by omega) (by omega)
                              refine x_iload C 10 dX6_bestPiece_157 rfl ?_
                              refine x_iload C 9 dX6_bestPiece_159 rfl ?_
                              refine x_if_eq C dX6_bestPiece_161 (tgt := 169) (by decide) (by first | assumption | (constructor <;> omega)) (fun h161 => ?_) (fun h161 => (by exfalso; omega))
                              refine x_iload C 7 dX6_bestPiece_169 rfl ?_
                              refine x_icmp_gt C dX6_bestPiece_171 (tgt := 221) (by decide) (by first | assumption | (constructor <;> omega)) (by first | assumption | (constructor <;> omega)) (fun h171 => ?_) (fun h171 => ?_)
                              · skip
                                refine x_iinc C 5 dX6_bestPiece_221 rfl (by decide) (lv' := [(0, .ref (aG G sv)), (1, .int (iI y)), (2, .int (iI k)), (3, .int (iI 1)), (4, .int (iI s)), (5, .int (iI (t + 1))), (6, .int (iI 0)), (7, .int (iI (fcS lr lt y k t))), (8, .int (iI (11 - (fcS lr lt y k t)))), (9, .int (iI 0)), (10, .int (iI a))]) rfl ?_
                                refine x_goto C dX6_bestPiece_224 (tgt := 77) (by decide) ?_
                                refine x_sub [0, 1, 2, 3, 4, 5] (lv' := [(0, .ref (aG G sv)), (1, .int (iI y)), (2, .int (iI k)), (3, .int (iI 1)), (4, .int (iI s)), (5, .int (iI (t + 1)))]) rfl ?_
                                exact ih77 ((t + 1)) (VX) (by assumption) (by assumption) (by omega) (by first | exact FInv.next hI4 (by omega) (fun x z u v c k1 k2 => by have cb := CandP_b c hF6 hL8; obtain ⟨eu, ev⟩ := key_t (u := u) (v := v) (x := x) (z := z) (s := s) (t := t) (by omega) (by omega) (by omega) (by omega) (by omega) (by omega); have e1 : fcS lr lt y k v = fcS lr lt y k t := (by rw [ev]); have e2 : t = L - 1 → fcS lr lt y k (L - 1) = fcS lr lt y k t := (fun h => by rw [h]); unfold CandP at c; omega) | exact FInv.next hI3 (by omega) (fun x z u v c k1 k2 => by have cb := CandP_b c hF6 hL8; obtain ⟨eu, ev⟩ := key_t (u := u) (v := v) (x := x) (z := z) (s := s) (t := t) (by omega) (by omega) (by omega) (by omega) (by omega) (by omega); have e1 : fcS lr lt y k v = fcS lr lt y k t := (by rw [ev]); have e2 : t = L - 1 → fcS lr lt y k (L - 1) = fcS lr lt y k t := (fun h => by rw [h]); unfold CandP at c; omega)) (by omega)
                              · skip
                                refine x_iload C 9 dX6_bestPiece_174 rfl ?_
                                refine x_if_eq C dX6_bestPiece_176 (tgt := 184) (by decide) (by first | assumption | (constructor <;> omega)) (fun h176 => ?_) (fun h176 => (by exfalso; omega))
                                refine x_iload C 8 dX6_bestPiece_184 rfl ?_
                                refine x_istore C dX6_bestPiece_186 (by decide) (lv' := [(0, .ref (aG G sv)), (1, .int (iI y)), (2, .int (iI k)), (3, .int (iI 1)), (4, .int (iI s)), (5, .int (iI t)), (6, .int (iI 0)), (7, .int (iI (fcS lr lt y k t))), (8, .int (iI (11 - (fcS lr lt y k t)))), (9, .int (iI 0)), (10, .int (iI a)), (11, .int (iI (11 - (fcS lr lt y k t))))]) rfl ?_
                                have lp_188 : ∀ (fuel : Nat) (b : Int) (VY : Nat → Int → Int), (∀ q, q ≠ sv + 6 → q ≠ sv + 7 → VY q = V q) → (∀ z, 0 ≤ z → z < L → VY (sv + 6) z = fcS lr lt y k z) → (((pr 1 = 1 ∧ s = 0 ∧ t = L - 1 ∧ a ≤ b) ∨ 11 - fcS lr lt y k t ≤ b) ∧ b ≤ 12 ∧ a ≤ b + 1 ∧ 0 ≤ b) → (FInv VY sv lr lt L f m g pr y k (1521 * s + 169 * t + 13 * a + b)) → ((14 : Int) - b) < (fuel : Int) → Xw K G 0 0 (EndQ K G 0 0 (fun vv uu => ∃ (V1 : Nat → Int → Int), vv = some (.ref (aG G (sv + 7))) ∧ uu = (n, V1, R) ∧ (∀ q, q ≠ sv + 6 → q ≠ sv + 7 → V1 q = V q) ∧ (BestB lr lt L f m g pr y k (V1 (sv + 7) 8) (V1 (sv + 7) 7) (V1 (sv + 7) 0) (V1 (sv + 7) 1) (V1 (sv + 7) 2) (V1 (sv + 7) 3) (V1 (sv + 7) 4)) ∧ (0 ≤ V1 (sv + 7) 8 ∧ V1 (sv + 7) 8 ≤ 38016) ∧ (0 < V1 (sv + 7) 8 → V1 (sv + 7) 5 = faceH f m g y (V1 (sv + 7) 0) (V1 (sv + 7) 1) (V1 (sv + 7) 2) (V1 (sv + 7) 3) ∧ V1 (sv + 7) 6 = faceH f m g (y + k - 1) (V1 (sv + 7) 0) (V1 (sv + 7) 1) (V1 (sv + 7) 2) (V1 (sv + 7) 3)))) n VY R 188 [(0, .ref (aG G sv)), (1, .int (iI y)), (2, .int (iI k)), (3, .int (iI 1)), (4, .int (iI s)), (5, .int (iI t)), (6, .int (iI 0)), (7, .int (iI (fcS lr lt y k t))), (8, .int (iI (11 - (fcS lr lt y k t)))), (9, .int (iI 0)), (10, .int (iI a)), (11, .int (iI b))] [] := by
                                  intro fuel188
                                  induction fuel188 with
                                  | zero => intro b VY hF5 hC5 hR5 hI5 hfu188; exfalso; omega
                                  | succ fuel188 ih188 =>
                                    intro b VY hF5 hC5 hR5 hI5 hfu188
                                    have ok5 := ok.fr hF5
                                    have e35 : VY sv 3 = L := ok5.l
                                    have e85 : VY (sv + 8) = V (sv + 8) := hF5 (sv + 8) (by omega) (by omega)
                                    refine x_iload C 11 dX6_bestPiece_188 rfl ?_
                                    refine x_iload C 8 dX6_bestPiece_190 rfl ?_
                                    refine x_icmp_gt C dX6_bestPiece_192 (tgt := 215) (by decide) (by first | assumption | (constructor <;> omega)) (by first | assumption | (constructor <;> omega)) (fun h192 => ?_) (fun h192 => ?_)
                                    · skip
                                      refine x_iinc C 10 dX6_bestPiece_215 rfl (by decide) (lv' := [(0, .ref (aG G sv)), (1, .int (iI y)), (2, .int (iI k)), (3, .int (iI 1)), (4, .int (iI s)), (5, .int (iI t)), (6, .int (iI 0)), (7, .int (iI (fcS lr lt y k t))), (8, .int (iI (11 - (fcS lr lt y k t)))), (9, .int (iI 0)), (10, .int (iI (a + 1))), (11, .int (iI b))]) rfl ?_
                                      refine x_goto C dX6_bestPiece_218 (tgt := 157) (by decide) ?_
                                      refine x_sub [0, 1, 2, 3, 4, 5, 6, 7, 8, 9, 10] (lv' := [(0, .ref (aG G sv)), (1, .int (iI y)), (2, .int (iI k)), (3, .int (iI 1)), (4, .int (iI s)), (5, .int (iI t)), (6, .int (iI 0)), (7, .int (iI (fcS lr lt y k t))), (8, .int (iI (11 - (fcS lr lt y k t)))), (9, .int (iI 0)), (10, .int (iI (a + 1)))]) rfl ?_
                                      exact ih157 ((a + 1)) (VY) (by assumption) (by assumption) (by omega) (by exact FInv.next hI5 (by omega) (fun x z u v c k1 k2 => by have cb := CandP_b c hF6 hL8; obtain ⟨eu, ev⟩ := key_t (u := u) (v := v) (x := x) (z := z) (s := s) (t := t) (by omega) (by omega) (by omega) (by omega) (by omega) (by omega); have e1 : fcS lr lt y k v = fcS lr lt y k t := (by rw [ev]); have e2 : t = L - 1 → fcS lr lt y k (L - 1) = fcS lr lt y k t := (fun h => by rw [h]); unfold CandP at c; omega)) (by omega)
                                    · skip
                                      refine x_aload_n C 0 dX6_bestPiece_195 rfl rfl ?_
                                      refine x_iload_n C 1 dX6_bestPiece_196 rfl rfl ?_
                                      refine x_iload_n C 2 dX6_bestPiece_197 rfl rfl ?_
                                      refine x_iload C 10 dX6_bestPiece_198 rfl ?_
                                      refine x_iload C 11 dX6_bestPiece_200 rfl ?_
                                      refine x_iload C 4 dX6_bestPiece_202 rfl ?_
                                      refine x_iload C 5 dX6_bestPiece_204 rfl ?_
                                      refine x_runU (r_callV C ok_Saw sv (ltS hsv hn (by decide) : sv + 0 < n) (tbS_0 hsv) (ce_X6_tryPiece) (m_X6_tryPiece G n VY R (sv) (lr) (lt) (L) (f) (m) (g) (pr) (y) (k) (a) (b) (s) (t) hn hLR (by first | assumption | omega | decide) (by exact ok5) (by first | assumption | omega | decide) (by first | assumption | omega | decide) (by first | assumption | omega | decide) (by first | assumption | omega | decide) (by first | assumption | omega | decide) (by first | assumption | omega | decide) (by exact hI5.2.1) (by exact hI5.2.2.1) (by exact fun h => (hI5.2.2.2 h).1)) rfl dX6_bestPiece_206 q_32_16 q_32_17 q_32_18 rfl rfl ⟨Nat.le_of_ble_eq_true rfl, Nat.le_of_ble_eq_true rfl⟩ ⟨rfl, rfl⟩ ⟨Nat.le_of_ble_eq_true rfl, Nat.le_of_ble_eq_true rfl⟩ (Nat.le_of_ble_eq_true rfl)) (fun v206 u206 hp206 => ?_)
                                      obtain ⟨V1_206, rfl, rfl, hq206_0, hq206_1⟩ := hp206
                                      show Xw K G 0 0 _ n V1_206 R 209 [(0, .ref (aG G sv)), (1, .int (iI y)), (2, .int (iI k)), (3, .int (iI 1)), (4, .int (iI s)), (5, .int (iI t)), (6, .int (iI 0)), (7, .int (iI (fcS lr lt y k t))), (8, .int (iI (11 - (fcS lr lt y k t)))), (9, .int (iI 0)), (10, .int (iI a)), (11, .int (iI b))] []
                                      refine x_iinc C 11 dX6_bestPiece_209 rfl (by decide) (lv' := [(0, .ref (aG G sv)), (1, .int (iI y)), (2, .int (iI k)), (3, .int (iI 1)), (4, .int (iI s)), (5, .int (iI t)), (6, .int (iI 0)), (7, .int (iI (fcS lr lt y k t))), (8, .int (iI (11 - (fcS lr lt y k t)))), (9, .int (iI 0)), (10, .int (iI a)), (11, .int (iI (b + 1)))]) rfl ?_
                                      refine x_goto C dX6_bestPiece_212 (tgt := 188) (by decide) ?_
                                      exact ih188 ((b + 1)) (V1_206) (by exact fun q a b => (hq206_0 q b).trans (hF5 q a b)) (by exact fun z a b => by rw [hq206_0 (sv + 6) (by omega)]; exact hC5 z a b) (by omega) (by exact FInv.try hI5 hq206_1 (hq206_0 _ (by omega)) ok5 hk hF6 (by omega) (by omega) (by omega) (fun h => by have e2 : t = L - 1 → fcS lr lt y k (L - 1) = fcS lr lt y k t := (fun h => by rw [h]); unfold CandP; omega)) (by omega)
                                exact lp_188 (((14 : Int) - (11 - (fcS lr lt y k t))).toNat + 1) ((11 - (fcS lr lt y k t))) (VX) (by assumption) (by assumption) (by omega) (by exact FInv.next hI4 (by omega) (fun x z u v c k1 k2 => by have cb := CandP_b c hF6 hL8; obtain ⟨eu, ev⟩ := key_t (u := u) (v := v) (x := x) (z := z) (s := s) (t := t) (by omega) (by omega) (by omega) (by omega) (by omega) (by omega); have e1 : fcS lr lt y k v = fcS lr lt y k t := (by rw [ev]); have e2 : t = L - 1 → fcS lr lt y k (L - 1) = fcS lr lt y k t := (fun h => by rw [h]); unfold CandP at c; omega)) (by omega)
                          exact lp_157 (((14 : Int) - (fcS lr lt y k t)).toNat + 1) ((fcS lr lt y k t)) (VT) (by assumption) (by assumption) (by omega) (by exact FInv.next hI3 (by omega) (fun x z u v c k1 k2 => by have cb := CandP_b c hF6 hL8; obtain ⟨eu, ev⟩ := key_t (u := u) (v := v) (x := x) (z := z) (s := s) (t := t) (by omega) (by omega) (by omega) (by omega) (by omega) (by omega); have e1 : fcS lr lt y k v = fcS lr lt y k t := (by rw [ev]); have e2 : t = L - 1 → fcS lr lt y k (L - 1) = fcS lr lt y k t := (fun h => by rw [h]); unfold CandP at c; omega)) (by omega)
                        · skip
                          refine x_iconst C dX6_bestPiece_102 ?_
                          refine x_goto C dX6_bestPiece_103 (tgt := 107) (by decide) ?_
                          refine x_istore C dX6_bestPiece_107 (by decide) (lv' := [(0, .ref (aG G sv)), (1, .int (iI y)), (2, .int (iI k)), (3, .int (iI 1)), (4, .int (iI s)), (5, .int (iI t)), (6, .int (iI 1))]) rfl ?_
                          refine x_iload_n C 3 dX6_bestPiece_109 rfl rfl ?_
                          refine x_if_ne C dX6_bestPiece_110 (tgt := 121) (by decide) (by first | assumption | (constructor <;> omega)) (fun h110 => ?_) (fun h110 => (by exfalso; omega))
                          refine x_aload_n C 0 dX6_bestPiece_121 rfl rfl ?_
                          refine x_getr C ok_Saw sv 10 (d := (sv + 6)) dX6_bestPiece_122 (ltS hsv hn (by decide) : sv + 0 < n) (tbS_0 hsv) (by decide) rfl q_2_20 rfl (kz := 10) rfl (lrS_10 hsv hLR) ?_
                          refine x_iload C 5 dX6_bestPiece_125 rfl ?_
                          refine x_iald C (sv + 6) dX6_bestPiece_127 (ltS hsv hn (by decide)) (tbS_6 hsv) (by refine ⟨?_, ?_⟩ <;> omega) (fun rg127 => ?_)
                          refine x_top (b := (fcS lr lt y k t)) (by exact hC3 t (by omega) (by omega)) ?_
                          have hfb := fcS_b lr lt y k t
                          refine x_istore C dX6_bestPiece_128 (by decide) (lv' := [(0, .ref (aG G sv)), (1, .int (iI y)), (2, .int (iI k)), (3, .int (iI 1)), (4, .int (iI s)), (5, .int (iI t)), (6, .int (iI 1)), (7, .int (iI (fcS lr lt y k t)))]) rfl ?_
                          refine x_bipush C dX6_bestPiece_130 (w := 11) (by decide) ?_
                          refine x_iload C 7 dX6_bestPiece_132 rfl ?_
                          refine x_isub C dX6_bestPiece_134 ?_
                          refine x_istore C dX6_bestPiece_135 (by decide) (lv' := [(0, .ref (aG G sv)), (1, .int (iI y)), (2, .int (iI k)), (3, .int (iI 1)), (4, .int (iI s)), (5, .int (iI t)), (6, .int (iI 1)), (7, .int (iI (fcS lr lt y k t))), (8, .int (iI (11 - (fcS lr lt y k t))))]) rfl ?_
                          refine x_iload_n C 3 dX6_bestPiece_137 rfl rfl ?_
                          refine x_if_eq C dX6_bestPiece_138 (tgt := 150) (by decide) (by first | assumption | (constructor <;> omega)) (fun h138 => (by exfalso; omega)) (fun h138 => ?_)
                          refine x_iload C 6 dX6_bestPiece_141 rfl ?_
                          refine x_if_eq C dX6_bestPiece_143 (tgt := 150) (by decide) (by first | assumption | (constructor <;> omega)) (fun h143 => (by exfalso; omega)) (fun h143 => ?_)
                          refine x_iconst C dX6_bestPiece_146 ?_
                          refine x_goto C dX6_bestPiece_147 (tgt := 151) (by decide) ?_
                          refine x_istore C dX6_bestPiece_151 (by decide) (lv' := [(0, .ref (aG G sv)), (1, .int (iI y)), (2, .int (iI k)), (3, .int (iI 1)), (4, .int (iI s)), (5, .int (iI t)), (6, .int (iI 1)), (7, .int (iI (fcS lr lt y k t))), (8, .int (iI (11 - (fcS lr lt y k t)))), (9, .int (iI 1))]) rfl ?_
                          refine x_iload C 7 dX6_bestPiece_153 rfl ?_
                          refine x_istore C dX6_bestPiece_155 (by decide) (lv' := [(0, .ref (aG G sv)), (1, .int (iI y)), (2, .int (iI k)), (3, .int (iI 1)), (4, .int (iI s)), (5, .int (iI t)), (6, .int (iI 1)), (7, .int (iI (fcS lr lt y k t))), (8, .int (iI (11 - (fcS lr lt y k t)))), (9, .int (iI 1)), (10, .int (iI (fcS lr lt y k t)))]) rfl ?_
                          have lp_157 : ∀ (fuel : Nat) (a : Int) (VX : Nat → Int → Int), (∀ q, q ≠ sv + 6 → q ≠ sv + 7 → VX q = V q) → (∀ z, 0 ≤ z → z < L → VX (sv + 6) z = fcS lr lt y k z) → (fcS lr lt y k t ≤ a ∧ a ≤ 12) → (FInv VX sv lr lt L f m g pr y k (1521 * s + 169 * t + 13 * a)) → ((14 : Int) - a) < (fuel : Int) → Xw K G 0 0 (EndQ K G 0 0 (fun vv uu => ∃ (V1 : Nat → Int → Int), vv = some (.ref (aG G (sv + 7))) ∧ uu = (n, V1, R) ∧ (∀ q, q ≠ sv + 6 → q ≠ sv + 7 → V1 q = V q) ∧ (BestB lr lt L f m g pr y k (V1 (sv + 7) 8) (V1 (sv + 7) 7) (V1 (sv + 7) 0) (V1 (sv + 7) 1) (V1 (sv + 7) 2) (V1 (sv + 7) 3) (V1 (sv + 7) 4)) ∧ (0 ≤ V1 (sv + 7) 8 ∧ V1 (sv + 7) 8 ≤ 38016) ∧ (0 < V1 (sv + 7) 8 → V1 (sv + 7) 5 = faceH f m g y (V1 (sv + 7) 0) (V1 (sv + 7) 1) (V1 (sv + 7) 2) (V1 (sv + 7) 3) ∧ V1 (sv + 7) 6 = faceH f m g (y + k - 1) (V1 (sv + 7) 0) (V1 (sv + 7) 1) (V1 (sv + 7) 2) (V1 (sv + 7) 3)))) n VX R 157 [(0, .ref (aG G sv)), (1, .int (iI y)), (2, .int (iI k)), (3, .int (iI 1)), (4, .int (iI s)), (5, .int (iI t)), (6, .int (iI 1)), (7, .int (iI (fcS lr lt y k t))), (8, .int (iI (11 - (fcS lr lt y k t)))), (9, .int (iI 1)), (10, .int (iI a))] [] := by
                            intro fuel157
                            induction fuel157 with
                            | zero => intro a VX hF4 hC4 hR4 hI4 hfu157; exfalso; omega
                            | succ fuel157 ih157 =>
                              intro a VX hF4 hC4 hR4 hI4 hfu157
                              have ok4 := ok.fr hF4
                              have e34 : VX sv 3 = L := ok4.l
                              have e84 : VX (sv + 8) = V (sv + 8) := hF4 (sv + 8) (by omega) (by omega)
                              refine x_iload C 10 dX6_bestPiece_157 rfl ?_
                              refine x_iload C 9 dX6_bestPiece_159 rfl ?_
                              refine x_if_eq C dX6_bestPiece_161 (tgt := 169) (by decide) (by first | assumption | (constructor <;> omega)) (fun h161 => (by exfalso; omega)) (fun h161 => ?_)
                              refine x_iload C 8 dX6_bestPiece_164 rfl ?_
                              refine x_goto C dX6_bestPiece_166 (tgt := 171) (by decide) ?_
                              refine x_icmp_gt C dX6_bestPiece_171 (tgt := 221) (by decide) (by first | assumption | (constructor <;> omega)) (by first | assumption | (constructor <;> omega)) (fun h171 => ?_) (fun h171 => ?_)
                              · skip
                                refine x_iinc C 5 dX6_bestPiece_221 rfl (by decide) (lv' := [(0, .ref (aG G sv)), (1, .int (iI y)), (2, .int (iI k)), (3, .int (iI 1)), (4, .int (iI s)), (5, .int (iI (t + 1))), (6, .int (iI 1)), (7, .int (iI (fcS lr lt y k t))), (8, .int (iI (11 - (fcS lr lt y k t)))), (9, .int (iI 1)), (10, .int (iI a))]) rfl ?_
                                refine x_goto C dX6_bestPiece_224 (tgt := 77) (by decide) ?_
                                refine x_sub [0, 1, 2, 3, 4, 5] (lv' := [(0, .ref (aG G sv)), (1, .int (iI y)), (2, .int (iI k)), (3, .int (iI 1)), (4, .int (iI s)), (5, .int (iI (t + 1)))]) rfl ?_
                                exact ih77 ((t + 1)) (VX) (by assumption) (by assumption) (by omega) (by first | exact FInv.next hI4 (by omega) (fun x z u v c k1 k2 => by have cb := CandP_b c hF6 hL8; obtain ⟨eu, ev⟩ := key_t (u := u) (v := v) (x := x) (z := z) (s := s) (t := t) (by omega) (by omega) (by omega) (by omega) (by omega) (by omega); have e1 : fcS lr lt y k v = fcS lr lt y k t := (by rw [ev]); have e2 : t = L - 1 → fcS lr lt y k (L - 1) = fcS lr lt y k t := (fun h => by rw [h]); unfold CandP at c; omega) | exact FInv.next hI3 (by omega) (fun x z u v c k1 k2 => by have cb := CandP_b c hF6 hL8; obtain ⟨eu, ev⟩ := key_t (u := u) (v := v) (x := x) (z := z) (s := s) (t := t) (by omega) (by omega) (by omega) (by omega) (by omega) (by omega); have e1 : fcS lr lt y k v = fcS lr lt y k t := (by rw [ev]); have e2 : t = L - 1 → fcS lr lt y k (L - 1) = fcS lr lt y k t := (fun h => by rw [h]); unfold CandP at c; omega)) (by omega)
                              · skip
                                refine x_iload C 9 dX6_bestPiece_174 rfl ?_
                                refine x_if_eq C dX6_bestPiece_176 (tgt := 184) (by decide) (by first | assumption | (constructor <;> omega)) (fun h176 => (by exfalso; omega)) (fun h176 => ?_)
                                refine x_iload C 10 dX6_bestPiece_179 rfl ?_
                                refine x_goto C dX6_bestPiece_181 (tgt := 186) (by decide) ?_
                                refine x_istore C dX6_bestPiece_186 (by decide) (lv' := [(0, .ref (aG G sv)), (1, .int (iI y)), (2, .int (iI k)), (3, .int (iI 1)), (4, .int (iI s)), (5, .int (iI t)), (6, .int (iI 1)), (7, .int (iI (fcS lr lt y k t))), (8, .int (iI (11 - (fcS lr lt y k t)))), (9, .int (iI 1)), (10, .int (iI a)), (11, .int (iI a))]) rfl ?_
                                have lp_188 : ∀ (fuel : Nat) (b : Int) (VY : Nat → Int → Int), (∀ q, q ≠ sv + 6 → q ≠ sv + 7 → VY q = V q) → (∀ z, 0 ≤ z → z < L → VY (sv + 6) z = fcS lr lt y k z) → (((pr 1 = 1 ∧ s = 0 ∧ t = L - 1 ∧ a ≤ b) ∨ 11 - fcS lr lt y k t ≤ b) ∧ b ≤ 12 ∧ a ≤ b + 1 ∧ 0 ≤ b) → (FInv VY sv lr lt L f m g pr y k (1521 * s + 169 * t + 13 * a + b)) → ((14 : Int) - b) < (fuel : Int) → Xw K G 0 0 (EndQ K G 0 0 (fun vv uu => ∃ (V1 : Nat → Int → Int), vv = some (.ref (aG G (sv + 7))) ∧ uu = (n, V1, R) ∧ (∀ q, q ≠ sv + 6 → q ≠ sv + 7 → V1 q = V q) ∧ (BestB lr lt L f m g pr y k (V1 (sv + 7) 8) (V1 (sv + 7) 7) (V1 (sv + 7) 0) (V1 (sv + 7) 1) (V1 (sv + 7) 2) (V1 (sv + 7) 3) (V1 (sv + 7) 4)) ∧ (0 ≤ V1 (sv + 7) 8 ∧ V1 (sv + 7) 8 ≤ 38016) ∧ (0 < V1 (sv + 7) 8 → V1 (sv + 7) 5 = faceH f m g y (V1 (sv + 7) 0) (V1 (sv + 7) 1) (V1 (sv + 7) 2) (V1 (sv + 7) 3) ∧ V1 (sv + 7) 6 = faceH f m g (y + k - 1) (V1 (sv + 7) 0) (V1 (sv + 7) 1) (V1 (sv + 7) 2) (V1 (sv + 7) 3)))) n VY R 188 [(0, .ref (aG G sv)), (1, .int (iI y)), (2, .int (iI k)), (3, .int (iI 1)), (4, .int (iI s)), (5, .int (iI t)), (6, .int (iI 1)), (7, .int (iI (fcS lr lt y k t))), (8, .int (iI (11 - (fcS lr lt y k t)))), (9, .int (iI 1)), (10, .int (iI a)), (11, .int (iI b))] [] := by
                                  intro fuel188
                                  induction fuel188 with
                                  | zero => intro b VY hF5 hC5 hR5 hI5 hfu188; exfalso; omega
                                  | succ fuel188 ih188 =>
                                    intro b VY hF5 hC5 hR5 hI5 hfu188
                                    have ok5 := ok.fr hF5
                                    have e35 : VY sv 3 = L := ok5.l
                                    have e85 : VY (sv + 8) = V (sv + 8) := hF5 (sv + 8) (by omega) (by omega)
                                    refine x_iload C 11 dX6_bestPiece_188 rfl ?_
                                    refine x_iload C 8 dX6_bestPiece_190 rfl ?_
                                    refine x_icmp_gt C dX6_bestPiece_192 (tgt := 215) (by decide) (by first | assumption | (constructor <;> omega)) (by first | assumption | (constructor <;> omega)) (fun h192 => ?_) (fun h192 => ?_)
                                    · skip
                                      refine x_iinc C 10 dX6_bestPiece_215 rfl (by decide) (lv' := [(0, .ref (aG G sv)), (1, .int (iI y)), (2, .int (iI k)), (3, .int (iI 1)), (4, .int (iI s)), (5, .int (iI t)), (6, .int (iI 1)), (7, .int (iI (fcS lr lt y k t))), (8, .int (iI (11 - (fcS lr lt y k t)))), (9, .int (iI 1)), (10, .int (iI (a + 1))), (11, .int (iI b))]) rfl ?_
                                      refine x_goto C dX6_bestPiece_218 (tgt := 157) (by decide) ?_
                                      refine x_sub [0, 1, 2, 3, 4, 5, 6, 7, 8, 9, 10] (lv' := [(0, .ref (aG G sv)), (1, .int (iI y)), (2, .int (iI k)), (3, .int (iI 1)), (4, .int (iI s)), (5, .int (iI t)), (6, .int (iI 1)), (7, .int (iI (fcS lr lt y k t))), (8, .int (iI (11 - (fcS lr lt y k t)))), (9, .int (iI 1)), (10, .int (iI (a + 1)))]) rfl ?_
                                      exact ih157 ((a + 1)) (VY) (by assumption) (by assumption) (by omega) (by exact FInv.next hI5 (by omega) (fun x z u v c k1 k2 => by have cb := CandP_b c hF6 hL8; obtain ⟨eu, ev⟩ := key_t (u := u) (v := v) (x := x) (z := z) (s := s) (t := t) (by omega) (by omega) (by omega) (by omega) (by omega) (by omega); have e1 : fcS lr lt y k v = fcS lr lt y k t := (by rw [ev]); have e2 : t = L - 1 → fcS lr lt y k (L - 1) = fcS lr lt y k t := (fun h => by rw [h]); unfold CandP at c; omega)) (by omega)
                                    · skip
                                      refine x_aload_n C 0 dX6_bestPiece_195 rfl rfl ?_
                                      refine x_iload_n C 1 dX6_bestPiece_196 rfl rfl ?_
                                      refine x_iload_n C 2 dX6_bestPiece_197 rfl rfl ?_
                                      refine x_iload C 10 dX6_bestPiece_198 rfl ?_
                                      refine x_iload C 11 dX6_bestPiece_200 rfl ?_
                                      refine x_iload C 4 dX6_bestPiece_202 rfl ?_
                                      refine x_iload C 5 dX6_bestPiece_204 rfl ?_
                                      refine x_runU (r_callV C ok_Saw sv (ltS hsv hn (by decide) : sv + 0 < n) (tbS_0 hsv) (ce_X6_tryPiece) (m_X6_tryPiece G n VY R (sv) (lr) (lt) (L) (f) (m) (g) (pr) (y) (k) (a) (b) (s) (t) hn hLR (by first | assumption | omega | decide) (by exact ok5) (by first | assumption | omega | decide) (by first | assumption | omega | decide) (by first | assumption | omega | decide) (by first | assumption | omega | decide) (by first | assumption | omega | decide) (by first | assumption | omega | decide) (by exact hI5.2.1) (by exact hI5.2.2.1) (by exact fun h => (hI5.2.2.2 h).1)) rfl dX6_bestPiece_206 q_32_16 q_32_17 q_32_18 rfl rfl ⟨Nat.le_of_ble_eq_true rfl, Nat.le_of_ble_eq_true rfl⟩ ⟨rfl, rfl⟩ ⟨Nat.le_of_ble_eq_true rfl, Nat.le_of_ble_eq_true rfl⟩ (Nat.le_of_ble_eq_true rfl)) (fun v206 u206 hp206 => ?_)
                                      obtain ⟨V1_206, rfl, rfl, hq206_0, hq206_1⟩ := hp206
                                      show Xw K G 0 0 _ n V1_206 R 209 [(0, .ref (aG G sv)), (1, .int (iI y)), (2, .int (iI k)), (3, .int (iI 1)), (4, .int (iI s)), (5, .int (iI t)), (6, .int (iI 1)), (7, .int (iI (fcS lr lt y k t))), (8, .int (iI (11 - (fcS lr lt y k t)))), (9, .int (iI 1)), (10, .int (iI a)), (11, .int (iI b))] []
                                      refine x_iinc C 11 dX6_bestPiece_209 rfl (by decide) (lv' := [(0, .ref (aG G sv)), (1, .int (iI y)), (2, .int (iI k)), (3, .int (iI 1)), (4, .int (iI s)), (5, .int (iI t)), (6, .int (iI 1)), (7, .int (iI (fcS lr lt y k t))), (8, .int (iI (11 - (fcS lr lt y k t)))), (9, .int (iI 1)), (10, .int (iI a)), (11, .int (iI (b + 1)))]) rfl ?_
                                      refine x_goto C dX6_bestPiece_212 (tgt := 188) (by decide) ?_
                                      exact ih188 ((b + 1)) (V1_206) (by exact fun q a b => (hq206_0 q b).trans (hF5 q a b)) (by exact fun z a b => by rw [hq206_0 (sv + 6) (by omega)]; exact hC5 z a b) (by omega) (by exact FInv.try hI5 hq206_1 (hq206_0 _ (by omega)) ok5 hk hF6 (by omega) (by omega) (by omega) (fun h => by have e2 : t = L - 1 → fcS lr lt y k (L - 1) = fcS lr lt y k t := (fun h => by rw [h]); unfold CandP; omega)) (by omega)
                                exact lp_188 (((14 : Int) - a).toNat + 1) (a) (VX) (by assumption) (by assumption) (by omega) (by exact FInv.next hI4 (by omega) (fun x z u v c k1 k2 => by have cb := CandP_b c hF6 hL8; obtain ⟨eu, ev⟩ := key_t (u := u) (v := v) (x := x) (z := z) (s := s) (t := t) (by omega) (by omega) (by omega) (by omega) (by omega) (by omega); have e1 : fcS lr lt y k v = fcS lr lt y k t := (by rw [ev]); have e2 : t = L - 1 → fcS lr lt y k (L - 1) = fcS lr lt y k t := (fun h => by rw [h]); unfold CandP at c; omega)) (by omega)
                          exact lp_157 (((14 : Int) - (fcS lr lt y k t)).toNat + 1) ((fcS lr lt y k t)) (VT) (by assumption) (by assumption) (by omega) (by exact FInv.next hI3 (by omega) (fun x z u v c k1 k2 => by have cb := CandP_b c hF6 hL8; obtain ⟨eu, ev⟩ := key_t (u := u) (v := v) (x := x) (z := z) (s := s) (t := t) (by omega) (by omega) (by omega) (by omega) (by omega) (by omega); have e1 : fcS lr lt y k v = fcS lr lt y k t := (by rw [ev]); have e2 : t = L - 1 → fcS lr lt y k (L - 1) = fcS lr lt y k t := (fun h => by rw [h]); unfold CandP at c; omega)) (by omega)
                exact lp_77 ((L + 1 - s).toNat + 1) (s) (VS) (by assumption) (by assumption) (by omega) (by exact FInv.next hI2 (by omega) (fun x z u v c k1 k2 => by have cb := CandP_b c hF6 hL8; omega)) (by omega)
          exact lp_64 ((L + 1 - 0).toNat + 1) (0) (VA) (by assumption) (by exact fun x a b => hCA x a (by omega)) (by omega) (by exact FInv.zero hWA hF6 hL8) (by omega)
      · skip
        refine x_aload_n C 0 dX6_bestPiece_26 rfl rfl ?_
        refine x_getr C ok_Saw sv 10 (d := (sv + 6)) dX6_bestPiece_27 (ltS hsv hn (by decide) : sv + 0 < n) (tbS_0 hsv) (by decide) rfl q_2_20 rfl (kz := 10) rfl (lrS_10 hsv hLR) ?_
        refine x_iload_n C 3 dX6_bestPiece_30 rfl rfl ?_
        refine x_aload_n C 0 dX6_bestPiece_31 rfl rfl ?_
        refine x_iload_n C 1 dX6_bestPiece_32 rfl rfl ?_
        refine x_iload_n C 2 dX6_bestPiece_33 rfl rfl ?_
        refine x_iload_n C 3 dX6_bestPiece_34 rfl rfl ?_
        refine x_runU (r_callV C ok_Saw sv (ltS hsv hn (by decide) : sv + 0 < n) (tbS_0 hsv) (ce_X6_firstColumnAt) (m_X6_firstColumnAt G n VA R (sv) (lr) (lt) (L) (f) (m) (g) (pr) (y) (k) (z) hn hLR (by first | assumption | omega | decide) (by exact okA) (by first | assumption | omega | decide) (by first | assumption | omega | decide) (by first | assumption | omega | decide)) rfl dX6_bestPiece_35 q_32_12 q_32_13 q_32_14 rfl rfl ⟨Nat.le_of_ble_eq_true rfl, Nat.le_of_ble_eq_true rfl⟩ ⟨rfl, rfl⟩ ⟨Nat.le_of_ble_eq_true rfl, Nat.le_of_ble_eq_true rfl⟩ (Nat.le_of_ble_eq_true rfl)) (fun v35 u35 hp35 => ?_)
        obtain ⟨rfl, rfl⟩ := hp35
        show Xw K G 0 0 _ n VA R 38 [(0, .ref (aG G sv)), (1, .int (iI y)), (2, .int (iI k)), (3, .int (iI z))] [.int (iI (fcS lr lt y k z)), .int (iI z), .ref (aG G (sv + 6))]
        have hfz := fcS_b lr lt y k z
        refine x_iast C (sv + 6) dX6_bestPiece_38 (ltS hsv hn (by decide)) (tbS_6 hsv) (by refine ⟨?_, ?_⟩ <;> omega) (by first | assumption | (constructor <;> omega)) ?_
        refine x_iinc C 3 dX6_bestPiece_39 rfl (by decide) (lv' := [(0, .ref (aG G sv)), (1, .int (iI y)), (2, .int (iI k)), (3, .int (iI (z + 1)))]) rfl ?_
        refine x_goto C dX6_bestPiece_42 (tgt := 18) (by decide) ?_
        exact ih18 ((z + 1)) ((u2 VA (sv + 6) z (fcS lr lt y k z))) (by omega) (by exact fun q a b => by rw [u2_n a]; exact hFA q a b) (by exact fun x a b => by (rw [u2_at]; by_cases e : x = z; (rw [if_pos ⟨rfl, e⟩, e]); (rw [if_neg (by omega)]; exact hCA x a (by omega)))) (by rw [u2_n (by omega)]; exact hWA) (by omega)
  exact lp_18 ((L + 1 - 0).toNat + 1) (0) ((u2 (u2 V (sv + 7) 8 0) (sv + 7) 7 0)) (by omega) (by exact fun q a b => by rw [u2_n b, u2_n b]) (by exact fun x a b => by omega) (by refine ⟨?_, ?_⟩ <;> simp [u2_at]) (by omega)
