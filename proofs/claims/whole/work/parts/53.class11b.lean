
set_option maxRecDepth 100000 in
set_option maxHeartbeats 4000000 in
theorem m_X6_listRows (G : GS) (n : Nat) (V : Nat → Int → Int) (R : Nat → Int → Option Nat) (sv : Nat) (T : Int → Int) (kf : Int) (hn : 67 ≤ n) (hLR : LR R) (hsv : sv = 11 ∨ sv = 23) (hT : ∀ z, 0 ≤ z → z ≤ 11 → V (sv + 9) z = T z ∧ 0 ≤ T z ∧ T z ≤ 4) (hkf : 0 ≤ kf ∧ kf ≤ 2) : Cn G yX6_listRows cX6_listRows 4 none (rmk 1 0 0 16) [.ref (aG G sv), .int (iI kf)] n V R 0 0 (fun vv uu => ∃ (V1 : Nat → Int → Int), vv = none ∧ uu = (n, V1, R) ∧ (∀ q, q ≠ sv → q ≠ sv + 11 → V1 q = V q) ∧ (∀ z, z ≠ 2 → V1 sv z = V sv z) ∧ (V1 sv 2 = (bl T kf 0).length ∧ ∀ q : Int, 0 ≤ q → q < (bl T kf 0).length → V1 (sv + 11) q = lat (bl T kf 0) q)) := by
  refine Cn.of (by decide) (Nat.le_of_ble_eq_true rfl) (fun K C hct => ?_)
  show Xw K G 0 0 _ n V R 0 [(0, .ref (aG G sv)), (1, .int (iI kf))] []
  refine x_aload_n C 0 dX6_listRows_0 rfl rfl ?_
  refine x_iconst C dX6_listRows_1 ?_
  refine x_puti C ok_Saw sv 2 dX6_listRows_2 (ltS hsv hn (by decide) : sv + 0 < n) (tbS_0 hsv) (by decide) rfl q_2_12 rfl rfl (Or.inl rfl) (by first | assumption | (constructor <;> omega)) (kz := 2) rfl ?_
  refine x_iconst C dX6_listRows_5 ?_
  refine x_istore_n C dX6_listRows_6 rfl (by decide) (lv' := [(0, .ref (aG G sv)), (1, .int (iI kf)), (2, .int (iI 0))]) rfl ?_
  refine x_iconst C dX6_listRows_7 ?_
  refine x_istore_n C dX6_listRows_8 rfl (by decide) (lv' := [(0, .ref (aG G sv)), (1, .int (iI kf)), (2, .int (iI 0)), (3, .int (iI 0))]) rfl ?_
  have lp_9 : ∀ (fuel : Nat) (y : Int) (fr : Int) (V2 : Nat → Int → Int), (0 ≤ y ∧ y ≤ 12 ∧ 0 ≤ fr ∧ fr ≤ 17) → (∀ q, q ≠ sv → q ≠ sv + 11 → V2 q = V q) → (∀ z, z ≠ 2 → V2 sv z = V sv z) → (∃ p : List Int, bl T kf 0 = p ++ bl T kf (max y fr) ∧ V2 sv 2 = p.length ∧ ∀ q : Int, 0 ≤ q → q < p.length → V2 (sv + 11) q = lat p q) → ((13 : Int) - y) < (fuel : Int) → Xw K G 0 0 (EndQ K G 0 0 (fun vv uu => ∃ (V1 : Nat → Int → Int), vv = none ∧ uu = (n, V1, R) ∧ (∀ q, q ≠ sv → q ≠ sv + 11 → V1 q = V q) ∧ (∀ z, z ≠ 2 → V1 sv z = V sv z) ∧ (V1 sv 2 = (bl T kf 0).length ∧ ∀ q : Int, 0 ≤ q → q < (bl T kf 0).length → V1 (sv + 11) q = lat (bl T kf 0) q))) n V2 R 9 [(0, .ref (aG G sv)), (1, .int (iI kf)), (2, .int (iI fr)), (3, .int (iI y))] [] := by
    intro fuel9
    induction fuel9 with
    | zero => intro y fr V2 hyy hF2 hS2 hP hfu9; exfalso; omega
    | succ fuel9 ih9 =>
      intro y fr V2 hyy hF2 hS2 hP hfu9
      refine x_iload_n C 3 dX6_listRows_9 rfl rfl ?_
      refine x_bipush C dX6_listRows_10 (w := 12) (by decide) ?_
      refine x_icmp_ge C dX6_listRows_12 (tgt := 66) (by decide) (by first | assumption | (constructor <;> omega)) (by first | assumption | (constructor <;> omega)) (fun h12 => ?_) (fun h12 => ?_)
      · skip
        refine x_vret C dX6_listRows_66 ⟨_, rfl, rfl, ?_, ?_, ?_⟩
        · assumption
        · assumption
        · exact lr_e hP (by omega)
      · skip
        refine x_iload_n C 3 dX6_listRows_15 rfl rfl ?_
        refine x_iload_n C 2 dX6_listRows_16 rfl rfl ?_
        refine x_icmp_lt C dX6_listRows_17 (tgt := 60) (by decide) (by first | assumption | (constructor <;> omega)) (by first | assumption | (constructor <;> omega)) (fun h17 => ?_) (fun h17 => ?_)
        · skip
          refine x_iinc C 3 dX6_listRows_60 rfl (by decide) (lv' := [(0, .ref (aG G sv)), (1, .int (iI kf)), (2, .int (iI fr)), (3, .int (iI (y + 1)))]) rfl ?_
          refine x_goto C dX6_listRows_63 (tgt := 9) (by decide) ?_
          exact ih9 ((y + 1)) (fr) (V2) (by omega) (by first | exact hF2 | exact fun q a b => by rw [u2_n a, u2_n b]; exact hF2 q a b) (by first | exact hS2 | exact fun z a => by rw [u2_at, if_neg (by omega), u2_n (by omega)]; exact hS2 z a) (by first | exact lr_1 hP (by omega) | exact lr_2 hP hkf.1 (by omega) (by omega) (by omega) | exact lr_3 hp1 hp2 hp3 (by omega)) (by omega)
        · skip
          refine x_aload_n C 0 dX6_listRows_20 rfl rfl ?_
          refine x_getr C ok_Saw sv 13 (d := (sv + 9)) dX6_listRows_21 (ltS hsv hn (by decide) : sv + 0 < n) (tbS_0 hsv) (by decide) rfl q_3_2 rfl (kz := 13) rfl (lrS_13 hsv hLR) ?_
          refine x_iload_n C 3 dX6_listRows_24 rfl rfl ?_
          refine x_iald C (sv + 9) dX6_listRows_25 (ltS hsv hn (by decide)) (tbS_9 hsv) (by refine ⟨?_, ?_⟩ <;> omega) (fun rg25 => ?_)
          refine x_top (b := (T y)) (by rw [hF2 (sv + 9) (by omega) (by omega)]; exact (hT y (by omega) (by omega)).1) ?_
          have hTy := (hT y (by omega) (by omega)).2
          refine x_if_le C dX6_listRows_26 (tgt := 60) (by decide) (by first | assumption | (constructor <;> omega)) (fun h26 => ?_) (fun h26 => ?_)
          · skip
            refine x_iinc C 3 dX6_listRows_60 rfl (by decide) (lv' := [(0, .ref (aG G sv)), (1, .int (iI kf)), (2, .int (iI fr)), (3, .int (iI (y + 1)))]) rfl ?_
            refine x_goto C dX6_listRows_63 (tgt := 9) (by decide) ?_
            exact ih9 ((y + 1)) (fr) (V2) (by omega) (by first | exact hF2 | exact fun q a b => by rw [u2_n a, u2_n b]; exact hF2 q a b) (by first | exact hS2 | exact fun z a => by rw [u2_at, if_neg (by omega), u2_n (by omega)]; exact hS2 z a) (by first | exact lr_1 hP (by omega) | exact lr_2 hP hkf.1 (by omega) (by omega) (by omega) | exact lr_3 hp1 hp2 hp3 (by omega)) (by omega)
          · skip
            obtain ⟨p, hp1, hp2, hp3⟩ := hP
            have hmx : max y fr = y := by omega
            rw [hmx] at hp1
            rw [bl_y (y := y) hkf.1 (by omega) (by omega)] at hp1
            have hlen := bl_len (T := T) hkf.1 (12 - (0 : Int)).toNat 0
            have hp1l := congrArg List.length hp1
            rw [List.length_append, List.length_cons, bl_d T kf 0] at hp1l
            have hp4 : 0 ≤ V2 sv 2 ∧ V2 sv 2 ≤ 11 := by omega
            refine x_aload_n C 0 dX6_listRows_29 rfl rfl ?_
            refine x_getr C ok_Saw sv 15 (d := (sv + 11)) dX6_listRows_30 (ltS hsv hn (by decide) : sv + 0 < n) (tbS_0 hsv) (by decide) rfl q_3_4 rfl (kz := 15) rfl (lrS_15 hsv hLR) ?_
            refine x_aload_n C 0 dX6_listRows_33 rfl rfl ?_
            refine x_geti C ok_Saw sv 2 dX6_listRows_34 (ltS hsv hn (by decide) : sv + 0 < n) (tbS_0 hsv) (by decide) rfl q_2_12 rfl (kz := 2) rfl (fun rg34 => ?_)
            refine x_iload_n C 3 dX6_listRows_37 rfl rfl ?_
            refine x_iast C (sv + 11) dX6_listRows_38 (ltS hsv hn (by decide)) (tbS_11 hsv) (by refine ⟨?_, ?_⟩ <;> omega) (by first | assumption | (constructor <;> omega)) ?_
            refine x_aload_n C 0 dX6_listRows_39 rfl rfl ?_
            refine x_dup C dX6_listRows_40 rfl ?_
            refine x_geti C ok_Saw sv 2 dX6_listRows_41 (ltS hsv hn (by decide) : sv + 0 < n) (tbS_0 hsv) (by decide) rfl q_2_12 rfl (kz := 2) rfl (fun rg41 => ?_)
            refine x_top (b := (V2 sv 2)) (by first | rfl | (simp only [u2_at]; simp) | (simp only [u2_at]; first | (rw [if_neg (by omega)]) | omega) | (repeat rw [u2_at, if_neg (by omega)])) ?_
            refine x_iconst C dX6_listRows_44 ?_
            refine x_iadd C dX6_listRows_45 ?_
            refine x_puti C ok_Saw sv 2 dX6_listRows_46 (ltS hsv hn (by decide) : sv + 0 < n) (tbS_0 hsv) (by decide) rfl q_2_12 rfl rfl (Or.inl rfl) (by first | assumption | (constructor <;> omega)) (kz := 2) rfl ?_
            refine x_iload_n C 3 dX6_listRows_49 rfl rfl ?_
            refine x_aload_n C 0 dX6_listRows_50 rfl rfl ?_
            refine x_getr C ok_Saw sv 13 (d := (sv + 9)) dX6_listRows_51 (ltS hsv hn (by decide) : sv + 0 < n) (tbS_0 hsv) (by decide) rfl q_3_2 rfl (kz := 13) rfl (lrS_13 hsv hLR) ?_
            refine x_iload_n C 3 dX6_listRows_54 rfl rfl ?_
            refine x_iald C (sv + 9) dX6_listRows_55 (ltS hsv hn (by decide)) (tbS_9 hsv) (by refine ⟨?_, ?_⟩ <;> omega) (fun rg55 => ?_)
            refine x_top (b := (V2 (sv + 9) y)) (by first | rfl | (simp only [u2_at]; simp) | (simp only [u2_at]; first | (rw [if_neg (by omega)]) | omega) | (repeat rw [u2_at, if_neg (by omega)])) ?_
            refine x_top (b := (T y)) (by rw [hF2 (sv + 9) (by omega) (by omega)]; exact (hT y (by omega) (by omega)).1) ?_
            refine x_iadd C dX6_listRows_56 ?_
            refine x_iload_n C 1 dX6_listRows_57 rfl rfl ?_
            refine x_iadd C dX6_listRows_58 ?_
            refine x_istore_n C dX6_listRows_59 rfl (by decide) (lv' := [(0, .ref (aG G sv)), (1, .int (iI kf)), (2, .int (iI ((y + (T y)) + kf))), (3, .int (iI y))]) rfl ?_
            refine x_iinc C 3 dX6_listRows_60 rfl (by decide) (lv' := [(0, .ref (aG G sv)), (1, .int (iI kf)), (2, .int (iI ((y + (T y)) + kf))), (3, .int (iI (y + 1)))]) rfl ?_
            refine x_goto C dX6_listRows_63 (tgt := 9) (by decide) ?_
            exact ih9 ((y + 1)) (((y + (T y)) + kf)) ((u2 (u2 V2 (sv + 11) (V2 sv 2) y) sv 2 ((V2 sv 2) + 1))) (by omega) (by first | exact hF2 | exact fun q a b => by rw [u2_n a, u2_n b]; exact hF2 q a b) (by first | exact hS2 | exact fun z a => by rw [u2_at, if_neg (by omega), u2_n (by omega)]; exact hS2 z a) (by first | exact lr_1 hP (by omega) | exact lr_2 hP hkf.1 (by omega) (by omega) (by omega) | exact lr_3 hp1 hp2 hp3 (by omega)) (by omega)
  exact lp_9 (((13 : Int) - 0).toNat + 1) (0) (0) ((u2 V sv 2 0)) (by omega) (by exact fun q a b => u2_n a) (by exact fun z a => by rw [u2_at, if_neg (by omega)]) (by exact ⟨[], rfl, by rw [u2_s, u1_s]; rfl, fun q a b => absurd b (by show ¬ q < (0 : Int); omega)⟩) (by omega)
set_option maxRecDepth 100000 in
set_option maxHeartbeats 4000000 in
theorem m_X6_rowAt (G : GS) (n : Nat) (V : Nat → Int → Int) (R : Nat → Int → Option Nat) (sv : Nat) (k : Int) (hn : 67 ≤ n) (hLR : LR R) (hsv : sv = 11 ∨ sv = 23) (hk : 0 ≤ k ∧ k ≤ 11) : Cn G yX6_rowAt cX6_rowAt 2 (some .int) (rmk 2 0 0 38) [.ref (aG G sv), .int (iI k)] n V R 0 0 (fun vv uu => vv = some (.int (iI (V (sv + 11) k))) ∧ uu = (n, V, R)) := by
  refine Cn.of (by decide) (Nat.le_of_ble_eq_true rfl) (fun K C hct => ?_)
  show Xw K G 0 0 _ n V R 0 [(0, .ref (aG G sv)), (1, .int (iI k))] []
  refine x_iload_n C 1 dX6_rowAt_0 rfl rfl ?_
  refine x_iconst C dX6_rowAt_1 ?_
  refine x_bipush C dX6_rowAt_2 (w := 11) (by decide) ?_
  refine x_runU (r_callSN C (ce_X11_within) (m_X11_within G n V R (k) (0) (11) (by first | assumption | omega | decide) (by first | assumption | omega | decide) (by first | assumption | omega | decide)) dX6_rowAt_4 (List.mem_of_getElem? (i := 25) rfl) q_5_5 rfl rfl ⟨Nat.le_of_ble_eq_true rfl, Nat.le_of_ble_eq_true rfl⟩ ⟨rfl, rfl⟩ ⟨Nat.le_of_ble_eq_true rfl, Nat.le_of_ble_eq_true rfl⟩ (Nat.le_of_ble_eq_true rfl)) (fun v4 u4 hp4 => ?_)
  obtain ⟨rfl, rfl⟩ := hp4
  show Xw K G 0 0 _ n V R 7 [(0, .ref (aG G sv)), (1, .int (iI k))] [.int (iI (bI (0 ≤ k ∧ k ≤ 11)))]
  refine x_ifeq_b C dX6_rowAt_7 (tgt := 19) (by decide) (fun h7 => ?_) (fun h7 => ?_)
  · skip
    exfalso; omega
  · skip
    refine x_aload_n C 0 dX6_rowAt_10 rfl rfl ?_
    refine x_getr C ok_Saw sv 15 (d := (sv + 11)) dX6_rowAt_11 (ltS hsv hn (by decide) : sv + 0 < n) (tbS_0 hsv) (by decide) rfl q_3_4 rfl (kz := 15) rfl (lrS_15 hsv hLR) ?_
    refine x_iload_n C 1 dX6_rowAt_14 rfl rfl ?_
    refine x_iald C (sv + 11) dX6_rowAt_15 (ltS hsv hn (by decide)) (tbS_11 hsv) (by refine ⟨?_, ?_⟩ <;> omega) (fun rg15 => ?_)
    refine x_goto C dX6_rowAt_16 (tgt := 20) (by decide) ?_
    refine x_iret C dX6_rowAt_20 ⟨rfl, rfl⟩
set_option maxRecDepth 100000 in
set_option maxHeartbeats 4000000 in
theorem m_X6_thicknessAt (G : GS) (n : Nat) (V : Nat → Int → Int) (R : Nat → Int → Option Nat) (sv : Nat) (k : Int) (hn : 67 ≤ n) (hLR : LR R) (hsv : sv = 11 ∨ sv = 23) (hk : 0 ≤ k ∧ k ≤ 11) (hrw : 0 ≤ V (sv + 11) k ∧ V (sv + 11) k ≤ 11) : Cn G yX6_thicknessAt cX6_thicknessAt 2 (some .int) (rmk 3 0 0 59) [.ref (aG G sv), .int (iI k)] n V R 0 0 (fun vv uu => vv = some (.int (iI (V (sv + 9) (V (sv + 11) k)))) ∧ uu = (n, V, R)) := by
  refine Cn.of (by decide) (Nat.le_of_ble_eq_true rfl) (fun K C hct => ?_)
  show Xw K G 0 0 _ n V R 0 [(0, .ref (aG G sv)), (1, .int (iI k))] []
  refine x_aload_n C 0 dX6_thicknessAt_0 rfl rfl ?_
  refine x_getr C ok_Saw sv 13 (d := (sv + 9)) dX6_thicknessAt_1 (ltS hsv hn (by decide) : sv + 0 < n) (tbS_0 hsv) (by decide) rfl q_3_2 rfl (kz := 13) rfl (lrS_13 hsv hLR) ?_
  refine x_aload_n C 0 dX6_thicknessAt_4 rfl rfl ?_
  refine x_iload_n C 1 dX6_thicknessAt_5 rfl rfl ?_
  refine x_runU (r_callV C ok_Saw sv (ltS hsv hn (by decide) : sv + 0 < n) (tbS_0 hsv) (ce_X6_rowAt) (m_X6_rowAt G n V R (sv) (k) hn hLR (by first | assumption | omega | decide) (by first | assumption | omega | decide)) rfl dX6_thicknessAt_6 q_37_8 q_37_1 q_37_2 rfl rfl ⟨Nat.le_of_ble_eq_true rfl, Nat.le_of_ble_eq_true rfl⟩ ⟨rfl, rfl⟩ ⟨Nat.le_of_ble_eq_true rfl, Nat.le_of_ble_eq_true rfl⟩ (Nat.le_of_ble_eq_true rfl)) (fun v6 u6 hp6 => ?_)
  obtain ⟨rfl, rfl⟩ := hp6
  show Xw K G 0 0 _ n V R 9 [(0, .ref (aG G sv)), (1, .int (iI k))] [.int (iI (V (sv + 11) k)), .ref (aG G (sv + 9))]
  refine x_iald C (sv + 9) dX6_thicknessAt_9 (ltS hsv hn (by decide)) (tbS_9 hsv) (by refine ⟨?_, ?_⟩ <;> omega) (fun rg9 => ?_)
  refine x_iret C dX6_thicknessAt_10 ⟨rfl, rfl⟩
set_option maxRecDepth 100000 in
set_option maxHeartbeats 4000000 in
theorem m_X6_gradeAt (G : GS) (n : Nat) (V : Nat → Int → Int) (R : Nat → Int → Option Nat) (sv : Nat) (k : Int) (hn : 67 ≤ n) (hLR : LR R) (hsv : sv = 11 ∨ sv = 23) (hk : 0 ≤ k ∧ k ≤ 11) (hrw : 0 ≤ V (sv + 11) k ∧ V (sv + 11) k ≤ 11) : Cn G yX6_gradeAt cX6_gradeAt 2 (some .int) (rmk 3 0 0 59) [.ref (aG G sv), .int (iI k)] n V R 0 0 (fun vv uu => vv = some (.int (iI (V (sv + 10) (V (sv + 11) k)))) ∧ uu = (n, V, R)) := by
  refine Cn.of (by decide) (Nat.le_of_ble_eq_true rfl) (fun K C hct => ?_)
  show Xw K G 0 0 _ n V R 0 [(0, .ref (aG G sv)), (1, .int (iI k))] []
  refine x_aload_n C 0 dX6_gradeAt_0 rfl rfl ?_
  refine x_getr C ok_Saw sv 14 (d := (sv + 10)) dX6_gradeAt_1 (ltS hsv hn (by decide) : sv + 0 < n) (tbS_0 hsv) (by decide) rfl q_3_3 rfl (kz := 14) rfl (lrS_14 hsv hLR) ?_
  refine x_aload_n C 0 dX6_gradeAt_4 rfl rfl ?_
  refine x_iload_n C 1 dX6_gradeAt_5 rfl rfl ?_
  refine x_runU (r_callV C ok_Saw sv (ltS hsv hn (by decide) : sv + 0 < n) (tbS_0 hsv) (ce_X6_rowAt) (m_X6_rowAt G n V R (sv) (k) hn hLR (by first | assumption | omega | decide) (by first | assumption | omega | decide)) rfl dX6_gradeAt_6 q_37_8 q_37_1 q_37_2 rfl rfl ⟨Nat.le_of_ble_eq_true rfl, Nat.le_of_ble_eq_true rfl⟩ ⟨rfl, rfl⟩ ⟨Nat.le_of_ble_eq_true rfl, Nat.le_of_ble_eq_true rfl⟩ (Nat.le_of_ble_eq_true rfl)) (fun v6 u6 hp6 => ?_)
  obtain ⟨rfl, rfl⟩ := hp6
  show Xw K G 0 0 _ n V R 9 [(0, .ref (aG G sv)), (1, .int (iI k))] [.int (iI (V (sv + 11) k)), .ref (aG G (sv + 10))]
  refine x_iald C (sv + 10) dX6_gradeAt_9 (ltS hsv hn (by decide)) (tbS_10 hsv) (by refine ⟨?_, ?_⟩ <;> omega) (fun rg9 => ?_)
  refine x_iret C dX6_gradeAt_10 ⟨rfl, rfl⟩
