
set_option maxRecDepth 100000 in
set_option maxHeartbeats 4000000 in
theorem m_X6_sumOf (G : GS) (n : Nat) (V : Nat → Int → Int) (R : Nat → Int → Option Nat) (c : Nat) (y : Int) (a : Int) (b : Int) (s : Int) (t : Int) (hn : 67 ≤ n) (hLR : LR R) (hc : c < n) (ht : tb c = (20, 1404)) (hyy : 0 ≤ y ∧ y ≤ 11) (ha : 0 ≤ a ∧ a ≤ 12) (hb : -1 ≤ b ∧ b ≤ 11) (hs : 0 ≤ s ∧ s ≤ 8) (ht2 : -1 ≤ t ∧ t ≤ 7) : Cn G yX6_sumOf cX6_sumOf 8 (some .int) (rmk 1 0 0 16) [.ref (aG G c), .int (iI y), .int (iI a), .int (iI b), .int (iI s), .int (iI t)] n V R 0 0 (fun vv uu => vv = some (.int (iI (sumQ (V c) y a b s t))) ∧ uu = (n, V, R)) := by
  refine Cn.of (by decide) (Nat.le_of_ble_eq_true rfl) (fun K C hct => ?_)
  show Xw K G 0 0 _ n V R 0 [(0, .ref (aG G c)), (1, .int (iI y)), (2, .int (iI a)), (3, .int (iI b)), (4, .int (iI s)), (5, .int (iI t))] []
  refine x_iload_n C 1 dX6_sumOf_0 rfl rfl ?_
  refine x_bipush C dX6_sumOf_1 (w := 117) (by decide) ?_
  refine x_imul C dX6_sumOf_3 ?_
  refine x_iload C 4 dX6_sumOf_4 rfl ?_
  refine x_bipush C dX6_sumOf_6 (w := 13) (by decide) ?_
  refine x_imul C dX6_sumOf_8 ?_
  refine x_iadd C dX6_sumOf_9 ?_
  refine x_istore C dX6_sumOf_10 (by decide) (lv' := [(0, .ref (aG G c)), (1, .int (iI y)), (2, .int (iI a)), (3, .int (iI b)), (4, .int (iI s)), (5, .int (iI t)), (6, .int (iI ((y * 117) + (s * 13))))]) rfl ?_
  refine x_iload_n C 1 dX6_sumOf_12 rfl rfl ?_
  refine x_bipush C dX6_sumOf_13 (w := 117) (by decide) ?_
  refine x_imul C dX6_sumOf_15 ?_
  refine x_iload C 5 dX6_sumOf_16 rfl ?_
  refine x_iconst C dX6_sumOf_18 ?_
  refine x_iadd C dX6_sumOf_19 ?_
  refine x_bipush C dX6_sumOf_20 (w := 13) (by decide) ?_
  refine x_imul C dX6_sumOf_22 ?_
  refine x_iadd C dX6_sumOf_23 ?_
  refine x_istore C dX6_sumOf_24 (by decide) (lv' := [(0, .ref (aG G c)), (1, .int (iI y)), (2, .int (iI a)), (3, .int (iI b)), (4, .int (iI s)), (5, .int (iI t)), (6, .int (iI ((y * 117) + (s * 13)))), (7, .int (iI ((y * 117) + ((t + 1) * 13))))]) rfl ?_
  refine x_aload_n C 0 dX6_sumOf_26 rfl rfl ?_
  refine x_iload C 7 dX6_sumOf_27 rfl ?_
  refine x_iload_n C 3 dX6_sumOf_29 rfl rfl ?_
  refine x_iadd C dX6_sumOf_30 ?_
  refine x_iconst C dX6_sumOf_31 ?_
  refine x_iadd C dX6_sumOf_32 ?_
  refine x_iald C c dX6_sumOf_33 hc ht (by refine ⟨?_, ?_⟩ <;> omega) (fun rg33 => ?_)
  refine x_aload_n C 0 dX6_sumOf_34 rfl rfl ?_
  refine x_iload C 7 dX6_sumOf_35 rfl ?_
  refine x_iload_n C 2 dX6_sumOf_37 rfl rfl ?_
  refine x_iadd C dX6_sumOf_38 ?_
  refine x_iald C c dX6_sumOf_39 hc ht (by refine ⟨?_, ?_⟩ <;> omega) (fun rg39 => ?_)
  refine x_isub C dX6_sumOf_40 ?_
  refine x_aload_n C 0 dX6_sumOf_41 rfl rfl ?_
  refine x_iload C 6 dX6_sumOf_42 rfl ?_
  refine x_iload_n C 3 dX6_sumOf_44 rfl rfl ?_
  refine x_iadd C dX6_sumOf_45 ?_
  refine x_iconst C dX6_sumOf_46 ?_
  refine x_iadd C dX6_sumOf_47 ?_
  refine x_iald C c dX6_sumOf_48 hc ht (by refine ⟨?_, ?_⟩ <;> omega) (fun rg48 => ?_)
  refine x_isub C dX6_sumOf_49 ?_
  refine x_aload_n C 0 dX6_sumOf_50 rfl rfl ?_
  refine x_iload C 6 dX6_sumOf_51 rfl ?_
  refine x_iload_n C 2 dX6_sumOf_53 rfl rfl ?_
  refine x_iadd C dX6_sumOf_54 ?_
  refine x_iald C c dX6_sumOf_55 hc ht (by refine ⟨?_, ?_⟩ <;> omega) (fun rg55 => ?_)
  refine x_iadd C dX6_sumOf_56 ?_
  refine x_iret C dX6_sumOf_57 ⟨congrArg (fun z => some (Value.int (iI z))) (by rfl), rfl⟩
set_option maxRecDepth 100000 in
set_option maxHeartbeats 4000000 in
theorem m_X6_hurtOf (G : GS) (n : Nat) (V : Nat → Int → Int) (R : Nat → Int → Option Nat) (sv : Nat) (lr : Int) (lt : Int) (L : Int) (f : Int → Int → Int) (m : Int) (g : Int) (pr : Int → Int) (x : Int) (y : Int) (s : Int) (hn : 67 ≤ n) (hLR : LR R) (hsv : sv = 11 ∨ sv = 23) (ok : SwOk V sv lr lt L f m g pr) (hx : 0 ≤ x ∧ x ≤ 11) (hyy : 0 ≤ y ∧ y ≤ 11) (hs : 0 ≤ s ∧ s < L) : Cn G yX6_hurtOf cX6_hurtOf 4 (some .int) (rmk 1 0 0 16) [.ref (aG G sv), .int (iI x), .int (iI y), .int (iI s)] n V R 0 0 (fun vv uu => vv = some (.int (iI (hurtS f m x y s g))) ∧ uu = (n, V, R)) := by
  have hL8 := ok.L
  refine Cn.of (by decide) (Nat.le_of_ble_eq_true rfl) (fun K C hct => ?_)
  show Xw K G 0 0 _ n V R 0 [(0, .ref (aG G sv)), (1, .int (iI x)), (2, .int (iI y)), (3, .int (iI s))] []
  refine x_aload_n C 0 dX6_hurtOf_0 rfl rfl ?_
  refine x_getr C ok_Saw sv 7 (d := (sv + 3)) dX6_hurtOf_1 (ltS hsv hn (by decide) : sv + 0 < n) (tbS_0 hsv) (by decide) rfl q_2_17 rfl (kz := 7) rfl (lrS_7 hsv hLR) ?_
  refine x_iload_n C 3 dX6_hurtOf_4 rfl rfl ?_
  refine x_sipush C dX6_hurtOf_5 (w := 144) (by decide) ?_
  refine x_imul C dX6_hurtOf_8 ?_
  refine x_iload_n C 2 dX6_hurtOf_9 rfl rfl ?_
  refine x_bipush C dX6_hurtOf_10 (w := 12) (by decide) ?_
  refine x_imul C dX6_hurtOf_12 ?_
  refine x_iadd C dX6_hurtOf_13 ?_
  refine x_iload_n C 1 dX6_hurtOf_14 rfl rfl ?_
  refine x_iadd C dX6_hurtOf_15 ?_
  refine x_iald C (sv + 3) dX6_hurtOf_16 (ltS hsv hn (by decide)) (tbS_3 hsv) (by refine ⟨?_, ?_⟩ <;> omega) (fun rg16 => ?_)
  refine x_iret C dX6_hurtOf_17 ⟨congrArg (fun z => some (Value.int (iI z))) (by exact ok.h hs.1 hs.2 hyy.1 (by omega) hx.1 (by omega)), rfl⟩
set_option maxRecDepth 100000 in
set_option maxHeartbeats 4000000 in
theorem m_X6_firstColumnAt (G : GS) (n : Nat) (V : Nat → Int → Int) (R : Nat → Int → Option Nat) (sv : Nat) (lr : Int) (lt : Int) (L : Int) (f : Int → Int → Int) (m : Int) (g : Int) (pr : Int → Int) (y : Int) (k : Int) (s : Int) (hn : 67 ≤ n) (hLR : LR R) (hsv : sv = 11 ∨ sv = 23) (ok : SwOk V sv lr lt L f m g pr) (hyy : 0 ≤ y ∧ y + k ≤ 12) (hk : 1 ≤ k ∧ k ≤ 4) (hs : 0 ≤ s ∧ s < L) : Cn G yX6_firstColumnAt cX6_firstColumnAt 4 (some .int) (rmk 1 0 0 16) [.ref (aG G sv), .int (iI y), .int (iI k), .int (iI s)] n V R 0 0 (fun vv uu => vv = some (.int (iI (fcS lr lt y k s))) ∧ uu = (n, V, R)) := by
  have hL8 := ok.L
  refine Cn.of (by decide) (Nat.le_of_ble_eq_true rfl) (fun K C hct => ?_)
  show Xw K G 0 0 _ n V R 0 [(0, .ref (aG G sv)), (1, .int (iI y)), (2, .int (iI k)), (3, .int (iI s))] []
  refine x_aload_n C 0 dX6_firstColumnAt_0 rfl rfl ?_
  refine x_getr C ok_Saw sv 6 (d := (sv + 2)) dX6_firstColumnAt_1 (ltS hsv hn (by decide) : sv + 0 < n) (tbS_0 hsv) (by decide) rfl q_2_16 rfl (kz := 6) rfl (lrS_6 hsv hLR) ?_
  refine x_iload_n C 3 dX6_firstColumnAt_4 rfl rfl ?_
  refine x_bipush C dX6_firstColumnAt_5 (w := 12) (by decide) ?_
  refine x_imul C dX6_firstColumnAt_7 ?_
  refine x_iload_n C 1 dX6_firstColumnAt_8 rfl rfl ?_
  refine x_iadd C dX6_firstColumnAt_9 ?_
  refine x_iald C (sv + 2) dX6_firstColumnAt_10 (ltS hsv hn (by decide)) (tbS_2 hsv) (by refine ⟨?_, ?_⟩ <;> omega) (fun rg10 => ?_)
  refine x_aload_n C 0 dX6_firstColumnAt_11 rfl rfl ?_
  refine x_getr C ok_Saw sv 6 (d := (sv + 2)) dX6_firstColumnAt_12 (ltS hsv hn (by decide) : sv + 0 < n) (tbS_0 hsv) (by decide) rfl q_2_16 rfl (kz := 6) rfl (lrS_6 hsv hLR) ?_
  refine x_iload_n C 3 dX6_firstColumnAt_15 rfl rfl ?_
  refine x_bipush C dX6_firstColumnAt_16 (w := 12) (by decide) ?_
  refine x_imul C dX6_firstColumnAt_18 ?_
  refine x_iload_n C 1 dX6_firstColumnAt_19 rfl rfl ?_
  refine x_iadd C dX6_firstColumnAt_20 ?_
  refine x_iload_n C 2 dX6_firstColumnAt_21 rfl rfl ?_
  refine x_iadd C dX6_firstColumnAt_22 ?_
  refine x_iconst C dX6_firstColumnAt_23 ?_
  refine x_isub C dX6_firstColumnAt_24 ?_
  refine x_iald C (sv + 2) dX6_firstColumnAt_25 (ltS hsv hn (by decide)) (tbS_2 hsv) (by refine ⟨?_, ?_⟩ <;> omega) (fun rg25 => ?_)
  refine x_max C dX6_firstColumnAt_26 q_29_2 q_5_21 q_5_22 q_5_23 ⟨Nat.le_of_ble_eq_true rfl, Nat.le_of_ble_eq_true rfl⟩ ⟨Nat.zero_le _, Nat.zero_le _⟩ (by first | assumption | (constructor <;> omega)) (by first | assumption | (constructor <;> omega)) ?_
  refine x_iret C dX6_firstColumnAt_29 ⟨congrArg (fun z => some (Value.int (iI z))) (by exact fc2 (ok.w hs.1 hs.2 hyy.1 (by omega)) (by rw [show s * 12 + y + k - 1 = s * 12 + (y + k - 1) by omega]; exact ok.w hs.1 hs.2 (by omega) (by omega)) hyy hk), rfl⟩
set_option maxRecDepth 100000 in
set_option maxHeartbeats 4000000 in
theorem m_X6_isAllWood (G : GS) (n : Nat) (V : Nat → Int → Int) (R : Nat → Int → Option Nat) (sv : Nat) (lr : Int) (lt : Int) (L : Int) (f : Int → Int → Int) (m : Int) (g : Int) (pr : Int → Int) (y : Int) (k : Int) (a : Int) (b : Int) (t : Int) (hn : 67 ≤ n) (hLR : LR R) (hsv : sv = 11 ∨ sv = 23) (ok : SwOk V sv lr lt L f m g pr) (hyy : 0 ≤ y ∧ y + k ≤ 12) (hk : 1 ≤ k ∧ k ≤ 4) (hs : 0 ≤ t ∧ t < L) (ga : Rg a) (gb : Rg b) : Cn G yX6_isAllWood cX6_isAllWood 7 (some .boolean) (rmk 2 0 0 39) [.ref (aG G sv), .int (iI y), .int (iI k), .int (iI a), .int (iI b), .int (iI t)] n V R 0 0 (fun vv uu => vv = some (.int (iI (bI (fcS lr lt y k t ≤ a ∧ b ≤ 11 - fcS lr lt y k t)))) ∧ uu = (n, V, R)) := by
  have hL8 := ok.L
  have hfb := fcS_b lr lt y k t
  refine Cn.of (by decide) (Nat.le_of_ble_eq_true rfl) (fun K C hct => ?_)
  show Xw K G 0 0 _ n V R 0 [(0, .ref (aG G sv)), (1, .int (iI y)), (2, .int (iI k)), (3, .int (iI a)), (4, .int (iI b)), (5, .int (iI t))] []
  refine x_aload_n C 0 dX6_isAllWood_0 rfl rfl ?_
  refine x_iload_n C 1 dX6_isAllWood_1 rfl rfl ?_
  refine x_iload_n C 2 dX6_isAllWood_2 rfl rfl ?_
  refine x_iload C 5 dX6_isAllWood_3 rfl ?_
  refine x_runU (r_callV C ok_Saw sv (ltS hsv hn (by decide) : sv + 0 < n) (tbS_0 hsv) (ce_X6_firstColumnAt) (m_X6_firstColumnAt G n V R (sv) (lr) (lt) (L) (f) (m) (g) (pr) (y) (k) (t) hn hLR (by first | assumption | omega | decide) (by first | assumption | omega | decide) (by first | assumption | omega | decide) (by first | assumption | omega | decide) (by first | assumption | omega | decide)) rfl dX6_isAllWood_5 q_32_12 q_32_13 q_32_14 rfl rfl ⟨Nat.le_of_ble_eq_true rfl, Nat.le_of_ble_eq_true rfl⟩ ⟨rfl, rfl⟩ ⟨Nat.le_of_ble_eq_true rfl, Nat.le_of_ble_eq_true rfl⟩ (Nat.le_of_ble_eq_true rfl)) (fun v5 u5 hp5 => ?_)
  obtain ⟨rfl, rfl⟩ := hp5
  show Xw K G 0 0 _ n V R 8 [(0, .ref (aG G sv)), (1, .int (iI y)), (2, .int (iI k)), (3, .int (iI a)), (4, .int (iI b)), (5, .int (iI t))] [.int (iI (fcS lr lt y k t))]
  refine x_istore C dX6_isAllWood_8 (by decide) (lv' := [(0, .ref (aG G sv)), (1, .int (iI y)), (2, .int (iI k)), (3, .int (iI a)), (4, .int (iI b)), (5, .int (iI t)), (6, .int (iI (fcS lr lt y k t)))]) rfl ?_
  refine x_iload_n C 3 dX6_isAllWood_10 rfl rfl ?_
  refine x_iload C 6 dX6_isAllWood_11 rfl ?_
  refine x_icmp_lt C dX6_isAllWood_13 (tgt := 30) (by decide) (by first | assumption | (constructor <;> omega)) (by first | assumption | (constructor <;> omega)) (fun h13 => ?_) (fun h13 => ?_)
  · skip
    refine x_iconst C dX6_isAllWood_30 ?_
    refine x_zret C (Or.inl rfl) dX6_isAllWood_31 ⟨bI_rf (by omega), rfl⟩
  · skip
    refine x_iload C 4 dX6_isAllWood_16 rfl ?_
    refine x_bipush C dX6_isAllWood_18 (w := 11) (by decide) ?_
    refine x_iload C 6 dX6_isAllWood_20 rfl ?_
    refine x_isub C dX6_isAllWood_22 ?_
    refine x_icmp_gt C dX6_isAllWood_23 (tgt := 30) (by decide) (by first | assumption | (constructor <;> omega)) (by first | assumption | (constructor <;> omega)) (fun h23 => ?_) (fun h23 => ?_)
    · skip
      refine x_iconst C dX6_isAllWood_30 ?_
      refine x_zret C (Or.inl rfl) dX6_isAllWood_31 ⟨bI_rf (by omega), rfl⟩
    · skip
      refine x_iconst C dX6_isAllWood_26 ?_
      refine x_goto C dX6_isAllWood_27 (tgt := 31) (by decide) ?_
      refine x_zret C (Or.inr rfl) dX6_isAllWood_31 ⟨bI_rt (by omega), rfl⟩
set_option maxRecDepth 100000 in
set_option maxHeartbeats 4000000 in
theorem m_X6_gradeOf (G : GS) (n : Nat) (V : Nat → Int → Int) (R : Nat → Int → Option Nat) (sv : Nat) (lr : Int) (lt : Int) (L : Int) (f : Int → Int → Int) (m : Int) (g : Int) (pr : Int → Int) (y : Int) (k : Int) (a : Int) (b : Int) (s : Int) (t : Int) (hn : 67 ≤ n) (hLR : LR R) (hsv : sv = 11 ∨ sv = 23) (ok : SwOk V sv lr lt L f m g pr) (hyy : 0 ≤ y ∧ y + k ≤ 12) (hk : 1 ≤ k ∧ k ≤ 4) (ha : 0 ≤ a ∧ a ≤ b + 1) (hb : b ≤ 11) (hs : 0 ≤ s ∧ s ≤ t) (ht2 : t < L) : Cn G yX6_gradeOf cX6_gradeOf 13 (some .int) (rmk 2 0 0 43) [.ref (aG G sv), .int (iI y), .int (iI k), .int (iI a), .int (iI b), .int (iI s), .int (iI t)] n V R 0 0 (fun vv uu => vv = some (.int (iI (grP f m g y k a b s t))) ∧ uu = (n, V, R)) := by
  have hL8 := ok.L
  obtain ⟨fq1, fq2⟩ := sumQ_face ok.s (y := y) (a := a) (b := b) (s := s) (t := t) (by omega) (by omega) (by omega) (by omega) (by omega) (by omega) (by omega) (by omega)
  obtain ⟨fq3, fq4⟩ := sumQ_face ok.s (y := y + k - 1) (a := a) (b := b) (s := s) (t := t) (by omega) (by omega) (by omega) (by omega) (by omega) (by omega) (by omega) (by omega)
  have fb1 := face_b (rowH_b f m g y) ha.1 ha.2 hb hs.1 (show s ≤ t + 1 by omega) (show t ≤ 7 by omega)
  have fb2 := face_b (rowH_b f m g (y + k - 1)) ha.1 ha.2 hb hs.1 (show s ≤ t + 1 by omega) (show t ≤ 7 by omega)
  have fb3 := face_b (row9_b f m g y) ha.1 ha.2 hb hs.1 (show s ≤ t + 1 by omega) (show t ≤ 7 by omega)
  have fb4 := face_b (row9_b f m g (y + k - 1)) ha.1 ha.2 hb hs.1 (show s ≤ t + 1 by omega) (show t ≤ 7 by omega)
  change 0 ≤ faceH f m g y a b s t ∧ faceH f m g y a b s t ≤ 864 at fb1
  change 0 ≤ faceH f m g (y + k - 1) a b s t ∧ faceH f m g (y + k - 1) a b s t ≤ 864 at fb2
  change 0 ≤ face9 f m g y a b s t ∧ face9 f m g y a b s t ≤ 864 at fb3
  change 0 ≤ face9 f m g (y + k - 1) a b s t ∧ face9 f m g (y + k - 1) a b s t ≤ 864 at fb4
  have ab := mul_bd (a := b - a + 1) (b := t - s + 1) (A := 12) (B := 8) (by omega) (by omega)
  refine Cn.of (by decide) (Nat.le_of_ble_eq_true rfl) (fun K C hct => ?_)
  show Xw K G 0 0 _ n V R 0 [(0, .ref (aG G sv)), (1, .int (iI y)), (2, .int (iI k)), (3, .int (iI a)), (4, .int (iI b)), (5, .int (iI s)), (6, .int (iI t))] []
  refine x_iload_n C 1 dX6_gradeOf_0 rfl rfl ?_
  refine x_iload_n C 2 dX6_gradeOf_1 rfl rfl ?_
  refine x_iadd C dX6_gradeOf_2 ?_
  refine x_iconst C dX6_gradeOf_3 ?_
  refine x_isub C dX6_gradeOf_4 ?_
  refine x_istore C dX6_gradeOf_5 (by decide) (lv' := [(0, .ref (aG G sv)), (1, .int (iI y)), (2, .int (iI k)), (3, .int (iI a)), (4, .int (iI b)), (5, .int (iI s)), (6, .int (iI t)), (7, .int (iI ((y + k) - 1)))]) rfl ?_
  refine x_iload C 4 dX6_gradeOf_7 rfl ?_
  refine x_iload_n C 3 dX6_gradeOf_9 rfl rfl ?_
  refine x_isub C dX6_gradeOf_10 ?_
  refine x_iconst C dX6_gradeOf_11 ?_
  refine x_iadd C dX6_gradeOf_12 ?_
  refine x_iload C 6 dX6_gradeOf_13 rfl ?_
  refine x_iload C 5 dX6_gradeOf_15 rfl ?_
  refine x_isub C dX6_gradeOf_17 ?_
  refine x_iconst C dX6_gradeOf_18 ?_
  refine x_iadd C dX6_gradeOf_19 ?_
  refine x_imul C dX6_gradeOf_20 ?_
  refine x_istore C dX6_gradeOf_21 (by decide) (lv' := [(0, .ref (aG G sv)), (1, .int (iI y)), (2, .int (iI k)), (3, .int (iI a)), (4, .int (iI b)), (5, .int (iI s)), (6, .int (iI t)), (7, .int (iI ((y + k) - 1))), (8, .int (iI (((b - a) + 1) * ((t - s) + 1))))]) rfl ?_
  refine x_aload_n C 0 dX6_gradeOf_23 rfl rfl ?_
  refine x_getr C ok_Saw sv 8 (d := (sv + 4)) dX6_gradeOf_24 (ltS hsv hn (by decide) : sv + 0 < n) (tbS_0 hsv) (by decide) rfl q_2_18 rfl (kz := 8) rfl (lrS_8 hsv hLR) ?_
  refine x_iload_n C 1 dX6_gradeOf_27 rfl rfl ?_
  refine x_iload_n C 3 dX6_gradeOf_28 rfl rfl ?_
  refine x_iload C 4 dX6_gradeOf_29 rfl ?_
  refine x_iload C 5 dX6_gradeOf_31 rfl ?_
  refine x_iload C 6 dX6_gradeOf_33 rfl ?_
  refine x_runU (r_callS C (ce_X6_sumOf) (m_X6_sumOf G n V R (sv + 4) (y) (a) (b) (s) (t) hn hLR (by omega) (by exact tbS_4 hsv) (by first | assumption | omega | decide) (by first | assumption | omega | decide) (by first | assumption | omega | decide) (by first | assumption | omega | decide) (by first | assumption | omega | decide)) dX6_gradeOf_35 q_33_7 q_33_8 rfl rfl ⟨Nat.le_of_ble_eq_true rfl, Nat.le_of_ble_eq_true rfl⟩ ⟨rfl, rfl⟩ ⟨Nat.le_of_ble_eq_true rfl, Nat.le_of_ble_eq_true rfl⟩ (Nat.le_of_ble_eq_true rfl)) (fun v35 u35 hp35 => ?_)
  obtain ⟨rfl, rfl⟩ := hp35
  show Xw K G 0 0 _ n V R 38 [(0, .ref (aG G sv)), (1, .int (iI y)), (2, .int (iI k)), (3, .int (iI a)), (4, .int (iI b)), (5, .int (iI s)), (6, .int (iI t)), (7, .int (iI ((y + k) - 1))), (8, .int (iI (((b - a) + 1) * ((t - s) + 1))))] [.int (iI (sumQ (V (sv + 4)) y a b s t))]
  refine x_top (b := (faceH f m g y a b s t)) (by exact fq1) ?_
  refine x_istore C dX6_gradeOf_38 (by decide) (lv' := [(0, .ref (aG G sv)), (1, .int (iI y)), (2, .int (iI k)), (3, .int (iI a)), (4, .int (iI b)), (5, .int (iI s)), (6, .int (iI t)), (7, .int (iI ((y + k) - 1))), (8, .int (iI (((b - a) + 1) * ((t - s) + 1)))), (9, .int (iI (faceH f m g y a b s t)))]) rfl ?_
  refine x_aload_n C 0 dX6_gradeOf_40 rfl rfl ?_
  refine x_getr C ok_Saw sv 8 (d := (sv + 4)) dX6_gradeOf_41 (ltS hsv hn (by decide) : sv + 0 < n) (tbS_0 hsv) (by decide) rfl q_2_18 rfl (kz := 8) rfl (lrS_8 hsv hLR) ?_
  refine x_iload C 7 dX6_gradeOf_44 rfl ?_
  refine x_iload_n C 3 dX6_gradeOf_46 rfl rfl ?_
  refine x_iload C 4 dX6_gradeOf_47 rfl ?_
  refine x_iload C 5 dX6_gradeOf_49 rfl ?_
  refine x_iload C 6 dX6_gradeOf_51 rfl ?_
  refine x_runU (r_callS C (ce_X6_sumOf) (m_X6_sumOf G n V R (sv + 4) ((y + k) - 1) (a) (b) (s) (t) hn hLR (by omega) (by exact tbS_4 hsv) (by first | assumption | omega | decide) (by first | assumption | omega | decide) (by first | assumption | omega | decide) (by first | assumption | omega | decide) (by first | assumption | omega | decide)) dX6_gradeOf_53 q_33_7 q_33_8 rfl rfl ⟨Nat.le_of_ble_eq_true rfl, Nat.le_of_ble_eq_true rfl⟩ ⟨rfl, rfl⟩ ⟨Nat.le_of_ble_eq_true rfl, Nat.le_of_ble_eq_true rfl⟩ (Nat.le_of_ble_eq_true rfl)) (fun v53 u53 hp53 => ?_)
  obtain ⟨rfl, rfl⟩ := hp53
  show Xw K G 0 0 _ n V R 56 [(0, .ref (aG G sv)), (1, .int (iI y)), (2, .int (iI k)), (3, .int (iI a)), (4, .int (iI b)), (5, .int (iI s)), (6, .int (iI t)), (7, .int (iI ((y + k) - 1))), (8, .int (iI (((b - a) + 1) * ((t - s) + 1)))), (9, .int (iI (faceH f m g y a b s t)))] [.int (iI (sumQ (V (sv + 4)) ((y + k) - 1) a b s t))]
  refine x_top (b := (faceH f m g (y + k - 1) a b s t)) (by exact fq3) ?_
  refine x_istore C dX6_gradeOf_56 (by decide) (lv' := [(0, .ref (aG G sv)), (1, .int (iI y)), (2, .int (iI k)), (3, .int (iI a)), (4, .int (iI b)), (5, .int (iI s)), (6, .int (iI t)), (7, .int (iI ((y + k) - 1))), (8, .int (iI (((b - a) + 1) * ((t - s) + 1)))), (9, .int (iI (faceH f m g y a b s t))), (10, .int (iI (faceH f m g (y + k - 1) a b s t)))]) rfl ?_
  refine x_iload C 9 dX6_gradeOf_58 rfl ?_
  refine x_iload C 10 dX6_gradeOf_60 rfl ?_
  refine x_max C dX6_gradeOf_62 q_29_2 q_5_21 q_5_22 q_5_23 ⟨Nat.le_of_ble_eq_true rfl, Nat.le_of_ble_eq_true rfl⟩ ⟨Nat.zero_le _, Nat.zero_le _⟩ (by first | assumption | (constructor <;> omega)) (by first | assumption | (constructor <;> omega)) ?_
  refine x_istore C dX6_gradeOf_65 (by decide) (lv' := [(0, .ref (aG G sv)), (1, .int (iI y)), (2, .int (iI k)), (3, .int (iI a)), (4, .int (iI b)), (5, .int (iI s)), (6, .int (iI t)), (7, .int (iI ((y + k) - 1))), (8, .int (iI (((b - a) + 1) * ((t - s) + 1)))), (9, .int (iI (faceH f m g y a b s t))), (10, .int (iI (faceH f m g (y + k - 1) a b s t))), (11, .int (iI (max (faceH f m g y a b s t) (faceH f m g (y + k - 1) a b s t))))]) rfl ?_
  refine x_iload C 9 dX6_gradeOf_67 rfl ?_
  refine x_iload C 10 dX6_gradeOf_69 rfl ?_
  refine x_min C dX6_gradeOf_71 q_28_23 q_10_5 q_5_22 q_10_6 ⟨Nat.le_of_ble_eq_true rfl, Nat.le_of_ble_eq_true rfl⟩ ⟨Nat.zero_le _, Nat.zero_le _⟩ (by first | assumption | (constructor <;> omega)) (by first | assumption | (constructor <;> omega)) ?_
  refine x_istore C dX6_gradeOf_74 (by decide) (lv' := [(0, .ref (aG G sv)), (1, .int (iI y)), (2, .int (iI k)), (3, .int (iI a)), (4, .int (iI b)), (5, .int (iI s)), (6, .int (iI t)), (7, .int (iI ((y + k) - 1))), (8, .int (iI (((b - a) + 1) * ((t - s) + 1)))), (9, .int (iI (faceH f m g y a b s t))), (10, .int (iI (faceH f m g (y + k - 1) a b s t))), (11, .int (iI (max (faceH f m g y a b s t) (faceH f m g (y + k - 1) a b s t)))), (12, .int (iI (min (faceH f m g y a b s t) (faceH f m g (y + k - 1) a b s t))))]) rfl ?_
  refine x_iload C 11 dX6_gradeOf_76 rfl ?_
  refine x_if_ne C dX6_gradeOf_78 (tgt := 83) (by decide) (by first | assumption | (constructor <;> omega)) (fun h78 => ?_) (fun h78 => ?_)
  · skip
    refine x_iload C 12 dX6_gradeOf_83 rfl ?_
    refine x_if_ne C dX6_gradeOf_85 (tgt := 100) (by decide) (by first | assumption | (constructor <;> omega)) (fun h85 => ?_) (fun h85 => ?_)
    · skip
      refine x_iconst C dX6_gradeOf_100 ?_
      refine x_iload C 11 dX6_gradeOf_101 rfl ?_
      refine x_imul C dX6_gradeOf_103 ?_
      refine x_iload C 8 dX6_gradeOf_104 rfl ?_
      refine x_icmp_gt C dX6_gradeOf_106 (tgt := 148) (by decide) (by first | assumption | (constructor <;> omega)) (by first | assumption | (constructor <;> omega)) (fun h106 => ?_) (fun h106 => ?_)
      · skip
        refine x_iload C 12 dX6_gradeOf_148 rfl ?_
        refine x_iload C 8 dX6_gradeOf_150 rfl ?_
        refine x_icmp_gt C dX6_gradeOf_152 (tgt := 159) (by decide) (by first | assumption | (constructor <;> omega)) (by first | assumption | (constructor <;> omega)) (fun h152 => ?_) (fun h152 => ?_)
        · skip
          refine x_iconst C dX6_gradeOf_159 ?_
          refine x_iret C dX6_gradeOf_160 ⟨congrArg (fun z => some (Value.int (iI z))) (by unfold grP gradeS; (repeat' split) <;> omega), rfl⟩
        · skip
          refine x_iconst C dX6_gradeOf_155 ?_
          refine x_goto C dX6_gradeOf_156 (tgt := 160) (by decide) ?_
          refine x_iret C dX6_gradeOf_160 ⟨congrArg (fun z => some (Value.int (iI z))) (by unfold grP gradeS; (repeat' split) <;> omega), rfl⟩
      · skip
        refine x_aload_n C 0 dX6_gradeOf_109 rfl rfl ?_
        refine x_getr C ok_Saw sv 9 (d := (sv + 5)) dX6_gradeOf_110 (ltS hsv hn (by decide) : sv + 0 < n) (tbS_0 hsv) (by decide) rfl q_2_19 rfl (kz := 9) rfl (lrS_9 hsv hLR) ?_
        refine x_iload_n C 1 dX6_gradeOf_113 rfl rfl ?_
        refine x_iload_n C 3 dX6_gradeOf_114 rfl rfl ?_
        refine x_iload C 4 dX6_gradeOf_115 rfl ?_
        refine x_iload C 5 dX6_gradeOf_117 rfl ?_
        refine x_iload C 6 dX6_gradeOf_119 rfl ?_
        refine x_runU (r_callS C (ce_X6_sumOf) (m_X6_sumOf G n V R (sv + 5) (y) (a) (b) (s) (t) hn hLR (by omega) (by exact tbS_5 hsv) (by first | assumption | omega | decide) (by first | assumption | omega | decide) (by first | assumption | omega | decide) (by first | assumption | omega | decide) (by first | assumption | omega | decide)) dX6_gradeOf_121 q_33_7 q_33_8 rfl rfl ⟨Nat.le_of_ble_eq_true rfl, Nat.le_of_ble_eq_true rfl⟩ ⟨rfl, rfl⟩ ⟨Nat.le_of_ble_eq_true rfl, Nat.le_of_ble_eq_true rfl⟩ (Nat.le_of_ble_eq_true rfl)) (fun v121 u121 hp121 => ?_)
        obtain ⟨rfl, rfl⟩ := hp121
        show Xw K G 0 0 _ n V R 124 [(0, .ref (aG G sv)), (1, .int (iI y)), (2, .int (iI k)), (3, .int (iI a)), (4, .int (iI b)), (5, .int (iI s)), (6, .int (iI t)), (7, .int (iI ((y + k) - 1))), (8, .int (iI (((b - a) + 1) * ((t - s) + 1)))), (9, .int (iI (faceH f m g y a b s t))), (10, .int (iI (faceH f m g (y + k - 1) a b s t))), (11, .int (iI (max (faceH f m g y a b s t) (faceH f m g (y + k - 1) a b s t)))), (12, .int (iI (min (faceH f m g y a b s t) (faceH f m g (y + k - 1) a b s t))))] [.int (iI (sumQ (V (sv + 5)) y a b s t))]
        refine x_top (b := (face9 f m g y a b s t)) (by exact fq2) ?_
        refine x_if_ne C dX6_gradeOf_124 (tgt := 148) (by decide) (by first | assumption | (constructor <;> omega)) (fun h124 => ?_) (fun h124 => ?_)
        · skip
          refine x_iload C 12 dX6_gradeOf_148 rfl ?_
          refine x_iload C 8 dX6_gradeOf_150 rfl ?_
          refine x_icmp_gt C dX6_gradeOf_152 (tgt := 159) (by decide) (by first | assumption | (constructor <;> omega)) (by first | assumption | (constructor <;> omega)) (fun h152 => ?_) (fun h152 => ?_)
          · skip
            refine x_iconst C dX6_gradeOf_159 ?_
            refine x_iret C dX6_gradeOf_160 ⟨congrArg (fun z => some (Value.int (iI z))) (by unfold grP gradeS; (repeat' split) <;> omega), rfl⟩
          · skip
            refine x_iconst C dX6_gradeOf_155 ?_
            refine x_goto C dX6_gradeOf_156 (tgt := 160) (by decide) ?_
            refine x_iret C dX6_gradeOf_160 ⟨congrArg (fun z => some (Value.int (iI z))) (by unfold grP gradeS; (repeat' split) <;> omega), rfl⟩
        · skip
          refine x_aload_n C 0 dX6_gradeOf_127 rfl rfl ?_
          refine x_getr C ok_Saw sv 9 (d := (sv + 5)) dX6_gradeOf_128 (ltS hsv hn (by decide) : sv + 0 < n) (tbS_0 hsv) (by decide) rfl q_2_19 rfl (kz := 9) rfl (lrS_9 hsv hLR) ?_
          refine x_iload C 7 dX6_gradeOf_131 rfl ?_
          refine x_iload_n C 3 dX6_gradeOf_133 rfl rfl ?_
          refine x_iload C 4 dX6_gradeOf_134 rfl ?_
          refine x_iload C 5 dX6_gradeOf_136 rfl ?_
          refine x_iload C 6 dX6_gradeOf_138 rfl ?_
          refine x_runU (r_callS C (ce_X6_sumOf) (m_X6_sumOf G n V R (sv + 5) ((y + k) - 1) (a) (b) (s) (t) hn hLR (by omega) (by exact tbS_5 hsv) (by first | assumption | omega | decide) (by first | assumption | omega | decide) (by first | assumption | omega | decide) (by first | assumption | omega | decide) (by first | assumption | omega | decide)) dX6_gradeOf_140 q_33_7 q_33_8 rfl rfl ⟨Nat.le_of_ble_eq_true rfl, Nat.le_of_ble_eq_true rfl⟩ ⟨rfl, rfl⟩ ⟨Nat.le_of_ble_eq_true rfl, Nat.le_of_ble_eq_true rfl⟩ (Nat.le_of_ble_eq_true rfl)) (fun v140 u140 hp140 => ?_)
          obtain ⟨rfl, rfl⟩ := hp140
          show Xw K G 0 0 _ n V R 143 [(0, .ref (aG G sv)), (1, .int (iI y)), (2, .int (iI k)), (3, .int (iI a)), (4, .int (iI b)), (5, .int (iI s)), (6, .int (iI t)), (7, .int (iI ((y + k) - 1))), (8, .int (iI (((b - a) + 1) * ((t - s) + 1)))), (9, .int (iI (faceH f m g y a b s t))), (10, .int (iI (faceH f m g (y + k - 1) a b s t))), (11, .int (iI (max (faceH f m g y a b s t) (faceH f m g (y + k - 1) a b s t)))), (12, .int (iI (min (faceH f m g y a b s t) (faceH f m g (y + k - 1) a b s t))))] [.int (iI (sumQ (V (sv + 5)) ((y + k) - 1) a b s t))]
          refine x_top (b := (face9 f m g (y + k - 1) a b s t)) (by exact fq4) ?_
          refine x_if_ne C dX6_gradeOf_143 (tgt := 148) (by decide) (by first | assumption | (constructor <;> omega)) (fun h143 => ?_) (fun h143 => ?_)
          · skip
            refine x_iload C 12 dX6_gradeOf_148 rfl ?_
            refine x_iload C 8 dX6_gradeOf_150 rfl ?_
            refine x_icmp_gt C dX6_gradeOf_152 (tgt := 159) (by decide) (by first | assumption | (constructor <;> omega)) (by first | assumption | (constructor <;> omega)) (fun h152 => ?_) (fun h152 => ?_)
            · skip
              refine x_iconst C dX6_gradeOf_159 ?_
              refine x_iret C dX6_gradeOf_160 ⟨congrArg (fun z => some (Value.int (iI z))) (by unfold grP gradeS; (repeat' split) <;> omega), rfl⟩
            · skip
              refine x_iconst C dX6_gradeOf_155 ?_
              refine x_goto C dX6_gradeOf_156 (tgt := 160) (by decide) ?_
              refine x_iret C dX6_gradeOf_160 ⟨congrArg (fun z => some (Value.int (iI z))) (by unfold grP gradeS; (repeat' split) <;> omega), rfl⟩
          · skip
            refine x_iconst C dX6_gradeOf_146 ?_
            refine x_iret C dX6_gradeOf_147 ⟨congrArg (fun z => some (Value.int (iI z))) (by unfold grP gradeS; (repeat' split) <;> omega), rfl⟩
    · skip
      refine x_bipush C dX6_gradeOf_88 (w := 8) (by decide) ?_
      refine x_iload C 11 dX6_gradeOf_90 rfl ?_
      refine x_imul C dX6_gradeOf_92 ?_
      refine x_iload C 8 dX6_gradeOf_93 rfl ?_
      refine x_icmp_gt C dX6_gradeOf_95 (tgt := 100) (by decide) (by first | assumption | (constructor <;> omega)) (by first | assumption | (constructor <;> omega)) (fun h95 => ?_) (fun h95 => ?_)
      · skip
        refine x_iconst C dX6_gradeOf_100 ?_
        refine x_iload C 11 dX6_gradeOf_101 rfl ?_
        refine x_imul C dX6_gradeOf_103 ?_
        refine x_iload C 8 dX6_gradeOf_104 rfl ?_
        refine x_icmp_gt C dX6_gradeOf_106 (tgt := 148) (by decide) (by first | assumption | (constructor <;> omega)) (by first | assumption | (constructor <;> omega)) (fun h106 => ?_) (fun h106 => ?_)
        · skip
          refine x_iload C 12 dX6_gradeOf_148 rfl ?_
          refine x_iload C 8 dX6_gradeOf_150 rfl ?_
          refine x_icmp_gt C dX6_gradeOf_152 (tgt := 159) (by decide) (by first | assumption | (constructor <;> omega)) (by first | assumption | (constructor <;> omega)) (fun h152 => ?_) (fun h152 => ?_)
          · skip
            refine x_iconst C dX6_gradeOf_159 ?_
            refine x_iret C dX6_gradeOf_160 ⟨congrArg (fun z => some (Value.int (iI z))) (by unfold grP gradeS; (repeat' split) <;> omega), rfl⟩
          · skip
            refine x_iconst C dX6_gradeOf_155 ?_
            refine x_goto C dX6_gradeOf_156 (tgt := 160) (by decide) ?_
            refine x_iret C dX6_gradeOf_160 ⟨congrArg (fun z => some (Value.int (iI z))) (by unfold grP gradeS; (repeat' split) <;> omega), rfl⟩
        · skip
          refine x_aload_n C 0 dX6_gradeOf_109 rfl rfl ?_
          refine x_getr C ok_Saw sv 9 (d := (sv + 5)) dX6_gradeOf_110 (ltS hsv hn (by decide) : sv + 0 < n) (tbS_0 hsv) (by decide) rfl q_2_19 rfl (kz := 9) rfl (lrS_9 hsv hLR) ?_
          refine x_iload_n C 1 dX6_gradeOf_113 rfl rfl ?_
          refine x_iload_n C 3 dX6_gradeOf_114 rfl rfl ?_
          refine x_iload C 4 dX6_gradeOf_115 rfl ?_
          refine x_iload C 5 dX6_gradeOf_117 rfl ?_
          refine x_iload C 6 dX6_gradeOf_119 rfl ?_
          refine x_runU (r_callS C (ce_X6_sumOf) (m_X6_sumOf G n V R (sv + 5) (y) (a) (b) (s) (t) hn hLR (by omega) (by exact tbS_5 hsv) (by first | assumption | omega | decide) (by first | assumption | omega | decide) (by first | assumption | omega | decide) (by first | assumption | omega | decide) (by first | assumption | omega | decide)) dX6_gradeOf_121 q_33_7 q_33_8 rfl rfl ⟨Nat.le_of_ble_eq_true rfl, Nat.le_of_ble_eq_true rfl⟩ ⟨rfl, rfl⟩ ⟨Nat.le_of_ble_eq_true rfl, Nat.le_of_ble_eq_true rfl⟩ (Nat.le_of_ble_eq_true rfl)) (fun v121 u121 hp121 => ?_)
          obtain ⟨rfl, rfl⟩ := hp121
          show Xw K G 0 0 _ n V R 124 [(0, .ref (aG G sv)), (1, .int (iI y)), (2, .int (iI k)), (3, .int (iI a)), (4, .int (iI b)), (5, .int (iI s)), (6, .int (iI t)), (7, .int (iI ((y + k) - 1))), (8, .int (iI (((b - a) + 1) * ((t - s) + 1)))), (9, .int (iI (faceH f m g y a b s t))), (10, .int (iI (faceH f m g (y + k - 1) a b s t))), (11, .int (iI (max (faceH f m g y a b s t) (faceH f m g (y + k - 1) a b s t)))), (12, .int (iI (min (faceH f m g y a b s t) (faceH f m g (y + k - 1) a b s t))))] [.int (iI (sumQ (V (sv + 5)) y a b s t))]
          refine x_top (b := (face9 f m g y a b s t)) (by exact fq2) ?_
          refine x_if_ne C dX6_gradeOf_124 (tgt := 148) (by decide) (by first | assumption | (constructor <;> omega)) (fun h124 => ?_) (fun h124 => ?_)
          · skip
            refine x_iload C 12 dX6_gradeOf_148 rfl ?_
            refine x_iload C 8 dX6_gradeOf_150 rfl ?_
            refine x_icmp_gt C dX6_gradeOf_152 (tgt := 159) (by decide) (by first | assumption | (constructor <;> omega)) (by first | assumption | (constructor <;> omega)) (fun h152 => ?_) (fun h152 => ?_)
            · skip
              refine x_iconst C dX6_gradeOf_159 ?_
              refine x_iret C dX6_gradeOf_160 ⟨congrArg (fun z => some (Value.int (iI z))) (by unfold grP gradeS; (repeat' split) <;> omega), rfl⟩
            · skip
              refine x_iconst C dX6_gradeOf_155 ?_
              refine x_goto C dX6_gradeOf_156 (tgt := 160) (by decide) ?_
              refine x_iret C dX6_gradeOf_160 ⟨congrArg (fun z => some (Value.int (iI z))) (by unfold grP gradeS; (repeat' split) <;> omega), rfl⟩
          · skip
            refine x_aload_n C 0 dX6_gradeOf_127 rfl rfl ?_
            refine x_getr C ok_Saw sv 9 (d := (sv + 5)) dX6_gradeOf_128 (ltS hsv hn (by decide) : sv + 0 < n) (tbS_0 hsv) (by decide) rfl q_2_19 rfl (kz := 9) rfl (lrS_9 hsv hLR) ?_
            refine x_iload C 7 dX6_gradeOf_131 rfl ?_
            refine x_iload_n C 3 dX6_gradeOf_133 rfl rfl ?_
            refine x_iload C 4 dX6_gradeOf_134 rfl ?_
            refine x_iload C 5 dX6_gradeOf_136 rfl ?_
            refine x_iload C 6 dX6_gradeOf_138 rfl ?_
            refine x_runU (r_callS C (ce_X6_sumOf) (m_X6_sumOf G n V R (sv + 5) ((y + k) - 1) (a) (b) (s) (t) hn hLR (by omega) (by exact tbS_5 hsv) (by first | assumption | omega | decide) (by first | assumption | omega | decide) (by first | assumption | omega | decide) (by first | assumption | omega | decide) (by first | assumption | omega | decide)) dX6_gradeOf_140 q_33_7 q_33_8 rfl rfl ⟨Nat.le_of_ble_eq_true rfl, Nat.le_of_ble_eq_true rfl⟩ ⟨rfl, rfl⟩ ⟨Nat.le_of_ble_eq_true rfl, Nat.le_of_ble_eq_true rfl⟩ (Nat.le_of_ble_eq_true rfl)) (fun v140 u140 hp140 => ?_)
            obtain ⟨rfl, rfl⟩ := hp140
            show Xw K G 0 0 _ n V R 143 [(0, .ref (aG G sv)), (1, .int (iI y)), (2, .int (iI k)), (3, .int (iI a)), (4, .int (iI b)), (5, .int (iI s)), (6, .int (iI t)), (7, .int (iI ((y + k) - 1))), (8, .int (iI (((b - a) + 1) * ((t - s) + 1)))), (9, .int (iI (faceH f m g y a b s t))), (10, .int (iI (faceH f m g (y + k - 1) a b s t))), (11, .int (iI (max (faceH f m g y a b s t) (faceH f m g (y + k - 1) a b s t)))), (12, .int (iI (min (faceH f m g y a b s t) (faceH f m g (y + k - 1) a b s t))))] [.int (iI (sumQ (V (sv + 5)) ((y + k) - 1) a b s t))]
            refine x_top (b := (face9 f m g (y + k - 1) a b s t)) (by exact fq4) ?_
            refine x_if_ne C dX6_gradeOf_143 (tgt := 148) (by decide) (by first | assumption | (constructor <;> omega)) (fun h143 => ?_) (fun h143 => ?_)
            · skip
              refine x_iload C 12 dX6_gradeOf_148 rfl ?_
              refine x_iload C 8 dX6_gradeOf_150 rfl ?_
              refine x_icmp_gt C dX6_gradeOf_152 (tgt := 159) (by decide) (by first | assumption | (constructor <;> omega)) (by first | assumption | (constructor <;> omega)) (fun h152 => ?_) (fun h152 => ?_)
              · skip
                refine x_iconst C dX6_gradeOf_159 ?_
                refine x_iret C dX6_gradeOf_160 ⟨congrArg (fun z => some (Value.int (iI z))) (by unfold grP gradeS; (repeat' split) <;> omega), rfl⟩
              · skip
                refine x_iconst C dX6_gradeOf_155 ?_
                refine x_goto C dX6_gradeOf_156 (tgt := 160) (by decide) ?_
                refine x_iret C dX6_gradeOf_160 ⟨congrArg (fun z => some (Value.int (iI z))) (by unfold grP gradeS; (repeat' split) <;> omega), rfl⟩
            · skip
              refine x_iconst C dX6_gradeOf_146 ?_
              refine x_iret C dX6_gradeOf_147 ⟨congrArg (fun z => some (Value.int (iI z))) (by unfold grP gradeS; (repeat' split) <;> omega), rfl⟩
      · skip
        refine x_iconst C dX6_gradeOf_98 ?_
        refine x_iret C dX6_gradeOf_99 ⟨congrArg (fun z => some (Value.int (iI z))) (by unfold grP gradeS; (repeat' split) <;> omega), rfl⟩
  · skip
    refine x_iconst C dX6_gradeOf_81 ?_
    refine x_iret C dX6_gradeOf_82 ⟨congrArg (fun z => some (Value.int (iI z))) (by unfold grP gradeS; (repeat' split) <;> omega), rfl⟩
