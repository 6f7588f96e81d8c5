
set_option maxRecDepth 100000 in
set_option maxHeartbeats 4000000 in
theorem m_X6_tryPiece (G : GS) (n : Nat) (V : Nat → Int → Int) (R : Nat → Int → Option Nat) (sv : Nat) (lr : Int) (lt : Int) (L : Int) (f : Int → Int → Int) (m : Int) (g : Int) (pr : Int → Int) (y : Int) (k : Int) (a : Int) (b : Int) (s : Int) (t : Int) (hn : 67 ≤ n) (hLR : LR R) (hsv : sv = 11 ∨ sv = 23) (ok : SwOk V sv lr lt L f m g pr) (hyy : 0 ≤ y ∧ y + k ≤ 12) (hk : 1 ≤ k ∧ k ≤ 4) (ha : 0 ≤ a ∧ a ≤ b + 1) (hb : b ≤ 11) (hs : 0 ≤ s ∧ s ≤ t) (ht2 : t < L) (hW : 0 ≤ (V (sv + 7) 8) ∧ (V (sv + 7) 8) ≤ 38016) (hA : 0 ≤ (V (sv + 7) 7) ∧ (V (sv + 7) 7) ≤ 96) (hX : 0 < (V (sv + 7) 8) → (V (sv + 7) 8) ≤ (V (sv + 7) 7) * k * V sv 4) : Cn G yX6_tryPiece cX6_tryPiece 10 none (rmk 3 0 0 75) [.ref (aG G sv), .int (iI y), .int (iI k), .int (iI a), .int (iI b), .int (iI s), .int (iI t)] n V R 0 0 (fun vv uu => ∃ (V1 : Nat → Int → Int), vv = none ∧ uu = (n, V1, R) ∧ (∀ q, q ≠ sv + 7 → V1 q = V q) ∧ (((a ≤ b ∧ ((V (sv + 7) 8) < (wP f m g pr y k a b s t) ∨ (0 < (wP f m g pr y k a b s t) ∧ (wP f m g pr y k a b s t) = (V (sv + 7) 8) ∧ (V (sv + 7) 7) < areaP a b s t))) ∧ V1 (sv + 7) 0 = a ∧ V1 (sv + 7) 1 = b ∧ V1 (sv + 7) 2 = s ∧ V1 (sv + 7) 3 = t ∧ V1 (sv + 7) 4 = grP f m g y k a b s t ∧ V1 (sv + 7) 5 = faceH f m g y a b s t ∧ V1 (sv + 7) 6 = faceH f m g (y + k - 1) a b s t ∧ V1 (sv + 7) 7 = areaP a b s t ∧ V1 (sv + 7) 8 = wP f m g pr y k a b s t) ∨ (¬ (a ≤ b ∧ ((V (sv + 7) 8) < (wP f m g pr y k a b s t) ∨ (0 < (wP f m g pr y k a b s t) ∧ (wP f m g pr y k a b s t) = (V (sv + 7) 8) ∧ (V (sv + 7) 7) < areaP a b s t))) ∧ V1 = V))) := by
  have hL8 := ok.L
  obtain ⟨fq1, fq2⟩ := sumQ_face ok.s (y := y) (a := a) (b := b) (s := s) (t := t) (by omega) (by omega) (by omega) (by omega) (by omega) (by omega) (by omega) (by omega)
  obtain ⟨fq3, fq4⟩ := sumQ_face ok.s (y := y + k - 1) (a := a) (b := b) (s := s) (t := t) (by omega) (by omega) (by omega) (by omega) (by omega) (by omega) (by omega) (by omega)
  have fb1 := face_b (rowH_b f m g y) ha.1 ha.2 hb hs.1 (show s ≤ t + 1 by omega) (show t ≤ 7 by omega)
  have fb2 := face_b (rowH_b f m g (y + k - 1)) ha.1 ha.2 hb hs.1 (show s ≤ t + 1 by omega) (show t ≤ 7 by omega)
  have fb3 := face_b (row9_b f m g y) ha.1 ha.2 hb hs.1 (show s ≤ t + 1 by omega) (show t ≤ 7 by omega)
  have fb4 := face_b (row9_b f m g (y + k - 1)) ha.1 ha.2 hb hs.1 (show s ≤ t + 1 by omega) (show t ≤ 7 by omega)
  change 0 ≤ faceH f m g y a b s t ∧ faceH f m g y a b s t ≤ 864 at fb1
  change 0 ≤ faceH f m g (y + k - 1) a b s t ∧ faceH f m g (y + k - 1) a b s t ≤ 864 at fb2
  change 0 ≤ face9 f m g y a b s t ∧ face9 f m g y a b s t ≤ 864 at fb3
  change 0 ≤ face9 f m g (y + k - 1) a b s t ∧ face9 f m g (y + k - 1) a b s t ≤ 864 at fb4
  have ab := mul_bd (a := b - a + 1) (b := t - s + 1) (A := 12) (B := 8) (by omega) (by omega)
  refine Cn.of (by decide) (Nat.le_of_ble_eq_true rfl) (fun K C hct => ?_)
  show Xw K G 0 0 _ n V R 0 [(0, .ref (aG G sv)), (1, .int (iI y)), (2, .int (iI k)), (3, .int (iI a)), (4, .int (iI b)), (5, .int (iI s)), (6, .int (iI t))] []
  refine x_iload C 4 dX6_tryPiece_0 rfl ?_
  refine x_iload_n C 3 dX6_tryPiece_2 rfl rfl ?_
  refine x_isub C dX6_tryPiece_3 ?_
  refine x_iconst C dX6_tryPiece_4 ?_
  refine x_iadd C dX6_tryPiece_5 ?_
  refine x_iload C 6 dX6_tryPiece_6 rfl ?_
  refine x_iload C 5 dX6_tryPiece_8 rfl ?_
  refine x_isub C dX6_tryPiece_10 ?_
  refine x_iconst C dX6_tryPiece_11 ?_
  refine x_iadd C dX6_tryPiece_12 ?_
  refine x_imul C dX6_tryPiece_13 ?_
  refine x_nm (fun ar h_ar => ?_)
  refine x_istore C dX6_tryPiece_14 (by decide) (lv' := [(0, .ref (aG G sv)), (1, .int (iI y)), (2, .int (iI k)), (3, .int (iI a)), (4, .int (iI b)), (5, .int (iI s)), (6, .int (iI t)), (7, .int (iI ar))]) rfl ?_
  have har : ar = areaP a b s t := h_ar
  have harb : 0 ≤ ar ∧ ar ≤ 96 := by rw [h_ar]; omega
  have hak := mul_bd (a := ar) (b := k) (A := 96) (B := 4) harb (by omega)
  have hat := mul_bd (a := ar * k) (b := V sv 4) (A := 384) (B := 99) hak ok.q
  refine x_iload_n C 3 dX6_tryPiece_16 rfl rfl ?_
  refine x_iload C 4 dX6_tryPiece_17 rfl ?_
  refine x_icmp_gt C dX6_tryPiece_19 (tgt := 41) (by decide) (by first | assumption | (constructor <;> omega)) (by first | assumption | (constructor <;> omega)) (fun h19 => ?_) (fun h19 => ?_)
  · skip
    refine x_vret C dX6_tryPiece_41 ⟨_, rfl, rfl, ?_, ?_⟩
    · exact fun _ _ => rfl
    · first | exact Or.inr ⟨fun x => by omega, rfl⟩ | exact Or.inr ⟨tp_small h_ar harb (by omega) hk ok.p ok.q hW hA hX (by assumption), rfl⟩
  · skip
    refine x_iload C 7 dX6_tryPiece_22 rfl ?_
    refine x_iload_n C 2 dX6_tryPiece_24 rfl rfl ?_
    refine x_imul C dX6_tryPiece_25 ?_
    refine x_aload_n C 0 dX6_tryPiece_26 rfl rfl ?_
    refine x_geti C ok_Saw sv 4 dX6_tryPiece_27 (ltS hsv hn (by decide) : sv + 0 < n) (tbS_0 hsv) (by decide) rfl q_2_14 rfl (kz := 4) rfl (fun rg27 => ?_)
    refine x_imul C dX6_tryPiece_30 ?_
    refine x_aload_n C 0 dX6_tryPiece_31 rfl rfl ?_
    refine x_getr C ok_Saw sv 11 (d := (sv + 7)) dX6_tryPiece_32 (ltS hsv hn (by decide) : sv + 0 < n) (tbS_0 hsv) (by decide) rfl q_3_0 rfl (kz := 11) rfl (lrS_11 hsv hLR) ?_
    refine x_geti C ok_Piece (sv + 7) 8 dX6_tryPiece_35 (ltS hsv hn (by decide)) (tbS_7 hsv) (by decide) rfl q_32_10 rfl (kz := 8) rfl (fun rg35 => ?_)
    refine x_icmp_gt C dX6_tryPiece_38 (tgt := 42) (by decide) (by first | assumption | (constructor <;> omega)) (by first | assumption | (constructor <;> omega)) (fun h38 => ?_) (fun h38 => ?_)
    · skip
      refine x_aload_n C 0 dX6_tryPiece_42 rfl rfl ?_
      refine x_iload_n C 1 dX6_tryPiece_43 rfl rfl ?_
      refine x_iload_n C 2 dX6_tryPiece_44 rfl rfl ?_
      refine x_iload_n C 3 dX6_tryPiece_45 rfl rfl ?_
      refine x_iload C 4 dX6_tryPiece_46 rfl ?_
      refine x_iload C 5 dX6_tryPiece_48 rfl ?_
      refine x_iload C 6 dX6_tryPiece_50 rfl ?_
      refine x_runU (r_callV C ok_Saw sv (ltS hsv hn (by decide) : sv + 0 < n) (tbS_0 hsv) (ce_X6_gradeOf) (m_X6_gradeOf G n V R (sv) (lr) (lt) (L) (f) (m) (g) (pr) (y) (k) (a) (b) (s) (t) hn hLR (by first | assumption | omega | decide) (by first | assumption | omega | decide) (by first | assumption | omega | decide) (by first | assumption | omega | decide) (by first | assumption | omega | decide) (by first | assumption | omega | decide) (by first | assumption | omega | decide) (by first | assumption | omega | decide)) rfl dX6_tryPiece_52 q_33_3 q_33_4 q_33_5 rfl rfl ⟨Nat.le_of_ble_eq_true rfl, Nat.le_of_ble_eq_true rfl⟩ ⟨rfl, rfl⟩ ⟨Nat.le_of_ble_eq_true rfl, Nat.le_of_ble_eq_true rfl⟩ (Nat.le_of_ble_eq_true rfl)) (fun v52 u52 hp52 => ?_)
      obtain ⟨rfl, rfl⟩ := hp52
      show Xw K G 0 0 _ n V R 55 [(0, .ref (aG G sv)), (1, .int (iI y)), (2, .int (iI k)), (3, .int (iI a)), (4, .int (iI b)), (5, .int (iI s)), (6, .int (iI t)), (7, .int (iI ar))] [.int (iI (grP f m g y k a b s t))]
      have hgb : 0 ≤ grP f m g y k a b s t ∧ grP f m g y k a b s t ≤ 4 := gradeS_b _ _ _ _ _
      refine x_istore C dX6_tryPiece_55 (by decide) (lv' := [(0, .ref (aG G sv)), (1, .int (iI y)), (2, .int (iI k)), (3, .int (iI a)), (4, .int (iI b)), (5, .int (iI s)), (6, .int (iI t)), (7, .int (iI ar)), (8, .int (iI (grP f m g y k a b s t)))]) rfl ?_
      refine x_iload C 8 dX6_tryPiece_57 rfl ?_
      refine x_iconst C dX6_tryPiece_59 ?_
      refine x_icmp_ge C dX6_tryPiece_60 (tgt := 80) (by decide) (by first | assumption | (constructor <;> omega)) (by first | assumption | (constructor <;> omega)) (fun h60 => ?_) (fun h60 => ?_)
      · skip
        refine x_iconst C dX6_tryPiece_80 ?_
        refine x_nm (fun w h_w => ?_)
        refine x_istore C dX6_tryPiece_81 (by decide) (lv' := [(0, .ref (aG G sv)), (1, .int (iI y)), (2, .int (iI k)), (3, .int (iI a)), (4, .int (iI b)), (5, .int (iI s)), (6, .int (iI t)), (7, .int (iI ar)), (8, .int (iI (grP f m g y k a b s t))), (9, .int (iI w))]) rfl ?_
        have hw : w = wP f m g pr y k a b s t := by first | (rw [h_w, h_ar]; unfold wP; rw [if_neg (by omega)]; done) | (rw [h_w]; unfold wP; rw [if_pos (by omega)]; done)
        have hwr : 0 ≤ w ∧ w ≤ 38016 := by omega
        refine x_iload C 9 dX6_tryPiece_83 rfl ?_
        refine x_aload_n C 0 dX6_tryPiece_85 rfl rfl ?_
        refine x_getr C ok_Saw sv 11 (d := (sv + 7)) dX6_tryPiece_86 (ltS hsv hn (by decide) : sv + 0 < n) (tbS_0 hsv) (by decide) rfl q_3_0 rfl (kz := 11) rfl (lrS_11 hsv hLR) ?_
        refine x_geti C ok_Piece (sv + 7) 8 dX6_tryPiece_89 (ltS hsv hn (by decide)) (tbS_7 hsv) (by decide) rfl q_32_10 rfl (kz := 8) rfl (fun rg89 => ?_)
        refine x_icmp_gt C dX6_tryPiece_92 (tgt := 124) (by decide) (by first | assumption | (constructor <;> omega)) (by first | assumption | (constructor <;> omega)) (fun h92 => ?_) (fun h92 => ?_)
        · skip
          refine x_aload_n C 0 dX6_tryPiece_124 rfl rfl ?_
          refine x_getr C ok_Saw sv 11 (d := (sv + 7)) dX6_tryPiece_125 (ltS hsv hn (by decide) : sv + 0 < n) (tbS_0 hsv) (by decide) rfl q_3_0 rfl (kz := 11) rfl (lrS_11 hsv hLR) ?_
          refine x_iload_n C 3 dX6_tryPiece_128 rfl rfl ?_
          refine x_puti C ok_Piece (sv + 7) 0 dX6_tryPiece_129 (ltS hsv hn (by decide)) (tbS_7 hsv) (by decide) rfl q_32_20 rfl rfl (Or.inl rfl) (by first | assumption | (constructor <;> omega)) (kz := 0) rfl ?_
          refine x_aload_n C 0 dX6_tryPiece_132 rfl rfl ?_
          refine x_getr C ok_Saw sv 11 (d := (sv + 7)) dX6_tryPiece_133 (ltS hsv hn (by decide) : sv + 0 < n) (tbS_0 hsv) (by decide) rfl q_3_0 rfl (kz := 11) rfl (lrS_11 hsv hLR) ?_
          refine x_iload C 4 dX6_tryPiece_136 rfl ?_
          refine x_puti C ok_Piece (sv + 7) 1 dX6_tryPiece_138 (ltS hsv hn (by decide)) (tbS_7 hsv) (by decide) rfl q_32_21 rfl rfl (Or.inl rfl) (by first | assumption | (constructor <;> omega)) (kz := 1) rfl ?_
          refine x_aload_n C 0 dX6_tryPiece_141 rfl rfl ?_
          refine x_getr C ok_Saw sv 11 (d := (sv + 7)) dX6_tryPiece_142 (ltS hsv hn (by decide) : sv + 0 < n) (tbS_0 hsv) (by decide) rfl q_3_0 rfl (kz := 11) rfl (lrS_11 hsv hLR) ?_
          refine x_iload C 5 dX6_tryPiece_145 rfl ?_
          refine x_puti C ok_Piece (sv + 7) 2 dX6_tryPiece_147 (ltS hsv hn (by decide)) (tbS_7 hsv) (by decide) rfl q_32_22 rfl rfl (Or.inl rfl) (by first | assumption | (constructor <;> omega)) (kz := 2) rfl ?_
          refine x_aload_n C 0 dX6_tryPiece_150 rfl rfl ?_
          refine x_getr C ok_Saw sv 11 (d := (sv + 7)) dX6_tryPiece_151 (ltS hsv hn (by decide) : sv + 0 < n) (tbS_0 hsv) (by decide) rfl q_3_0 rfl (kz := 11) rfl (lrS_11 hsv hLR) ?_
          refine x_iload C 6 dX6_tryPiece_154 rfl ?_
          refine x_puti C ok_Piece (sv + 7) 3 dX6_tryPiece_156 (ltS hsv hn (by decide)) (tbS_7 hsv) (by decide) rfl q_32_23 rfl rfl (Or.inl rfl) (by first | assumption | (constructor <;> omega)) (kz := 3) rfl ?_
          refine x_aload_n C 0 dX6_tryPiece_159 rfl rfl ?_
          refine x_getr C ok_Saw sv 11 (d := (sv + 7)) dX6_tryPiece_160 (ltS hsv hn (by decide) : sv + 0 < n) (tbS_0 hsv) (by decide) rfl q_3_0 rfl (kz := 11) rfl (lrS_11 hsv hLR) ?_
          refine x_iload C 8 dX6_tryPiece_163 rfl ?_
          refine x_puti C ok_Piece (sv + 7) 4 dX6_tryPiece_165 (ltS hsv hn (by decide)) (tbS_7 hsv) (by decide) rfl q_33_0 rfl rfl (Or.inl rfl) (by first | assumption | (constructor <;> omega)) (kz := 4) rfl ?_
          refine x_aload_n C 0 dX6_tryPiece_168 rfl rfl ?_
          refine x_getr C ok_Saw sv 11 (d := (sv + 7)) dX6_tryPiece_169 (ltS hsv hn (by decide) : sv + 0 < n) (tbS_0 hsv) (by decide) rfl q_3_0 rfl (kz := 11) rfl (lrS_11 hsv hLR) ?_
          refine x_aload_n C 0 dX6_tryPiece_172 rfl rfl ?_
          refine x_getr C ok_Saw sv 8 (d := (sv + 4)) dX6_tryPiece_173 (ltS hsv hn (by decide) : sv + 0 < n) (tbS_0 hsv) (by decide) rfl q_2_18 rfl (kz := 8) rfl (lrS_8 hsv hLR) ?_
          refine x_iload_n C 1 dX6_tryPiece_176 rfl rfl ?_
          refine x_iload_n C 3 dX6_tryPiece_177 rfl rfl ?_
          refine x_iload C 4 dX6_tryPiece_178 rfl ?_
          refine x_iload C 5 dX6_tryPiece_180 rfl ?_
          refine x_iload C 6 dX6_tryPiece_182 rfl ?_
          refine x_runU (r_callS C (ce_X6_sumOf) (m_X6_sumOf G n (u2 (u2 (u2 (u2 (u2 V (sv + 7) 0 a) (sv + 7) 1 b) (sv + 7) 2 s) (sv + 7) 3 t) (sv + 7) 4 (grP f m g y k a b s t)) R (sv + 4) (y) (a) (b) (s) (t) hn hLR (by omega) (by exact tbS_4 hsv) (by first | assumption | omega | decide) (by first | assumption | omega | decide) (by first | assumption | omega | decide) (by first | assumption | omega | decide) (by first | assumption | omega | decide)) dX6_tryPiece_184 q_33_7 q_33_8 rfl rfl ⟨Nat.le_of_ble_eq_true rfl, Nat.le_of_ble_eq_true rfl⟩ ⟨rfl, rfl⟩ ⟨Nat.le_of_ble_eq_true rfl, Nat.le_of_ble_eq_true rfl⟩ (Nat.le_of_ble_eq_true rfl)) (fun v184 u184 hp184 => ?_)
          obtain ⟨rfl, rfl⟩ := hp184
          show Xw K G 0 0 _ n (u2 (u2 (u2 (u2 (u2 V (sv + 7) 0 a) (sv + 7) 1 b) (sv + 7) 2 s) (sv + 7) 3 t) (sv + 7) 4 (grP f m g y k a b s t)) R 187 [(0, .ref (aG G sv)), (1, .int (iI y)), (2, .int (iI k)), (3, .int (iI a)), (4, .int (iI b)), (5, .int (iI s)), (6, .int (iI t)), (7, .int (iI ar)), (8, .int (iI (grP f m g y k a b s t))), (9, .int (iI w))] [.int (iI (sumQ ((u2 (u2 (u2 (u2 (u2 V (sv + 7) 0 a) (sv + 7) 1 b) (sv + 7) 2 s) (sv + 7) 3 t) (sv + 7) 4 (grP f m g y k a b s t)) (sv + 4)) y a b s t)), .ref (aG G (sv + 7))]
          refine x_top (b := (faceH f m g y a b s t)) (by simp only [u2_n (show sv + 4 ≠ sv + 7 by omega)]; exact fq1) ?_
          refine x_puti C ok_Piece (sv + 7) 5 dX6_tryPiece_187 (ltS hsv hn (by decide)) (tbS_7 hsv) (by decide) rfl q_33_1 rfl rfl (Or.inl rfl) (by first | assumption | (constructor <;> omega)) (kz := 5) rfl ?_
          refine x_aload_n C 0 dX6_tryPiece_190 rfl rfl ?_
          refine x_getr C ok_Saw sv 11 (d := (sv + 7)) dX6_tryPiece_191 (ltS hsv hn (by decide) : sv + 0 < n) (tbS_0 hsv) (by decide) rfl q_3_0 rfl (kz := 11) rfl (lrS_11 hsv hLR) ?_
          refine x_aload_n C 0 dX6_tryPiece_194 rfl rfl ?_
          refine x_getr C ok_Saw sv 8 (d := (sv + 4)) dX6_tryPiece_195 (ltS hsv hn (by decide) : sv + 0 < n) (tbS_0 hsv) (by decide) rfl q_2_18 rfl (kz := 8) rfl (lrS_8 hsv hLR) ?_
          refine x_iload_n C 1 dX6_tryPiece_198 rfl rfl ?_
          refine x_iload_n C 2 dX6_tryPiece_199 rfl rfl ?_
          refine x_iadd C dX6_tryPiece_200 ?_
          refine x_iconst C dX6_tryPiece_201 ?_
          refine x_isub C dX6_tryPiece_202 ?_
          refine x_iload_n C 3 dX6_tryPiece_203 rfl rfl ?_
          refine x_iload C 4 dX6_tryPiece_204 rfl ?_
          refine x_iload C 5 dX6_tryPiece_206 rfl ?_
          refine x_iload C 6 dX6_tryPiece_208 rfl ?_
          refine x_runU (r_callS C (ce_X6_sumOf) (m_X6_sumOf G n (u2 (u2 (u2 (u2 (u2 (u2 V (sv + 7) 0 a) (sv + 7) 1 b) (sv + 7) 2 s) (sv + 7) 3 t) (sv + 7) 4 (grP f m g y k a b s t)) (sv + 7) 5 (faceH f m g y a b s t)) R (sv + 4) ((y + k) - 1) (a) (b) (s) (t) hn hLR (by omega) (by exact tbS_4 hsv) (by first | assumption | omega | decide) (by first | assumption | omega | decide) (by first | assumption | omega | decide) (by first | assumption | omega | decide) (by first | assumption | omega | decide)) dX6_tryPiece_210 q_33_7 q_33_8 rfl rfl ⟨Nat.le_of_ble_eq_true rfl, Nat.le_of_ble_eq_true rfl⟩ ⟨rfl, rfl⟩ ⟨Nat.le_of_ble_eq_true rfl, Nat.le_of_ble_eq_true rfl⟩ (Nat.le_of_ble_eq_true rfl)) (fun v210 u210 hp210 => ?_)
          obtain ⟨rfl, rfl⟩ := hp210
          show Xw K G 0 0 _ n (u2 (u2 (u2 (u2 (u2 (u2 V (sv + 7) 0 a) (sv + 7) 1 b) (sv + 7) 2 s) (sv + 7) 3 t) (sv + 7) 4 (grP f m g y k a b s t)) (sv + 7) 5 (faceH f m g y a b s t)) R 213 [(0, .ref (aG G sv)), (1, .int (iI y)), (2, .int (iI k)), (3, .int (iI a)), (4, .int (iI b)), (5, .int (iI s)), (6, .int (iI t)), (7, .int (iI ar)), (8, .int (iI (grP f m g y k a b s t))), (9, .int (iI w))] [.int (iI (sumQ ((u2 (u2 (u2 (u2 (u2 (u2 V (sv + 7) 0 a) (sv + 7) 1 b) (sv + 7) 2 s) (sv + 7) 3 t) (sv + 7) 4 (grP f m g y k a b s t)) (sv + 7) 5 (faceH f m g y a b s t)) (sv + 4)) ((y + k) - 1) a b s t)), .ref (aG G (sv + 7))]
          refine x_top (b := (faceH f m g (y + k - 1) a b s t)) (by simp only [u2_n (show sv + 4 ≠ sv + 7 by omega)]; exact fq3) ?_
          refine x_puti C ok_Piece (sv + 7) 6 dX6_tryPiece_213 (ltS hsv hn (by decide)) (tbS_7 hsv) (by decide) rfl q_33_2 rfl rfl (Or.inl rfl) (by first | assumption | (constructor <;> omega)) (kz := 6) rfl ?_
          refine x_aload_n C 0 dX6_tryPiece_216 rfl rfl ?_
          refine x_getr C ok_Saw sv 11 (d := (sv + 7)) dX6_tryPiece_217 (ltS hsv hn (by decide) : sv + 0 < n) (tbS_0 hsv) (by decide) rfl q_3_0 rfl (kz := 11) rfl (lrS_11 hsv hLR) ?_
          refine x_iload C 7 dX6_tryPiece_220 rfl ?_
          refine x_puti C ok_Piece (sv + 7) 7 dX6_tryPiece_222 (ltS hsv hn (by decide)) (tbS_7 hsv) (by decide) rfl q_32_11 rfl rfl (Or.inl rfl) (by first | assumption | (constructor <;> omega)) (kz := 7) rfl ?_
          refine x_aload_n C 0 dX6_tryPiece_225 rfl rfl ?_
          refine x_getr C ok_Saw sv 11 (d := (sv + 7)) dX6_tryPiece_226 (ltS hsv hn (by decide) : sv + 0 < n) (tbS_0 hsv) (by decide) rfl q_3_0 rfl (kz := 11) rfl (lrS_11 hsv hLR) ?_
          refine x_iload C 9 dX6_tryPiece_229 rfl ?_
          refine x_puti C ok_Piece (sv + 7) 8 dX6_tryPiece_231 (ltS hsv hn (by decide)) (tbS_7 hsv) (by decide) rfl q_32_10 rfl rfl (Or.inl rfl) (by first | assumption | (constructor <;> omega)) (kz := 8) rfl ?_
          refine x_vret C dX6_tryPiece_234 ⟨_, rfl, rfl, ?_, ?_⟩
          · first | exact fun _ _ => rfl | exact fun q h => by rw [u2_n h, u2_n h, u2_n h, u2_n h, u2_n h, u2_n h, u2_n h, u2_n h, u2_n h]
          · rw [← hw, ← har]; first | exact Or.inr ⟨fun x => by omega, rfl⟩ | exact Or.inl ⟨by omega, tp_nine⟩
        · skip
          refine x_iload C 9 dX6_tryPiece_95 rfl ?_
          refine x_if_le C dX6_tryPiece_97 (tgt := 234) (by decide) (by first | assumption | (constructor <;> omega)) (fun h97 => ?_) (fun h97 => ?_)
          · skip
            refine x_vret C dX6_tryPiece_234 ⟨_, rfl, rfl, ?_, ?_⟩
            · first | exact fun _ _ => rfl | exact fun q h => by rw [u2_n h, u2_n h, u2_n h, u2_n h, u2_n h, u2_n h, u2_n h, u2_n h, u2_n h]
            · rw [← hw, ← har]; first | exact Or.inr ⟨fun x => by omega, rfl⟩ | exact Or.inl ⟨by omega, tp_nine⟩
          · skip
            refine x_iload C 9 dX6_tryPiece_100 rfl ?_
            refine x_aload_n C 0 dX6_tryPiece_102 rfl rfl ?_
            refine x_getr C ok_Saw sv 11 (d := (sv + 7)) dX6_tryPiece_103 (ltS hsv hn (by decide) : sv + 0 < n) (tbS_0 hsv) (by decide) rfl q_3_0 rfl (kz := 11) rfl (lrS_11 hsv hLR) ?_
            refine x_geti C ok_Piece (sv + 7) 8 dX6_tryPiece_106 (ltS hsv hn (by decide)) (tbS_7 hsv) (by decide) rfl q_32_10 rfl (kz := 8) rfl (fun rg106 => ?_)
            refine x_icmp_ne C dX6_tryPiece_109 (tgt := 234) (by decide) (by first | assumption | (constructor <;> omega)) (by first | assumption | (constructor <;> omega)) (fun h109 => ?_) (fun h109 => ?_)
            · skip
              refine x_vret C dX6_tryPiece_234 ⟨_, rfl, rfl, ?_, ?_⟩
              · first | exact fun _ _ => rfl | exact fun q h => by rw [u2_n h, u2_n h, u2_n h, u2_n h, u2_n h, u2_n h, u2_n h, u2_n h, u2_n h]
              · rw [← hw, ← har]; first | exact Or.inr ⟨fun x => by omega, rfl⟩ | exact Or.inl ⟨by omega, tp_nine⟩
            · skip
              refine x_iload C 7 dX6_tryPiece_112 rfl ?_
              refine x_aload_n C 0 dX6_tryPiece_114 rfl rfl ?_
              refine x_getr C ok_Saw sv 11 (d := (sv + 7)) dX6_tryPiece_115 (ltS hsv hn (by decide) : sv + 0 < n) (tbS_0 hsv) (by decide) rfl q_3_0 rfl (kz := 11) rfl (lrS_11 hsv hLR) ?_
              refine x_geti C ok_Piece (sv + 7) 7 dX6_tryPiece_118 (ltS hsv hn (by decide)) (tbS_7 hsv) (by decide) rfl q_32_11 rfl (kz := 7) rfl (fun rg118 => ?_)
              refine x_icmp_le C dX6_tryPiece_121 (tgt := 234) (by decide) (by first | assumption | (constructor <;> omega)) (by first | assumption | (constructor <;> omega)) (fun h121 => ?_) (fun h121 => ?_)
              · skip
                refine x_vret C dX6_tryPiece_234 ⟨_, rfl, rfl, ?_, ?_⟩
                · first | exact fun _ _ => rfl | exact fun q h => by rw [u2_n h, u2_n h, u2_n h, u2_n h, u2_n h, u2_n h, u2_n h, u2_n h, u2_n h]
                · rw [← hw, ← har]; first | exact Or.inr ⟨fun x => by omega, rfl⟩ | exact Or.inl ⟨by omega, tp_nine⟩
              · skip
                refine x_aload_n C 0 dX6_tryPiece_124 rfl rfl ?_
                refine x_getr C ok_Saw sv 11 (d := (sv + 7)) dX6_tryPiece_125 (ltS hsv hn (by decide) : sv + 0 < n) (tbS_0 hsv) (by decide) rfl q_3_0 rfl (kz := 11) rfl (lrS_11 hsv hLR) ?_
                refine x_iload_n C 3 dX6_tryPiece_128 rfl rfl ?_
                refine x_puti C ok_Piece (sv + 7) 0 dX6_tryPiece_129 (ltS hsv hn (by decide)) (tbS_7 hsv) (by decide) rfl q_32_20 rfl rfl (Or.inl rfl) (by first | assumption | (constructor <;> omega)) (kz := 0) rfl ?_
                refine x_aload_n C 0 dX6_tryPiece_132 rfl rfl ?_
                refine x_getr C ok_Saw sv 11 (d := (sv + 7)) dX6_tryPiece_133 (ltS hsv hn (by decide) : sv + 0 < n) (tbS_0 hsv) (by decide) rfl q_3_0 rfl (kz := 11) rfl (lrS_11 hsv hLR) ?_
                refine x_iload C 4 dX6_tryPiece_136 rfl ?_
                refine x_puti C ok_Piece (sv + 7) 1 dX6_tryPiece_138 (ltS hsv hn (by decide)) (tbS_7 hsv) (by decide) rfl q_32_21 rfl rfl (Or.inl rfl) (by first | assumption | (constructor <;> omega)) (kz := 1) rfl ?_
                refine x_aload_n C 0 dX6_tryPiece_141 rfl rfl ?_
                refine x_getr C ok_Saw sv 11 (d := (sv + 7)) dX6_tryPiece_142 (ltS hsv hn (by decide) : sv + 0 < n) (tbS_0 hsv) (by decide) rfl q_3_0 rfl (kz := 11) rfl (lrS_11 hsv hLR) ?_
                refine x_iload C 5 dX6_tryPiece_145 rfl ?_
                refine x_puti C ok_Piece (sv + 7) 2 dX6_tryPiece_147 (ltS hsv hn (by decide)) (tbS_7 hsv) (by decide) rfl q_32_22 rfl rfl (Or.inl rfl) (by first | assumption | (constructor <;> omega)) (kz := 2) rfl ?_
                refine x_aload_n C 0 dX6_tryPiece_150 rfl rfl ?_
                refine x_getr C ok_Saw sv 11 (d := (sv + 7)) dX6_tryPiece_151 (ltS hsv hn (by decide) : sv + 0 < n) (tbS_0 hsv) (by decide) rfl q_3_0 rfl (kz := 11) rfl (lrS_11 hsv hLR) ?_
                refine x_iload C 6 dX6_tryPiece_154 rfl ?_
                refine x_puti C ok_Piece (sv + 7) 3 dX6_tryPiece_156 (ltS hsv hn (by decide)) (tbS_7 hsv) (by decide) rfl q_32_23 rfl rfl (Or.inl rfl) (by first | assumption | (constructor <;> omega)) (kz := 3) rfl ?_
                refine x_aload_n C 0 dX6_tryPiece_159 rfl rfl ?_
                refine x_getr C ok_Saw sv 11 (d := (sv + 7)) dX6_tryPiece_160 (ltS hsv hn (by decide) : sv + 0 < n) (tbS_0 hsv) (by decide) rfl q_3_0 rfl (kz := 11) rfl (lrS_11 hsv hLR) ?_
                refine x_iload C 8 dX6_tryPiece_163 rfl ?_
                refine x_puti C ok_Piece (sv + 7) 4 dX6_tryPiece_165 (ltS hsv hn (by decide)) (tbS_7 hsv) (by decide) rfl q_33_0 rfl rfl (Or.inl rfl) (by first | assumption | (constructor <;> omega)) (kz := 4) rfl ?_
                refine x_aload_n C 0 dX6_tryPiece_168 rfl rfl ?_
                refine x_getr C ok_Saw sv 11 (d := (sv + 7)) dX6_tryPiece_169 (ltS hsv hn (by decide) : sv + 0 < n) (tbS_0 hsv) (by decide) rfl q_3_0 rfl (kz := 11) rfl (lrS_11 hsv hLR) ?_
                refine x_aload_n C 0 dX6_tryPiece_172 rfl rfl ?_
                refine x_getr C ok_Saw sv 8 (d := (sv + 4)) dX6_tryPiece_173 (ltS hsv hn (by decide) : sv + 0 < n) (tbS_0 hsv) (by decide) rfl q_2_18 rfl (kz := 8) rfl (lrS_8 hsv hLR) ?_
                refine x_iload_n C 1 dX6_tryPiece_176 rfl rfl ?_
                refine x_iload_n C 3 dX6_tryPiece_177 rfl rfl ?_
                refine x_iload C 4 dX6_tryPiece_178 rfl ?_
                refine x_iload C 5 dX6_tryPiece_180 rfl ?_
                refine x_iload C 6 dX6_tryPiece_182 rfl ?_
                refine x_runU (r_callS C (ce_X6_sumOf) (m_X6_sumOf G n (u2 (u2 (u2 (u2 (u2 V (sv + 7) 0 a) (sv + 7) 1 b) (sv + 7) 2 s) (sv + 7) 3 t) (sv + 7) 4 (grP f m g y k a b s t)) R (sv + 4) (y) (a) (b) (s) (t) hn hLR (by omega) (by exact tbS_4 hsv) (by first | assumption | omega | decide) (by first | assumption | omega | decide) (by first | assumption | omega | decide) (by first | assumption | omega | decide) (by first | assumption | omega | decide)) dX6_tryPiece_184 q_33_7 q_33_8 rfl rfl ⟨Nat.le_of_ble_eq_true rfl, Nat.le_of_ble_eq_true rfl⟩ ⟨rfl, rfl⟩ ⟨Nat.le_of_ble_eq_true rfl, Nat.le_of_ble_eq_true rfl⟩ (Nat.le_of_ble_eq_true rfl)) (fun v184 u184 hp184 => ?_)
                obtain ⟨rfl, rfl⟩ := hp184
                show Xw K G 0 0 _ n (u2 (u2 (u2 (u2 (u2 V (sv + 7) 0 a) (sv + 7) 1 b) (sv + 7) 2 s) (sv + 7) 3 t) (sv + 7) 4 (grP f m g y k a b s t)) R 187 [(0, .ref (aG G sv)), (1, .int (iI y)), (2, .int (iI k)), (3, .int (iI a)), (4, .int (iI b)), (5, .int (iI s)), (6, .int (iI t)), (7, .int (iI ar)), (8, .int (iI (grP f m g y k a b s t))), (9, .int (iI w))] [.int (iI (sumQ ((u2 (u2 (u2 (u2 (u2 V (sv + 7) 0 a) (sv + 7) 1 b) (sv + 7) 2 s) (sv + 7) 3 t) (sv + 7) 4 (grP f m g y k a b s t)) (sv + 4)) y a b s t)), .ref (aG G (sv + 7))]
                refine x_top (b := (faceH f m g y a b s t)) (by simp only [u2_n (show sv + 4 ≠ sv + 7 by omega)]; exact fq1) ?_
                refine x_puti C ok_Piece (sv + 7) 5 dX6_tryPiece_187 (ltS hsv hn (by decide)) (tbS_7 hsv) (by decide) rfl q_33_1 rfl rfl (Or.inl rfl) (by first | assumption | (constructor <;> omega)) (kz := 5) rfl ?_
                refine x_aload_n C 0 dX6_tryPiece_190 rfl rfl ?_
                refine x_getr C ok_Saw sv 11 (d := (sv + 7)) dX6_tryPiece_191 (ltS hsv hn (by decide) : sv + 0 < n) (tbS_0 hsv) (by decide) rfl q_3_0 rfl (kz := 11) rfl (lrS_11 hsv hLR) ?_
                refine x_aload_n C 0 dX6_tryPiece_194 rfl rfl ?_
                refine x_getr C ok_Saw sv 8 (d := (sv + 4)) dX6_tryPiece_195 (ltS hsv hn (by decide) : sv + 0 < n) (tbS_0 hsv) (by decide) rfl q_2_18 rfl (kz := 8) rfl (lrS_8 hsv hLR) ?_
                refine x_iload_n C 1 dX6_tryPiece_198 rfl rfl ?_
                refine x_iload_n C 2 dX6_tryPiece_199 rfl rfl ?_
                refine x_iadd C dX6_tryPiece_200 ?_
                refine x_iconst C dX6_tryPiece_201 ?_
                refine x_isub C dX6_tryPiece_202 ?_
                refine x_iload_n C 3 dX6_tryPiece_203 rfl rfl ?_
                refine x_iload C 4 dX6_tryPiece_204 rfl ?_
                refine x_iload C 5 dX6_tryPiece_206 rfl ?_
                refine x_iload C 6 dX6_tryPiece_208 rfl ?_
                refine x_runU (r_callS C (ce_X6_sumOf) (m_X6_sumOf G n (u2 (u2 (u2 (u2 (u2 (u2 V (sv + 7) 0 a) (sv + 7) 1 b) (sv + 7) 2 s) (sv + 7) 3 t) (sv + 7) 4 (grP f m g y k a b s t)) (sv + 7) 5 (faceH f m g y a b s t)) R (sv + 4) ((y + k) - 1) (a) (b) (s) (t) hn hLR (by omega) (by exact tbS_4 hsv) (by first | assumption | omega | decide) (by first | assumption | omega | decide) (by first | assumption | omega | decide) (by first | assumption | omega | decide) (by first | assumption | omega | decide)) dX6_tryPiece_210 q_33_7 q_33_8 rfl rfl ⟨Nat.le_of_ble_eq_true rfl, Nat.le_of_ble_eq_true rfl⟩ ⟨rfl, rfl⟩ ⟨Nat.le_of_ble_eq_true rfl, Nat.le_of_ble_eq_true rfl⟩ (Nat.le_of_ble_eq_true rfl)) (fun v210 u210 hp210 => ?_)
                obtain ⟨rfl, rfl⟩ := hp210
                show Xw K G 0 0 _ n (u2 (u2 (u2 (u2 (u2 (u2 V (sv + 7) 0 a) (sv + 7) 1 b) (sv + 7) 2 s) (sv + 7) 3 t) (sv + 7) 4 (grP f m g y k a b s t)) (sv + 7) 5 (faceH f m g y a b s t)) R 213 [(0, .ref (aG G sv)), (1, .int (iI y)), (2, .int (iI k)), (3, .int (iI a)), (4, .int (iI b)), (5, .int (iI s)), (6, .int (iI t)), (7, .int (iI ar)), (8, .int (iI (grP f m g y k a b s t))), (9, .int (iI w))] [.int (iI (sumQ ((u2 (u2 (u2 (u2 (u2 (u2 V (sv + 7) 0 a) (sv + 7) 1 b) (sv + 7) 2 s) (sv + 7) 3 t) (sv + 7) 4 (grP f m g y k a b s t)) (sv + 7) 5 (faceH f m g y a b s t)) (sv + 4)) ((y + k) - 1) a b s t)), .ref (aG G (sv + 7))]
                refine x_top (b := (faceH f m g (y + k - 1) a b s t)) (by simp only [u2_n (show sv + 4 ≠ sv + 7 by omega)]; exact fq3) ?_
                refine x_puti C ok_Piece (sv + 7) 6 dX6_tryPiece_213 (ltS hsv hn (by decide)) (tbS_7 hsv) (by decide) rfl q_33_2 rfl rfl (Or.inl rfl) (by first | assumption | (constructor <;> omega)) (kz := 6) rfl ?_
                refine x_aload_n C 0 dX6_tryPiece_216 rfl rfl ?_
                refine x_getr C ok_Saw sv 11 (d := (sv + 7)) dX6_tryPiece_217 (ltS hsv hn (by decide) : sv + 0 < n) (tbS_0 hsv) (by decide) rfl q_3_0 rfl (kz := 11) rfl (lrS_11 hsv hLR) ?_
                refine x_iload C 7 dX6_tryPiece_220 rfl ?_
                refine x_puti C ok_Piece (sv + 7) 7 dX6_tryPiece_222 (ltS hsv hn (by decide)) (tbS_7 hsv) (by decide) rfl q_32_11 rfl rfl (Or.inl rfl) (by first | assumption | (constructor <;> omega)) (kz := 7) rfl ?_
                refine x_aload_n C 0 dX6_tryPiece_225 rfl rfl ?_
                refine x_getr C ok_Saw sv 11 (d := (sv + 7)) dX6_tryPiece_226 (ltS hsv hn (by decide) : sv + 0 < n) (tbS_0 hsv) (by decide) rfl q_3_0 rfl (kz := 11) rfl (lrS_11 hsv hLR) ?_
                refine x_iload C 9 dX6_tryPiece_229 rfl ?_
                refine x_puti C ok_Piece (sv + 7) 8 dX6_tryPiece_231 (ltS hsv hn (by decide)) (tbS_7 hsv) (by decide) rfl q_32_10 rfl rfl (Or.inl rfl) (by first | assumption | (constructor <;> omega)) (kz := 8) rfl ?_
                refine x_vret C dX6_tryPiece_234 ⟨_, rfl, rfl, ?_, ?_⟩
                · first | exact fun _ _ => rfl | exact fun q h => by rw [u2_n h, u2_n h, u2_n h, u2_n h, u2_n h, u2_n h, u2_n h, u2_n h, u2_n h]
                · rw [← hw, ← har]; first | exact Or.inr ⟨fun x => by omega, rfl⟩ | exact Or.inl ⟨by omega, tp_nine⟩
      · skip
        refine x_iload C 7 dX6_tryPiece_63 rfl ?_
        refine x_iload_n C 2 dX6_tryPiece_65 rfl rfl ?_
        refine x_imul C dX6_tryPiece_66 ?_
        refine x_aload_n C 0 dX6_tryPiece_67 rfl rfl ?_
        refine x_getr C ok_Saw sv 5 (d := (sv + 1)) dX6_tryPiece_68 (ltS hsv hn (by decide) : sv + 0 < n) (tbS_0 hsv) (by decide) rfl q_2_15 rfl (kz := 5) rfl (lrS_5 hsv hLR) ?_
        refine x_iconst C dX6_tryPiece_71 ?_
        refine x_iload C 8 dX6_tryPiece_72 rfl ?_
        refine x_iadd C dX6_tryPiece_74 ?_
        refine x_iald C (sv + 1) dX6_tryPiece_75 (ltS hsv hn (by decide)) (tbS_1 hsv) (by refine ⟨?_, ?_⟩ <;> omega) (fun rg75 => ?_)
        refine x_top (b := (pr (2 + grP f m g y k a b s t))) (by exact ok.r _ (by omega) (by omega)) ?_
        have hpb := (ok.p (2 + grP f m g y k a b s t) (by omega) (by omega))
        have hwb := mul_bd (a := ar * k) (b := pr (2 + grP f m g y k a b s t)) (A := 384) (B := 99) hak hpb.1
        refine x_imul C dX6_tryPiece_76 ?_
        refine x_goto C dX6_tryPiece_77 (tgt := 81) (by decide) ?_
        refine x_nm (fun w h_w => ?_)
        refine x_istore C dX6_tryPiece_81 (by decide) (lv' := [(0, .ref (aG G sv)), (1, .int (iI y)), (2, .int (iI k)), (3, .int (iI a)), (4, .int (iI b)), (5, .int (iI s)), (6, .int (iI t)), (7, .int (iI ar)), (8, .int (iI (grP f m g y k a b s t))), (9, .int (iI w))]) rfl ?_
        have hw : w = wP f m g pr y k a b s t := by first | (rw [h_w, h_ar]; unfold wP; rw [if_neg (by omega)]; done) | (rw [h_w]; unfold wP; rw [if_pos (by omega)]; done)
        have hwr : 0 ≤ w ∧ w ≤ 38016 := by omega
        refine x_iload C 9 dX6_tryPiece_83 rfl ?_
        refine x_aload_n C 0 dX6_tryPiece_85 rfl rfl ?_
        refine x_getr C ok_Saw sv 11 (d := (sv + 7)) dX6_tryPiece_86 (ltS hsv hn (by decide) : sv + 0 < n) (tbS_0 hsv) (by decide) rfl q_3_0 rfl (kz := 11) rfl (lrS_11 hsv hLR) ?_
        refine x_geti C ok_Piece (sv + 7) 8 dX6_tryPiece_89 (ltS hsv hn (by decide)) (tbS_7 hsv) (by decide) rfl q_32_10 rfl (kz := 8) rfl (fun rg89 => ?_)
        refine x_icmp_gt C dX6_tryPiece_92 (tgt := 124) (by decide) (by first | assumption | (constructor <;> omega)) (by first | assumption | (constructor <;> omega)) (fun h92 => ?_) (fun h92 => ?_)
        · skip
          refine x_aload_n C 0 dX6_tryPiece_124 rfl rfl ?_
          refine x_getr C ok_Saw sv 11 (d := (sv + 7)) dX6_tryPiece_125 (ltS hsv hn (by decide) : sv + 0 < n) (tbS_0 hsv) (by decide) rfl q_3_0 rfl (kz := 11) rfl (lrS_11 hsv hLR) ?_
          refine x_iload_n C 3 dX6_tryPiece_128 rfl rfl ?_
          refine x_puti C ok_Piece (sv + 7) 0 dX6_tryPiece_129 (ltS hsv hn (by decide)) (tbS_7 hsv) (by decide) rfl q_32_20 rfl rfl (Or.inl rfl) (by first | assumption | (constructor <;> omega)) (kz := 0) rfl ?_
          refine x_aload_n C 0 dX6_tryPiece_132 rfl rfl ?_
          refine x_getr C ok_Saw sv 11 (d := (sv + 7)) dX6_tryPiece_133 (ltS hsv hn (by decide) : sv + 0 < n) (tbS_0 hsv) (by decide) rfl q_3_0 rfl (kz := 11) rfl (lrS_11 hsv hLR) ?_
          refine x_iload C 4 dX6_tryPiece_136 rfl ?_
          refine x_puti C ok_Piece (sv + 7) 1 dX6_tryPiece_138 (ltS hsv hn (by decide)) (tbS_7 hsv) (by decide) rfl q_32_21 rfl rfl (Or.inl rfl) (by first | assumption | (constructor <;> omega)) (kz := 1) rfl ?_
          refine x_aload_n C 0 dX6_tryPiece_141 rfl rfl ?_
          refine x_getr C ok_Saw sv 11 (d := (sv + 7)) dX6_tryPiece_142 (ltS hsv hn (by decide) : sv + 0 < n) (tbS_0 hsv) (by decide) rfl q_3_0 rfl (kz := 11) rfl (lrS_11 hsv hLR) ?_
          refine x_iload C 5 dX6_tryPiece_145 rfl ?_
          refine x_puti C ok_Piece (sv + 7) 2 dX6_tryPiece_147 (ltS hsv hn (by decide)) (tbS_7 hsv) (by decide) rfl q_32_22 rfl rfl (Or.inl rfl) (by first | assumption | (constructor <;> omega)) (kz := 2) rfl ?_
          refine x_aload_n C 0 dX6_tryPiece_150 rfl rfl ?_
          refine x_getr C ok_Saw sv 11 (d := (sv + 7)) dX6_tryPiece_151 (ltS hsv hn (by decide) : sv + 0 < n) (tbS_0 hsv) (by decide) rfl q_3_0 rfl (kz := 11) rfl (lrS_11 hsv hLR) ?_
          refine x_iload C 6 dX6_tryPiece_154 rfl ?_
          refine x_puti C ok_Piece (sv + 7) 3 dX6_tryPiece_156 (ltS hsv hn (by decide)) (tbS_7 hsv) (by decide) rfl q_32_23 rfl rfl (Or.inl rfl) (by first | assumption | (constructor <;> omega)) (kz := 3) rfl ?_
          refine x_aload_n C 0 dX6_tryPiece_159 rfl rfl ?_
          refine x_getr C ok_Saw sv 11 (d := (sv + 7)) dX6_tryPiece_160 (ltS hsv hn (by decide) : sv + 0 < n) (tbS_0 hsv) (by decide) rfl q_3_0 rfl (kz := 11) rfl (lrS_11 hsv hLR) ?_
          refine x_iload C 8 dX6_tryPiece_163 rfl ?_
          refine x_puti C ok_Piece (sv + 7) 4 dX6_tryPiece_165 (ltS hsv hn (by decide)) (tbS_7 hsv) (by decide) rfl q_33_0 rfl rfl (Or.inl rfl) (by first | assumption | (constructor <;> omega)) (kz := 4) rfl ?_
          refine x_aload_n C 0 dX6_tryPiece_168 rfl rfl ?_
          refine x_getr C ok_Saw sv 11 (d := (sv + 7)) dX6_tryPiece_169 (ltS hsv hn (by decide) : sv + 0 < n) (tbS_0 hsv) (by decide) rfl q_3_0 rfl (kz := 11) rfl (lrS_11 hsv hLR) ?_
          refine x_aload_n C 0 dX6_tryPiece_172 rfl rfl ?_
          refine x_getr C ok_Saw sv 8 (d := (sv + 4)) dX6_tryPiece_173 (ltS hsv hn (by decide) : sv + 0 < n) (tbS_0 hsv) (by decide) rfl q_2_18 rfl (kz := 8) rfl (lrS_8 hsv hLR) ?_
          refine x_iload_n C 1 dX6_tryPiece_176 rfl rfl ?_
          refine x_iload_n C 3 dX6_tryPiece_177 rfl rfl ?_
          refine x_iload C 4 dX6_tryPiece_178 rfl ?_
          refine x_iload C 5 dX6_tryPiece_180 rfl ?_
          refine x_iload C 6 dX6_tryPiece_182 rfl ?_
          refine x_runU (r_callS C (ce_X6_sumOf) (m_X6_sumOf G n (u2 (u2 (u2 (u2 (u2 V (sv + 7) 0 a) (sv + 7) 1 b) (sv + 7) 2 s) (sv + 7) 3 t) (sv + 7) 4 (grP f m g y k a b s t)) R (sv + 4) (y) (a) (b) (s) (t) hn hLR (by omega) (by exact tbS_4 hsv) (by first | assumption | omega | decide) (by first | assumption | omega | decide) (by first | assumption | omega | decide) (by first | assumption | omega | decide) (by first | assumption | omega | decide)) dX6_tryPiece_184 q_33_7 q_33_8 rfl rfl ⟨Nat.le_of_ble_eq_true rfl, Nat.le_of_ble_eq_true rfl⟩ ⟨rfl, rfl⟩ ⟨Nat.le_of_ble_eq_true rfl, Nat.le_of_ble_eq_true rfl⟩ (Nat.le_of_ble_eq_true rfl)) (fun v184 u184 hp184 => ?_)
          obtain ⟨rfl, rfl⟩ := hp184
          show Xw K G 0 0 _ n (u2 (u2 (u2 (u2 (u2 V (sv + 7) 0 a) (sv + 7) 1 b) (sv + 7) 2 s) (sv + 7) 3 t) (sv + 7) 4 (grP f m g y k a b s t)) R 187 [(0, .ref (aG G sv)), (1, .int (iI y)), (2, .int (iI k)), (3, .int (iI a)), (4, .int (iI b)), (5, .int (iI s)), (6, .int (iI t)), (7, .int (iI ar)), (8, .int (iI (grP f m g y k a b s t))), (9, .int (iI w))] [.int (iI (sumQ ((u2 (u2 (u2 (u2 (u2 V (sv + 7) 0 a) (sv + 7) 1 b) (sv + 7) 2 s) (sv + 7) 3 t) (sv + 7) 4 (grP f m g y k a b s t)) (sv + 4)) y a b s t)), .ref (aG G (sv + 7))]
          refine x_top (b := (faceH f m g y a b s t)) (by simp only [u2_n (show sv + 4 ≠ sv + 7 by omega)]; exact fq1) ?_
          refine x_puti C ok_Piece (sv + 7) 5 dX6_tryPiece_187 (ltS hsv hn (by decide)) (tbS_7 hsv) (by decide) rfl q_33_1 rfl rfl (Or.inl rfl) (by first | assumption | (constructor <;> omega)) (kz := 5) rfl ?_
          refine x_aload_n C 0 dX6_tryPiece_190 rfl rfl ?_
          refine x_getr C ok_Saw sv 11 (d := (sv + 7)) dX6_tryPiece_191 (ltS hsv hn (by decide) : sv + 0 < n) (tbS_0 hsv) (by decide) rfl q_3_0 rfl (kz := 11) rfl (lrS_11 hsv hLR) ?_
          refine x_aload_n C 0 dX6_tryPiece_194 rfl rfl ?_
          refine x_getr C ok_Saw sv 8 (d := (sv + 4)) dX6_tryPiece_195 (ltS hsv hn (by decide) : sv + 0 < n) (tbS_0 hsv) (by decide) rfl q_2_18 rfl (kz := 8) rfl (lrS_8 hsv hLR) ?_
          refine x_iload_n C 1 dX6_tryPiece_198 rfl rfl ?_
          refine x_iload_n C 2 dX6_tryPiece_199 rfl rfl ?_
          refine x_iadd C dX6_tryPiece_200 ?_
          refine x_iconst C dX6_tryPiece_201 ?_
          refine x_isub C dX6_tryPiece_202 ?_
          refine x_iload_n C 3 dX6_tryPiece_203 rfl rfl ?_
          refine x_iload C 4 dX6_tryPiece_204 rfl ?_
          refine x_iload C 5 dX6_tryPiece_206 rfl ?_
          refine x_iload C 6 dX6_tryPiece_208 rfl ?_
          refine x_runU (r_callS C (ce_X6_sumOf) (m_X6_sumOf G n (u2 (u2 (u2 (u2 (u2 (u2 V (sv + 7) 0 a) (sv + 7) 1 b) (sv + 7) 2 s) (sv + 7) 3 t) (sv + 7) 4 (grP f m g y k a b s t)) (sv + 7) 5 (faceH f m g y a b s t)) R (sv + 4) ((y + k) - 1) (a) (b) (s) (t) hn hLR (by omega) (by exact tbS_4 hsv) (by first | assumption | omega | decide) (by first | assumption | omega | decide) (by first | assumption | omega | decide) (by first | assumption | omega | decide) (by first | assumption | omega | decide)) dX6_tryPiece_210 q_33_7 q_33_8 rfl rfl ⟨Nat.le_of_ble_eq_true rfl, Nat.le_of_ble_eq_true rfl⟩ ⟨rfl, rfl⟩ ⟨Nat.le_of_ble_eq_true rfl, Nat.le_of_ble_eq_true rfl⟩ (Nat.le_of_ble_eq_true rfl)) (fun v210 u210 hp210 => ?_)
          obtain ⟨rfl, rfl⟩ := hp210
          show Xw K G 0 0 _ n (u2 (u2 (u2 (u2 (u2 (u2 V (sv + 7) 0 a) (sv + 7) 1 b) (sv + 7) 2 s) (sv + 7) 3 t) (sv + 7) 4 (grP f m g y k a b s t)) (sv + 7) 5 (faceH f m g y a b s t)) R 213 [(0, .ref (aG G sv)), (1, .int (iI y)), (2, .int (iI k)), (3, .int (iI a)), (4, .int (iI b)), (5, .int (iI s)), (6, .int (iI t)), (7, .int (iI ar)), (8, .int (iI (grP f m g y k a b s t))), (9, .int (iI w))] [.int (iI (sumQ ((u2 (u2 (u2 (u2 (u2 (u2 V (sv + 7) 0 a) (sv + 7) 1 b) (sv + 7) 2 s) (sv + 7) 3 t) (sv + 7) 4 (grP f m g y k a b s t)) (sv + 7) 5 (faceH f m g y a b s t)) (sv + 4)) ((y + k) - 1) a b s t)), .ref (aG G (sv + 7))]
          refine x_top (b := (faceH f m g (y + k - 1) a b s t)) (by simp only [u2_n (show sv + 4 ≠ sv + 7 by omega)]; exact fq3) ?_
          refine x_puti C ok_Piece (sv + 7) 6 dX6_tryPiece_213 (ltS hsv hn (by decide)) (tbS_7 hsv) (by decide) rfl q_33_2 rfl rfl (Or.inl rfl) (by first | assumption | (constructor <;> omega)) (kz := 6) rfl ?_
          refine x_aload_n C 0 dX6_tryPiece_216 rfl rfl ?_
          refine x_getr C ok_Saw sv 11 (d := (sv + 7)) dX6_tryPiece_217 (ltS hsv hn (by decide) : sv + 0 < n) (tbS_0 hsv) (by decide) rfl q_3_0 rfl (kz := 11) rfl (lrS_11 hsv hLR) ?_
          refine x_iload C 7 dX6_tryPiece_220 rfl ?_
          refine x_puti C ok_Piece (sv + 7) 7 dX6_tryPiece_222 (ltS hsv hn (by decide)) (tbS_7 hsv) (by decide) rfl q_32_11 rfl rfl (Or.inl rfl) (by first | assumption | (constructor <;> omega)) (kz := 7) rfl ?_
          refine x_aload_n C 0 dX6_tryPiece_225 rfl rfl ?_
          refine x_getr C ok_Saw sv 11 (d := (sv + 7)) dX6_tryPiece_226 (ltS hsv hn (by decide) : sv + 0 < n) (tbS_0 hsv) (by decide) rfl q_3_0 rfl (kz := 11) rfl (lrS_11 hsv hLR) ?_
          refine x_iload C 9 dX6_tryPiece_229 rfl ?_
          refine x_puti C ok_Piece (sv + 7) 8 dX6_tryPiece_231 (ltS hsv hn (by decide)) (tbS_7 hsv) (by decide) rfl q_32_10 rfl rfl (Or.inl rfl) (by first | assumption | (constructor <;> omega)) (kz := 8) rfl ?_
          refine x_vret C dX6_tryPiece_234 ⟨_, rfl, rfl, ?_, ?_⟩
          · first | exact fun _ _ => rfl | exact fun q h => by rw [u2_n h, u2_n h, u2_n h, u2_n h, u2_n h, u2_n h, u2_n h, u2_n h, u2_n h]
          · rw [← hw, ← har]; first | exact Or.inr ⟨fun x => by omega, rfl⟩ | exact Or.inl ⟨by omega, tp_nine⟩
        · skip
          refine x_iload C 9 dX6_tryPiece_95 rfl ?_
          refine x_if_le C dX6_tryPiece_97 (tgt := 234) (by decide) (by first | assumption | (constructor <;> omega)) (fun h97 => ?_) (fun h97 => ?_)
          · skip
            refine x_vret C dX6_tryPiece_234 ⟨_, rfl, rfl, ?_, ?_⟩
            · first | exact fun _ _ => rfl | exact fun q h => by rw [u2_n h, u2_n h, u2_n h, u2_n h, u2_n h, u2_n h, u2_n h, u2_n h, u2_n h]
            · rw [← hw, ← har]; first | exact Or.inr ⟨fun x => by omega, rfl⟩ | exact Or.inl ⟨by omega, tp_nine⟩
          · skip
            refine x_iload C 9 dX6_tryPiece_100 rfl ?_
            refine x_aload_n C 0 dX6_tryPiece_102 rfl rfl ?_
            refine x_getr C ok_Saw sv 11 (d := (sv + 7)) dX6_tryPiece_103 (ltS hsv hn (by decide) : sv + 0 < n) (tbS_0 hsv) (by decide) rfl q_3_0 rfl (kz := 11) rfl (lrS_11 hsv hLR) ?_
            refine x_geti C ok_Piece (sv + 7) 8 dX6_tryPiece_106 (ltS hsv hn (by decide)) (tbS_7 hsv) (by decide) rfl q_32_10 rfl (kz := 8) rfl (fun rg106 => ?_)
            refine x_icmp_ne C dX6_tryPiece_109 (tgt := 234) (by decide) (by first | assumption | (constructor <;> omega)) (by first | assumption | (constructor <;> omega)) (fun h109 => ?_) (fun h109 => ?_)
            · skip
              refine x_vret C dX6_tryPiece_234 ⟨_, rfl, rfl, ?_, ?_⟩
              · first | exact fun _ _ => rfl | exact fun q h => by rw [u2_n h, u2_n h, u2_n h, u2_n h, u2_n h, u2_n h, u2_n h, u2_n h, u2_n h]
              · rw [← hw, ← har]; first | exact Or.inr ⟨fun x => by omega, rfl⟩ | exact Or.inl ⟨by omega, tp_nine⟩
            · skip
              refine x_iload C 7 dX6_tryPiece_112 rfl ?_
              refine x_aload_n C 0 dX6_tryPiece_114 rfl rfl ?_
              refine x_getr C ok_Saw sv 11 (d := (sv + 7)) dX6_tryPiece_115 (ltS hsv hn (by decide) : sv + 0 < n) (tbS_0 hsv) (by decide) rfl q_3_0 rfl (kz := 11) rfl (lrS_11 hsv hLR) ?_
              refine x_geti C ok_Piece (sv + 7) 7 dX6_tryPiece_118 (ltS hsv hn (by decide)) (tbS_7 hsv) (by decide) rfl q_32_11 rfl (kz := 7) rfl (fun rg118 => ?_)
              refine x_icmp_le C dX6_tryPiece_121 (tgt := 234) (by decide) (by first | assumption | (constructor <;> omega)) (by first | assumption | (constructor <;> omega)) (fun h121 => ?_) (fun h121 => ?_)
              · skip
                refine x_vret C dX6_tryPiece_234 ⟨_, rfl, rfl, ?_, ?_⟩
                · first | exact fun _ _ => rfl | exact fun q h => by rw [u2_n h, u2_n h, u2_n h, u2_n h, u2_n h, u2_n h, u2_n h, u2_n h, u2_n h]
                · rw [← hw, ← har]; first | exact Or.inr ⟨fun x => by omega, rfl⟩ | exact Or.inl ⟨by omega, tp_nine⟩
              · skip
                refine x_aload_n C 0 dX6_tryPiece_124 rfl rfl ?_
                refine x_getr C ok_Saw sv 11 (d := (sv + 7)) dX6_tryPiece_125 (ltS hsv hn (by decide) : sv + 0 < n) (tbS_0 hsv) (by decide) rfl q_3_0 rfl (kz := 11) rfl (lrS_11 hsv hLR) ?_
                refine x_iload_n C 3 dX6_tryPiece_128 rfl rfl ?_
                refine x_puti C ok_Piece (sv + 7) 0 dX6_tryPiece_129 (ltS hsv hn (by decide)) (tbS_7 hsv) (by decide) rfl q_32_20 rfl rfl (Or.inl rfl) (by first | assumption | (constructor <;> omega)) (kz := 0) rfl ?_
                refine x_aload_n C 0 dX6_tryPiece_132 rfl rfl ?_
                refine x_getr C ok_Saw sv 11 (d := (sv + 7)) dX6_tryPiece_133 (ltS hsv hn (by decide) : sv + 0 < n) (tbS_0 hsv) (by decide) rfl q_3_0 rfl (kz := 11) rfl (lrS_11 hsv hLR) ?_
                refine x_iload C 4 dX6_tryPiece_136 rfl ?_
                refine x_puti C ok_Piece (sv + 7) 1 dX6_tryPiece_138 (ltS hsv hn (by decide)) (tbS_7 hsv) (by decide) rfl q_32_21 rfl rfl (Or.inl rfl) (by first | assumption | (constructor <;> omega)) (kz := 1) rfl ?_
                refine x_aload_n C 0 dX6_tryPiece_141 rfl rfl ?_
                refine x_getr C ok_Saw sv 11 (d := (sv + 7)) dX6_tryPiece_142 (ltS hsv hn (by decide) : sv + 0 < n) (tbS_0 hsv) (by decide) rfl q_3_0 rfl (kz := 11) rfl (lrS_11 hsv hLR) ?_
                refine x_iload C 5 dX6_tryPiece_145 rfl ?_
                refine x_puti C ok_Piece (sv + 7) 2 dX6_tryPiece_147 (ltS hsv hn (by decide)) (tbS_7 hsv) (by decide) rfl q_32_22 rfl rfl (Or.inl rfl) (by first | assumption | (constructor <;> omega)) (kz := 2) rfl ?_
                refine x_aload_n C 0 dX6_tryPiece_150 rfl rfl ?_
                refine x_getr C ok_Saw sv 11 (d := (sv + 7)) dX6_tryPiece_151 (ltS hsv hn (by decide) : sv + 0 < n) (tbS_0 hsv) (by decide) rfl q_3_0 rfl (kz := 11) rfl (lrS_11 hsv hLR) ?_
                refine x_iload C 6 dX6_tryPiece_154 rfl ?_
                refine x_puti C ok_Piece (sv + 7) 3 dX6_tryPiece_156 (ltS hsv hn (by decide)) (tbS_7 hsv) (by decide) rfl q_32_23 rfl rfl (Or.inl rfl) (by first | assumption | (constructor <;> omega)) (kz := 3) rfl ?_
                refine x_aload_n C 0 dX6_tryPiece_159 rfl rfl ?_
                refine x_getr C ok_Saw sv 11 (d := (sv + 7)) dX6_tryPiece_160 (ltS hsv hn (by decide) : sv + 0 < n) (tbS_0 hsv) (by decide) rfl q_3_0 rfl (kz := 11) rfl (lrS_11 hsv hLR) ?_
                refine x_iload C 8 dX6_tryPiece_163 rfl ?_
                refine x_puti C ok_Piece (sv + 7) 4 dX6_tryPiece_165 (ltS hsv hn (by decide)) (tbS_7 hsv) (by decide) rfl q_33_0 rfl rfl (Or.inl rfl) (by first | assumption | (constructor <;> omega)) (kz := 4) rfl ?_
                refine x_aload_n C 0 dX6_tryPiece_168 rfl rfl ?_
                refine x_getr C ok_Saw sv 11 (d := (sv + 7)) dX6_tryPiece_169 (ltS hsv hn (by decide) : sv + 0 < n) (tbS_0 hsv) (by decide) rfl q_3_0 rfl (kz := 11) rfl (lrS_11 hsv hLR) ?_
                refine x_aload_n C 0 dX6_tryPiece_172 rfl rfl ?_
                refine x_getr C ok_Saw sv 8 (d := (sv + 4)) dX6_tryPiece_173 (ltS hsv hn (by decide) : sv + 0 < n) (tbS_0 hsv) (by decide) rfl q_2_18 rfl (kz := 8) rfl (lrS_8 hsv hLR) ?_
                refine x_iload_n C 1 dX6_tryPiece_176 rfl rfl ?_
                refine x_iload_n C 3 dX6_tryPiece_177 rfl rfl ?_
                refine x_iload C 4 dX6_tryPiece_178 rfl ?_
                refine x_iload C 5 dX6_tryPiece_180 rfl ?_
                refine x_iload C 6 dX6_tryPiece_182 rfl ?_
                refine x_runU (r_callS C (ce_X6_sumOf) (m_X6_sumOf G n (u2 (u2 (u2 (u2 (u2 V (sv + 7) 0 a) (sv + 7) 1 b) (sv + 7) 2 s) (sv + 7) 3 t) (sv + 7) 4 (grP f m g y k a b s t)) R (sv + 4) (y) (a) (b) (s) (t) hn hLR (by omega) (by exact tbS_4 hsv) (by first | assumption | omega | decide) (by first | assumption | omega | decide) (by first | assumption | omega | decide) (by first | assumption | omega | decide) (by first | assumption | omega | decide)) dX6_tryPiece_184 q_33_7 q_33_8 rfl rfl ⟨Nat.le_of_ble_eq_true rfl, Nat.le_of_ble_eq_true rfl⟩ ⟨rfl, rfl⟩ ⟨Nat.le_of_ble_eq_true rfl, Nat.le_of_ble_eq_true rfl⟩ (Nat.le_of_ble_eq_true rfl)) (fun v184 u184 hp184 => ?_)
                obtain ⟨rfl, rfl⟩ := hp184
                show Xw K G 0 0 _ n (u2 (u2 (u2 (u2 (u2 V (sv + 7) 0 a) (sv + 7) 1 b) (sv + 7) 2 s) (sv + 7) 3 t) (sv + 7) 4 (grP f m g y k a b s t)) R 187 [(0, .ref (aG G sv)), (1, .int (iI y)), (2, .int (iI k)), (3, .int (iI a)), (4, .int (iI b)), (5, .int (iI s)), (6, .int (iI t)), (7, .int (iI ar)), (8, .int (iI (grP f m g y k a b s t))), (9, .int (iI w))] [.int (iI (sumQ ((u2 (u2 (u2 (u2 (u2 V (sv + 7) 0 a) (sv + 7) 1 b) (sv + 7) 2 s) (sv + 7) 3 t) (sv + 7) 4 (grP f m g y k a b s t)) (sv + 4)) y a b s t)), .ref (aG G (sv + 7))]
                refine x_top (b := (faceH f m g y a b s t)) (by simp only [u2_n (show sv + 4 ≠ sv + 7 by omega)]; exact fq1) ?_
                refine x_puti C ok_Piece (sv + 7) 5 dX6_tryPiece_187 (ltS hsv hn (by decide)) (tbS_7 hsv) (by decide) rfl q_33_1 rfl rfl (Or.inl rfl) (by first | assumption | (constructor <;> omega)) (kz := 5) rfl ?_
                refine x_aload_n C 0 dX6_tryPiece_190 rfl rfl ?_
                refine x_getr C ok_Saw sv 11 (d := (sv + 7)) dX6_tryPiece_191 (ltS hsv hn (by decide) : sv + 0 < n) (tbS_0 hsv) (by decide) rfl q_3_0 rfl (kz := 11) rfl (lrS_11 hsv hLR) ?_
                refine x_aload_n C 0 dX6_tryPiece_194 rfl rfl ?_
                refine x_getr C ok_Saw sv 8 (d := (sv + 4)) dX6_tryPiece_195 (ltS hsv hn (by decide) : sv + 0 < n) (tbS_0 hsv) (by decide) rfl q_2_18 rfl (kz := 8) rfl (lrS_8 hsv hLR) ?_
                refine x_iload_n C 1 dX6_tryPiece_198 rfl rfl ?_
                refine x_iload_n C 2 dX6_tryPiece_199 rfl rfl ?_
                refine x_iadd C dX6_tryPiece_200 ?_
                refine x_iconst C dX6_tryPiece_201 ?_
                refine x_isub C dX6_tryPiece_202 ?_
                refine x_iload_n C 3 dX6_tryPiece_203 rfl rfl ?_
                refine x_iload C 4 dX6_tryPiece_204 rfl ?_
                refine x_iload C 5 dX6_tryPiece_206 rfl ?_
                refine x_iload C 6 dX6_tryPiece_208 rfl ?_
                refine x_runU (r_callS C (ce_X6_sumOf) (m_X6_sumOf G n (u2 (u2 (u2 (u2 (u2 (u2 V (sv + 7) 0 a) (sv + 7) 1 b) (sv + 7) 2 s) (sv + 7) 3 t) (sv + 7) 4 (grP f m g y k a b s t)) (sv + 7) 5 (faceH f m g y a b s t)) R (sv + 4) ((y + k) - 1) (a) (b) (s) (t) hn hLR (by omega) (by exact tbS_4 hsv) (by first | assumption | omega | decide) (by first | assumption | omega | decide) (by first | assumption | omega | decide) (by first | assumption | omega | decide) (by first | assumption | omega | decide)) dX6_tryPiece_210 q_33_7 q_33_8 rfl rfl ⟨Nat.le_of_ble_eq_true rfl, Nat.le_of_ble_eq_true rfl⟩ ⟨rfl, rfl⟩ ⟨Nat.le_of_ble_eq_true rfl, Nat.le_of_ble_eq_true rfl⟩ (Nat.le_of_ble_eq_true rfl)) (fun v210 u210 hp210 => ?_)
                obtain ⟨rfl, rfl⟩ := hp210
                show Xw K G 0 0 _ n (u2 (u2 (u2 (u2 (u2 (u2 V (sv + 7) 0 a) (sv + 7) 1 b) (sv + 7) 2 s) (sv + 7) 3 t) (sv + 7) 4 (grP f m g y k a b s t)) (sv + 7) 5 (faceH f m g y a b s t)) R 213 [(0, .ref (aG G sv)), (1, .int (iI y)), (2, .int (iI k)), (3, .int (iI a)), (4, .int (iI b)), (5, .int (iI s)), (6, .int (iI t)), (7, .int (iI ar)), (8, .int (iI (grP f m g y k a b s t))), (9, .int (iI w))] [.int (iI (sumQ ((u2 (u2 (u2 (u2 (u2 (u2 V (sv + 7) 0 a) (sv + 7) 1 b) (sv + 7) 2 s) (sv + 7) 3 t) (sv + 7) 4 (grP f m g y k a b s t)) (sv + 7) 5 (faceH f m g y a b s t)) (sv + 4)) ((y + k) - 1) a b s t)), .ref (aG G (sv + 7))]
                refine x_top (b := (faceH f m g (y + k - 1) a b s t)) (by simp only [u2_n (show sv + 4 ≠ sv + 7 by omega)]; exact fq3) ?_
                refine x_puti C ok_Piece (sv + 7) 6 dX6_tryPiece_213 (ltS hsv hn (by decide)) (tbS_7 hsv) (by decide) rfl q_33_2 rfl rfl (Or.inl rfl) (by first | assumption | (constructor <;> omega)) (kz := 6) rfl ?_
                refine x_aload_n C 0 dX6_tryPiece_216 rfl rfl ?_
                refine x_getr C ok_Saw sv 11 (d := (sv + 7)) dX6_tryPiece_217 (ltS hsv hn (by decide) : sv + 0 < n) (tbS_0 hsv) (by decide) rfl q_3_0 rfl (kz := 11) rfl (lrS_11 hsv hLR) ?_
                refine x_iload C 7 dX6_tryPiece_220 rfl ?_
                refine x_puti C ok_Piece (sv + 7) 7 dX6_tryPiece_222 (ltS hsv hn (by decide)) (tbS_7 hsv) (by decide) rfl q_32_11 rfl rfl (Or.inl rfl) (by first | assumption | (constructor <;> omega)) (kz := 7) rfl ?_
                refine x_aload_n C 0 dX6_tryPiece_225 rfl rfl ?_
                refine x_getr C ok_Saw sv 11 (d := (sv + 7)) dX6_tryPiece_226 (ltS hsv hn (by decide) : sv + 0 < n) (tbS_0 hsv) (by decide) rfl q_3_0 rfl (kz := 11) rfl (lrS_11 hsv hLR) ?_
                refine x_iload C 9 dX6_tryPiece_229 rfl ?_
                refine x_puti C ok_Piece (sv + 7) 8 dX6_tryPiece_231 (ltS hsv hn (by decide)) (tbS_7 hsv) (by decide) rfl q_32_10 rfl rfl (Or.inl rfl) (by first | assumption | (constructor <;> omega)) (kz := 8) rfl ?_
                refine x_vret C dX6_tryPiece_234 ⟨_, rfl, rfl, ?_, ?_⟩
                · first | exact fun _ _ => rfl | exact fun q h => by rw [u2_n h, u2_n h, u2_n h, u2_n h, u2_n h, u2_n h, u2_n h, u2_n h, u2_n h]
                · rw [← hw, ← har]; first | exact Or.inr ⟨fun x => by omega, rfl⟩ | exact Or.inl ⟨by omega, tp_nine⟩
    · skip
      refine x_vret C dX6_tryPiece_41 ⟨_, rfl, rfl, ?_, ?_⟩
      · exact fun _ _ => rfl
      · first | exact Or.inr ⟨fun x => by omega, rfl⟩ | exact Or.inr ⟨tp_small h_ar harb (by omega) hk ok.p ok.q hW hA hX (by assumption), rfl⟩
