theorem oe1 {A B B' C : Prop} (h1 : B ↔ B') (h2 : ¬ C) : A ∨ B ↔ A ∨ B' ∨ C := by
  constructor
  · rintro (h | h)
    · exact Or.inl h
    · exact Or.inr (Or.inl (h1.mp h))
  · rintro (h | h | h)
    · exact Or.inl h
    · exact Or.inr (h1.mpr h)
    · exact absurd h h2
theorem oj2 {A B C B' : Prop} (h : B ∨ C ↔ B') : A ∨ B ∨ C ↔ A ∨ B' := or_congr Iff.rfl h
theorem oj3 {A B C D C' : Prop} (h : C ∨ D ↔ C') : A ∨ B ∨ C ∨ D ↔ A ∨ B ∨ C' := or_congr Iff.rfl (or_congr Iff.rfl h)
theorem oz2 {A B C : Prop} (h : ¬ C) : A ∨ B ↔ A ∨ B ∨ C := or_congr Iff.rfl ⟨Or.inl, fun q => q.elim id (fun x => absurd x h)⟩
theorem oz3 {A B C D : Prop} (h : ¬ D) : A ∨ B ∨ C ↔ A ∨ B ∨ C ∨ D := or_congr Iff.rfl (oz2 h)
theorem or3_ {A B C D C' : Prop} (h : C ∨ D ↔ C') : (A ∨ B ∨ C) ∨ D ↔ A ∨ B ∨ C' := by rw [or_assoc, or_assoc, h]
theorem or4_ {A B C D E D' : Prop} (h : D ∨ E ↔ D') : (A ∨ B ∨ C ∨ D) ∨ E ↔ A ∨ B ∨ C ∨ D' := by rw [or_assoc, or_assoc, or_assoc, h]
theorem oi1 {A A' B : Prop} (h : A ↔ A') (h2 : ¬ B) : False ∨ A ↔ A' ∨ B := by rw [false_or, h]; exact ⟨Or.inl, fun q => q.elim id (fun x => absurd x h2)⟩
theorem oi0 {A B : Prop} (h : ¬ A) (h2 : ¬ B) : False ↔ A ∨ B := ⟨False.elim, fun q => q.elim h h2⟩
theorem oc3 {A B C A' B' C' : Prop} (h1 : A ↔ A') (h2 : B ↔ B') (h3 : C ↔ C') : A ∨ B ∨ C ↔ A' ∨ B' ∨ C' := or_congr h1 (or_congr h2 h3)
def triedP (V V1 : Nat → Int → Int) (w gr a b s t : Int) : Prop :=
  (betterP w (areaP a b s t) a b s t (V 42 22) (V 42 23) (V 42 24) (V 42 25) (V 42 26) (V 42 27) ∧ V1 42 22 = w ∧ V1 42 23 = areaP a b s t ∧ V1 42 24 = a ∧ V1 42 25 = b ∧ V1 42 26 = s ∧ V1 42 27 = t ∧ V1 42 28 = gr) ∨
  (¬ betterP w (areaP a b s t) a b s t (V 42 22) (V 42 23) (V 42 24) (V 42 25) (V 42 26) (V 42 27) ∧ V1 42 22 = V 42 22 ∧ V1 42 23 = V 42 23 ∧ V1 42 24 = V 42 24 ∧ V1 42 25 = V 42 25 ∧ V1 42 26 = V 42 26 ∧ V1 42 27 = V 42 27 ∧ V1 42 28 = V 42 28)
theorem triedP_n {V : Nat → Int → Int} {w gr a b s t : Int} (h : ¬ betterP w (areaP a b s t) a b s t (V 42 22) (V 42 23) (V 42 24) (V 42 25) (V 42 26) (V 42 27)) : triedP V V w gr a b s t := Or.inr ⟨h, rfl, rfl, rfl, rfl, rfl, rfl, rfl⟩
theorem triedP_y {V : Nat → Int → Int} {w gr a b s t : Int} (h : betterP w (areaP a b s t) a b s t (V 42 22) (V 42 23) (V 42 24) (V 42 25) (V 42 26) (V 42 27)) : triedP V (u2 (u2 (u2 (u2 (u2 (u2 (u2 V 42 22 w) 42 23 ((b - a + 1) * (t - s + 1))) 42 24 a) 42 25 b) 42 26 s) 42 27 t) 42 28 gr) w gr a b s t := Or.inl ⟨h, rfl, rfl, rfl, rfl, rfl, rfl, rfl⟩
def BMem (V : Nat → Int → Int) (gr w : Int → Int → Int → Int → Int) (S : Int → Int → Int → Int → Prop) : Prop := BestOf gr w S (V 42 22) (V 42 23) (V 42 24) (V 42 25) (V 42 26) (V 42 27) (V 42 28)
theorem BMem.mono {V : Nat → Int → Int} {gr w : Int → Int → Int → Int → Int} {S S' : Int → Int → Int → Int → Prop} (h : BMem V gr w S) (e : ∀ a b s t, S a b s t ↔ S' a b s t) : BMem V gr w S' := BestOf.mono h e
theorem BMem.tried {V V1 : Nat → Int → Int} {gr w : Int → Int → Int → Int → Int} {S : Int → Int → Int → Int → Prop} {a b s t : Int} (h : BMem V gr w S) (ht : triedP V V1 (w a b s t) (gr a b s t) a b s t) : BMem V1 gr w (fun x y u v => S x y u v ∨ (x = a ∧ y = b ∧ u = s ∧ v = t)) := by
  unfold BMem at *
  refine BestOf.step h ?_
  rcases ht with ⟨c, e1, e2, e3, e4, e5, e6, e7⟩ | ⟨c, e1, e2, e3, e4, e5, e6, e7⟩
  · exact Or.inl ⟨c, e1, e2, e3, e4, e5, e6, e7⟩
  · exact Or.inr ⟨c, e1, e2, e3, e4, e5, e6, e7⟩
theorem BMem_0 {V : Nat → Int → Int} {gr w : Int → Int → Int → Int → Int} : BMem (u2 V 42 22 0) gr w (fun _ _ _ _ => False) := Or.inl ⟨rfl, fun _ _ _ _ h => h.elim⟩

set_option maxRecDepth 100000 in
set_option maxHeartbeats 4000000 in
theorem m_X12_tries (G : GS) (n : Nat) (V : Nat → Int → Int) (R : Nat → Int → Option Nat) (f : Int → Int → Int) (m : Int) (g : Int) (y : Int) (k : Int) (a : Int) (b : Int) (s : Int) (t : Int) (hn : 67 ≤ n) (hLR : LR R) (hy : 0 ≤ y) (hk : 1 ≤ k ∧ k ≤ 4 ∧ y + k ≤ 12) (ha : 0 ≤ a ∧ a ≤ b) (hb : b ≤ 11) (hs : 0 ≤ s ∧ s ≤ t) (ht : t ≤ V 42 2 - 1 ∧ V 42 2 ≤ 8) (hS : sumsR V f m g (12 * V 42 2)) (hpr : ∀ z, 2 ≤ z → z ≤ 5 → 0 ≤ V 44 z ∧ V 44 z ≤ 99) : Cn G yX12_tries cX12_tries 10 none (rmk 3 0 0 75) [.ref (aG G 42), .int (iI y), .int (iI k), .int (iI a), .int (iI b), .int (iI s), .int (iI t)] n V R 0 0 (fun vv uu => ∃ (V1 : Nat → Int → Int), vv = none ∧ uu = (n, V1, R) ∧ (∀ q z, ¬ (q = 42 ∧ 22 ≤ z ∧ z ≤ 28) → V1 q z = V q z) ∧ (triedP V V1 (wP f m g (V 44) y k a b s t) (grP f m g y k a b s t) a b s t)) := by
  refine Cn.of (by decide) (Nat.le_of_ble_eq_true rfl) (fun K C hct => ?_)
  show Xw K G 0 0 _ n V R 0 [(0, .ref (aG G 42)), (1, .int (iI y)), (2, .int (iI k)), (3, .int (iI a)), (4, .int (iI b)), (5, .int (iI s)), (6, .int (iI t))] []
  have a1 := mul_bd (a := (b - a) + 1) (b := (t - s) + 1) (A := 12) (B := 8) (by omega) (by omega)
  have a2 := mul_bd (a := ((b - a) + 1) * ((t - s) + 1)) (b := k) (A := 96) (B := 4) (by omega) (by omega)
  obtain ⟨Gr, hGr⟩ : ∃ Gr, Gr = grP f m g y k a b s t := ⟨_, rfl⟩
  have hGb : 0 ≤ Gr ∧ Gr ≤ 4 := by rw [hGr]; exact gradeS_b _ _ _ _ _
  refine x_aload_n C 0 dX12_tries_0 rfl rfl ?_
  refine x_iload_n C 1 dX12_tries_1 rfl rfl ?_
  refine x_iload_n C 2 dX12_tries_2 rfl rfl ?_
  refine x_iload_n C 3 dX12_tries_3 rfl rfl ?_
  refine x_iload C 4 dX12_tries_4 rfl ?_
  refine x_iload C 5 dX12_tries_6 rfl ?_
  refine x_iload C 6 dX12_tries_8 rfl ?_
  refine x_runU (r_callV C ok_Model 42 (lt67 hn rfl) rfl (ce_X12_grade) (m_X12_grade G n V R _ _ _ (y) (k) (a) (b) (s) (t) hn hLR (by first | assumption | omega | decide) (by first | assumption | omega | decide) (by first | assumption | omega | decide) (by first | assumption | omega | decide) (by first | assumption | omega | decide) (by first | assumption | omega | decide) (by first | assumption | omega | decide)) rfl dX12_tries_10 q_34_16 q_34_17 q_34_18 rfl rfl ⟨Nat.le_of_ble_eq_true rfl, Nat.le_of_ble_eq_true rfl⟩ ⟨rfl, rfl⟩ ⟨Nat.le_of_ble_eq_true rfl, Nat.le_of_ble_eq_true rfl⟩ (Nat.le_of_ble_eq_true rfl)) (fun v10 u10 hp10 => ?_)
  obtain ⟨rfl, rfl⟩ := hp10
  show Xw K G 0 0 _ n V R 13 [(0, .ref (aG G 42)), (1, .int (iI y)), (2, .int (iI k)), (3, .int (iI a)), (4, .int (iI b)), (5, .int (iI s)), (6, .int (iI t))] [.int (iI (grP f m g y k a b s t))]
  refine x_top (b := Gr) (by exact hGr.symm) ?_
  refine x_istore C dX12_tries_13 (by decide) (lv' := [(0, .ref (aG G 42)), (1, .int (iI y)), (2, .int (iI k)), (3, .int (iI a)), (4, .int (iI b)), (5, .int (iI s)), (6, .int (iI t)), (7, .int (iI Gr))]) rfl ?_
  refine x_iload C 4 dX12_tries_15 rfl ?_
  refine x_iload_n C 3 dX12_tries_17 rfl rfl ?_
  refine x_isub C dX12_tries_18 ?_
  refine x_iconst C dX12_tries_19 ?_
  refine x_iadd C dX12_tries_20 ?_
  refine x_iload C 6 dX12_tries_21 rfl ?_
  refine x_iload C 5 dX12_tries_23 rfl ?_
  refine x_isub C dX12_tries_25 ?_
  refine x_iconst C dX12_tries_26 ?_
  refine x_iadd C dX12_tries_27 ?_
  refine x_imul C dX12_tries_28 ?_
  refine x_istore C dX12_tries_29 (by decide) (lv' := [(0, .ref (aG G 42)), (1, .int (iI y)), (2, .int (iI k)), (3, .int (iI a)), (4, .int (iI b)), (5, .int (iI s)), (6, .int (iI t)), (7, .int (iI Gr)), (8, .int (iI (((b - a) + 1) * ((t - s) + 1))))]) rfl ?_
  refine x_iload C 7 dX12_tries_31 rfl ?_
  refine x_iconst C dX12_tries_33 ?_
  refine x_icmp_ne C dX12_tries_34 (tgt := 41) (by decide) (by first | assumption | (constructor <;> omega)) (by first | assumption | (constructor <;> omega)) (fun h34 => ?_) (fun h34 => ?_)
  · skip
    have a3 := mul_bd (a := (((b - a) + 1) * ((t - s) + 1)) * k) (b := V 44 (2 + Gr)) (A := 384) (B := 99) (by omega) (hpr (2 + Gr) (by omega) (by omega))
    refine x_iload C 8 dX12_tries_41 rfl ?_
    refine x_iload_n C 2 dX12_tries_43 rfl rfl ?_
    refine x_imul C dX12_tries_44 ?_
    refine x_aload_n C 0 dX12_tries_45 rfl rfl ?_
    refine x_getr C ok_Model 42 6 (d := 44) dX12_tries_46 (lt67 hn rfl) rfl (by decide) rfl q_4_2 rfl (kz := 6) rfl (lr_42_6 hLR) ?_
    refine x_iconst C dX12_tries_49 ?_
    refine x_iload C 7 dX12_tries_50 rfl ?_
    refine x_iadd C dX12_tries_52 ?_
    refine x_iald C 44 dX12_tries_53 (lt67 hn rfl) rfl (by refine ⟨?_, ?_⟩ <;> omega) (fun rg53 => ?_)
    refine x_imul C dX12_tries_54 ?_
    refine x_nm (fun its h_its => ?_)
    have hv : wP f m g (V 44) y k a b s t = its := by rw [h_its]; unfold wP; rw [← hGr]; first | rw [if_pos h34] | rw [if_neg h34]
    have hib : 0 ≤ its ∧ its ≤ 38016 := by omega
    clear h_its
    refine x_istore C dX12_tries_55 (by decide) (lv' := [(0, .ref (aG G 42)), (1, .int (iI y)), (2, .int (iI k)), (3, .int (iI a)), (4, .int (iI b)), (5, .int (iI s)), (6, .int (iI t)), (7, .int (iI Gr)), (8, .int (iI (((b - a) + 1) * ((t - s) + 1)))), (9, .int (iI its))]) rfl ?_
    refine x_iload C 9 dX12_tries_57 rfl ?_
    refine x_aload_n C 0 dX12_tries_59 rfl rfl ?_
    refine x_geti C ok_Model 42 22 dX12_tries_60 (lt67 hn rfl) rfl (by decide) rfl q_33_14 rfl (kz := 22) rfl (fun rg60 => ?_)
    refine x_icmp_gt C dX12_tries_63 (tgt := 112) (by decide) (by first | assumption | (constructor <;> omega)) (by first | assumption | (constructor <;> omega)) (fun h63 => ?_) (fun h63 => ?_)
    · skip
      refine x_aload_n C 0 dX12_tries_112 rfl rfl ?_
      refine x_iload C 9 dX12_tries_113 rfl ?_
      refine x_puti C ok_Model 42 22 dX12_tries_115 (lt67 hn rfl) rfl (by decide) rfl q_33_14 rfl rfl (Or.inl rfl) (by first | assumption | (constructor <;> omega)) (kz := 22) rfl ?_
      refine x_aload_n C 0 dX12_tries_118 rfl rfl ?_
      refine x_iload C 8 dX12_tries_119 rfl ?_
      refine x_puti C ok_Model 42 23 dX12_tries_121 (lt67 hn rfl) rfl (by decide) rfl q_34_15 rfl rfl (Or.inl rfl) (by first | assumption | (constructor <;> omega)) (kz := 23) rfl ?_
      refine x_aload_n C 0 dX12_tries_124 rfl rfl ?_
      refine x_iload_n C 3 dX12_tries_125 rfl rfl ?_
      refine x_puti C ok_Model 42 24 dX12_tries_126 (lt67 hn rfl) rfl (by decide) rfl q_33_15 rfl rfl (Or.inl rfl) (by first | assumption | (constructor <;> omega)) (kz := 24) rfl ?_
      refine x_aload_n C 0 dX12_tries_129 rfl rfl ?_
      refine x_iload C 4 dX12_tries_130 rfl ?_
      refine x_puti C ok_Model 42 25 dX12_tries_132 (lt67 hn rfl) rfl (by decide) rfl q_33_16 rfl rfl (Or.inl rfl) (by first | assumption | (constructor <;> omega)) (kz := 25) rfl ?_
      refine x_aload_n C 0 dX12_tries_135 rfl rfl ?_
      refine x_iload C 5 dX12_tries_136 rfl ?_
      refine x_puti C ok_Model 42 26 dX12_tries_138 (lt67 hn rfl) rfl (by decide) rfl q_33_17 rfl rfl (Or.inl rfl) (by first | assumption | (constructor <;> omega)) (kz := 26) rfl ?_
      refine x_aload_n C 0 dX12_tries_141 rfl rfl ?_
      refine x_iload C 6 dX12_tries_142 rfl ?_
      refine x_puti C ok_Model 42 27 dX12_tries_144 (lt67 hn rfl) rfl (by decide) rfl q_33_18 rfl rfl (Or.inl rfl) (by first | assumption | (constructor <;> omega)) (kz := 27) rfl ?_
      refine x_aload_n C 0 dX12_tries_147 rfl rfl ?_
      refine x_iload C 7 dX12_tries_148 rfl ?_
      refine x_puti C ok_Model 42 28 dX12_tries_150 (lt67 hn rfl) rfl (by decide) rfl q_33_19 rfl rfl (Or.inl rfl) (by first | assumption | (constructor <;> omega)) (kz := 28) rfl ?_
      refine x_vret C dX12_tries_153 ⟨_, rfl, rfl, ?_, ?_⟩
      · first | exact fun _ _ _ => rfl | exact fun q z h => by repeat (rw [u2_at, if_neg (fun e => h ⟨e.1, by have := e.2; omega, by have := e.2; omega⟩)])
      · rw [hv, ← hGr]; first | exact triedP_n (by intro q; unfold betterP areaP at q; rcases q with q | ⟨q1, q2, q3 | ⟨q4, q5⟩⟩ <;> first | omega | exact h109 q5) | exact triedP_y (by first | exact Or.inl (by omega) | exact Or.inr ⟨by omega, by omega, Or.inl (by unfold areaP; omega)⟩ | exact Or.inr ⟨by omega, by omega, Or.inr ⟨by unfold areaP; omega, h109⟩⟩)
    · skip
      refine x_iload C 9 dX12_tries_66 rfl ?_
      refine x_if_le C dX12_tries_68 (tgt := 153) (by decide) (by first | assumption | (constructor <;> omega)) (fun h68 => ?_) (fun h68 => ?_)
      · skip
        refine x_vret C dX12_tries_153 ⟨_, rfl, rfl, ?_, ?_⟩
        · first | exact fun _ _ _ => rfl | exact fun q z h => by repeat (rw [u2_at, if_neg (fun e => h ⟨e.1, by have := e.2; omega, by have := e.2; omega⟩)])
        · rw [hv, ← hGr]; first | exact triedP_n (by intro q; unfold betterP areaP at q; rcases q with q | ⟨q1, q2, q3 | ⟨q4, q5⟩⟩ <;> first | omega | exact h109 q5) | exact triedP_y (by first | exact Or.inl (by omega) | exact Or.inr ⟨by omega, by omega, Or.inl (by unfold areaP; omega)⟩ | exact Or.inr ⟨by omega, by omega, Or.inr ⟨by unfold areaP; omega, h109⟩⟩)
      · skip
        refine x_iload C 9 dX12_tries_71 rfl ?_
        refine x_aload_n C 0 dX12_tries_73 rfl rfl ?_
        refine x_geti C ok_Model 42 22 dX12_tries_74 (lt67 hn rfl) rfl (by decide) rfl q_33_14 rfl (kz := 22) rfl (fun rg74 => ?_)
        refine x_icmp_ne C dX12_tries_77 (tgt := 153) (by decide) (by first | assumption | (constructor <;> omega)) (by first | assumption | (constructor <;> omega)) (fun h77 => ?_) (fun h77 => ?_)
        · skip
          refine x_vret C dX12_tries_153 ⟨_, rfl, rfl, ?_, ?_⟩
          · first | exact fun _ _ _ => rfl | exact fun q z h => by repeat (rw [u2_at, if_neg (fun e => h ⟨e.1, by have := e.2; omega, by have := e.2; omega⟩)])
          · rw [hv, ← hGr]; first | exact triedP_n (by intro q; unfold betterP areaP at q; rcases q with q | ⟨q1, q2, q3 | ⟨q4, q5⟩⟩ <;> first | omega | exact h109 q5) | exact triedP_y (by first | exact Or.inl (by omega) | exact Or.inr ⟨by omega, by omega, Or.inl (by unfold areaP; omega)⟩ | exact Or.inr ⟨by omega, by omega, Or.inr ⟨by unfold areaP; omega, h109⟩⟩)
        · skip
          refine x_iload C 8 dX12_tries_80 rfl ?_
          refine x_aload_n C 0 dX12_tries_82 rfl rfl ?_
          refine x_geti C ok_Model 42 23 dX12_tries_83 (lt67 hn rfl) rfl (by decide) rfl q_34_15 rfl (kz := 23) rfl (fun rg83 => ?_)
          refine x_icmp_gt C dX12_tries_86 (tgt := 112) (by decide) (by first | assumption | (constructor <;> omega)) (by first | assumption | (constructor <;> omega)) (fun h86 => ?_) (fun h86 => ?_)
          · skip
            refine x_aload_n C 0 dX12_tries_112 rfl rfl ?_
            refine x_iload C 9 dX12_tries_113 rfl ?_
            refine x_puti C ok_Model 42 22 dX12_tries_115 (lt67 hn rfl) rfl (by decide) rfl q_33_14 rfl rfl (Or.inl rfl) (by first | assumption | (constructor <;> omega)) (kz := 22) rfl ?_
            refine x_aload_n C 0 dX12_tries_118 rfl rfl ?_
            refine x_iload C 8 dX12_tries_119 rfl ?_
            refine x_puti C ok_Model 42 23 dX12_tries_121 (lt67 hn rfl) rfl (by decide) rfl q_34_15 rfl rfl (Or.inl rfl) (by first | assumption | (constructor <;> omega)) (kz := 23) rfl ?_
            refine x_aload_n C 0 dX12_tries_124 rfl rfl ?_
            refine x_iload_n C 3 dX12_tries_125 rfl rfl ?_
            refine x_puti C ok_Model 42 24 dX12_tries_126 (lt67 hn rfl) rfl (by decide) rfl q_33_15 rfl rfl (Or.inl rfl) (by first | assumption | (constructor <;> omega)) (kz := 24) rfl ?_
            refine x_aload_n C 0 dX12_tries_129 rfl rfl ?_
            refine x_iload C 4 dX12_tries_130 rfl ?_
            refine x_puti C ok_Model 42 25 dX12_tries_132 (lt67 hn rfl) rfl (by decide) rfl q_33_16 rfl rfl (Or.inl rfl) (by first | assumption | (constructor <;> omega)) (kz := 25) rfl ?_
            refine x_aload_n C 0 dX12_tries_135 rfl rfl ?_
            refine x_iload C 5 dX12_tries_136 rfl ?_
            refine x_puti C ok_Model 42 26 dX12_tries_138 (lt67 hn rfl) rfl (by decide) rfl q_33_17 rfl rfl (Or.inl rfl) (by first | assumption | (constructor <;> omega)) (kz := 26) rfl ?_
            refine x_aload_n C 0 dX12_tries_141 rfl rfl ?_
            refine x_iload C 6 dX12_tries_142 rfl ?_
            refine x_puti C ok_Model 42 27 dX12_tries_144 (lt67 hn rfl) rfl (by decide) rfl q_33_18 rfl rfl (Or.inl rfl) (by first | assumption | (constructor <;> omega)) (kz := 27) rfl ?_
            refine x_aload_n C 0 dX12_tries_147 rfl rfl ?_
            refine x_iload C 7 dX12_tries_148 rfl ?_
            refine x_puti C ok_Model 42 28 dX12_tries_150 (lt67 hn rfl) rfl (by decide) rfl q_33_19 rfl rfl (Or.inl rfl) (by first | assumption | (constructor <;> omega)) (kz := 28) rfl ?_
            refine x_vret C dX12_tries_153 ⟨_, rfl, rfl, ?_, ?_⟩
            · first | exact fun _ _ _ => rfl | exact fun q z h => by repeat (rw [u2_at, if_neg (fun e => h ⟨e.1, by have := e.2; omega, by have := e.2; omega⟩)])
            · rw [hv, ← hGr]; first | exact triedP_n (by intro q; unfold betterP areaP at q; rcases q with q | ⟨q1, q2, q3 | ⟨q4, q5⟩⟩ <;> first | omega | exact h109 q5) | exact triedP_y (by first | exact Or.inl (by omega) | exact Or.inr ⟨by omega, by omega, Or.inl (by unfold areaP; omega)⟩ | exact Or.inr ⟨by omega, by omega, Or.inr ⟨by unfold areaP; omega, h109⟩⟩)
          · skip
            refine x_iload C 8 dX12_tries_89 rfl ?_
            refine x_aload_n C 0 dX12_tries_91 rfl rfl ?_
            refine x_geti C ok_Model 42 23 dX12_tries_92 (lt67 hn rfl) rfl (by decide) rfl q_34_15 rfl (kz := 23) rfl (fun rg92 => ?_)
            refine x_icmp_ne C dX12_tries_95 (tgt := 153) (by decide) (by first | assumption | (constructor <;> omega)) (by first | assumption | (constructor <;> omega)) (fun h95 => ?_) (fun h95 => ?_)
            · skip
              refine x_vret C dX12_tries_153 ⟨_, rfl, rfl, ?_, ?_⟩
              · first | exact fun _ _ _ => rfl | exact fun q z h => by repeat (rw [u2_at, if_neg (fun e => h ⟨e.1, by have := e.2; omega, by have := e.2; omega⟩)])
              · rw [hv, ← hGr]; first | exact triedP_n (by intro q; unfold betterP areaP at q; rcases q with q | ⟨q1, q2, q3 | ⟨q4, q5⟩⟩ <;> first | omega | exact h109 q5) | exact triedP_y (by first | exact Or.inl (by omega) | exact Or.inr ⟨by omega, by omega, Or.inl (by unfold areaP; omega)⟩ | exact Or.inr ⟨by omega, by omega, Or.inr ⟨by unfold areaP; omega, h109⟩⟩)
            · skip
              refine x_aload_n C 0 dX12_tries_98 rfl rfl ?_
              refine x_iload_n C 3 dX12_tries_99 rfl rfl ?_
              refine x_iload C 4 dX12_tries_100 rfl ?_
              refine x_iload C 5 dX12_tries_102 rfl ?_
              refine x_iload C 6 dX12_tries_104 rfl ?_
              refine x_runU (r_callV C ok_Model 42 (lt67 hn rfl) rfl (ce_X12_isAhead) (m_X12_isAhead G n V R (a) (b) (s) (t) hn hLR (by first | assumption | omega | decide) (by first | assumption | omega | decide) (by first | assumption | omega | decide) (by first | assumption | omega | decide)) rfl dX12_tries_106 q_34_23 q_35_0 q_35_1 rfl rfl ⟨Nat.le_of_ble_eq_true rfl, Nat.le_of_ble_eq_true rfl⟩ ⟨rfl, rfl⟩ ⟨Nat.le_of_ble_eq_true rfl, Nat.le_of_ble_eq_true rfl⟩ (Nat.le_of_ble_eq_true rfl)) (fun v106 u106 hp106 => ?_)
              obtain ⟨rfl, rfl⟩ := hp106
              show Xw K G 0 0 _ n V R 109 [(0, .ref (aG G 42)), (1, .int (iI y)), (2, .int (iI k)), (3, .int (iI a)), (4, .int (iI b)), (5, .int (iI s)), (6, .int (iI t)), (7, .int (iI Gr)), (8, .int (iI (((b - a) + 1) * ((t - s) + 1)))), (9, .int (iI its))] [.int (iI (bI (lexP a b s t (V 42 24) (V 42 25) (V 42 26) (V 42 27))))]
              refine x_ifeq_b C dX12_tries_109 (tgt := 153) (by decide) (fun h109 => ?_) (fun h109 => ?_)
              · skip
                refine x_vret C dX12_tries_153 ⟨_, rfl, rfl, ?_, ?_⟩
                · first | exact fun _ _ _ => rfl | exact fun q z h => by repeat (rw [u2_at, if_neg (fun e => h ⟨e.1, by have := e.2; omega, by have := e.2; omega⟩)])
                · rw [hv, ← hGr]; first | exact triedP_n (by intro q; unfold betterP areaP at q; rcases q with q | ⟨q1, q2, q3 | ⟨q4, q5⟩⟩ <;> first | omega | exact h109 q5) | exact triedP_y (by first | exact Or.inl (by omega) | exact Or.inr ⟨by omega, by omega, Or.inl (by unfold areaP; omega)⟩ | exact Or.inr ⟨by omega, by omega, Or.inr ⟨by unfold areaP; omega, h109⟩⟩)
              · skip
                refine x_aload_n C 0 dX12_tries_112 rfl rfl ?_
                refine x_iload C 9 dX12_tries_113 rfl ?_
                refine x_puti C ok_Model 42 22 dX12_tries_115 (lt67 hn rfl) rfl (by decide) rfl q_33_14 rfl rfl (Or.inl rfl) (by first | assumption | (constructor <;> omega)) (kz := 22) rfl ?_
                refine x_aload_n C 0 dX12_tries_118 rfl rfl ?_
                refine x_iload C 8 dX12_tries_119 rfl ?_
                refine x_puti C ok_Model 42 23 dX12_tries_121 (lt67 hn rfl) rfl (by decide) rfl q_34_15 rfl rfl (Or.inl rfl) (by first | assumption | (constructor <;> omega)) (kz := 23) rfl ?_
                refine x_aload_n C 0 dX12_tries_124 rfl rfl ?_
                refine x_iload_n C 3 dX12_tries_125 rfl rfl ?_
                refine x_puti C ok_Model 42 24 dX12_tries_126 (lt67 hn rfl) rfl (by decide) rfl q_33_15 rfl rfl (Or.inl rfl) (by first | assumption | (constructor <;> omega)) (kz := 24) rfl ?_
                refine x_aload_n C 0 dX12_tries_129 rfl rfl ?_
                refine x_iload C 4 dX12_tries_130 rfl ?_
                refine x_puti C ok_Model 42 25 dX12_tries_132 (lt67 hn rfl) rfl (by decide) rfl q_33_16 rfl rfl (Or.inl rfl) (by first | assumption | (constructor <;> omega)) (kz := 25) rfl ?_
                refine x_aload_n C 0 dX12_tries_135 rfl rfl ?_
                refine x_iload C 5 dX12_tries_136 rfl ?_
                refine x_puti C ok_Model 42 26 dX12_tries_138 (lt67 hn rfl) rfl (by decide) rfl q_33_17 rfl rfl (Or.inl rfl) (by first | assumption | (constructor <;> omega)) (kz := 26) rfl ?_
                refine x_aload_n C 0 dX12_tries_141 rfl rfl ?_
                refine x_iload C 6 dX12_tries_142 rfl ?_
                refine x_puti C ok_Model 42 27 dX12_tries_144 (lt67 hn rfl) rfl (by decide) rfl q_33_18 rfl rfl (Or.inl rfl) (by first | assumption | (constructor <;> omega)) (kz := 27) rfl ?_
                refine x_aload_n C 0 dX12_tries_147 rfl rfl ?_
                refine x_iload C 7 dX12_tries_148 rfl ?_
                refine x_puti C ok_Model 42 28 dX12_tries_150 (lt67 hn rfl) rfl (by decide) rfl q_33_19 rfl rfl (Or.inl rfl) (by first | assumption | (constructor <;> omega)) (kz := 28) rfl ?_
                refine x_vret C dX12_tries_153 ⟨_, rfl, rfl, ?_, ?_⟩
                · first | exact fun _ _ _ => rfl | exact fun q z h => by repeat (rw [u2_at, if_neg (fun e => h ⟨e.1, by have := e.2; omega, by have := e.2; omega⟩)])
                · rw [hv, ← hGr]; first | exact triedP_n (by intro q; unfold betterP areaP at q; rcases q with q | ⟨q1, q2, q3 | ⟨q4, q5⟩⟩ <;> first | omega | exact h109 q5) | exact triedP_y (by first | exact Or.inl (by omega) | exact Or.inr ⟨by omega, by omega, Or.inl (by unfold areaP; omega)⟩ | exact Or.inr ⟨by omega, by omega, Or.inr ⟨by unfold areaP; omega, h109⟩⟩)
  · skip
    refine x_iconst C dX12_tries_37 ?_
    refine x_goto C dX12_tries_38 (tgt := 55) (by decide) ?_
    refine x_nm (fun its h_its => ?_)
    have hv : wP f m g (V 44) y k a b s t = its := by rw [h_its]; unfold wP; rw [← hGr]; first | rw [if_pos h34] | rw [if_neg h34]
    have hib : 0 ≤ its ∧ its ≤ 38016 := by omega
    clear h_its
    refine x_istore C dX12_tries_55 (by decide) (lv' := [(0, .ref (aG G 42)), (1, .int (iI y)), (2, .int (iI k)), (3, .int (iI a)), (4, .int (iI b)), (5, .int (iI s)), (6, .int (iI t)), (7, .int (iI Gr)), (8, .int (iI (((b - a) + 1) * ((t - s) + 1)))), (9, .int (iI its))]) rfl ?_
    refine x_iload C 9 dX12_tries_57 rfl ?_
    refine x_aload_n C 0 dX12_tries_59 rfl rfl ?_
    refine x_geti C ok_Model 42 22 dX12_tries_60 (lt67 hn rfl) rfl (by decide) rfl q_33_14 rfl (kz := 22) rfl (fun rg60 => ?_)
    refine x_icmp_gt C dX12_tries_63 (tgt := 112) (by decide) (by first | assumption | (constructor <;> omega)) (by first | assumption | (constructor <;> omega)) (fun h63 => ?_) (fun h63 => ?_)
    · skip
      refine x_aload_n C 0 dX12_tries_112 rfl rfl ?_
      refine x_iload C 9 dX12_tries_113 rfl ?_
      refine x_puti C ok_Model 42 22 dX12_tries_115 (lt67 hn rfl) rfl (by decide) rfl q_33_14 rfl rfl (Or.inl rfl) (by first | assumption | (constructor <;> omega)) (kz := 22) rfl ?_
      refine x_aload_n C 0 dX12_tries_118 rfl rfl ?_
      refine x_iload C 8 dX12_tries_119 rfl ?_
      refine x_puti C ok_Model 42 23 dX12_tries_121 (lt67 hn rfl) rfl (by decide) rfl q_34_15 rfl rfl (Or.inl rfl) (by first | assumption | (constructor <;> omega)) (kz := 23) rfl ?_
      refine x_aload_n C 0 dX12_tries_124 rfl rfl ?_
      refine x_iload_n C 3 dX12_tries_125 rfl rfl ?_
      refine x_puti C ok_Model 42 24 dX12_tries_126 (lt67 hn rfl) rfl (by decide) rfl q_33_15 rfl rfl (Or.inl rfl) (by first | assumption | (constructor <;> omega)) (kz := 24) rfl ?_
      refine x_aload_n C 0 dX12_tries_129 rfl rfl ?_
      refine x_iload C 4 dX12_tries_130 rfl ?_
      refine x_puti C ok_Model 42 25 dX12_tries_132 (lt67 hn rfl) rfl (by decide) rfl q_33_16 rfl rfl (Or.inl rfl) (by first | assumption | (constructor <;> omega)) (kz := 25) rfl ?_
      refine x_aload_n C 0 dX12_tries_135 rfl rfl ?_
      refine x_iload C 5 dX12_tries_136 rfl ?_
      refine x_puti C ok_Model 42 26 dX12_tries_138 (lt67 hn rfl) rfl (by decide) rfl q_33_17 rfl rfl (Or.inl rfl) (by first | assumption | (constructor <;> omega)) (kz := 26) rfl ?_
      refine x_aload_n C 0 dX12_tries_141 rfl rfl ?_
      refine x_iload C 6 dX12_tries_142 rfl ?_
      refine x_puti C ok_Model 42 27 dX12_tries_144 (lt67 hn rfl) rfl (by decide) rfl q_33_18 rfl rfl (Or.inl rfl) (by first | assumption | (constructor <;> omega)) (kz := 27) rfl ?_
      refine x_aload_n C 0 dX12_tries_147 rfl rfl ?_
      refine x_iload C 7 dX12_tries_148 rfl ?_
      refine x_puti C ok_Model 42 28 dX12_tries_150 (lt67 hn rfl) rfl (by decide) rfl q_33_19 rfl rfl (Or.inl rfl) (by first | assumption | (constructor <;> omega)) (kz := 28) rfl ?_
      refine x_vret C dX12_tries_153 ⟨_, rfl, rfl, ?_, ?_⟩
      · first | exact fun _ _ _ => rfl | exact fun q z h => by repeat (rw [u2_at, if_neg (fun e => h ⟨e.1, by have := e.2; omega, by have := e.2; omega⟩)])
      · rw [hv, ← hGr]; first | exact triedP_n (by intro q; unfold betterP areaP at q; rcases q with q | ⟨q1, q2, q3 | ⟨q4, q5⟩⟩ <;> first | omega | exact h109 q5) | exact triedP_y (by first | exact Or.inl (by omega) | exact Or.inr ⟨by omega, by omega, Or.inl (by unfold areaP; omega)⟩ | exact Or.inr ⟨by omega, by omega, Or.inr ⟨by unfold areaP; omega, h109⟩⟩)
    · skip
      refine x_iload C 9 dX12_tries_66 rfl ?_
      refine x_if_le C dX12_tries_68 (tgt := 153) (by decide) (by first | assumption | (constructor <;> omega)) (fun h68 => ?_) (fun h68 => ?_)
      · skip
        refine x_vret C dX12_tries_153 ⟨_, rfl, rfl, ?_, ?_⟩
        · first | exact fun _ _ _ => rfl | exact fun q z h => by repeat (rw [u2_at, if_neg (fun e => h ⟨e.1, by have := e.2; omega, by have := e.2; omega⟩)])
        · rw [hv, ← hGr]; first | exact triedP_n (by intro q; unfold betterP areaP at q; rcases q with q | ⟨q1, q2, q3 | ⟨q4, q5⟩⟩ <;> first | omega | exact h109 q5) | exact triedP_y (by first | exact Or.inl (by omega) | exact Or.inr ⟨by omega, by omega, Or.inl (by unfold areaP; omega)⟩ | exact Or.inr ⟨by omega, by omega, Or.inr ⟨by unfold areaP; omega, h109⟩⟩)
      · skip
        refine x_iload C 9 dX12_tries_71 rfl ?_
        refine x_aload_n C 0 dX12_tries_73 rfl rfl ?_
        refine x_geti C ok_Model 42 22 dX12_tries_74 (lt67 hn rfl) rfl (by decide) rfl q_33_14 rfl (kz := 22) rfl (fun rg74 => ?_)
        refine x_icmp_ne C dX12_tries_77 (tgt := 153) (by decide) (by first | assumption | (constructor <;> omega)) (by first | assumption | (constructor <;> omega)) (fun h77 => ?_) (fun h77 => ?_)
        · skip
          refine x_vret C dX12_tries_153 ⟨_, rfl, rfl, ?_, ?_⟩
          · first | exact fun _ _ _ => rfl | exact fun q z h => by repeat (rw [u2_at, if_neg (fun e => h ⟨e.1, by have := e.2; omega, by have := e.2; omega⟩)])
          · rw [hv, ← hGr]; first | exact triedP_n (by intro q; unfold betterP areaP at q; rcases q with q | ⟨q1, q2, q3 | ⟨q4, q5⟩⟩ <;> first | omega | exact h109 q5) | exact triedP_y (by first | exact Or.inl (by omega) | exact Or.inr ⟨by omega, by omega, Or.inl (by unfold areaP; omega)⟩ | exact Or.inr ⟨by omega, by omega, Or.inr ⟨by unfold areaP; omega, h109⟩⟩)
        · skip
          refine x_iload C 8 dX12_tries_80 rfl ?_
          refine x_aload_n C 0 dX12_tries_82 rfl rfl ?_
          refine x_geti C ok_Model 42 23 dX12_tries_83 (lt67 hn rfl) rfl (by decide) rfl q_34_15 rfl (kz := 23) rfl (fun rg83 => ?_)
          refine x_icmp_gt C dX12_tries_86 (tgt := 112) (by decide) (by first | assumption | (constructor <;> omega)) (by first | assumption | (constructor <;> omega)) (fun h86 => ?_) (fun h86 => ?_)
          · skip
            refine x_aload_n C 0 dX12_tries_112 rfl rfl ?_
            refine x_iload C 9 dX12_tries_113 rfl ?_
            refine x_puti C ok_Model 42 22 dX12_tries_115 (lt67 hn rfl) rfl (by decide) rfl q_33_14 rfl rfl (Or.inl rfl) (by first | assumption | (constructor <;> omega)) (kz := 22) rfl ?_
            refine x_aload_n C 0 dX12_tries_118 rfl rfl ?_
            refine x_iload C 8 dX12_tries_119 rfl ?_
            refine x_puti C ok_Model 42 23 dX12_tries_121 (lt67 hn rfl) rfl (by decide) rfl q_34_15 rfl rfl (Or.inl rfl) (by first | assumption | (constructor <;> omega)) (kz := 23) rfl ?_
            refine x_aload_n C 0 dX12_tries_124 rfl rfl ?_
            refine x_iload_n C 3 dX12_tries_125 rfl rfl ?_
            refine x_puti C ok_Model 42 24 dX12_tries_126 (lt67 hn rfl) rfl (by decide) rfl q_33_15 rfl rfl (Or.inl rfl) (by first | assumption | (constructor <;> omega)) (kz := 24) rfl ?_
            refine x_aload_n C 0 dX12_tries_129 rfl rfl ?_
            refine x_iload C 4 dX12_tries_130 rfl ?_
            refine x_puti C ok_Model 42 25 dX12_tries_132 (lt67 hn rfl) rfl (by decide) rfl q_33_16 rfl rfl (Or.inl rfl) (by first | assumption | (constructor <;> omega)) (kz := 25) rfl ?_
            refine x_aload_n C 0 dX12_tries_135 rfl rfl ?_
            refine x_iload C 5 dX12_tries_136 rfl ?_
            refine x_puti C ok_Model 42 26 dX12_tries_138 (lt67 hn rfl) rfl (by decide) rfl q_33_17 rfl rfl (Or.inl rfl) (by first | assumption | (constructor <;> omega)) (kz := 26) rfl ?_
            refine x_aload_n C 0 dX12_tries_141 rfl rfl ?_
            refine x_iload C 6 dX12_tries_142 rfl ?_
            refine x_puti C ok_Model 42 27 dX12_tries_144 (lt67 hn rfl) rfl (by decide) rfl q_33_18 rfl rfl (Or.inl rfl) (by first | assumption | (constructor <;> omega)) (kz := 27) rfl ?_
            refine x_aload_n C 0 dX12_tries_147 rfl rfl ?_
            refine x_iload C 7 dX12_tries_148 rfl ?_
            refine x_puti C ok_Model 42 28 dX12_tries_150 (lt67 hn rfl) rfl (by decide) rfl q_33_19 rfl rfl (Or.inl rfl) (by first | assumption | (constructor <;> omega)) (kz := 28) rfl ?_
            refine x_vret C dX12_tries_153 ⟨_, rfl, rfl, ?_, ?_⟩
            · first | exact fun _ _ _ => rfl | exact fun q z h => by repeat (rw [u2_at, if_neg (fun e => h ⟨e.1, by have := e.2; omega, by have := e.2; omega⟩)])
            · rw [hv, ← hGr]; first | exact triedP_n (by intro q; unfold betterP areaP at q; rcases q with q | ⟨q1, q2, q3 | ⟨q4, q5⟩⟩ <;> first | omega | exact h109 q5) | exact triedP_y (by first | exact Or.inl (by omega) | exact Or.inr ⟨by omega, by omega, Or.inl (by unfold areaP; omega)⟩ | exact Or.inr ⟨by omega, by omega, Or.inr ⟨by unfold areaP; omega, h109⟩⟩)
          · skip
            refine x_iload C 8 dX12_tries_89 rfl ?_
            refine x_aload_n C 0 dX12_tries_91 rfl rfl ?_
            refine x_geti C ok_Model 42 23 dX12_tries_92 (lt67 hn rfl) rfl (by decide) rfl q_34_15 rfl (kz := 23) rfl (fun rg92 => ?_)
            refine x_icmp_ne C dX12_tries_95 (tgt := 153) (by decide) (by first | assumption | (constructor <;> omega)) (by first | assumption | (constructor <;> omega)) (fun h95 => ?_) (fun h95 => ?_)
            · skip
              refine x_vret C dX12_tries_153 ⟨_, rfl, rfl, ?_, ?_⟩
              · first | exact fun _ _ _ => rfl | exact fun q z h => by repeat (rw [u2_at, if_neg (fun e => h ⟨e.1, by have := e.2; omega, by have := e.2; omega⟩)])
              · rw [hv, ← hGr]; first | exact triedP_n (by intro q; unfold betterP areaP at q; rcases q with q | ⟨q1, q2, q3 | ⟨q4, q5⟩⟩ <;> first | omega | exact h109 q5) | exact triedP_y (by first | exact Or.inl (by omega) | exact Or.inr ⟨by omega, by omega, Or.inl (by unfold areaP; omega)⟩ | exact Or.inr ⟨by omega, by omega, Or.inr ⟨by unfold areaP; omega, h109⟩⟩)
            · skip
              refine x_aload_n C 0 dX12_tries_98 rfl rfl ?_
              refine x_iload_n C 3 dX12_tries_99 rfl rfl ?_
              refine x_iload C 4 dX12_tries_100 rfl ?_
              refine x_iload C 5 dX12_tries_102 rfl ?_
              refine x_iload C 6 dX12_tries_104 rfl ?_
              refine x_runU (r_callV C ok_Model 42 (lt67 hn rfl) rfl (ce_X12_isAhead) (m_X12_isAhead G n V R (a) (b) (s) (t) hn hLR (by first | assumption | omega | decide) (by first | assumption | omega | decide) (by first | assumption | omega | decide) (by first | assumption | omega | decide)) rfl dX12_tries_106 q_34_23 q_35_0 q_35_1 rfl rfl ⟨Nat.le_of_ble_eq_true rfl, Nat.le_of_ble_eq_true rfl⟩ ⟨rfl, rfl⟩ ⟨Nat.le_of_ble_eq_true rfl, Nat.le_of_ble_eq_true rfl⟩ (Nat.le_of_ble_eq_true rfl)) (fun v106 u106 hp106 => ?_)
              obtain ⟨rfl, rfl⟩ := hp106
              show Xw K G 0 0 _ n V R 109 [(0, .ref (aG G 42)), (1, .int (iI y)), (2, .int (iI k)), (3, .int (iI a)), (4, .int (iI b)), (5, .int (iI s)), (6, .int (iI t)), (7, .int (iI Gr)), (8, .int (iI (((b - a) + 1) * ((t - s) + 1)))), (9, .int (iI its))] [.int (iI (bI (lexP a b s t (V 42 24) (V 42 25) (V 42 26) (V 42 27))))]
              refine x_ifeq_b C dX12_tries_109 (tgt := 153) (by decide) (fun h109 => ?_) (fun h109 => ?_)
              · skip
                refine x_vret C dX12_tries_153 ⟨_, rfl, rfl, ?_, ?_⟩
                · first | exact fun _ _ _ => rfl | exact fun q z h => by repeat (rw [u2_at, if_neg (fun e => h ⟨e.1, by have := e.2; omega, by have := e.2; omega⟩)])
                · rw [hv, ← hGr]; first | exact triedP_n (by intro q; unfold betterP areaP at q; rcases q with q | ⟨q1, q2, q3 | ⟨q4, q5⟩⟩ <;> first | omega | exact h109 q5) | exact triedP_y (by first | exact Or.inl (by omega) | exact Or.inr ⟨by omega, by omega, Or.inl (by unfold areaP; omega)⟩ | exact Or.inr ⟨by omega, by omega, Or.inr ⟨by unfold areaP; omega, h109⟩⟩)
              · skip
                refine x_aload_n C 0 dX12_tries_112 rfl rfl ?_
                refine x_iload C 9 dX12_tries_113 rfl ?_
                refine x_puti C ok_Model 42 22 dX12_tries_115 (lt67 hn rfl) rfl (by decide) rfl q_33_14 rfl rfl (Or.inl rfl) (by first | assumption | (constructor <;> omega)) (kz := 22) rfl ?_
                refine x_aload_n C 0 dX12_tries_118 rfl rfl ?_
                refine x_iload C 8 dX12_tries_119 rfl ?_
                refine x_puti C ok_Model 42 23 dX12_tries_121 (lt67 hn rfl) rfl (by decide) rfl q_34_15 rfl rfl (Or.inl rfl) (by first | assumption | (constructor <;> omega)) (kz := 23) rfl ?_
                refine x_aload_n C 0 dX12_tries_124 rfl rfl ?_
                refine x_iload_n C 3 dX12_tries_125 rfl rfl ?_
                refine x_puti C ok_Model 42 24 dX12_tries_126 (lt67 hn rfl) rfl (by decide) rfl q_33_15 rfl rfl (Or.inl rfl) (by first | assumption | (constructor <;> omega)) (kz := 24) rfl ?_
                refine x_aload_n C 0 dX12_tries_129 rfl rfl ?_
                refine x_iload C 4 dX12_tries_130 rfl ?_
                refine x_puti C ok_Model 42 25 dX12_tries_132 (lt67 hn rfl) rfl (by decide) rfl q_33_16 rfl rfl (Or.inl rfl) (by first | assumption | (constructor <;> omega)) (kz := 25) rfl ?_
                refine x_aload_n C 0 dX12_tries_135 rfl rfl ?_
                refine x_iload C 5 dX12_tries_136 rfl ?_
                refine x_puti C ok_Model 42 26 dX12_tries_138 (lt67 hn rfl) rfl (by decide) rfl q_33_17 rfl rfl (Or.inl rfl) (by first | assumption | (constructor <;> omega)) (kz := 26) rfl ?_
                refine x_aload_n C 0 dX12_tries_141 rfl rfl ?_
                refine x_iload C 6 dX12_tries_142 rfl ?_
                refine x_puti C ok_Model 42 27 dX12_tries_144 (lt67 hn rfl) rfl (by decide) rfl q_33_18 rfl rfl (Or.inl rfl) (by first | assumption | (constructor <;> omega)) (kz := 27) rfl ?_
                refine x_aload_n C 0 dX12_tries_147 rfl rfl ?_
                refine x_iload C 7 dX12_tries_148 rfl ?_
                refine x_puti C ok_Model 42 28 dX12_tries_150 (lt67 hn rfl) rfl (by decide) rfl q_33_19 rfl rfl (Or.inl rfl) (by first | assumption | (constructor <;> omega)) (kz := 28) rfl ?_
                refine x_vret C dX12_tries_153 ⟨_, rfl, rfl, ?_, ?_⟩
                · first | exact fun _ _ _ => rfl | exact fun q z h => by repeat (rw [u2_at, if_neg (fun e => h ⟨e.1, by have := e.2; omega, by have := e.2; omega⟩)])
                · rw [hv, ← hGr]; first | exact triedP_n (by intro q; unfold betterP areaP at q; rcases q with q | ⟨q1, q2, q3 | ⟨q4, q5⟩⟩ <;> first | omega | exact h109 q5) | exact triedP_y (by first | exact Or.inl (by omega) | exact Or.inr ⟨by omega, by omega, Or.inl (by unfold areaP; omega)⟩ | exact Or.inr ⟨by omega, by omega, Or.inr ⟨by unfold areaP; omega, h109⟩⟩)
set_option maxRecDepth 100000 in
set_option maxHeartbeats 4000000 in
theorem m_X12_finds (G : GS) (n : Nat) (V : Nat → Int → Int) (R : Nat → Int → Option Nat) (f : Int → Int → Int) (m : Int) (g : Int) (y : Int) (k : Int) (hn : 67 ≤ n) (hLR : LR R) (hy : 0 ≤ y) (hk : 1 ≤ k ∧ k ≤ 4 ∧ y + k ≤ 12) (h1 : 0 ≤ V 42 0 ∧ V 42 0 ≤ 6) (h2 : 0 ≤ V 42 1 ∧ V 42 1 ≤ 4) (hL : 1 ≤ V 42 2 ∧ V 42 2 ≤ 8) (hS : sumsR V f m g (12 * V 42 2)) (hpr : ∀ z, 2 ≤ z → z ≤ 5 → 0 ≤ V 44 z ∧ V 44 z ≤ 99) (hsv : 0 ≤ V 44 1 ∧ V 44 1 ≤ 1) : Cn G yX12_finds cX12_finds 8 none (rmk 4 0 0 104) [.ref (aG G 42), .int (iI y), .int (iI k)] n V R 0 0 (fun vv uu => ∃ (V1 : Nat → Int → Int), vv = none ∧ uu = (n, V1, R) ∧ (∀ q z, ¬ (q = 42 ∧ 22 ≤ z ∧ z ≤ 28) → V1 q z = V q z) ∧ (BMem V1 (grP f m g y k) (wP f m g (V 44) y k) (CandP (fun t => fcS (V 42 0) (V 42 1) y k t) (V 42 2) (V 44 1)))) := by
  refine Cn.of (by decide) (Nat.le_of_ble_eq_true rfl) (fun K C hct => ?_)
  show Xw K G 0 0 _ n V R 0 [(0, .ref (aG G 42)), (1, .int (iI y)), (2, .int (iI k))] []
  obtain ⟨F0, hF0⟩ : ∃ F0, F0 = fcS (V 42 0) (V 42 1) y k (V 42 2 - 1) := ⟨_, rfl⟩
  have hF0b : 0 ≤ F0 ∧ F0 ≤ 6 := by rw [hF0]; exact fcS_b _ _ _ _ _
  refine x_aload_n C 0 dX12_finds_0 rfl rfl ?_
  refine x_iconst C dX12_finds_1 ?_
  refine x_puti C ok_Model 42 22 dX12_finds_2 (lt67 hn rfl) rfl (by decide) rfl q_33_14 rfl rfl (Or.inl rfl) (by first | assumption | (constructor <;> omega)) (kz := 22) rfl ?_
  refine x_aload_n C 0 dX12_finds_5 rfl rfl ?_
  refine x_geti C ok_Model 42 2 dX12_finds_6 (lt67 hn rfl) rfl (by decide) rfl q_6_12 rfl (kz := 2) rfl (fun rg6 => ?_)
  refine x_top (b := (V 42 2)) (by first | rfl | (simp only [u2_at]; simp) | (simp only [u2_at]; first | (rw [if_neg (by omega)]) | omega)) ?_
  refine x_iconst C dX12_finds_9 ?_
  refine x_isub C dX12_finds_10 ?_
  refine x_istore_n C dX12_finds_11 rfl (by decide) (lv' := [(0, .ref (aG G 42)), (1, .int (iI y)), (2, .int (iI k)), (3, .int (iI ((V 42 2) - 1)))]) rfl ?_
  refine x_aload_n C 0 dX12_finds_12 rfl rfl ?_
  refine x_iload_n C 1 dX12_finds_13 rfl rfl ?_
  refine x_iload_n C 2 dX12_finds_14 rfl rfl ?_
  refine x_iload_n C 3 dX12_finds_15 rfl rfl ?_
  refine x_runU (r_callV C ok_Model 42 (lt67 hn rfl) rfl (ce_X12_begins) (m_X12_begins G n (u2 V 42 22 0) R (y) (k) ((V 42 2) - 1) hn hLR (by first | assumption | omega | decide) (by first | assumption | omega | decide) (by first | assumption | omega | decide) (by simp [u2_at]; omega) (by simp [u2_at]; omega)) rfl dX12_finds_16 q_34_7 q_34_8 q_34_9 rfl rfl ⟨Nat.le_of_ble_eq_true rfl, Nat.le_of_ble_eq_true rfl⟩ ⟨rfl, rfl⟩ ⟨Nat.le_of_ble_eq_true rfl, Nat.le_of_ble_eq_true rfl⟩ (Nat.le_of_ble_eq_true rfl)) (fun v16 u16 hp16 => ?_)
  obtain ⟨rfl, rfl⟩ := hp16
  show Xw K G 0 0 _ n (u2 V 42 22 0) R 19 [(0, .ref (aG G 42)), (1, .int (iI y)), (2, .int (iI k)), (3, .int (iI ((V 42 2) - 1)))] [.int (iI (fcS ((u2 V 42 22 0) 42 0) ((u2 V 42 22 0) 42 1) y k ((V 42 2) - 1)))]
  refine x_top (b := F0) (by rw [hF0]; simp [u2_at]) ?_
  have lp_122 : ∀ (fuel : Nat) (x : Int) (V4 : Nat → Int → Int), (F0 ≤ x ∧ x ≤ 12) → (∀ q z, ¬ (q = 42 ∧ 22 ≤ z ∧ z ≤ 28) → V4 q z = V q z) → (BMem V4 (grP f m g y k) (wP f m g (V 44) y k) (fun a b s t => (F0 < 6 ∧ a = F0 ∧ b = 11 - F0 ∧ s = 0 ∧ t = V 42 2 - 1) ∨ (V 44 1 = 1 ∧ 0 ≤ s ∧ s ≤ t ∧ t < V 42 2 ∧ (fcS (V 42 0) (V 42 1) y k t) < 6 ∧ a = (fcS (V 42 0) (V 42 1) y k t) ∧ b = 11 - (fcS (V 42 0) (V 42 1) y k t)) ∨ (V 44 1 = 1 ∧ s = 0 ∧ t = V 42 2 - 1 ∧ F0 ≤ a ∧ a < x ∧ a ≤ b ∧ b ≤ 11 - F0))) → ((12 : Int) - x) < (fuel : Int) → Xw K G 0 0 (EndQ K G 0 0 (fun vv uu => ∃ (V1 : Nat → Int → Int), vv = none ∧ uu = (n, V1, R) ∧ (∀ q z, ¬ (q = 42 ∧ 22 ≤ z ∧ z ≤ 28) → V1 q z = V q z) ∧ (BMem V1 (grP f m g y k) (wP f m g (V 44) y k) (CandP (fun t => fcS (V 42 0) (V 42 1) y k t) (V 42 2) (V 44 1))))) n V4 R 122 [(0, .ref (aG G 42)), (1, .int (iI y)), (2, .int (iI k)), (3, .int (iI (V 42 2 - 1))), (4, .int (iI F0)), (5, .int (iI x))] [] := by
    intro fuel122
    induction fuel122 with
    | zero => intro x V4 hx hfrV4 hB hfu122; exfalso; omega
    | succ fuel122 ih122 =>
      intro x V4 hx hfrV4 hB hfu122
      have e42V4 : ∀ z, z < 22 → V4 42 z = V 42 z := fun z h => hfrV4 42 z (by omega)
      have e422V4 := e42V4 2 (by decide)
      have e44V4 : V4 44 = V 44 := funext fun z => hfrV4 44 z (by omega)
      have e441V4 : V4 44 1 = V 44 1 := by rw [e44V4]
      have hSV4 : sumsR V4 f m g (12 * V4 42 2) := by rw [e422V4]; exact sumsR_k hS (fun i _ => hfrV4 50 i (by omega)) (fun i _ => hfrV4 51 i (by omega))
      have hprV4 : ∀ z, 2 ≤ z → z ≤ 5 → 0 ≤ V4 44 z ∧ V4 44 z ≤ 99 := by rw [e44V4]; exact hpr
      have e420V4 := e42V4 0 (by decide)
      have e421V4 := e42V4 1 (by decide)
      have r0V4 : 0 ≤ V4 42 0 ∧ V4 42 0 ≤ 6 := by omega
      have r1V4 : 0 ≤ V4 42 1 ∧ V4 42 1 ≤ 4 := by omega
      refine x_iload C 5 dX12_finds_122 rfl ?_
      refine x_bipush C dX12_finds_124 (w := 11) (by decide) ?_
      refine x_iload C 4 dX12_finds_126 rfl ?_
      refine x_isub C dX12_finds_128 ?_
      refine x_icmp_gt C dX12_finds_129 (tgt := 180) (by decide) (by first | assumption | (constructor <;> omega)) (by first | assumption | (constructor <;> omega)) (fun h129 => ?_) (fun h129 => ?_)
      · skip
        refine x_vret C dX12_finds_180 ⟨_, rfl, rfl, ?_, ?_⟩
        · exact hfrV4
        · exact hB.mono (fun a b s t => oc3 (by dsimp only; rw [← hF0]) (by dsimp only; omega) (by dsimp only; rw [← hF0]; omega))
      · skip
        refine x_aload_n C 0 dX12_finds_132 rfl rfl ?_
        refine x_getr C ok_Model 42 6 (d := 44) dX12_finds_133 (lt67 hn rfl) rfl (by decide) rfl q_4_2 rfl (kz := 6) rfl (lr_42_6 hLR) ?_
        refine x_iconst C dX12_finds_136 ?_
        refine x_iald C 44 dX12_finds_137 (lt67 hn rfl) rfl (by refine ⟨?_, ?_⟩ <;> omega) (fun rg137 => ?_)
        refine x_iconst C dX12_finds_138 ?_
        refine x_icmp_ne C dX12_finds_139 (tgt := 180) (by decide) (by first | assumption | (constructor <;> omega)) (by first | assumption | (constructor <;> omega)) (fun h139 => ?_) (fun h139 => ?_)
        · skip
          refine x_vret C dX12_finds_180 ⟨_, rfl, rfl, ?_, ?_⟩
          · exact hfrV4
          · exact hB.mono (fun a b s t => oc3 (by dsimp only; rw [← hF0]) (by dsimp only; omega) (by dsimp only; rw [← hF0]; omega))
        · skip
          refine x_iload C 5 dX12_finds_142 rfl ?_
          refine x_istore C dX12_finds_144 (by decide) (lv' := [(0, .ref (aG G 42)), (1, .int (iI y)), (2, .int (iI k)), (3, .int (iI (V 42 2 - 1))), (4, .int (iI F0)), (5, .int (iI x)), (6, .int (iI x))]) rfl ?_
          have lp_146 : ∀ (fuel : Nat) (w : Int) (V5 : Nat → Int → Int), (x ≤ w ∧ w ≤ 12 - F0) → (∀ q z, ¬ (q = 42 ∧ 22 ≤ z ∧ z ≤ 28) → V5 q z = V q z) → (BMem V5 (grP f m g y k) (wP f m g (V 44) y k) (fun a b s t => (F0 < 6 ∧ a = F0 ∧ b = 11 - F0 ∧ s = 0 ∧ t = V 42 2 - 1) ∨ (V 44 1 = 1 ∧ 0 ≤ s ∧ s ≤ t ∧ t < V 42 2 ∧ (fcS (V 42 0) (V 42 1) y k t) < 6 ∧ a = (fcS (V 42 0) (V 42 1) y k t) ∧ b = 11 - (fcS (V 42 0) (V 42 1) y k t)) ∨ (V 44 1 = 1 ∧ s = 0 ∧ t = V 42 2 - 1 ∧ F0 ≤ a ∧ a < x ∧ a ≤ b ∧ b ≤ 11 - F0) ∨ (V 44 1 = 1 ∧ s = 0 ∧ t = V 42 2 - 1 ∧ a = x ∧ a ≤ b ∧ b < w))) → ((12 : Int) - w) < (fuel : Int) → Xw K G 0 0 (EndQ K G 0 0 (fun vv uu => ∃ (V1 : Nat → Int → Int), vv = none ∧ uu = (n, V1, R) ∧ (∀ q z, ¬ (q = 42 ∧ 22 ≤ z ∧ z ≤ 28) → V1 q z = V q z) ∧ (BMem V1 (grP f m g y k) (wP f m g (V 44) y k) (CandP (fun t => fcS (V 42 0) (V 42 1) y k t) (V 42 2) (V 44 1))))) n V5 R 146 [(0, .ref (aG G 42)), (1, .int (iI y)), (2, .int (iI k)), (3, .int (iI (V 42 2 - 1))), (4, .int (iI F0)), (5, .int (iI x)), (6, .int (iI w))] [] := by
            intro fuel146
            induction fuel146 with
            | zero => intro w V5 hw hfrV5 hB4 hfu146; exfalso; omega
            | succ fuel146 ih146 =>
              intro w V5 hw hfrV5 hB4 hfu146
              have e42V5 : ∀ z, z < 22 → V5 42 z = V 42 z := fun z h => hfrV5 42 z (by omega)
              have e422V5 := e42V5 2 (by decide)
              have e44V5 : V5 44 = V 44 := funext fun z => hfrV5 44 z (by omega)
              have e441V5 : V5 44 1 = V 44 1 := by rw [e44V5]
              have hSV5 : sumsR V5 f m g (12 * V5 42 2) := by rw [e422V5]; exact sumsR_k hS (fun i _ => hfrV5 50 i (by omega)) (fun i _ => hfrV5 51 i (by omega))
              have hprV5 : ∀ z, 2 ≤ z → z ≤ 5 → 0 ≤ V5 44 z ∧ V5 44 z ≤ 99 := by rw [e44V5]; exact hpr
              have e420V5 := e42V5 0 (by decide)
              have e421V5 := e42V5 1 (by decide)
              have r0V5 : 0 ≤ V5 42 0 ∧ V5 42 0 ≤ 6 := by omega
              have r1V5 : 0 ≤ V5 42 1 ∧ V5 42 1 ≤ 4 := by omega
              refine x_iload C 6 dX12_finds_146 rfl ?_
              refine x_bipush C dX12_finds_148 (w := 11) (by decide) ?_
              refine x_iload C 4 dX12_finds_150 rfl ?_
              refine x_isub C dX12_finds_152 ?_
              refine x_icmp_gt C dX12_finds_153 (tgt := 174) (by decide) (by first | assumption | (constructor <;> omega)) (by first | assumption | (constructor <;> omega)) (fun h153 => ?_) (fun h153 => ?_)
              · skip
                refine x_iinc C 5 dX12_finds_174 rfl (by decide) (lv' := [(0, .ref (aG G 42)), (1, .int (iI y)), (2, .int (iI k)), (3, .int (iI (V 42 2 - 1))), (4, .int (iI F0)), (5, .int (iI (x + 1))), (6, .int (iI w))]) rfl ?_
                refine x_goto C dX12_finds_177 (tgt := 122) (by decide) ?_
                refine x_sub [0, 1, 2, 3, 4, 5] (lv' := [(0, .ref (aG G 42)), (1, .int (iI y)), (2, .int (iI k)), (3, .int (iI (V 42 2 - 1))), (4, .int (iI F0)), (5, .int (iI (x + 1)))]) rfl ?_
                exact ih122 ((x + 1)) (V5) (by omega) (by exact hfrV5) (by exact hB4.mono (fun a b s t => oj3 (by omega))) (by omega)
              · skip
                refine x_aload_n C 0 dX12_finds_156 rfl rfl ?_
                refine x_iload_n C 1 dX12_finds_157 rfl rfl ?_
                refine x_iload_n C 2 dX12_finds_158 rfl rfl ?_
                refine x_iload C 5 dX12_finds_159 rfl ?_
                refine x_iload C 6 dX12_finds_161 rfl ?_
                refine x_iconst C dX12_finds_163 ?_
                refine x_iload_n C 3 dX12_finds_164 rfl rfl ?_
                refine x_runU (r_callV C ok_Model 42 (lt67 hn rfl) rfl (ce_X12_tries) (m_X12_tries G n V5 R (f) (m) (g) (y) (k) (x) (w) (0) (V 42 2 - 1) hn hLR (by first | assumption | omega | decide) (by first | assumption | omega | decide) (by first | assumption | omega | decide) (by first | assumption | omega | decide) (by first | assumption | omega | decide) (by first | assumption | omega | decide) (by first | assumption | omega | decide) (by first | assumption | omega | decide)) rfl dX12_finds_165 q_34_11 q_34_12 q_34_13 rfl rfl ⟨Nat.le_of_ble_eq_true rfl, Nat.le_of_ble_eq_true rfl⟩ ⟨rfl, rfl⟩ ⟨Nat.le_of_ble_eq_true rfl, Nat.le_of_ble_eq_true rfl⟩ (Nat.le_of_ble_eq_true rfl)) (fun v165 u165 hp165 => ?_)
                obtain ⟨Vt, rfl, rfl, hft, htt⟩ := hp165
                show Xw K G 0 0 _ n Vt R 168 [(0, .ref (aG G 42)), (1, .int (iI y)), (2, .int (iI k)), (3, .int (iI (V 42 2 - 1))), (4, .int (iI F0)), (5, .int (iI x)), (6, .int (iI w))] []
                have hfrVt : ∀ q z, ¬ (q = 42 ∧ 22 ≤ z ∧ z ≤ 28) → Vt q z = V q z := fun q z h => by rw [hft q z h]; exact hfrV5 q z h
                rw [e44V5] at htt
                refine x_iinc C 6 dX12_finds_168 rfl (by decide) (lv' := [(0, .ref (aG G 42)), (1, .int (iI y)), (2, .int (iI k)), (3, .int (iI (V 42 2 - 1))), (4, .int (iI F0)), (5, .int (iI x)), (6, .int (iI (w + 1)))]) rfl ?_
                refine x_goto C dX12_finds_171 (tgt := 146) (by decide) ?_
                exact ih146 ((w + 1)) (Vt) (by omega) (by exact hfrVt) (by exact (hB4.tried htt).mono (fun a b s t => or4_ (by omega))) (by omega)
          exact lp_146 (((12 : Int) - x).toNat + 1) (x) (V4) (by omega) (by exact hfrV4) (by exact hB.mono (fun a b s t => oz3 (by omega))) (by omega)
  have lp_46 : ∀ (fuel : Nat) (x : Int) (V2 : Nat → Int → Int), (0 ≤ x ∧ x ≤ V 42 2) → (∀ q z, ¬ (q = 42 ∧ 22 ≤ z ∧ z ≤ 28) → V2 q z = V q z) → (BMem V2 (grP f m g y k) (wP f m g (V 44) y k) (fun a b s t => (F0 < 6 ∧ a = F0 ∧ b = 11 - F0 ∧ s = 0 ∧ t = V 42 2 - 1) ∨ (V 44 1 = 1 ∧ 0 ≤ s ∧ s ≤ t ∧ t < x ∧ (fcS (V 42 0) (V 42 1) y k t) < 6 ∧ a = (fcS (V 42 0) (V 42 1) y k t) ∧ b = 11 - (fcS (V 42 0) (V 42 1) y k t)))) → (V 42 2 - x) < (fuel : Int) → Xw K G 0 0 (EndQ K G 0 0 (fun vv uu => ∃ (V1 : Nat → Int → Int), vv = none ∧ uu = (n, V1, R) ∧ (∀ q z, ¬ (q = 42 ∧ 22 ≤ z ∧ z ≤ 28) → V1 q z = V q z) ∧ (BMem V1 (grP f m g y k) (wP f m g (V 44) y k) (CandP (fun t => fcS (V 42 0) (V 42 1) y k t) (V 42 2) (V 44 1))))) n V2 R 46 [(0, .ref (aG G 42)), (1, .int (iI y)), (2, .int (iI k)), (3, .int (iI (V 42 2 - 1))), (4, .int (iI F0)), (5, .int (iI x))] [] := by
    intro fuel46
    induction fuel46 with
    | zero => intro x V2 hx hfrV2 hB1 hfu46; exfalso; omega
    | succ fuel46 ih46 =>
      intro x V2 hx hfrV2 hB1 hfu46
      have e42V2 : ∀ z, z < 22 → V2 42 z = V 42 z := fun z h => hfrV2 42 z (by omega)
      have e422V2 := e42V2 2 (by decide)
      have e44V2 : V2 44 = V 44 := funext fun z => hfrV2 44 z (by omega)
      have e441V2 : V2 44 1 = V 44 1 := by rw [e44V2]
      have hSV2 : sumsR V2 f m g (12 * V2 42 2) := by rw [e422V2]; exact sumsR_k hS (fun i _ => hfrV2 50 i (by omega)) (fun i _ => hfrV2 51 i (by omega))
      have hprV2 : ∀ z, 2 ≤ z → z ≤ 5 → 0 ≤ V2 44 z ∧ V2 44 z ≤ 99 := by rw [e44V2]; exact hpr
      have e420V2 := e42V2 0 (by decide)
      have e421V2 := e42V2 1 (by decide)
      have r0V2 : 0 ≤ V2 42 0 ∧ V2 42 0 ≤ 6 := by omega
      have r1V2 : 0 ≤ V2 42 1 ∧ V2 42 1 ≤ 4 := by omega
      refine x_iload C 5 dX12_finds_46 rfl ?_
      refine x_iload_n C 3 dX12_finds_48 rfl rfl ?_
      refine x_icmp_gt C dX12_finds_49 (tgt := 118) (by decide) (by first | assumption | (constructor <;> omega)) (by first | assumption | (constructor <;> omega)) (fun h49 => ?_) (fun h49 => ?_)
      · skip
        refine x_iload C 4 dX12_finds_118 rfl ?_
        refine x_istore C dX12_finds_120 (by decide) (lv' := [(0, .ref (aG G 42)), (1, .int (iI y)), (2, .int (iI k)), (3, .int (iI (V 42 2 - 1))), (4, .int (iI F0)), (5, .int (iI F0))]) rfl ?_
        exact lp_122 (((12 : Int) - F0).toNat + 1) (F0) (V2) (by omega) (by exact hfrV2) (by exact hB1.mono (fun a b s t => oe1 (by omega) (by omega))) (by omega)
      · skip
        refine x_aload_n C 0 dX12_finds_52 rfl rfl ?_
        refine x_getr C ok_Model 42 6 (d := 44) dX12_finds_53 (lt67 hn rfl) rfl (by decide) rfl q_4_2 rfl (kz := 6) rfl (lr_42_6 hLR) ?_
        refine x_iconst C dX12_finds_56 ?_
        refine x_iald C 44 dX12_finds_57 (lt67 hn rfl) rfl (by refine ⟨?_, ?_⟩ <;> omega) (fun rg57 => ?_)
        refine x_iconst C dX12_finds_58 ?_
        refine x_icmp_ne C dX12_finds_59 (tgt := 118) (by decide) (by first | assumption | (constructor <;> omega)) (by first | assumption | (constructor <;> omega)) (fun h59 => ?_) (fun h59 => ?_)
        · skip
          refine x_iload C 4 dX12_finds_118 rfl ?_
          refine x_istore C dX12_finds_120 (by decide) (lv' := [(0, .ref (aG G 42)), (1, .int (iI y)), (2, .int (iI k)), (3, .int (iI (V 42 2 - 1))), (4, .int (iI F0)), (5, .int (iI F0))]) rfl ?_
          exact lp_122 (((12 : Int) - F0).toNat + 1) (F0) (V2) (by omega) (by exact hfrV2) (by exact hB1.mono (fun a b s t => oe1 (by omega) (by omega))) (by omega)
        · skip
          obtain ⟨F1, hF1⟩ : ∃ F1, F1 = fcS (V 42 0) (V 42 1) y k x := ⟨_, rfl⟩
          have hF1b : 0 ≤ F1 ∧ F1 ≤ 6 := by rw [hF1]; exact fcS_b _ _ _ _ _
          refine x_aload_n C 0 dX12_finds_62 rfl rfl ?_
          refine x_iload_n C 1 dX12_finds_63 rfl rfl ?_
          refine x_iload_n C 2 dX12_finds_64 rfl rfl ?_
          refine x_iload C 5 dX12_finds_65 rfl ?_
          refine x_runU (r_callV C ok_Model 42 (lt67 hn rfl) rfl (ce_X12_begins) (m_X12_begins G n V2 R (y) (k) (x) hn hLR (by first | assumption | omega | decide) (by first | assumption | omega | decide) (by first | assumption | omega | decide) (by first | assumption | omega | decide) (by first | assumption | omega | decide)) rfl dX12_finds_67 q_34_7 q_34_8 q_34_9 rfl rfl ⟨Nat.le_of_ble_eq_true rfl, Nat.le_of_ble_eq_true rfl⟩ ⟨rfl, rfl⟩ ⟨Nat.le_of_ble_eq_true rfl, Nat.le_of_ble_eq_true rfl⟩ (Nat.le_of_ble_eq_true rfl)) (fun v67 u67 hp67 => ?_)
          obtain ⟨rfl, rfl⟩ := hp67
          show Xw K G 0 0 _ n V2 R 70 [(0, .ref (aG G 42)), (1, .int (iI y)), (2, .int (iI k)), (3, .int (iI (V 42 2 - 1))), (4, .int (iI F0)), (5, .int (iI x))] [.int (iI (fcS (V2 42 0) (V2 42 1) y k x))]
          refine x_top (b := F1) (by rw [hF1, e420V2, e421V2]) ?_
          refine x_istore C dX12_finds_70 (by decide) (lv' := [(0, .ref (aG G 42)), (1, .int (iI y)), (2, .int (iI k)), (3, .int (iI (V 42 2 - 1))), (4, .int (iI F0)), (5, .int (iI x)), (6, .int (iI F1))]) rfl ?_
          refine x_iconst C dX12_finds_72 ?_
          refine x_istore C dX12_finds_73 (by decide) (lv' := [(0, .ref (aG G 42)), (1, .int (iI y)), (2, .int (iI k)), (3, .int (iI (V 42 2 - 1))), (4, .int (iI F0)), (5, .int (iI x)), (6, .int (iI F1)), (7, .int (iI 0))]) rfl ?_
          have lp_75 : ∀ (fuel : Nat) (w : Int) (V3 : Nat → Int → Int), (0 ≤ w ∧ w ≤ x + 1) → (∀ q z, ¬ (q = 42 ∧ 22 ≤ z ∧ z ≤ 28) → V3 q z = V q z) → (BMem V3 (grP f m g y k) (wP f m g (V 44) y k) (fun a b s t => (F0 < 6 ∧ a = F0 ∧ b = 11 - F0 ∧ s = 0 ∧ t = V 42 2 - 1) ∨ (V 44 1 = 1 ∧ 0 ≤ s ∧ s ≤ t ∧ t < x ∧ (fcS (V 42 0) (V 42 1) y k t) < 6 ∧ a = (fcS (V 42 0) (V 42 1) y k t) ∧ b = 11 - (fcS (V 42 0) (V 42 1) y k t)) ∨ (V 44 1 = 1 ∧ 0 ≤ s ∧ s < w ∧ t = x ∧ F1 < 6 ∧ a = F1 ∧ b = 11 - F1))) → (x + 1 - w) < (fuel : Int) → Xw K G 0 0 (EndQ K G 0 0 (fun vv uu => ∃ (V1 : Nat → Int → Int), vv = none ∧ uu = (n, V1, R) ∧ (∀ q z, ¬ (q = 42 ∧ 22 ≤ z ∧ z ≤ 28) → V1 q z = V q z) ∧ (BMem V1 (grP f m g y k) (wP f m g (V 44) y k) (CandP (fun t => fcS (V 42 0) (V 42 1) y k t) (V 42 2) (V 44 1))))) n V3 R 75 [(0, .ref (aG G 42)), (1, .int (iI y)), (2, .int (iI k)), (3, .int (iI (V 42 2 - 1))), (4, .int (iI F0)), (5, .int (iI x)), (6, .int (iI F1)), (7, .int (iI w))] [] := by
            intro fuel75
            induction fuel75 with
            | zero => intro w V3 hw hfrV3 hB2 hfu75; exfalso; omega
            | succ fuel75 ih75 =>
              intro w V3 hw hfrV3 hB2 hfu75
              have e42V3 : ∀ z, z < 22 → V3 42 z = V 42 z := fun z h => hfrV3 42 z (by omega)
              have e422V3 := e42V3 2 (by decide)
              have e44V3 : V3 44 = V 44 := funext fun z => hfrV3 44 z (by omega)
              have e441V3 : V3 44 1 = V 44 1 := by rw [e44V3]
              have hSV3 : sumsR V3 f m g (12 * V3 42 2) := by rw [e422V3]; exact sumsR_k hS (fun i _ => hfrV3 50 i (by omega)) (fun i _ => hfrV3 51 i (by omega))
              have hprV3 : ∀ z, 2 ≤ z → z ≤ 5 → 0 ≤ V3 44 z ∧ V3 44 z ≤ 99 := by rw [e44V3]; exact hpr
              have e420V3 := e42V3 0 (by decide)
              have e421V3 := e42V3 1 (by decide)
              have r0V3 : 0 ≤ V3 42 0 ∧ V3 42 0 ≤ 6 := by omega
              have r1V3 : 0 ≤ V3 42 1 ∧ V3 42 1 ≤ 4 := by omega
              refine x_iload C 7 dX12_finds_75 rfl ?_
              refine x_iload C 5 dX12_finds_77 rfl ?_
              refine x_icmp_gt C dX12_finds_79 (tgt := 112) (by decide) (by first | assumption | (constructor <;> omega)) (by first | assumption | (constructor <;> omega)) (fun h79 => ?_) (fun h79 => ?_)
              · skip
                refine x_iinc C 5 dX12_finds_112 rfl (by decide) (lv' := [(0, .ref (aG G 42)), (1, .int (iI y)), (2, .int (iI k)), (3, .int (iI (V 42 2 - 1))), (4, .int (iI F0)), (5, .int (iI (x + 1))), (6, .int (iI F1)), (7, .int (iI w))]) rfl ?_
                refine x_goto C dX12_finds_115 (tgt := 46) (by decide) ?_
                refine x_sub [0, 1, 2, 3, 4, 5] (lv' := [(0, .ref (aG G 42)), (1, .int (iI y)), (2, .int (iI k)), (3, .int (iI (V 42 2 - 1))), (4, .int (iI F0)), (5, .int (iI (x + 1)))]) rfl ?_
                exact ih46 ((x + 1)) (V3) (by omega) (by exact hfrV3) (by exact hB2.mono (fun a b s t => oj2 (by by_cases e : t = x; all_goals first | omega | (rw [e, ← hF1]; omega)))) (by omega)
              · skip
                refine x_iload C 6 dX12_finds_82 rfl ?_
                refine x_bipush C dX12_finds_84 (w := 6) (by decide) ?_
                refine x_icmp_ge C dX12_finds_86 (tgt := 112) (by decide) (by first | assumption | (constructor <;> omega)) (by first | assumption | (constructor <;> omega)) (fun h86 => ?_) (fun h86 => ?_)
                · skip
                  refine x_iinc C 5 dX12_finds_112 rfl (by decide) (lv' := [(0, .ref (aG G 42)), (1, .int (iI y)), (2, .int (iI k)), (3, .int (iI (V 42 2 - 1))), (4, .int (iI F0)), (5, .int (iI (x + 1))), (6, .int (iI F1)), (7, .int (iI w))]) rfl ?_
                  refine x_goto C dX12_finds_115 (tgt := 46) (by decide) ?_
                  refine x_sub [0, 1, 2, 3, 4, 5] (lv' := [(0, .ref (aG G 42)), (1, .int (iI y)), (2, .int (iI k)), (3, .int (iI (V 42 2 - 1))), (4, .int (iI F0)), (5, .int (iI (x + 1)))]) rfl ?_
                  exact ih46 ((x + 1)) (V3) (by omega) (by exact hfrV3) (by exact hB2.mono (fun a b s t => oj2 (by by_cases e : t = x; all_goals first | omega | (rw [e, ← hF1]; omega)))) (by omega)
                · skip
                  refine x_aload_n C 0 dX12_finds_89 rfl rfl ?_
                  refine x_iload_n C 1 dX12_finds_90 rfl rfl ?_
                  refine x_iload_n C 2 dX12_finds_91 rfl rfl ?_
                  refine x_iload C 6 dX12_finds_92 rfl ?_
                  refine x_bipush C dX12_finds_94 (w := 11) (by decide) ?_
                  refine x_iload C 6 dX12_finds_96 rfl ?_
                  refine x_isub C dX12_finds_98 ?_
                  refine x_iload C 7 dX12_finds_99 rfl ?_
                  refine x_iload C 5 dX12_finds_101 rfl ?_
                  refine x_runU (r_callV C ok_Model 42 (lt67 hn rfl) rfl (ce_X12_tries) (m_X12_tries G n V3 R (f) (m) (g) (y) (k) (F1) (11 - F1) (w) (x) hn hLR (by first | assumption | omega | decide) (by first | assumption | omega | decide) (by first | assumption | omega | decide) (by first | assumption | omega | decide) (by first | assumption | omega | decide) (by first | assumption | omega | decide) (by first | assumption | omega | decide) (by first | assumption | omega | decide)) rfl dX12_finds_103 q_34_11 q_34_12 q_34_13 rfl rfl ⟨Nat.le_of_ble_eq_true rfl, Nat.le_of_ble_eq_true rfl⟩ ⟨rfl, rfl⟩ ⟨Nat.le_of_ble_eq_true rfl, Nat.le_of_ble_eq_true rfl⟩ (Nat.le_of_ble_eq_true rfl)) (fun v103 u103 hp103 => ?_)
                  obtain ⟨Vt, rfl, rfl, hft, htt⟩ := hp103
                  show Xw K G 0 0 _ n Vt R 106 [(0, .ref (aG G 42)), (1, .int (iI y)), (2, .int (iI k)), (3, .int (iI (V 42 2 - 1))), (4, .int (iI F0)), (5, .int (iI x)), (6, .int (iI F1)), (7, .int (iI w))] []
                  have hfrVt : ∀ q z, ¬ (q = 42 ∧ 22 ≤ z ∧ z ≤ 28) → Vt q z = V q z := fun q z h => by rw [hft q z h]; exact hfrV3 q z h
                  rw [e44V3] at htt
                  refine x_iinc C 7 dX12_finds_106 rfl (by decide) (lv' := [(0, .ref (aG G 42)), (1, .int (iI y)), (2, .int (iI k)), (3, .int (iI (V 42 2 - 1))), (4, .int (iI F0)), (5, .int (iI x)), (6, .int (iI F1)), (7, .int (iI (w + 1)))]) rfl ?_
                  refine x_goto C dX12_finds_109 (tgt := 75) (by decide) ?_
                  exact ih75 ((w + 1)) (Vt) (by omega) (by exact hfrVt) (by exact (hB2.tried htt).mono (fun a b s t => or3_ (by omega))) (by omega)
          exact lp_75 ((x + 1 - 0).toNat + 1) (0) (V2) (by omega) (by exact hfrV2) (by exact hB1.mono (fun a b s t => oz2 (by omega))) (by omega)
  refine x_istore C dX12_finds_19 (by decide) (lv' := [(0, .ref (aG G 42)), (1, .int (iI y)), (2, .int (iI k)), (3, .int (iI ((V 42 2) - 1))), (4, .int (iI F0))]) rfl ?_
  refine x_iload C 4 dX12_finds_21 rfl ?_
  refine x_bipush C dX12_finds_23 (w := 6) (by decide) ?_
  refine x_icmp_ge C dX12_finds_25 (tgt := 43) (by decide) (by first | assumption | (constructor <;> omega)) (by first | assumption | (constructor <;> omega)) (fun h25 => ?_) (fun h25 => ?_)
  · skip
    refine x_iconst C dX12_finds_43 ?_
    refine x_istore C dX12_finds_44 (by decide) (lv' := [(0, .ref (aG G 42)), (1, .int (iI y)), (2, .int (iI k)), (3, .int (iI ((V 42 2) - 1))), (4, .int (iI F0)), (5, .int (iI 0))]) rfl ?_
    exact lp_46 ((V 42 2 - 0).toNat + 1) (0) ((u2 V 42 22 0)) (by omega) (by first | exact hfrVt | exact fun q z h => by rw [u2_at, if_neg (fun e => h ⟨e.1, by have := e.2; omega, by have := e.2; omega⟩)]) (by first | exact (BMem_0.tried htt).mono (fun a b s t => oi1 (by omega) (by omega)) | exact BMem_0.mono (fun a b s t => oi0 (by omega) (by omega))) (by omega)
  · skip
    have hfrV0 : ∀ q z, ¬ (q = 42 ∧ 22 ≤ z ∧ z ≤ 28) → (u2 V 42 22 0) q z = V q z := fun q z h => by rw [u2_at, if_neg (fun e => h ⟨e.1, by have := e.2; omega, by have := e.2; omega⟩)]
    refine x_aload_n C 0 dX12_finds_28 rfl rfl ?_
    refine x_iload_n C 1 dX12_finds_29 rfl rfl ?_
    refine x_iload_n C 2 dX12_finds_30 rfl rfl ?_
    refine x_iload C 4 dX12_finds_31 rfl ?_
    refine x_bipush C dX12_finds_33 (w := 11) (by decide) ?_
    refine x_iload C 4 dX12_finds_35 rfl ?_
    refine x_isub C dX12_finds_37 ?_
    refine x_iconst C dX12_finds_38 ?_
    refine x_iload_n C 3 dX12_finds_39 rfl rfl ?_
    refine x_runU (r_callV C ok_Model 42 (lt67 hn rfl) rfl (ce_X12_tries) (m_X12_tries G n (u2 V 42 22 0) R (f) (m) (g) (y) (k) (F0) (11 - F0) (0) ((V 42 2) - 1) hn hLR (by first | assumption | omega | decide) (by first | assumption | omega | decide) (by first | assumption | omega | decide) (by first | assumption | omega | decide) (by first | assumption | omega | decide) (by simp [u2_at]; omega) (by rw [show u2 V 42 22 0 42 2 = V 42 2 by simp [u2_at]]; exact sumsR_k hS (fun i _ => by simp [u2_at]) (fun i _ => by simp [u2_at])) (by simpa [u2_at] using hpr)) rfl dX12_finds_40 q_34_11 q_34_12 q_34_13 rfl rfl ⟨Nat.le_of_ble_eq_true rfl, Nat.le_of_ble_eq_true rfl⟩ ⟨rfl, rfl⟩ ⟨Nat.le_of_ble_eq_true rfl, Nat.le_of_ble_eq_true rfl⟩ (Nat.le_of_ble_eq_true rfl)) (fun v40 u40 hp40 => ?_)
    obtain ⟨Vt, rfl, rfl, hft, htt⟩ := hp40
    show Xw K G 0 0 _ n Vt R 43 [(0, .ref (aG G 42)), (1, .int (iI y)), (2, .int (iI k)), (3, .int (iI ((V 42 2) - 1))), (4, .int (iI F0))] []
    have hfrVt : ∀ q z, ¬ (q = 42 ∧ 22 ≤ z ∧ z ≤ 28) → Vt q z = V q z := fun q z h => by rw [hft q z h]; exact hfrV0 q z h
    rw [show u2 V 42 22 0 44 = V 44 from rfl] at htt
    refine x_iconst C dX12_finds_43 ?_
    refine x_istore C dX12_finds_44 (by decide) (lv' := [(0, .ref (aG G 42)), (1, .int (iI y)), (2, .int (iI k)), (3, .int (iI ((V 42 2) - 1))), (4, .int (iI F0)), (5, .int (iI 0))]) rfl ?_
    exact lp_46 ((V 42 2 - 0).toNat + 1) (0) (Vt) (by omega) (by first | exact hfrVt | exact fun q z h => by rw [u2_at, if_neg (fun e => h ⟨e.1, by have := e.2; omega, by have := e.2; omega⟩)]) (by first | exact (BMem_0.tried htt).mono (fun a b s t => oi1 (by omega) (by omega)) | exact BMem_0.mono (fun a b s t => oi0 (by omega) (by omega))) (by omega)
