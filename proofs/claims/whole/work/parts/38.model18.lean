theorem tellM_u {V : Nat → Int → Int} {pr : Int → Int} {g s a b : Int} (h : tellM V pr g s a) (h2 : tellM V pr g s b) : a = b := by
  unfold tellM tellR at h h2
  exact othP_u h h2
theorem frl_tell {V V2 : Nat → Int → Int} {pr : Int → Int} {g s r : Int} (h : FrL V V2) (hs : 0 ≤ s ∧ s ≤ 3) : tellM V2 pr g s r ↔ tellM V pr g s r := by
  have e := h.log
  unfold tellM
  rw [e.FM, e.1 0 (by decide) (by decide), e.1 1 (by decide) (by decide), e.1 2 (by decide) (by decide), e.1 4 (by decide) (by decide)]
  rw [h 65 s (by decide) (by decide) (by decide) (by decide) (by decide) (by decide) (by omega), show V2 (60 + s.toNat) = V (60 + s.toNat) from funext fun z => h _ z (by omega) (by omega) (by omega) (by omega) (by omega) (by omega) (by omega)]
noncomputable def acN (P : Int → Prop) : Nat → Int
  | 0 => 0
  | k + 1 => zOr (acN P k) (cif (P (k : Int)) (zShl 1 (k : Int)) 0)
noncomputable def acS (P : Int → Prop) (k : Int) : Int := acN P k.toNat
theorem acS_s {P : Int → Prop} {k : Int} (h : 0 ≤ k) : acS P (k + 1) = zOr (acS P k) (cif (P k) (zShl 1 k) 0) := by
  unfold acS
  rw [show (k + 1).toNat = k.toNat + 1 by omega]
  show zOr _ (cif (P (k.toNat : Int)) (zShl 1 (k.toNat : Int)) 0) = _
  rw [Int.toNat_of_nonneg h]
def FrP (V V2 : Nat → Int → Int) : Prop := ∀ q z, q ≠ 50 → q ≠ 51 → q ≠ 52 → q ≠ 53 → q ≠ 54 → q ≠ 55 → ¬ (q = 42 ∧ ((22 ≤ z ∧ z ≤ 28) ∨ z = 31)) → ¬ (q = 44 ∧ z = 0) → V2 q z = V q z
theorem fk_44 {V V2 : Nat → Int → Int} {k : Int} (h : FrP V V2) : (u2 V2 44 0 k) 44 = u1 (V 44) 0 k := by
  funext z
  rw [u2_s]
  by_cases e : z = 0
  · rw [e, u1_s, u1_s]
  · rw [u1_n e, u1_n e]; exact h 44 z (by decide) (by decide) (by decide) (by decide) (by decide) (by decide) (by omega) (by omega)
theorem fk_ru {p : Int → Int} {k : Int} (h : RulesOk p) (hk : 0 ≤ k ∧ k ≤ 2) : RulesOk (u1 p 0 k) := by
  obtain ⟨h0, h1, h2, h3⟩ := h
  refine ⟨by rw [u1_s]; exact hk, by rw [u1_n (by decide)]; exact h1, fun z a b => by rw [u1_n (by omega)]; exact h2 z a b, by rw [u1_n (by decide)]; exact h3⟩
theorem fk_log {V V2 : Nat → Int → Int} {k : Int} (h : FrP V V2) : LogEq V (u2 V2 44 0 k) := ⟨fun z a b => by rw [u2_n (by decide)]; exact h 42 z (by decide) (by decide) (by decide) (by decide) (by decide) (by decide) (by omega) (by omega), by rw [u2_n (by decide)]; exact funext fun z => h 43 z (by decide) (by decide) (by decide) (by decide) (by decide) (by decide) (by omega) (by omega)⟩
theorem fk_ok {V V2 : Nat → Int → Int} {k : Int} (hl : LogOk V) (h : FrP V V2) : LogOk (u2 V2 44 0 k) := hl.eq (fk_log h)
theorem fk_tell {V V2 : Nat → Int → Int} {k : Int} {pr : Int → Int} {g s r : Int} (h : FrP V V2) (hs : 0 ≤ s ∧ s ≤ 3) : tellM (u2 V2 44 0 k) pr g s r ↔ tellM V pr g s r := by
  have e := fk_log (k := k) h
  unfold tellM
  rw [e.FM, e.1 0 (by decide) (by decide), e.1 1 (by decide) (by decide), e.1 2 (by decide) (by decide), e.1 4 (by decide) (by decide)]
  rw [u2_n (show 60 + s.toNat ≠ 44 by omega), u2_n (show (65 : Nat) ≠ 44 by decide), h 65 s (by decide) (by decide) (by decide) (by decide) (by decide) (by decide) (by omega) (by omega), show V2 (60 + s.toNat) = V (60 + s.toNat) from funext fun z => h _ z (by omega) (by omega) (by omega) (by omega) (by omega) (by omega) (by omega) (by omega)]
theorem fk_end {V V2 : Nat → Int → Int} (h : FrP V V2) : FrL V (u2 V2 44 0 (V 44 0)) := fun q z a b c d e f g => by
  by_cases x : q = 44 ∧ z = 0
  · rw [x.1, x.2, u2_s, u1_s]
  · rw [u2_at, if_neg x]; exact h q z a b c d e f g x

set_option maxRecDepth 100000 in
set_option maxHeartbeats 4000000 in
theorem m_X12_kerfs (G : GS) (n : Nat) (V : Nat → Int → Int) (R : Nat → Int → Option Nat) (s : Int) (hn : 67 ≤ n) (hLR : LR R) (hl : LogOk V) (hru : RulesOk (V 44)) (hL1 : 1 ≤ V 42 2) (hs : 0 ≤ s ∧ s ≤ 3) (hsz : ∀ x, 0 ≤ x → x ≤ 3 → 0 ≤ V 65 x ∧ V 65 x ≤ 40) : Cn G yX12_kerfs cX12_kerfs 5 (some .int) (rmk 8 0 0 200) [.ref (aG G 42), .int (iI s)] n V R 0 0 (fun vv uu => ∃ (V1 : Nat → Int → Int), vv = some (.int (iI (acS (fun k => ∃ x, tellM V (u1 (V 44) 0 k) (V 42 3) s x ∧ x < 0) 3))) ∧ uu = (n, V1, R) ∧ (FrL V V1)) := by
  refine Cn.of (by decide) (Nat.le_of_ble_eq_true rfl) (fun K C hct => ?_)
  show Xw K G 0 0 _ n V R 0 [(0, .ref (aG G 42)), (1, .int (iI s))] []
  obtain ⟨h1, h2, h3, h5, h4, hF⟩ := id hl
  obtain ⟨hkf, hsv, hpr, hth⟩ := id hru
  refine x_aload_n C 0 dX12_kerfs_0 rfl rfl ?_
  refine x_getr C ok_Model 42 6 (d := 44) dX12_kerfs_1 (lt67 hn rfl) rfl (by decide) rfl q_4_2 rfl (kz := 6) rfl (lr_42_6 hLR) ?_
  refine x_iconst C dX12_kerfs_4 ?_
  refine x_iald C 44 dX12_kerfs_5 (lt67 hn rfl) rfl (by refine ⟨?_, ?_⟩ <;> omega) (fun rg5 => ?_)
  refine x_istore_n C dX12_kerfs_6 rfl (by decide) (lv' := [(0, .ref (aG G 42)), (1, .int (iI s)), (2, .int (iI (V 44 0)))]) rfl ?_
  refine x_iconst C dX12_kerfs_7 ?_
  refine x_istore_n C dX12_kerfs_8 rfl (by decide) (lv' := [(0, .ref (aG G 42)), (1, .int (iI s)), (2, .int (iI (V 44 0))), (3, .int (iI 0))]) rfl ?_
  refine x_iconst C dX12_kerfs_9 ?_
  refine x_istore C dX12_kerfs_10 (by decide) (lv' := [(0, .ref (aG G 42)), (1, .int (iI s)), (2, .int (iI (V 44 0))), (3, .int (iI 0)), (4, .int (iI 0))]) rfl ?_
  have lp_12 : ∀ (fuel : Nat) (q : Int) (k : Int) (V2 : Nat → Int → Int), (0 ≤ k ∧ k ≤ 3) → (q = acS (fun k => ∃ x, tellM V (u1 (V 44) 0 k) (V 42 3) s x ∧ x < 0) k) → (FrP V V2) → ((3 : Int) - k) < (fuel : Int) → Xw K G 0 0 (EndQ K G 0 0 (fun vv uu => ∃ (V1 : Nat → Int → Int), vv = some (.int (iI (acS (fun k => ∃ x, tellM V (u1 (V 44) 0 k) (V 42 3) s x ∧ x < 0) 3))) ∧ uu = (n, V1, R) ∧ (FrL V V1))) n V2 R 12 [(0, .ref (aG G 42)), (1, .int (iI s)), (2, .int (iI (V 44 0))), (3, .int (iI q)), (4, .int (iI k))] [] := by
    intro fuel12
    induction fuel12 with
    | zero => intro q k V2 hk hq hF hfu12; exfalso; omega
    | succ fuel12 ih12 =>
      intro q k V2 hk hq hF hfu12
      have hV3 : V2 42 3 = V 42 3 := hF 42 3 (by decide) (by decide) (by decide) (by decide) (by decide) (by decide) (by omega) (by omega)
      refine x_iload C 4 dX12_kerfs_12 rfl ?_
      refine x_iconst C dX12_kerfs_14 ?_
      refine x_icmp_ge C dX12_kerfs_15 (tgt := 55) (by decide) (by first | assumption | (constructor <;> omega)) (by first | assumption | (constructor <;> omega)) (fun h15 => ?_) (fun h15 => ?_)
      · skip
        refine x_aload_n C 0 dX12_kerfs_55 rfl rfl ?_
        refine x_getr C ok_Model 42 6 (d := 44) dX12_kerfs_56 (lt67 hn rfl) rfl (by decide) rfl q_4_2 rfl (kz := 6) rfl (lr_42_6 hLR) ?_
        refine x_iconst C dX12_kerfs_59 ?_
        refine x_iload_n C 2 dX12_kerfs_60 rfl rfl ?_
        refine x_iast C 44 dX12_kerfs_61 (lt67 hn rfl) rfl (by refine ⟨?_, ?_⟩ <;> omega) (by first | assumption | (constructor <;> omega)) ?_
        refine x_iload_n C 3 dX12_kerfs_62 rfl rfl ?_
        refine x_iret C dX12_kerfs_63 ⟨_, congrArg (fun z => some (Value.int (iI z))) (by rw [hq, show k = 3 by omega]), rfl, ?_⟩
        · exact fk_end hF
      · skip
        refine x_aload_n C 0 dX12_kerfs_18 rfl rfl ?_
        refine x_getr C ok_Model 42 6 (d := 44) dX12_kerfs_19 (lt67 hn rfl) rfl (by decide) rfl q_4_2 rfl (kz := 6) rfl (lr_42_6 hLR) ?_
        refine x_iconst C dX12_kerfs_22 ?_
        refine x_iload C 4 dX12_kerfs_23 rfl ?_
        refine x_iast C 44 dX12_kerfs_25 (lt67 hn rfl) rfl (by refine ⟨?_, ?_⟩ <;> omega) (by first | assumption | (constructor <;> omega)) ?_
        refine x_iload_n C 3 dX12_kerfs_26 rfl rfl ?_
        refine x_aload_n C 0 dX12_kerfs_27 rfl rfl ?_
        refine x_iload_n C 1 dX12_kerfs_28 rfl rfl ?_
        refine x_aload_n C 0 dX12_kerfs_29 rfl rfl ?_
        refine x_geti C ok_Model 42 3 dX12_kerfs_30 (lt67 hn rfl) rfl (by decide) rfl q_6_13 rfl (kz := 3) rfl (fun rg30 => ?_)
        refine x_top (b := (V2 42 3)) (by first | rfl | (simp only [u2_at]; simp) | (simp only [u2_at]; first | (rw [if_neg (by omega)]) | omega)) ?_
        refine x_runU (r_callV C ok_Model 42 (lt67 hn rfl) rfl (ce_X12_otherwise) (m_X12_otherwise G n (u2 V2 44 0 k) R (s) (V2 42 3) hn hLR (by exact fk_ok hl hF) (by rw [fk_44 hF]; exact fk_ru hru (by omega)) (by rw [hV3]; exact h5) (by rw [u2_n (by decide), hF 42 2 (by decide) (by decide) (by decide) (by decide) (by decide) (by decide) (by omega) (by omega)]; omega) (by first | assumption | omega | decide) (by rw [u2_n (by decide)]; exact fun x a b => by (rw [hF 65 x (by decide) (by decide) (by decide) (by decide) (by decide) (by decide) (by omega) (by omega)]; exact hsz x a b))) rfl dX12_kerfs_33 q_48_15 q_48_16 q_48_17 rfl rfl ⟨Nat.le_of_ble_eq_true rfl, Nat.le_of_ble_eq_true rfl⟩ ⟨rfl, rfl⟩ ⟨Nat.le_of_ble_eq_true rfl, Nat.le_of_ble_eq_true rfl⟩ (Nat.le_of_ble_eq_true rfl)) (fun v33 u33 hp33 => ?_)
        obtain ⟨r1, V3, rfl, rfl, hF3, hT3, hr3⟩ := hp33
        show Xw K G 0 0 _ n V3 R 36 [(0, .ref (aG G 42)), (1, .int (iI s)), (2, .int (iI (V 44 0))), (3, .int (iI q)), (4, .int (iI k))] [.int (iI r1), .int (iI q)]
        rw [fk_44 hF, fk_tell hF (by omega), hV3] at hT3
        refine x_if_ge C dX12_kerfs_36 (tgt := 46) (by decide) (by first | assumption | (constructor <;> omega)) (fun h36 => ?_) (fun h36 => ?_)
        · skip
          refine x_iconst C dX12_kerfs_46 ?_
          refine x_ior C dX12_kerfs_47 ?_
          refine x_istore_n C dX12_kerfs_48 rfl (by decide) (lv' := [(0, .ref (aG G 42)), (1, .int (iI s)), (2, .int (iI (V 44 0))), (3, .int (iI (zOr q 0))), (4, .int (iI k))]) rfl ?_
          refine x_iinc C 4 dX12_kerfs_49 rfl (by decide) (lv' := [(0, .ref (aG G 42)), (1, .int (iI s)), (2, .int (iI (V 44 0))), (3, .int (iI (zOr q 0))), (4, .int (iI (k + 1)))]) rfl ?_
          refine x_goto C dX12_kerfs_52 (tgt := 12) (by decide) ?_
          exact ih12 ((zOr q 0)) ((k + 1)) (V3) (by omega) (by rw [acS_s hk.1, ← hq]; first | rw [cif_t (p := ∃ x, tellM V (u1 (V 44) 0 k) (V 42 3) s x ∧ x < 0) ⟨_, hT3, by omega⟩] | rw [cif_f (p := ∃ x, tellM V (u1 (V 44) 0 k) (V 42 3) s x ∧ x < 0) (fun ⟨x, h, h2⟩ => by have := tellM_u h hT3; omega)]) (by exact fun p z a b c d e f g h => by rw [hF3 p z a b c d e f g, u2_at, if_neg h]; exact hF p z a b c d e f g h) (by omega)
        · skip
          refine x_iconst C dX12_kerfs_39 ?_
          refine x_iload C 4 dX12_kerfs_40 rfl ?_
          refine x_ishl C dX12_kerfs_42 ?_
          refine x_goto C dX12_kerfs_43 (tgt := 47) (by decide) ?_
          refine x_ior C dX12_kerfs_47 ?_
          refine x_istore_n C dX12_kerfs_48 rfl (by decide) (lv' := [(0, .ref (aG G 42)), (1, .int (iI s)), (2, .int (iI (V 44 0))), (3, .int (iI (zOr q (zShl 1 k)))), (4, .int (iI k))]) rfl ?_
          refine x_iinc C 4 dX12_kerfs_49 rfl (by decide) (lv' := [(0, .ref (aG G 42)), (1, .int (iI s)), (2, .int (iI (V 44 0))), (3, .int (iI (zOr q (zShl 1 k)))), (4, .int (iI (k + 1)))]) rfl ?_
          refine x_goto C dX12_kerfs_52 (tgt := 12) (by decide) ?_
          exact ih12 ((zOr q (zShl 1 k))) ((k + 1)) (V3) (by omega) (by rw [acS_s hk.1, ← hq]; first | rw [cif_t (p := ∃ x, tellM V (u1 (V 44) 0 k) (V 42 3) s x ∧ x < 0) ⟨_, hT3, by omega⟩] | rw [cif_f (p := ∃ x, tellM V (u1 (V 44) 0 k) (V 42 3) s x ∧ x < 0) (fun ⟨x, h, h2⟩ => by have := tellM_u h hT3; omega)]) (by exact fun p z a b c d e f g h => by rw [hF3 p z a b c d e f g, u2_at, if_neg h]; exact hF p z a b c d e f g h) (by omega)
  exact lp_12 (((3 : Int) - 0).toNat + 1) (0) (0) (V) (by omega) (by rfl) (by exact fun _ _ _ _ _ _ _ _ _ _ => rfl) (by omega)
set_option maxRecDepth 100000 in
set_option maxHeartbeats 4000000 in
theorem m_X12_tells (G : GS) (n : Nat) (V : Nat → Int → Int) (R : Nat → Int → Option Nat) (s : Int) (w : Int) (hn : 67 ≤ n) (hLR : LR R) (gs : Rg s) (gw : Rg w) (hl : LogOk V) (hru : RulesOk (V 44)) (hsz : ∀ x, 0 ≤ x → x ≤ 3 → 0 ≤ V 65 x ∧ V 65 x ≤ 40) : Cn G yX12_tells cX12_tells 5 (some .int) (rmk 9 0 0 224) [.ref (aG G 42), .int (iI s), .int (iI w)] n V R 0 0 (fun vv uu => ∃ (r : Int), ∃ (V1 : Nat → Int → Int), vv = some (.int (iI r)) ∧ uu = (n, V1, R) ∧ (FrL V V1) ∧ ((V 42 2 = 0 ∧ r = -3) ∨ (V 42 2 ≠ 0 ∧ ¬ ((0 ≤ s ∧ s ≤ 3) ∧ (0 ≤ w ∧ w ≤ 2)) ∧ r = -2) ∨ (V 42 2 ≠ 0 ∧ ((0 ≤ s ∧ s ≤ 3) ∧ (0 ≤ w ∧ w ≤ 2)) ∧ V 64 s < 0 ∧ r = -11) ∨ (V 42 2 ≠ 0 ∧ ((0 ≤ s ∧ s ≤ 3) ∧ (0 ≤ w ∧ w ≤ 2)) ∧ 0 ≤ V 64 s ∧ 12 < V 65 s ∧ r = -2) ∨ (V 42 2 ≠ 0 ∧ ((0 ≤ s ∧ s ≤ 3) ∧ (0 ≤ w ∧ w ≤ 2)) ∧ 0 ≤ V 64 s ∧ V 65 s ≤ 12 ∧ ((w = 0 ∧ tellM V (V 44) (V 42 3) s r) ∨ (w = 1 ∧ r = acS (fun t => ∃ x, tellM V (V 44) t s x ∧ x < 0) 4) ∨ (w = 2 ∧ r = acS (fun k => ∃ x, tellM V (u1 (V 44) 0 k) (V 42 3) s x ∧ x < 0) 3))))) := by
  refine Cn.of (by decide) (Nat.le_of_ble_eq_true rfl) (fun K C hct => ?_)
  show Xw K G 0 0 _ n V R 0 [(0, .ref (aG G 42)), (1, .int (iI s)), (2, .int (iI w))] []
  obtain ⟨h1, h2, h3, h5, h4, hF⟩ := id hl
  obtain ⟨hkf, hsv, hpr, hth⟩ := id hru
  refine x_aload_n C 0 dX12_tells_0 rfl rfl ?_
  refine x_geti C ok_Model 42 2 dX12_tells_1 (lt67 hn rfl) rfl (by decide) rfl q_6_12 rfl (kz := 2) rfl (fun rg1 => ?_)
  refine x_if_ne C dX12_tells_4 (tgt := 10) (by decide) (by first | assumption | (constructor <;> omega)) (fun h4 => ?_) (fun h4 => ?_)
  · skip
    refine x_iload_n C 1 dX12_tells_10 rfl rfl ?_
    refine x_runU (r_callS C (ce_X12_isSheet) (m_X12_isSheet G n V R (s) (by first | assumption | omega | decide)) dX12_tells_11 q_48_12 q_48_13 rfl rfl ⟨Nat.le_of_ble_eq_true rfl, Nat.le_of_ble_eq_true rfl⟩ ⟨rfl, rfl⟩ ⟨Nat.le_of_ble_eq_true rfl, Nat.le_of_ble_eq_true rfl⟩ (Nat.le_of_ble_eq_true rfl)) (fun v11 u11 hp11 => ?_)
    obtain ⟨rfl, rfl⟩ := hp11
    show Xw K G 0 0 _ n V R 14 [(0, .ref (aG G 42)), (1, .int (iI s)), (2, .int (iI w))] [.int (iI (bI (0 ≤ s ∧ s ≤ 3)))]
    refine x_ifeq_b C dX12_tells_14 (tgt := 29) (by decide) (fun h14 => ?_) (fun h14 => ?_)
    · skip
      refine x_bipush C dX12_tells_29 (w := -2) (by decide) ?_
      refine x_iret C dX12_tells_31 ⟨_, _, rfl, rfl, ?_, ?_⟩
      · first | exact FrL.rf | exact Or.inl ⟨by omega, rfl⟩ | exact Or.inr (Or.inl ⟨by omega, by omega, rfl⟩) | exact Or.inr (Or.inr (Or.inl ⟨by omega, by omega, by omega, rfl⟩)) | exact Or.inr (Or.inr (Or.inr (Or.inl ⟨by omega, by omega, by omega, by omega, rfl⟩)))
      · first | exact FrL.rf | exact Or.inl ⟨by omega, rfl⟩ | exact Or.inr (Or.inl ⟨by omega, by omega, rfl⟩) | exact Or.inr (Or.inr (Or.inl ⟨by omega, by omega, by omega, rfl⟩)) | exact Or.inr (Or.inr (Or.inr (Or.inl ⟨by omega, by omega, by omega, by omega, rfl⟩)))
    · skip
      refine x_iload_n C 2 dX12_tells_17 rfl rfl ?_
      refine x_i2l C dX12_tells_18 (by first | assumption | (constructor <;> omega)) ?_
      refine x_lconst C dX12_tells_19 (w := 0) (by decide) ?_
      refine x_ldc2 C dX12_tells_20 q_6_6 (w := 2) (by decide) ?_
      refine x_runU (r_callS C (ce_X12_in) (m_X12_in G n V R (w) (0) (2) (by first | assumption | omega | decide) (by first | assumption | omega | decide) (by first | assumption | omega | decide)) dX12_tells_23 q_6_15 q_6_16 rfl rfl ⟨Nat.le_of_ble_eq_true rfl, Nat.le_of_ble_eq_true rfl⟩ ⟨rfl, rfl⟩ ⟨Nat.le_of_ble_eq_true rfl, Nat.le_of_ble_eq_true rfl⟩ (Nat.le_of_ble_eq_true rfl)) (fun v23 u23 hp23 => ?_)
      obtain ⟨rfl, rfl⟩ := hp23
      show Xw K G 0 0 _ n V R 26 [(0, .ref (aG G 42)), (1, .int (iI s)), (2, .int (iI w))] [.int (iI (bI (0 ≤ w ∧ w ≤ 2)))]
      refine x_ifne_b C dX12_tells_26 (tgt := 32) (by decide) (fun h26 => ?_) (fun h26 => ?_)
      · skip
        refine x_aload_n C 0 dX12_tells_32 rfl rfl ?_
        refine x_getr C ok_Model 42 39 (d := 64) dX12_tells_33 (lt67 hn rfl) rfl (by decide) rfl q_4_20 rfl (kz := 39) rfl (lr_42_39 hLR) ?_
        refine x_iload_n C 1 dX12_tells_36 rfl rfl ?_
        refine x_iald C 64 dX12_tells_37 (lt67 hn rfl) rfl (by refine ⟨?_, ?_⟩ <;> omega) (fun rg37 => ?_)
        refine x_if_ge C dX12_tells_38 (tgt := 44) (by decide) (by first | assumption | (constructor <;> omega)) (fun h38 => ?_) (fun h38 => ?_)
        · skip
          refine x_aload_n C 0 dX12_tells_44 rfl rfl ?_
          refine x_getr C ok_Model 42 40 (d := 65) dX12_tells_45 (lt67 hn rfl) rfl (by decide) rfl q_4_21 rfl (kz := 40) rfl (lr_42_40 hLR) ?_
          refine x_iload_n C 1 dX12_tells_48 rfl rfl ?_
          refine x_iald C 65 dX12_tells_49 (lt67 hn rfl) rfl (by refine ⟨?_, ?_⟩ <;> omega) (fun rg49 => ?_)
          refine x_bipush C dX12_tells_50 (w := 12) (by decide) ?_
          refine x_icmp_le C dX12_tells_52 (tgt := 58) (by decide) (by first | assumption | (constructor <;> omega)) (by first | assumption | (constructor <;> omega)) (fun h52 => ?_) (fun h52 => ?_)
          · skip
            refine x_iload_n C 2 dX12_tells_58 rfl rfl ?_
            refine x_iconst C dX12_tells_59 ?_
            refine x_icmp_eq C dX12_tells_60 (tgt := 85) (by decide) (by first | assumption | (constructor <;> omega)) (by first | assumption | (constructor <;> omega)) (fun h60 => ?_) (fun h60 => ?_)
            · skip
              refine x_iconst C dX12_tells_85 ?_
              refine x_istore_n C dX12_tells_86 rfl (by decide) (lv' := [(0, .ref (aG G 42)), (1, .int (iI s)), (2, .int (iI w)), (3, .int (iI 0))]) rfl ?_
              refine x_iconst C dX12_tells_87 ?_
              refine x_istore C dX12_tells_88 (by decide) (lv' := [(0, .ref (aG G 42)), (1, .int (iI s)), (2, .int (iI w)), (3, .int (iI 0)), (4, .int (iI 0))]) rfl ?_
              have lp_90 : ∀ (fuel : Nat) (q : Int) (t : Int) (V2 : Nat → Int → Int), (0 ≤ t ∧ t ≤ 4) → (q = acS (fun t => ∃ x, tellM V (V 44) t s x ∧ x < 0) t) → (FrL V V2) → ((4 : Int) - t) < (fuel : Int) → Xw K G 0 0 (EndQ K G 0 0 (fun vv uu => ∃ (r : Int), ∃ (V1 : Nat → Int → Int), vv = some (.int (iI r)) ∧ uu = (n, V1, R) ∧ (FrL V V1) ∧ ((V 42 2 = 0 ∧ r = -3) ∨ (V 42 2 ≠ 0 ∧ ¬ ((0 ≤ s ∧ s ≤ 3) ∧ (0 ≤ w ∧ w ≤ 2)) ∧ r = -2) ∨ (V 42 2 ≠ 0 ∧ ((0 ≤ s ∧ s ≤ 3) ∧ (0 ≤ w ∧ w ≤ 2)) ∧ V 64 s < 0 ∧ r = -11) ∨ (V 42 2 ≠ 0 ∧ ((0 ≤ s ∧ s ≤ 3) ∧ (0 ≤ w ∧ w ≤ 2)) ∧ 0 ≤ V 64 s ∧ 12 < V 65 s ∧ r = -2) ∨ (V 42 2 ≠ 0 ∧ ((0 ≤ s ∧ s ≤ 3) ∧ (0 ≤ w ∧ w ≤ 2)) ∧ 0 ≤ V 64 s ∧ V 65 s ≤ 12 ∧ ((w = 0 ∧ tellM V (V 44) (V 42 3) s r) ∨ (w = 1 ∧ r = acS (fun t => ∃ x, tellM V (V 44) t s x ∧ x < 0) 4) ∨ (w = 2 ∧ r = acS (fun k => ∃ x, tellM V (u1 (V 44) 0 k) (V 42 3) s x ∧ x < 0) 3)))))) n V2 R 90 [(0, .ref (aG G 42)), (1, .int (iI s)), (2, .int (iI w)), (3, .int (iI q)), (4, .int (iI t))] [] := by
                intro fuel90
                induction fuel90 with
                | zero => intro q t V2 ht hq hF hfu90; exfalso; omega
                | succ fuel90 ih90 =>
                  intro q t V2 ht hq hF hfu90
                  refine x_iload C 4 dX12_tells_90 rfl ?_
                  refine x_iconst C dX12_tells_92 ?_
                  refine x_icmp_ge C dX12_tells_93 (tgt := 123) (by decide) (by first | assumption | (constructor <;> omega)) (by first | assumption | (constructor <;> omega)) (fun h93 => ?_) (fun h93 => ?_)
                  · skip
                    refine x_iload_n C 3 dX12_tells_123 rfl rfl ?_
                    refine x_iret C dX12_tells_124 ⟨_, _, rfl, rfl, ?_, ?_⟩
                    · exact hF
                    · exact Or.inr (Or.inr (Or.inr (Or.inr ⟨by omega, by omega, by omega, by omega, Or.inr (Or.inl ⟨by omega, by rw [hq, show t = 4 by omega]⟩)⟩)))
                  · skip
                    refine x_iload_n C 3 dX12_tells_96 rfl rfl ?_
                    refine x_aload_n C 0 dX12_tells_97 rfl rfl ?_
                    refine x_iload_n C 1 dX12_tells_98 rfl rfl ?_
                    refine x_iload C 4 dX12_tells_99 rfl ?_
                    refine x_runU (r_callV C ok_Model 42 (lt67 hn rfl) rfl (ce_X12_otherwise) (m_X12_otherwise G n V2 R (s) (t) hn hLR (by exact hl.eq hF.log) (by rw [hF.r]; exact hru) (by first | assumption | omega | decide) (by rw [hF.log.1 2 (by decide) (by decide)]; omega) (by first | assumption | omega | decide) (by exact fun x a b => by (rw [hF 65 x (by decide) (by decide) (by decide) (by decide) (by decide) (by decide) (by omega)]; exact hsz x a b))) rfl dX12_tells_101 q_48_15 q_48_16 q_48_17 rfl rfl ⟨Nat.le_of_ble_eq_true rfl, Nat.le_of_ble_eq_true rfl⟩ ⟨rfl, rfl⟩ ⟨Nat.le_of_ble_eq_true rfl, Nat.le_of_ble_eq_true rfl⟩ (Nat.le_of_ble_eq_true rfl)) (fun v101 u101 hp101 => ?_)
                    obtain ⟨r1, V3, rfl, rfl, hF3, hT3, hr3⟩ := hp101
                    show Xw K G 0 0 _ n V3 R 104 [(0, .ref (aG G 42)), (1, .int (iI s)), (2, .int (iI w)), (3, .int (iI q)), (4, .int (iI t))] [.int (iI r1), .int (iI q)]
                    rw [hF.r, frl_tell hF (by omega)] at hT3
                    refine x_if_ge C dX12_tells_104 (tgt := 114) (by decide) (by first | assumption | (constructor <;> omega)) (fun h104 => ?_) (fun h104 => ?_)
                    · skip
                      refine x_iconst C dX12_tells_114 ?_
                      refine x_ior C dX12_tells_115 ?_
                      refine x_istore_n C dX12_tells_116 rfl (by decide) (lv' := [(0, .ref (aG G 42)), (1, .int (iI s)), (2, .int (iI w)), (3, .int (iI (zOr q 0))), (4, .int (iI t))]) rfl ?_
                      refine x_iinc C 4 dX12_tells_117 rfl (by decide) (lv' := [(0, .ref (aG G 42)), (1, .int (iI s)), (2, .int (iI w)), (3, .int (iI (zOr q 0))), (4, .int (iI (t + 1)))]) rfl ?_
                      refine x_goto C dX12_tells_120 (tgt := 90) (by decide) ?_
                      exact ih90 ((zOr q 0)) ((t + 1)) (V3) (by omega) (by rw [acS_s ht.1, ← hq]; first | rw [cif_t (p := ∃ x, tellM V (V 44) t s x ∧ x < 0) ⟨_, hT3, by omega⟩] | rw [cif_f (p := ∃ x, tellM V (V 44) t s x ∧ x < 0) (fun ⟨x, h, h2⟩ => by have := tellM_u h hT3; omega)]) (by exact hF.tr hF3) (by omega)
                    · skip
                      refine x_iconst C dX12_tells_107 ?_
                      refine x_iload C 4 dX12_tells_108 rfl ?_
                      refine x_ishl C dX12_tells_110 ?_
                      refine x_goto C dX12_tells_111 (tgt := 115) (by decide) ?_
                      refine x_ior C dX12_tells_115 ?_
                      refine x_istore_n C dX12_tells_116 rfl (by decide) (lv' := [(0, .ref (aG G 42)), (1, .int (iI s)), (2, .int (iI w)), (3, .int (iI (zOr q (zShl 1 t)))), (4, .int (iI t))]) rfl ?_
                      refine x_iinc C 4 dX12_tells_117 rfl (by decide) (lv' := [(0, .ref (aG G 42)), (1, .int (iI s)), (2, .int (iI w)), (3, .int (iI (zOr q (zShl 1 t)))), (4, .int (iI (t + 1)))]) rfl ?_
                      refine x_goto C dX12_tells_120 (tgt := 90) (by decide) ?_
                      exact ih90 ((zOr q (zShl 1 t))) ((t + 1)) (V3) (by omega) (by rw [acS_s ht.1, ← hq]; first | rw [cif_t (p := ∃ x, tellM V (V 44) t s x ∧ x < 0) ⟨_, hT3, by omega⟩] | rw [cif_f (p := ∃ x, tellM V (V 44) t s x ∧ x < 0) (fun ⟨x, h, h2⟩ => by have := tellM_u h hT3; omega)]) (by exact hF.tr hF3) (by omega)
              exact lp_90 (((4 : Int) - 0).toNat + 1) (0) (0) (V) (by omega) (by rfl) (by exact FrL.rf) (by omega)
            · skip
              refine x_iload_n C 2 dX12_tells_63 rfl rfl ?_
              refine x_if_ne C dX12_tells_64 (tgt := 79) (by decide) (by first | assumption | (constructor <;> omega)) (fun h64 => ?_) (fun h64 => ?_)
              · skip
                refine x_aload_n C 0 dX12_tells_79 rfl rfl ?_
                refine x_iload_n C 1 dX12_tells_80 rfl rfl ?_
                refine x_runU (r_callV C ok_Model 42 (lt67 hn rfl) rfl (ce_X12_kerfs) (m_X12_kerfs G n V R (s) hn hLR (by first | assumption | omega | decide) (by first | assumption | omega | decide) (by first | assumption | omega | decide) (by first | assumption | omega | decide) (by first | assumption | omega | decide)) rfl dX12_tells_81 q_48_19 q_48_20 q_48_21 rfl rfl ⟨Nat.le_of_ble_eq_true rfl, Nat.le_of_ble_eq_true rfl⟩ ⟨rfl, rfl⟩ ⟨Nat.le_of_ble_eq_true rfl, Nat.le_of_ble_eq_true rfl⟩ (Nat.le_of_ble_eq_true rfl)) (fun v81 u81 hp81 => ?_)
                obtain ⟨V3, rfl, rfl, hF3⟩ := hp81
                show Xw K G 0 0 _ n V3 R 84 [(0, .ref (aG G 42)), (1, .int (iI s)), (2, .int (iI w))] [.int (iI (acS (fun k => ∃ x, tellM V (u1 (V 44) 0 k) (V 42 3) s x ∧ x < 0) 3))]
                refine x_iret C dX12_tells_84 ⟨_, _, rfl, rfl, ?_, ?_⟩
                · exact hF3
                · first | exact Or.inr (Or.inr (Or.inr (Or.inr ⟨by omega, by omega, by omega, by omega, Or.inl ⟨by omega, hT3⟩⟩))) | exact Or.inr (Or.inr (Or.inr (Or.inr ⟨by omega, by omega, by omega, by omega, Or.inr (Or.inr ⟨by omega, rfl⟩)⟩)))
              · skip
                refine x_aload_n C 0 dX12_tells_67 rfl rfl ?_
                refine x_iload_n C 1 dX12_tells_68 rfl rfl ?_
                refine x_aload_n C 0 dX12_tells_69 rfl rfl ?_
                refine x_geti C ok_Model 42 3 dX12_tells_70 (lt67 hn rfl) rfl (by decide) rfl q_6_13 rfl (kz := 3) rfl (fun rg70 => ?_)
                refine x_runU (r_callV C ok_Model 42 (lt67 hn rfl) rfl (ce_X12_otherwise) (m_X12_otherwise G n V R (s) (V 42 3) hn hLR (by first | assumption | omega | decide) (by first | assumption | omega | decide) (by first | assumption | omega | decide) (by first | assumption | omega | decide) (by first | assumption | omega | decide) (by first | assumption | omega | decide)) rfl dX12_tells_73 q_48_15 q_48_16 q_48_17 rfl rfl ⟨Nat.le_of_ble_eq_true rfl, Nat.le_of_ble_eq_true rfl⟩ ⟨rfl, rfl⟩ ⟨Nat.le_of_ble_eq_true rfl, Nat.le_of_ble_eq_true rfl⟩ (Nat.le_of_ble_eq_true rfl)) (fun v73 u73 hp73 => ?_)
                obtain ⟨r1, V3, rfl, rfl, hF3, hT3, hr3⟩ := hp73
                show Xw K G 0 0 _ n V3 R 76 [(0, .ref (aG G 42)), (1, .int (iI s)), (2, .int (iI w))] [.int (iI r1)]
                refine x_goto C dX12_tells_76 (tgt := 84) (by decide) ?_
                refine x_iret C dX12_tells_84 ⟨_, _, rfl, rfl, ?_, ?_⟩
                · exact hF3
                · first | exact Or.inr (Or.inr (Or.inr (Or.inr ⟨by omega, by omega, by omega, by omega, Or.inl ⟨by omega, hT3⟩⟩))) | exact Or.inr (Or.inr (Or.inr (Or.inr ⟨by omega, by omega, by omega, by omega, Or.inr (Or.inr ⟨by omega, rfl⟩)⟩)))
          · skip
            refine x_bipush C dX12_tells_55 (w := -2) (by decide) ?_
            refine x_iret C dX12_tells_57 ⟨_, _, rfl, rfl, ?_, ?_⟩
            · first | exact FrL.rf | exact Or.inl ⟨by omega, rfl⟩ | exact Or.inr (Or.inl ⟨by omega, by omega, rfl⟩) | exact Or.inr (Or.inr (Or.inl ⟨by omega, by omega, by omega, rfl⟩)) | exact Or.inr (Or.inr (Or.inr (Or.inl ⟨by omega, by omega, by omega, by omega, rfl⟩)))
            · first | exact FrL.rf | exact Or.inl ⟨by omega, rfl⟩ | exact Or.inr (Or.inl ⟨by omega, by omega, rfl⟩) | exact Or.inr (Or.inr (Or.inl ⟨by omega, by omega, by omega, rfl⟩)) | exact Or.inr (Or.inr (Or.inr (Or.inl ⟨by omega, by omega, by omega, by omega, rfl⟩)))
        · skip
          refine x_bipush C dX12_tells_41 (w := -11) (by decide) ?_
          refine x_iret C dX12_tells_43 ⟨_, _, rfl, rfl, ?_, ?_⟩
          · first | exact FrL.rf | exact Or.inl ⟨by omega, rfl⟩ | exact Or.inr (Or.inl ⟨by omega, by omega, rfl⟩) | exact Or.inr (Or.inr (Or.inl ⟨by omega, by omega, by omega, rfl⟩)) | exact Or.inr (Or.inr (Or.inr (Or.inl ⟨by omega, by omega, by omega, by omega, rfl⟩)))
          · first | exact FrL.rf | exact Or.inl ⟨by omega, rfl⟩ | exact Or.inr (Or.inl ⟨by omega, by omega, rfl⟩) | exact Or.inr (Or.inr (Or.inl ⟨by omega, by omega, by omega, rfl⟩)) | exact Or.inr (Or.inr (Or.inr (Or.inl ⟨by omega, by omega, by omega, by omega, rfl⟩)))
      · skip
        refine x_bipush C dX12_tells_29 (w := -2) (by decide) ?_
        refine x_iret C dX12_tells_31 ⟨_, _, rfl, rfl, ?_, ?_⟩
        · first | exact FrL.rf | exact Or.inl ⟨by omega, rfl⟩ | exact Or.inr (Or.inl ⟨by omega, by omega, rfl⟩) | exact Or.inr (Or.inr (Or.inl ⟨by omega, by omega, by omega, rfl⟩)) | exact Or.inr (Or.inr (Or.inr (Or.inl ⟨by omega, by omega, by omega, by omega, rfl⟩)))
        · first | exact FrL.rf | exact Or.inl ⟨by omega, rfl⟩ | exact Or.inr (Or.inl ⟨by omega, by omega, rfl⟩) | exact Or.inr (Or.inr (Or.inl ⟨by omega, by omega, by omega, rfl⟩)) | exact Or.inr (Or.inr (Or.inr (Or.inl ⟨by omega, by omega, by omega, by omega, rfl⟩)))
  · skip
    refine x_bipush C dX12_tells_7 (w := -3) (by decide) ?_
    refine x_iret C dX12_tells_9 ⟨_, _, rfl, rfl, ?_, ?_⟩
    · first | exact FrL.rf | exact Or.inl ⟨by omega, rfl⟩ | exact Or.inr (Or.inl ⟨by omega, by omega, rfl⟩) | exact Or.inr (Or.inr (Or.inl ⟨by omega, by omega, by omega, rfl⟩)) | exact Or.inr (Or.inr (Or.inr (Or.inl ⟨by omega, by omega, by omega, by omega, rfl⟩)))
    · first | exact FrL.rf | exact Or.inl ⟨by omega, rfl⟩ | exact Or.inr (Or.inl ⟨by omega, by omega, rfl⟩) | exact Or.inr (Or.inr (Or.inl ⟨by omega, by omega, by omega, rfl⟩)) | exact Or.inr (Or.inr (Or.inr (Or.inl ⟨by omega, by omega, by omega, by omega, rfl⟩)))
