theorem hitF_c {f f' : Int → Int → Int} {i : Int} (h : ∀ j, 0 ≤ j → j ≤ 3 → f i j = f' i j) (x y s : Int) : hitF f i x y s ↔ hitF f' i x y s := by
  unfold hitF
  rw [h 0 (by decide) (by decide), h 1 (by decide) (by decide), h 2 (by decide) (by decide), h 3 (by decide) (by decide)]
theorem hurtN_c {f f' : Int → Int → Int} : ∀ k : Nat, (∀ i, 0 ≤ i → i < (k : Int) → ∀ j, 0 ≤ j → j ≤ 3 → f i j = f' i j) → ∀ x y s t, hurtN f x y s t k = hurtN f' x y s t k
  | 0, _, _, _, _, _ => rfl
  | k + 1, h, x, y, s, t => by
    have ih := hurtN_c (f := f) (f' := f') k (fun i a b => h i a (by omega)) x y s t
    have hk := h k (by omega) (by omega)
    show cif (hitF f k _ _ s) (max (hurtN f x y s t k) (hurtK (f k 0))) (hurtN f x y s t k) = cif (hitF f' k _ _ s) (max (hurtN f' x y s t k) (hurtK (f' k 0))) (hurtN f' x y s t k)
    rw [ih, hk 0 (by decide) (by decide)]
    exact cif_c (hitF_c hk _ _ _)
/-- two logs that hurt alike -/
def HurtEq (f : Int → Int → Int) (m : Int) (f' : Int → Int → Int) (m' : Int) : Prop := ∀ x y s t, hurtS f m x y s t = hurtS f' m' x y s t
theorem hurtS_c {f f' : Int → Int → Int} {m : Int} (h : ∀ i, 0 ≤ i → i < m → ∀ j, 0 ≤ j → j ≤ 3 → f i j = f' i j) : HurtEq f m f' m := fun x y s t => hurtN_c m.toNat (fun i a b => h i a (by omega)) x y s t
theorem HurtEq.rowH {f f' : Int → Int → Int} {m m' : Int} (h : HurtEq f m f' m') : _root_.Jvm.Pilot.CLogSawyerLaw_law_r1793_69ec12.rowH f m = _root_.Jvm.Pilot.CLogSawyerLaw_law_r1793_69ec12.rowH f' m' := by
  funext b s y x; exact h x y s b
theorem HurtEq.row9 {f f' : Int → Int → Int} {m m' : Int} (h : HurtEq f m f' m') : _root_.Jvm.Pilot.CLogSawyerLaw_law_r1793_69ec12.row9 f m = _root_.Jvm.Pilot.CLogSawyerLaw_law_r1793_69ec12.row9 f' m' := by
  funext b s y x
  show bI (hurtS f m x y s b = 9) = bI (hurtS f' m' x y s b = 9)
  rw [h]
theorem HurtEq.faceH {f f' : Int → Int → Int} {m m' : Int} (h : HurtEq f m f' m') : _root_.Jvm.Pilot.CLogSawyerLaw_law_r1793_69ec12.faceH f m = _root_.Jvm.Pilot.CLogSawyerLaw_law_r1793_69ec12.faceH f' m' := by
  funext g y a b s t
  unfold _root_.Jvm.Pilot.CLogSawyerLaw_law_r1793_69ec12.faceH
  rw [h.rowH]
theorem HurtEq.face9 {f f' : Int → Int → Int} {m m' : Int} (h : HurtEq f m f' m') : _root_.Jvm.Pilot.CLogSawyerLaw_law_r1793_69ec12.face9 f m = _root_.Jvm.Pilot.CLogSawyerLaw_law_r1793_69ec12.face9 f' m' := by
  funext g y a b s t
  unfold _root_.Jvm.Pilot.CLogSawyerLaw_law_r1793_69ec12.face9
  rw [h.row9]
theorem HurtEq.grP {f f' : Int → Int → Int} {m m' : Int} (h : HurtEq f m f' m') : _root_.Jvm.Pilot.CLogSawyerLaw_law_r1793_69ec12.grP f m = _root_.Jvm.Pilot.CLogSawyerLaw_law_r1793_69ec12.grP f' m' := by
  funext g y k a b s t
  unfold _root_.Jvm.Pilot.CLogSawyerLaw_law_r1793_69ec12.grP
  rw [h.faceH, h.face9]
theorem HurtEq.wP {f f' : Int → Int → Int} {m m' : Int} (h : HurtEq f m f' m') : _root_.Jvm.Pilot.CLogSawyerLaw_law_r1793_69ec12.wP f m = _root_.Jvm.Pilot.CLogSawyerLaw_law_r1793_69ec12.wP f' m' := by
  funext g pr y k a b s t
  unfold _root_.Jvm.Pilot.CLogSawyerLaw_law_r1793_69ec12.wP
  rw [h.grP]
theorem HurtEq.B {f f' : Int → Int → Int} {m m' : Int} (h : HurtEq f m f' m') (r t L : Int) : BestB r t L f m = BestB r t L f' m' := by
  funext g pr y k W AR A B S T G
  unfold BestB
  rw [h.grP, h.wP]
theorem HurtEq.bwC {f f' : Int → Int → Int} {m m' : Int} (h : HurtEq f m f' m') (r t L : Int) : _root_.Jvm.Pilot.CLogSawyerLaw_law_r1793_69ec12.bwC r t L f m = _root_.Jvm.Pilot.CLogSawyerLaw_law_r1793_69ec12.bwC r t L f' m' := by
  funext g pr y k
  unfold _root_.Jvm.Pilot.CLogSawyerLaw_law_r1793_69ec12.bwC bestW
  rw [h.B]
theorem HurtEq.opT {f f' : Int → Int → Int} {m m' : Int} (h : HurtEq f m f' m') (r t L : Int) (pr : Int → Int) (g : Int) : _root_.Jvm.Pilot.CLogSawyerLaw_law_r1793_69ec12.opT r t L f m pr g = _root_.Jvm.Pilot.CLogSawyerLaw_law_r1793_69ec12.opT r t L f' m' pr g := by
  funext y
  unfold _root_.Jvm.Pilot.CLogSawyerLaw_law_r1793_69ec12.opT
  rw [h.bwC]
theorem HurtEq.opL {f f' : Int → Int → Int} {m m' : Int} (h : HurtEq f m f' m') (r t L : Int) (pr : Int → Int) (g : Int) : _root_.Jvm.Pilot.CLogSawyerLaw_law_r1793_69ec12.opL r t L f m pr g = _root_.Jvm.Pilot.CLogSawyerLaw_law_r1793_69ec12.opL r t L f' m' pr g := by
  unfold _root_.Jvm.Pilot.CLogSawyerLaw_law_r1793_69ec12.opL
  rw [h.opT]
theorem HurtEq.opG {f f' : Int → Int → Int} {m m' : Int} (h : HurtEq f m f' m') (r t L : Int) (pr : Int → Int) (g : Int) : _root_.Jvm.Pilot.CLogSawyerLaw_law_r1793_69ec12.opG r t L f m pr g = _root_.Jvm.Pilot.CLogSawyerLaw_law_r1793_69ec12.opG r t L f' m' pr g := by
  funext y
  unfold _root_.Jvm.Pilot.CLogSawyerLaw_law_r1793_69ec12.opG bestG
  rw [h.opT, h.B]
/-- faults drawn behind those of the log -/
def dwF (f : Int → Int → Int) (m seed : Int) : Int → Int → Int := fun i j => if i < m then f i j else drF seed (i - m) j
noncomputable def dwV (r t L : Int) (f : Int → Int → Int) (m : Int) (pr : Int → Int) (g seed k : Int) : Int := (opT r t L (dwF f m seed) (m + min k (8 - m)) pr g (-1)).1 0
noncomputable def dwM (V : Nat → Int → Int) (seed k : Int) : Int := dwV (V 42 0) (V 42 1) (V 42 2) (FM V) (V 42 4) (V 44) (V 42 3) seed k
def FrK (V V1 : Nat → Int → Int) : Prop := ∀ q z, q ≠ 50 → q ≠ 51 → q ≠ 52 → q ≠ 53 → q ≠ 58 → ¬ (q = 42 ∧ ((22 ≤ z ∧ z ≤ 28) ∨ z = 37)) → (q = 43 → 0 ≤ z ∧ z < 32) → V1 q z = V q z
theorem frk_t {V V2 V3 : Nat → Int → Int} (h : FrK V V2) (h2 : FrK V2 V3) : FrK V V3 := fun q z a b c d e g i => by rw [h2 q z a b c d e g i, h q z a b c d e g i]
theorem frk_r {V V2 : Nat → Int → Int} (h : FrK V V2) : V2 44 = V 44 := funext fun z => h 44 z (by decide) (by decide) (by decide) (by decide) (by decide) (by omega) (by omega)
theorem frk_4 {V V2 : Nat → Int → Int} (h : FrK V V2) {z : Int} (hz : z ≤ 4) : V2 42 z = V 42 z := h 42 z (by decide) (by decide) (by decide) (by decide) (by decide) (by omega) (by omega)
theorem frk_3 {V V2 : Nat → Int → Int} (h : FrK V V2) {z : Int} (h0 : 0 ≤ z) (h1 : z < 32) : V2 43 z = V 43 z := h 43 z (by decide) (by decide) (by decide) (by decide) (by decide) (by omega) (fun _ => ⟨h0, h1⟩)
theorem frk_ok {V V2 : Nat → Int → Int} (hl : LogOk V) (h : FrK V V2) : LogOk V2 := by
  obtain ⟨h1, h2, h3, h5, h4, hF⟩ := hl
  refine ⟨by rw [frk_4 h (by decide)]; exact h1, by rw [frk_4 h (by decide)]; exact h2, by rw [frk_4 h (by decide)]; exact h3, by rw [frk_4 h (by decide)]; exact h5, by rw [frk_4 h (by decide)]; exact h4, fun i a b => ?_⟩
  rw [frk_4 h (by decide)] at b
  unfold okM
  rw [frk_3 h (by omega) (by omega), frk_3 h (by omega) (by omega), frk_3 h (by omega) (by omega), frk_3 h (by omega) (by omega)]
  exact hF i a b
theorem dw_of {V V2 : Nat → Int → Int} {seed k r : Int} (hl : LogOk V) (h : FrK V V2) (hk0 : 0 ≤ k) (hk : k ≤ 8) (hd : ∃ F, (∀ i, 0 ≤ i → i < V2 42 4 → ∀ j, 0 ≤ j → j ≤ 3 → F i j = FM V2 i j) ∧ (∀ i, 0 ≤ i → i < min k (8 - V2 42 4) → ∀ j, 0 ≤ j → j ≤ 3 → F (V2 42 4 + i) j = drF seed i j) ∧ r = (opT (V2 42 0) (V2 42 1) (V2 42 2) F (V2 42 4 + min k (8 - V2 42 4)) (V2 44) (V2 42 3) (-1)).1 0) : r = dwM V seed k := by
  obtain ⟨h1, h2, h3, h5, h4, hF⟩ := hl
  obtain ⟨F, f1, f2, f3⟩ := hd
  rw [frk_4 h (z := 4) (by decide)] at f1 f2 f3
  rw [frk_4 h (z := 0) (by decide), frk_4 h (z := 1) (by decide), frk_4 h (z := 2) (by decide), frk_4 h (z := 3) (by decide), frk_r h] at f3
  have e : HurtEq F (V 42 4 + min k (8 - V 42 4)) (dwF (FM V) (V 42 4) seed) (V 42 4 + min k (8 - V 42 4)) := hurtS_c (fun i a b j j0 j1 => by
    unfold dwF
    by_cases q : i < V 42 4
    · rw [if_pos q, f1 i a q j j0 j1]; exact frk_3 h (by omega) (by omega)
    · rw [if_neg q, ← f2 (i - V 42 4) (by omega) (by omega) j j0 j1]; congr 1; omega)
  rw [f3, e.opT]; rfl

set_option maxRecDepth 100000 in
set_option maxHeartbeats 4000000 in
theorem m_X12_chance (G : GS) (n : Nat) (V : Nat → Int → Int) (R : Nat → Int → Option Nat) (seed : Int) (m : Int) (w : Int) (p : Int) (hn : 67 ≤ n) (hLR : LR R) (gm : Rg m) (gw : Rg w) (gp : Rg p) (hl : LogOk V) (hru : RulesOk (V 44)) : Cn G yX12_chance cX12_chance 7 (some .int) (rmk 7 0 0 182) [.ref (aG G 42), .int (iI seed), .int (iI m), .int (iI w), .int (iI p)] n V R 0 0 (fun vv uu => ∃ (r : Int), ∃ (V1 : Nat → Int → Int), vv = some (.int (iI r)) ∧ uu = (n, V1, R) ∧ (∀ q z, q ≠ 50 → q ≠ 51 → q ≠ 52 → q ≠ 53 → q ≠ 58 → ¬ (q = 42 ∧ ((22 ≤ z ∧ z ≤ 28) ∨ z = 37)) → (q = 43 → 0 ≤ z ∧ z < 32) → V1 q z = V q z) ∧ ((V 42 2 = 0 ∧ r = -3) ∨ (V 42 2 ≠ 0 ∧ ¬ ((1 ≤ m ∧ m ≤ 8) ∧ 0 ≤ w ∧ (0 ≤ p ∧ p ≤ 1)) ∧ r = -2) ∨ (V 42 2 ≠ 0 ∧ ((1 ≤ m ∧ m ≤ 8) ∧ 0 ≤ w ∧ (0 ≤ p ∧ p ≤ 1)) ∧ r = (if p = 0 then sm (fun k => bI (w ≤ dwM V (wr (seed + k)) 2)) m / (Nat.gcd (sm (fun k => bI (w ≤ dwM V (wr (seed + k)) 2)) m).toNat m.toNat : Int) else m / (Nat.gcd (sm (fun k => bI (w ≤ dwM V (wr (seed + k)) 2)) m).toNat m.toNat : Int))))) := by
  refine Cn.of (by decide) (Nat.le_of_ble_eq_true rfl) (fun K C hct => ?_)
  show Xw K G 0 0 _ n V R 0 [(0, .ref (aG G 42)), (1, .int (iI seed)), (2, .int (iI m)), (3, .int (iI w)), (4, .int (iI p))] []
  obtain ⟨h1, h2, h3, h5, h4, hF⟩ := id hl
  obtain ⟨hkf, hsv, hpr, hth⟩ := id hru
  refine x_aload_n C 0 dX12_chance_0 rfl rfl ?_
  refine x_geti C ok_Model 42 2 dX12_chance_1 (lt67 hn rfl) rfl (by decide) rfl q_6_12 rfl (kz := 2) rfl (fun rg1 => ?_)
  refine x_if_ne C dX12_chance_4 (tgt := 10) (by decide) (by first | assumption | (constructor <;> omega)) (fun h4 => ?_) (fun h4 => ?_)
  · skip
    refine x_iload_n C 2 dX12_chance_10 rfl rfl ?_
    refine x_i2l C dX12_chance_11 (by first | assumption | (constructor <;> omega)) ?_
    refine x_lconst C dX12_chance_12 (w := 1) (by decide) ?_
    refine x_ldc2 C dX12_chance_13 q_6_9 (w := 8) (by decide) ?_
    refine x_runU (r_callS C (ce_X12_in) (m_X12_in G n V R (m) (1) (8) (by first | assumption | omega | decide) (by first | assumption | omega | decide) (by first | assumption | omega | decide)) dX12_chance_16 q_6_15 q_6_16 rfl rfl ⟨Nat.le_of_ble_eq_true rfl, Nat.le_of_ble_eq_true rfl⟩ ⟨rfl, rfl⟩ ⟨Nat.le_of_ble_eq_true rfl, Nat.le_of_ble_eq_true rfl⟩ (Nat.le_of_ble_eq_true rfl)) (fun v16 u16 hp16 => ?_)
    obtain ⟨rfl, rfl⟩ := hp16
    show Xw K G 0 0 _ n V R 19 [(0, .ref (aG G 42)), (1, .int (iI seed)), (2, .int (iI m)), (3, .int (iI w)), (4, .int (iI p))] [.int (iI (bI (1 ≤ m ∧ m ≤ 8)))]
    refine x_ifeq_b C dX12_chance_19 (tgt := 37) (by decide) (fun h19 => ?_) (fun h19 => ?_)
    · skip
      refine x_bipush C dX12_chance_37 (w := -2) (by decide) ?_
      refine x_iret C dX12_chance_39 ⟨_, _, rfl, rfl, ?_, ?_⟩
      · first | exact fun _ _ _ _ _ _ _ _ _ => rfl | exact Or.inl ⟨by omega, rfl⟩ | exact Or.inr (Or.inl ⟨by omega, by omega, rfl⟩)
      · first | exact fun _ _ _ _ _ _ _ _ _ => rfl | exact Or.inl ⟨by omega, rfl⟩ | exact Or.inr (Or.inl ⟨by omega, by omega, rfl⟩)
    · skip
      refine x_iload_n C 3 dX12_chance_22 rfl rfl ?_
      refine x_if_lt C dX12_chance_23 (tgt := 37) (by decide) (by first | assumption | (constructor <;> omega)) (fun h23 => ?_) (fun h23 => ?_)
      · skip
        refine x_bipush C dX12_chance_37 (w := -2) (by decide) ?_
        refine x_iret C dX12_chance_39 ⟨_, _, rfl, rfl, ?_, ?_⟩
        · first | exact fun _ _ _ _ _ _ _ _ _ => rfl | exact Or.inl ⟨by omega, rfl⟩ | exact Or.inr (Or.inl ⟨by omega, by omega, rfl⟩)
        · first | exact fun _ _ _ _ _ _ _ _ _ => rfl | exact Or.inl ⟨by omega, rfl⟩ | exact Or.inr (Or.inl ⟨by omega, by omega, rfl⟩)
      · skip
        refine x_iload C 4 dX12_chance_26 rfl ?_
        refine x_i2l C dX12_chance_28 (by first | assumption | (constructor <;> omega)) ?_
        refine x_lconst C dX12_chance_29 (w := 0) (by decide) ?_
        refine x_lconst C dX12_chance_30 (w := 1) (by decide) ?_
        refine x_runU (r_callS C (ce_X12_in) (m_X12_in G n V R (p) (0) (1) (by first | assumption | omega | decide) (by first | assumption | omega | decide) (by first | assumption | omega | decide)) dX12_chance_31 q_6_15 q_6_16 rfl rfl ⟨Nat.le_of_ble_eq_true rfl, Nat.le_of_ble_eq_true rfl⟩ ⟨rfl, rfl⟩ ⟨Nat.le_of_ble_eq_true rfl, Nat.le_of_ble_eq_true rfl⟩ (Nat.le_of_ble_eq_true rfl)) (fun v31 u31 hp31 => ?_)
        obtain ⟨rfl, rfl⟩ := hp31
        show Xw K G 0 0 _ n V R 34 [(0, .ref (aG G 42)), (1, .int (iI seed)), (2, .int (iI m)), (3, .int (iI w)), (4, .int (iI p))] [.int (iI (bI (0 ≤ p ∧ p ≤ 1)))]
        refine x_ifne_b C dX12_chance_34 (tgt := 40) (by decide) (fun h34 => ?_) (fun h34 => ?_)
        · skip
          refine x_iconst C dX12_chance_40 ?_
          refine x_istore C dX12_chance_41 (by decide) (lv' := [(0, .ref (aG G 42)), (1, .int (iI seed)), (2, .int (iI m)), (3, .int (iI w)), (4, .int (iI p)), (5, .int (iI 0))]) rfl ?_
          refine x_iconst C dX12_chance_43 ?_
          refine x_istore C dX12_chance_44 (by decide) (lv' := [(0, .ref (aG G 42)), (1, .int (iI seed)), (2, .int (iI m)), (3, .int (iI w)), (4, .int (iI p)), (5, .int (iI 0)), (6, .int (iI 0))]) rfl ?_
          have lp_46 : ∀ (fuel : Nat) (c : Int) (k : Int) (V2 : Nat → Int → Int), (0 ≤ k ∧ k ≤ m) → (c = sm (fun k => bI (w ≤ dwM V (wr (seed + k)) 2)) k) → (∀ q z, q ≠ 50 → q ≠ 51 → q ≠ 52 → q ≠ 53 → q ≠ 58 → ¬ (q = 42 ∧ ((22 ≤ z ∧ z ≤ 28) ∨ z = 37)) → (q = 43 → 0 ≤ z ∧ z < 32) → V2 q z = V q z) → (m - k) < (fuel : Int) → Xw K G 0 0 (EndQ K G 0 0 (fun vv uu => ∃ (r : Int), ∃ (V1 : Nat → Int → Int), vv = some (.int (iI r)) ∧ uu = (n, V1, R) ∧ (∀ q z, q ≠ 50 → q ≠ 51 → q ≠ 52 → q ≠ 53 → q ≠ 58 → ¬ (q = 42 ∧ ((22 ≤ z ∧ z ≤ 28) ∨ z = 37)) → (q = 43 → 0 ≤ z ∧ z < 32) → V1 q z = V q z) ∧ ((V 42 2 = 0 ∧ r = -3) ∨ (V 42 2 ≠ 0 ∧ ¬ ((1 ≤ m ∧ m ≤ 8) ∧ 0 ≤ w ∧ (0 ≤ p ∧ p ≤ 1)) ∧ r = -2) ∨ (V 42 2 ≠ 0 ∧ ((1 ≤ m ∧ m ≤ 8) ∧ 0 ≤ w ∧ (0 ≤ p ∧ p ≤ 1)) ∧ r = (if p = 0 then sm (fun k => bI (w ≤ dwM V (wr (seed + k)) 2)) m / (Nat.gcd (sm (fun k => bI (w ≤ dwM V (wr (seed + k)) 2)) m).toNat m.toNat : Int) else m / (Nat.gcd (sm (fun k => bI (w ≤ dwM V (wr (seed + k)) 2)) m).toNat m.toNat : Int)))))) n V2 R 46 [(0, .ref (aG G 42)), (1, .int (iI seed)), (2, .int (iI m)), (3, .int (iI w)), (4, .int (iI p)), (5, .int (iI c)), (6, .int (iI k))] [] := by
            intro fuel46
            induction fuel46 with
            | zero => intro c k V2 hk hc hfr2 hfu46; exfalso; omega
            | succ fuel46 ih46 =>
              intro c k V2 hk hc hfr2 hfu46
              have hcb := sm_b (f := fun k => bI (w ≤ dwM V (wr (seed + k)) 2)) (A := 1) hk.1 (fun i _ _ => bI_b _)
              refine x_iload C 6 dX12_chance_46 rfl ?_
              refine x_iload_n C 2 dX12_chance_48 rfl rfl ?_
              refine x_icmp_ge C dX12_chance_49 (tgt := 81) (by decide) (by first | assumption | (constructor <;> omega)) (by first | assumption | (constructor <;> omega)) (fun h49 => ?_) (fun h49 => ?_)
              · skip
                refine x_iload C 5 dX12_chance_81 rfl ?_
                refine x_iload_n C 2 dX12_chance_83 rfl rfl ?_
                refine x_iload C 4 dX12_chance_84 rfl ?_
                refine x_runU (r_callS C (ce_X12_lowest) (m_X12_lowest G n V2 R (c) (m) (p) (by omega) (by omega) (by first | assumption | omega | decide)) dX12_chance_86 q_47_9 q_47_10 rfl rfl ⟨Nat.le_of_ble_eq_true rfl, Nat.le_of_ble_eq_true rfl⟩ ⟨rfl, rfl⟩ ⟨Nat.le_of_ble_eq_true rfl, Nat.le_of_ble_eq_true rfl⟩ (Nat.le_of_ble_eq_true rfl)) (fun v86 u86 hp86 => ?_)
                obtain ⟨rfl, rfl⟩ := hp86
                show Xw K G 0 0 _ n V2 R 89 [(0, .ref (aG G 42)), (1, .int (iI seed)), (2, .int (iI m)), (3, .int (iI w)), (4, .int (iI p)), (5, .int (iI c)), (6, .int (iI k))] [.int (iI (if p = 0 then c / (Nat.gcd c.toNat m.toNat : Int) else m / (Nat.gcd c.toNat m.toNat : Int)))]
                refine x_iret C dX12_chance_89 ⟨_, _, rfl, rfl, ?_, ?_⟩
                · exact hfr2
                · refine Or.inr (Or.inr ⟨by omega, by omega, ?_⟩); rw [← show k = m by omega, ← hc, show k = m by omega]
              · skip
                refine x_iload C 5 dX12_chance_52 rfl ?_
                refine x_aload_n C 0 dX12_chance_54 rfl rfl ?_
                refine x_iload_n C 1 dX12_chance_55 rfl rfl ?_
                refine x_iload C 6 dX12_chance_56 rfl ?_
                refine x_iadd C dX12_chance_58 ?_
                refine x_iconst C dX12_chance_59 ?_
                refine x_runU (r_callV C ok_Model 42 (lt67 hn rfl) rfl (ce_X12_drawnBy) (m_X12_drawnBy G n V2 R (seed + k) (2) hn hLR (by first | assumption | omega | decide) (by exact frk_ok hl hfr2) (by rw [frk_r hfr2]; exact hru) (by rw [hfr2 42 2 (by decide) (by decide) (by decide) (by decide) (by decide) (by omega) (by omega)]; omega)) rfl dX12_chance_60 q_46_12 q_46_13 q_46_14 rfl rfl ⟨Nat.le_of_ble_eq_true rfl, Nat.le_of_ble_eq_true rfl⟩ ⟨rfl, rfl⟩ ⟨Nat.le_of_ble_eq_true rfl, Nat.le_of_ble_eq_true rfl⟩ (Nat.le_of_ble_eq_true rfl)) (fun v60 u60 hp60 => ?_)
                obtain ⟨r1, V3, rfl, rfl, hfk, hdp, hrb⟩ := hp60
                show Xw K G 0 0 _ n V3 R 63 [(0, .ref (aG G 42)), (1, .int (iI seed)), (2, .int (iI m)), (3, .int (iI w)), (4, .int (iI p)), (5, .int (iI c)), (6, .int (iI k))] [.int (iI r1), .int (iI c)]
                have hdw := dw_of hl hfr2 (by decide) (by decide) hdp
                refine x_iload_n C 3 dX12_chance_63 rfl rfl ?_
                refine x_icmp_lt C dX12_chance_64 (tgt := 71) (by decide) (by first | assumption | (constructor <;> omega)) (by first | assumption | (constructor <;> omega)) (fun h64 => ?_) (fun h64 => ?_)
                · skip
                  refine x_iconst C dX12_chance_71 ?_
                  refine x_iadd C dX12_chance_72 ?_
                  refine x_istore C dX12_chance_73 (by decide) (lv' := [(0, .ref (aG G 42)), (1, .int (iI seed)), (2, .int (iI m)), (3, .int (iI w)), (4, .int (iI p)), (5, .int (iI (c + 0))), (6, .int (iI k))]) rfl ?_
                  refine x_iinc C 6 dX12_chance_75 rfl (by decide) (lv' := [(0, .ref (aG G 42)), (1, .int (iI seed)), (2, .int (iI m)), (3, .int (iI w)), (4, .int (iI p)), (5, .int (iI (c + 0))), (6, .int (iI (k + 1)))]) rfl ?_
                  refine x_goto C dX12_chance_78 (tgt := 46) (by decide) ?_
                  exact ih46 ((c + 0)) ((k + 1)) (V3) (by omega) (by first | exact sm_st hk.1 hc (bI_t (by show w ≤ dwM V (wr (seed + k)) 2; omega)).symm | exact sm_st hk.1 hc (bI_f (by show ¬ w ≤ dwM V (wr (seed + k)) 2; omega)).symm) (by exact frk_t hfr2 hfk) (by omega)
                · skip
                  refine x_iconst C dX12_chance_67 ?_
                  refine x_goto C dX12_chance_68 (tgt := 72) (by decide) ?_
                  refine x_iadd C dX12_chance_72 ?_
                  refine x_istore C dX12_chance_73 (by decide) (lv' := [(0, .ref (aG G 42)), (1, .int (iI seed)), (2, .int (iI m)), (3, .int (iI w)), (4, .int (iI p)), (5, .int (iI (c + 1))), (6, .int (iI k))]) rfl ?_
                  refine x_iinc C 6 dX12_chance_75 rfl (by decide) (lv' := [(0, .ref (aG G 42)), (1, .int (iI seed)), (2, .int (iI m)), (3, .int (iI w)), (4, .int (iI p)), (5, .int (iI (c + 1))), (6, .int (iI (k + 1)))]) rfl ?_
                  refine x_goto C dX12_chance_78 (tgt := 46) (by decide) ?_
                  exact ih46 ((c + 1)) ((k + 1)) (V3) (by omega) (by first | exact sm_st hk.1 hc (bI_t (by show w ≤ dwM V (wr (seed + k)) 2; omega)).symm | exact sm_st hk.1 hc (bI_f (by show ¬ w ≤ dwM V (wr (seed + k)) 2; omega)).symm) (by exact frk_t hfr2 hfk) (by omega)
          exact lp_46 ((m - 0).toNat + 1) (0) (0) (V) (by omega) (by rfl) (by exact fun _ _ _ _ _ _ _ _ _ => rfl) (by omega)
        · skip
          refine x_bipush C dX12_chance_37 (w := -2) (by decide) ?_
          refine x_iret C dX12_chance_39 ⟨_, _, rfl, rfl, ?_, ?_⟩
          · first | exact fun _ _ _ _ _ _ _ _ _ => rfl | exact Or.inl ⟨by omega, rfl⟩ | exact Or.inr (Or.inl ⟨by omega, by omega, rfl⟩)
          · first | exact fun _ _ _ _ _ _ _ _ _ => rfl | exact Or.inl ⟨by omega, rfl⟩ | exact Or.inr (Or.inl ⟨by omega, by omega, rfl⟩)
  · skip
    refine x_bipush C dX12_chance_7 (w := -3) (by decide) ?_
    refine x_iret C dX12_chance_9 ⟨_, _, rfl, rfl, ?_, ?_⟩
    · first | exact fun _ _ _ _ _ _ _ _ _ => rfl | exact Or.inl ⟨by omega, rfl⟩ | exact Or.inr (Or.inl ⟨by omega, by omega, rfl⟩)
    · first | exact fun _ _ _ _ _ _ _ _ _ => rfl | exact Or.inl ⟨by omega, rfl⟩ | exact Or.inr (Or.inl ⟨by omega, by omega, rfl⟩)
