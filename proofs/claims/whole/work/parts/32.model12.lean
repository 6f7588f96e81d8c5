def dsdN (s : Int) : Nat → Int
  | 0 => s
  | k + 1 => wr (dsdN s k * 1103515245 + 12345)
def dsd (s k : Int) : Int := dsdN s k.toNat
theorem dsd_s {s k : Int} (h : 0 ≤ k) : dsd s (k + 1) = wr (dsd s k * 1103515245 + 12345) := by
  unfold dsd
  rw [show (k + 1).toNat = k.toNat + 1 by omega]; rfl
def drF (s i j : Int) : Int := if j = 0 then zUshr (dsd s (4 * i + 1)) 9 % 7 else if j = 1 then zUshr (dsd s (4 * i + 2)) 9 % 8 else if j = 2 then zUshr (dsd s (4 * i + 3)) 9 % 8 else 1 + zUshr (dsd s (4 * i + 4)) 9 % 4
theorem dr0 {s k : Int} (h : 0 ≤ k) : zUshr (wr (dsd s (4 * k) * 1103515245 + 12345)) 9 % 7 = drF s k 0 := by rw [← dsd_s (by omega)]; rfl
theorem dr1 {s k : Int} (h : 0 ≤ k) : zUshr (wr (dsd s (4 * k + 1) * 1103515245 + 12345)) 9 % 8 = drF s k 1 := by rw [← dsd_s (by omega), show 4 * k + 1 + 1 = 4 * k + 2 by omega]; rfl
theorem dr2 {s k : Int} (h : 0 ≤ k) : zUshr (wr (dsd s (4 * k + 2) * 1103515245 + 12345)) 9 % 8 = drF s k 2 := by rw [← dsd_s (by omega), show 4 * k + 2 + 1 = 4 * k + 3 by omega]; rfl
theorem dr3 {s k : Int} (h : 0 ≤ k) : 1 + zUshr (wr (dsd s (4 * k + 3) * 1103515245 + 12345)) 9 % 4 = drF s k 3 := by rw [← dsd_s (by omega), show 4 * k + 3 + 1 = 4 * k + 4 by omega]; rfl
theorem drF_b (s i : Int) : (0 ≤ drF s i 0 ∧ drF s i 0 ≤ 6) ∧ (0 ≤ drF s i 1 ∧ drF s i 1 ≤ 7) ∧ (0 ≤ drF s i 2 ∧ drF s i 2 ≤ 7) ∧ (1 ≤ drF s i 3 ∧ drF s i 3 ≤ 4) := by
  have h1 : drF s i 0 = zUshr (dsd s (4 * i + 1)) 9 % 7 := rfl
  have h2 : drF s i 1 = zUshr (dsd s (4 * i + 2)) 9 % 8 := rfl
  have h3 : drF s i 2 = zUshr (dsd s (4 * i + 3)) 9 % 8 := rfl
  have h4 : drF s i 3 = 1 + zUshr (dsd s (4 * i + 4)) 9 % 4 := rfl
  omega
theorem dr_ok {V V3 : Nat → Int → Int} {k s : Int} (hl : LogOk V) (h34 : V3 42 4 = V 42 4 + k) (hk : 0 ≤ k) (h8 : V 42 4 + k ≤ 8) (hfr : ∀ q z, q ≠ 43 → q ≠ 58 → ¬ (q = 42 ∧ (z = 4 ∨ z = 37)) → V3 q z = V q z) (hlow : ∀ z, z < 4 * V 42 4 → V3 43 z = V 43 z) (hdr : ∀ i, 0 ≤ i → i < k → ∀ j, 0 ≤ j → j ≤ 3 → V3 43 (4 * (V 42 4 + i) + j) = drF s i j) : LogOk V3 := by
  obtain ⟨h1, h2, h3, h5, h4, hF⟩ := hl
  have e : ∀ z, z < 4 → V3 42 z = V 42 z := fun z a => hfr 42 z (by decide) (by decide) (by omega)
  refine ⟨by rw [e 0 (by decide)]; exact h1, by rw [e 1 (by decide)]; exact h2, by rw [e 2 (by decide)]; exact h3, by rw [e 3 (by decide)]; exact h5, by omega, fun i a b => ?_⟩
  unfold okM
  by_cases q : i < V 42 4
  · rw [hlow _ (by omega), hlow _ (by omega), hlow _ (by omega), hlow _ (by omega)]; exact hF i a q
  · have d := hdr (i - V 42 4) (by omega) (by omega)
    have d0 := d 0 (by decide) (by decide)
    have d1 := d 1 (by decide) (by decide)
    have d2 := d 2 (by decide) (by decide)
    have d3 := d 3 (by decide) (by decide)
    rw [show V 42 4 + (i - V 42 4) = i by omega] at d0 d1 d2 d3
    rw [Int.add_zero] at d0
    rw [d0, d1, d2, d3]; exact drF_b _ _
theorem dr_f {V V3 VA VB VC VD : Nat → Int → Int} {a b c d e f g h x : Int} (hfr : ∀ q z, q ≠ 43 → q ≠ 58 → ¬ (q = 42 ∧ (z = 4 ∨ z = 37)) → V3 q z = V q z) (hA : ∀ q z, ¬ (q = 42 ∧ z = 37) → VA q z = V3 q z) (hB : ∀ q z, ¬ (q = 42 ∧ z = 37) → VB q z = VA q z) (hC : ∀ q z, ¬ (q = 42 ∧ z = 37) → VC q z = VB q z) (hD : ∀ q z, ¬ (q = 42 ∧ z = 37) → VD q z = VC q z) : ∀ q z, q ≠ 43 → q ≠ 58 → ¬ (q = 42 ∧ (z = 4 ∨ z = 37)) → u2 (u2 (u2 (u2 (u2 VD 43 a b) 43 c d) 43 e f) 43 g h) 42 4 x q z = V q z := fun q z q1 q2 q3 => by
  rw [u2_at, if_neg (by omega), u2_n q1, u2_n q1, u2_n q1, u2_n q1, hD q z (by omega), hC q z (by omega), hB q z (by omega), hA q z (by omega)]
  exact hfr q z q1 q2 q3
theorem dr_s {V3 VD : Nat → Int → Int} {m k s w : Int} {dk da ds dz x : Int} (hdr : ∀ i, 0 ≤ i → i < k → ∀ j, 0 ≤ j → j ≤ 3 → V3 43 (4 * (m + i) + j) = drF s i j) (h : ∀ z, VD 43 z = V3 43 z) (hw : w = m + k) (hk : 0 ≤ k) (h0 : dk = drF s k 0) (h1 : da = drF s k 1) (h2 : ds = drF s k 2) (h3 : dz = drF s k 3) : ∀ i, 0 ≤ i → i < k + 1 → ∀ j, 0 ≤ j → j ≤ 3 → u2 (u2 (u2 (u2 (u2 VD 43 (4 * w) dk) 43 (4 * w + 1) da) 43 (4 * w + 2) ds) 43 (4 * w + 3) dz) 42 4 x 43 (4 * (m + i) + j) = drF s i j := fun i a b j j0 j1 => by
  rw [u2_n (by decide), u2_s, u2_s, u2_s, u2_s]
  subst hw
  by_cases q : i = k
  · subst q
    rcases (show j = 0 ∨ j = 1 ∨ j = 2 ∨ j = 3 by omega) with e | e | e | e <;> subst e
    · rw [u1_n (by omega), u1_n (by omega), u1_n (by omega), Int.add_zero, u1_s]; exact h0
    · rw [u1_n (by omega), u1_n (by omega), u1_s]; exact h1
    · rw [u1_n (by omega), u1_s]; exact h2
    · rw [u1_s]; exact h3
  · rw [u1_n (by omega), u1_n (by omega), u1_n (by omega), u1_n (by omega), h]
    exact hdr i a (by omega) j j0 j1
theorem dr_fr {V V3 V4 V5 : Nat → Int → Int} (hfr : ∀ q z, q ≠ 43 → q ≠ 58 → ¬ (q = 42 ∧ (z = 4 ∨ z = 37)) → V3 q z = V q z) (h58 : ∀ z, 0 ≤ z → z < 32 → V3 58 z = V 43 z) (hF4 : FrO V3 V4) (h54 : V5 42 4 = V 42 4) (h5F : ∀ q z, ¬ (q = 42 ∧ z = 4) → q ≠ 43 → V5 q z = V4 q z) (h5c : ∀ z, 0 ≤ z → z < 32 → V5 43 z = V4 58 z) : ∀ q z, q ≠ 50 → q ≠ 51 → q ≠ 52 → q ≠ 53 → q ≠ 58 → ¬ (q = 42 ∧ ((22 ≤ z ∧ z ≤ 28) ∨ z = 37)) → (q = 43 → 0 ≤ z ∧ z < 32) → V5 q z = V q z := fun q z a b c d e g h => by
  by_cases q1 : q = 43
  · subst q1
    obtain ⟨z0, z1⟩ := h rfl
    rw [h5c z z0 z1, hF4 58 z (by decide) (by decide) (by decide) (by decide) (by omega), h58 z z0 z1]
  · by_cases q2 : q = 42 ∧ z = 4
    · rw [q2.1, q2.2]; exact h54
    · rw [h5F q z q2 q1, hF4 q z a b c d (fun x => g ⟨x.1, Or.inl x.2⟩), hfr q z q1 e (by omega)]
theorem gcd_st {x y : Int} (hx : 0 ≤ x) (hy : 1 ≤ y) : Nat.gcd y.toNat (x % y).toNat = Nat.gcd x.toNat y.toNat := by
  obtain ⟨a, rfl⟩ : ∃ a : Nat, x = a := ⟨x.toNat, by omega⟩
  obtain ⟨b, rfl⟩ : ∃ b : Nat, y = b := ⟨y.toNat, by omega⟩
  have e : ((a : Int) % (b : Int)).toNat = a % b := by omega
  rw [e, show (a : Int).toNat = a by omega, show (b : Int).toNat = b by omega, Nat.gcd_comm a b, Nat.gcd_rec b a, Nat.gcd_comm]
theorem gcd_0 {x : Int} (hx : 0 ≤ x) : (Nat.gcd x.toNat (0 : Int).toNat : Int) = x := by
  rw [show (0 : Int).toNat = 0 by rfl, Nat.gcd_zero_right]; omega

set_option maxRecDepth 100000 in
set_option maxHeartbeats 4000000 in
theorem m_X12_drawnBy (G : GS) (n : Nat) (V : Nat → Int → Int) (R : Nat → Int → Option Nat) (seed : Int) (m : Int) (hn : 67 ≤ n) (hLR : LR R) (hm : 0 ≤ m ∧ m ≤ 8) (hl : LogOk V) (hru : RulesOk (V 44)) (hL1 : 1 ≤ V 42 2) : Cn G yX12_drawnBy cX12_drawnBy 8 (some .int) (rmk 6 0 0 155) [.ref (aG G 42), .int (iI seed), .int (iI m)] n V R 0 0 (fun vv uu => ∃ (r : Int), ∃ (V1 : Nat → Int → Int), vv = some (.int (iI r)) ∧ uu = (n, V1, R) ∧ (∀ q z, q ≠ 50 → q ≠ 51 → q ≠ 52 → q ≠ 53 → q ≠ 58 → ¬ (q = 42 ∧ ((22 ≤ z ∧ z ≤ 28) ∨ z = 37)) → (q = 43 → 0 ≤ z ∧ z < 32) → V1 q z = V q z) ∧ (∃ F, (∀ i, 0 ≤ i → i < V 42 4 → ∀ j, 0 ≤ j → j ≤ 3 → F i j = FM V i j) ∧ (∀ i, 0 ≤ i → i < min m (8 - V 42 4) → ∀ j, 0 ≤ j → j ≤ 3 → F (V 42 4 + i) j = drF (wr seed) i j) ∧ r = (opT (V 42 0) (V 42 1) (V 42 2) F (V 42 4 + min m (8 - V 42 4)) (V 44) (V 42 3) (-1)).1 0) ∧ (0 ≤ r ∧ r ≤ 456192)) := by
  refine Cn.of (by decide) (Nat.le_of_ble_eq_true rfl) (fun K C hct => ?_)
  show Xw K G 0 0 _ n V R 0 [(0, .ref (aG G 42)), (1, .int (iI seed)), (2, .int (iI m))] []
  obtain ⟨h1, h2, h3, h5, h4, hF⟩ := id hl
  obtain ⟨hkf, hsv, hpr, hth⟩ := id hru
  refine x_aload_n C 0 dX12_drawnBy_0 rfl rfl ?_
  refine x_runU (r_callV C ok_Model 42 (lt67 hn rfl) rfl (ce_X12_keepsFaults) (m_X12_keepsFaults G n V R hn hLR) rfl dX12_drawnBy_1 q_45_12 q_45_13 q_45_14 rfl rfl ⟨Nat.le_of_ble_eq_true rfl, Nat.le_of_ble_eq_true rfl⟩ ⟨rfl, rfl⟩ ⟨Nat.le_of_ble_eq_true rfl, Nat.le_of_ble_eq_true rfl⟩ (Nat.le_of_ble_eq_true rfl)) (fun v1 u1 hp1 => ?_)
  obtain ⟨V2, rfl, rfl, hF2, hc2⟩ := hp1
  show Xw K G 0 0 _ n V2 R 4 [(0, .ref (aG G 42)), (1, .int (iI seed)), (2, .int (iI m))] [.int (iI (V 42 4))]
  refine x_istore_n C dX12_drawnBy_4 rfl (by decide) (lv' := [(0, .ref (aG G 42)), (1, .int (iI seed)), (2, .int (iI m)), (3, .int (iI (V 42 4)))]) rfl ?_
  refine x_aload_n C 0 dX12_drawnBy_5 rfl rfl ?_
  refine x_iload_n C 1 dX12_drawnBy_6 rfl rfl ?_
  refine x_wr ?_
  refine x_puti C ok_Model 42 37 dX12_drawnBy_7 (lt67 hn rfl) rfl (by decide) rfl q_46_16 rfl rfl (Or.inl rfl) (by exact wr_Rg _) (kz := 37) rfl ?_
  refine x_iconst C dX12_drawnBy_10 ?_
  refine x_istore C dX12_drawnBy_11 (by decide) (lv' := [(0, .ref (aG G 42)), (1, .int (iI seed)), (2, .int (iI m)), (3, .int (iI (V 42 4))), (4, .int (iI 0))]) rfl ?_
  have lp_13 : ∀ (fuel : Nat) (k : Int) (V3 : Nat → Int → Int), (0 ≤ k ∧ k ≤ m ∧ V 42 4 + k ≤ 8) → (V3 42 4 = V 42 4 + k) → (V3 42 37 = dsd (wr seed) (4 * k)) → (∀ q z, q ≠ 43 → q ≠ 58 → ¬ (q = 42 ∧ (z = 4 ∨ z = 37)) → V3 q z = V q z) → (∀ z, 0 ≤ z → z < 32 → V3 58 z = V 43 z) → (∀ z, z < 4 * V 42 4 → V3 43 z = V 43 z) → (∀ i, 0 ≤ i → i < k → ∀ j, 0 ≤ j → j ≤ 3 → V3 43 (4 * (V 42 4 + i) + j) = drF (wr seed) i j) → (m - k) < (fuel : Int) → Xw K G 0 0 (EndQ K G 0 0 (fun vv uu => ∃ (r : Int), ∃ (V1 : Nat → Int → Int), vv = some (.int (iI r)) ∧ uu = (n, V1, R) ∧ (∀ q z, q ≠ 50 → q ≠ 51 → q ≠ 52 → q ≠ 53 → q ≠ 58 → ¬ (q = 42 ∧ ((22 ≤ z ∧ z ≤ 28) ∨ z = 37)) → (q = 43 → 0 ≤ z ∧ z < 32) → V1 q z = V q z) ∧ (∃ F, (∀ i, 0 ≤ i → i < V 42 4 → ∀ j, 0 ≤ j → j ≤ 3 → F i j = FM V i j) ∧ (∀ i, 0 ≤ i → i < min m (8 - V 42 4) → ∀ j, 0 ≤ j → j ≤ 3 → F (V 42 4 + i) j = drF (wr seed) i j) ∧ r = (opT (V 42 0) (V 42 1) (V 42 2) F (V 42 4 + min m (8 - V 42 4)) (V 44) (V 42 3) (-1)).1 0) ∧ (0 ≤ r ∧ r ≤ 456192))) n V3 R 13 [(0, .ref (aG G 42)), (1, .int (iI seed)), (2, .int (iI m)), (3, .int (iI (V 42 4))), (4, .int (iI k))] [] := by
    intro fuel13
    induction fuel13 with
    | zero => intro k V3 hk h34 hdV3 hfr h58 hlow hdr hfu13; exfalso; omega
    | succ fuel13 ih13 =>
      intro k V3 hk h34 hdV3 hfr h58 hlow hdr hfu13
      have hl3 : LogOk V3 := dr_ok hl h34 hk.1 hk.2.2 hfr hlow hdr
      have e443 : V3 44 = V 44 := by (funext z; rw [hfr 44 z (by decide) (by decide) (by omega)])
      have hru3 : RulesOk (V3 44) := by rw [e443]; exact hru
      have e4223 : V3 42 2 = V 42 2 := hfr 42 2 (by decide) (by decide) (by omega)
      have e4233 : V3 42 3 = V 42 3 := hfr 42 3 (by decide) (by decide) (by omega)
      refine x_iload C 4 dX12_drawnBy_13 rfl ?_
      refine x_iload_n C 2 dX12_drawnBy_15 rfl rfl ?_
      refine x_icmp_ge C dX12_drawnBy_16 (tgt := 75) (by decide) (by first | assumption | (constructor <;> omega)) (by first | assumption | (constructor <;> omega)) (fun h16 => ?_) (fun h16 => ?_)
      · skip
        refine x_aload_n C 0 dX12_drawnBy_75 rfl rfl ?_
        refine x_aload_n C 0 dX12_drawnBy_76 rfl rfl ?_
        refine x_geti C ok_Model 42 3 dX12_drawnBy_77 (lt67 hn rfl) rfl (by decide) rfl q_6_13 rfl (kz := 3) rfl (fun rg77 => ?_)
        refine x_runU (r_callV C ok_Model 42 (lt67 hn rfl) rfl (ce_X12_opens) (m_X12_opens G n V3 R (V3 42 3) hn hLR (by exact hl3) (by exact hru3) (by omega) (by omega)) rfl dX12_drawnBy_80 q_37_22 q_37_23 q_38_0 rfl rfl ⟨Nat.le_of_ble_eq_true rfl, Nat.le_of_ble_eq_true rfl⟩ ⟨rfl, rfl⟩ ⟨Nat.le_of_ble_eq_true rfl, Nat.le_of_ble_eq_true rfl⟩ (Nat.le_of_ble_eq_true rfl)) (fun v80 u80 hp80 => ?_)
        obtain ⟨V4, rfl, rfl, hF4, hS4, hT4⟩ := hp80
        show Xw K G 0 0 _ n V4 R 83 [(0, .ref (aG G 42)), (1, .int (iI seed)), (2, .int (iI m)), (3, .int (iI (V 42 4))), (4, .int (iI k))] [.int (iI ((opM V3 (V3 42 3) (-1)).1 0))]
        refine x_top (b := ((opM V3 (V 42 3) (-1)).1 0)) (by rw [e4233]) ?_
        refine x_istore C dX12_drawnBy_83 (by decide) (lv' := [(0, .ref (aG G 42)), (1, .int (iI seed)), (2, .int (iI m)), (3, .int (iI (V 42 4))), (4, .int (iI ((opM V3 (V 42 3) (-1)).1 0)))]) rfl ?_
        have hbnd := (opM_b (V := V3) (g := V 42 3) (y := -1) (by decide)).1 0
        refine x_aload_n C 0 dX12_drawnBy_85 rfl rfl ?_
        refine x_iload_n C 3 dX12_drawnBy_86 rfl rfl ?_
        refine x_runU (r_callV C ok_Model 42 (lt67 hn rfl) rfl (ce_X12_takesBack) (m_X12_takesBack G n V4 R (V 42 4) hn hLR (by first | assumption | omega | decide)) rfl dX12_drawnBy_87 q_45_16 q_45_17 q_45_18 rfl rfl ⟨Nat.le_of_ble_eq_true rfl, Nat.le_of_ble_eq_true rfl⟩ ⟨rfl, rfl⟩ ⟨Nat.le_of_ble_eq_true rfl, Nat.le_of_ble_eq_true rfl⟩ (Nat.le_of_ble_eq_true rfl)) (fun v87 u87 hp87 => ?_)
        obtain ⟨V5, rfl, rfl, h54, h5F, h5c⟩ := hp87
        show Xw K G 0 0 _ n V5 R 90 [(0, .ref (aG G 42)), (1, .int (iI seed)), (2, .int (iI m)), (3, .int (iI (V 42 4))), (4, .int (iI ((opM V3 (V 42 3) (-1)).1 0)))] []
        refine x_iload C 4 dX12_drawnBy_90 rfl ?_
        refine x_iret C dX12_drawnBy_92 ⟨_, _, rfl, rfl, ?_, ?_, ?_⟩
        · exact dr_fr hfr h58 hF4 h54 h5F h5c
        · refine ⟨FM V3, fun i a b j j0 j1 => hlow _ (by omega), fun i a b j j0 j1 => hdr i a (by omega) j j0 j1, ?_⟩; unfold opM; rw [h34, hfr 42 0 (by decide) (by decide) (by omega), hfr 42 1 (by decide) (by decide) (by omega), e4223, e443, show min m (8 - V 42 4) = k by omega]
        · exact hbnd
      · skip
        refine x_aload_n C 0 dX12_drawnBy_19 rfl rfl ?_
        refine x_geti C ok_Model 42 4 dX12_drawnBy_20 (lt67 hn rfl) rfl (by decide) rfl q_6_14 rfl (kz := 4) rfl (fun rg20 => ?_)
        refine x_bipush C dX12_drawnBy_23 (w := 8) (by decide) ?_
        refine x_icmp_ge C dX12_drawnBy_25 (tgt := 75) (by decide) (by first | assumption | (constructor <;> omega)) (by first | assumption | (constructor <;> omega)) (fun h25 => ?_) (fun h25 => ?_)
        · skip
          refine x_aload_n C 0 dX12_drawnBy_75 rfl rfl ?_
          refine x_aload_n C 0 dX12_drawnBy_76 rfl rfl ?_
          refine x_geti C ok_Model 42 3 dX12_drawnBy_77 (lt67 hn rfl) rfl (by decide) rfl q_6_13 rfl (kz := 3) rfl (fun rg77 => ?_)
          refine x_runU (r_callV C ok_Model 42 (lt67 hn rfl) rfl (ce_X12_opens) (m_X12_opens G n V3 R (V3 42 3) hn hLR (by exact hl3) (by exact hru3) (by omega) (by omega)) rfl dX12_drawnBy_80 q_37_22 q_37_23 q_38_0 rfl rfl ⟨Nat.le_of_ble_eq_true rfl, Nat.le_of_ble_eq_true rfl⟩ ⟨rfl, rfl⟩ ⟨Nat.le_of_ble_eq_true rfl, Nat.le_of_ble_eq_true rfl⟩ (Nat.le_of_ble_eq_true rfl)) (fun v80 u80 hp80 => ?_)
          obtain ⟨V4, rfl, rfl, hF4, hS4, hT4⟩ := hp80
          show Xw K G 0 0 _ n V4 R 83 [(0, .ref (aG G 42)), (1, .int (iI seed)), (2, .int (iI m)), (3, .int (iI (V 42 4))), (4, .int (iI k))] [.int (iI ((opM V3 (V3 42 3) (-1)).1 0))]
          refine x_top (b := ((opM V3 (V 42 3) (-1)).1 0)) (by rw [e4233]) ?_
          refine x_istore C dX12_drawnBy_83 (by decide) (lv' := [(0, .ref (aG G 42)), (1, .int (iI seed)), (2, .int (iI m)), (3, .int (iI (V 42 4))), (4, .int (iI ((opM V3 (V 42 3) (-1)).1 0)))]) rfl ?_
          have hbnd := (opM_b (V := V3) (g := V 42 3) (y := -1) (by decide)).1 0
          refine x_aload_n C 0 dX12_drawnBy_85 rfl rfl ?_
          refine x_iload_n C 3 dX12_drawnBy_86 rfl rfl ?_
          refine x_runU (r_callV C ok_Model 42 (lt67 hn rfl) rfl (ce_X12_takesBack) (m_X12_takesBack G n V4 R (V 42 4) hn hLR (by first | assumption | omega | decide)) rfl dX12_drawnBy_87 q_45_16 q_45_17 q_45_18 rfl rfl ⟨Nat.le_of_ble_eq_true rfl, Nat.le_of_ble_eq_true rfl⟩ ⟨rfl, rfl⟩ ⟨Nat.le_of_ble_eq_true rfl, Nat.le_of_ble_eq_true rfl⟩ (Nat.le_of_ble_eq_true rfl)) (fun v87 u87 hp87 => ?_)
          obtain ⟨V5, rfl, rfl, h54, h5F, h5c⟩ := hp87
          show Xw K G 0 0 _ n V5 R 90 [(0, .ref (aG G 42)), (1, .int (iI seed)), (2, .int (iI m)), (3, .int (iI (V 42 4))), (4, .int (iI ((opM V3 (V 42 3) (-1)).1 0)))] []
          refine x_iload C 4 dX12_drawnBy_90 rfl ?_
          refine x_iret C dX12_drawnBy_92 ⟨_, _, rfl, rfl, ?_, ?_, ?_⟩
          · exact dr_fr hfr h58 hF4 h54 h5F h5c
          · refine ⟨FM V3, fun i a b j j0 j1 => hlow _ (by omega), fun i a b j j0 j1 => hdr i a (by omega) j j0 j1, ?_⟩; unfold opM; rw [h34, hfr 42 0 (by decide) (by decide) (by omega), hfr 42 1 (by decide) (by decide) (by omega), e4223, e443, show min m (8 - V 42 4) = k by omega]
          · exact hbnd
        · skip
          refine x_aload_n C 0 dX12_drawnBy_28 rfl rfl ?_
          refine x_bipush C dX12_drawnBy_29 (w := 7) (by decide) ?_
          refine x_runU (r_callV C ok_Model 42 (lt67 hn rfl) rfl (ce_X12_draw) (m_X12_draw G n V3 R (7) hn hLR (by first | assumption | omega | decide)) rfl dX12_drawnBy_31 q_46_17 q_46_18 q_46_19 rfl rfl ⟨Nat.le_of_ble_eq_true rfl, Nat.le_of_ble_eq_true rfl⟩ ⟨rfl, rfl⟩ ⟨Nat.le_of_ble_eq_true rfl, Nat.le_of_ble_eq_true rfl⟩ (Nat.le_of_ble_eq_true rfl)) (fun v31 u31 hp31 => ?_)
          obtain ⟨VA, rfl, rfl, hsVA, hfVA⟩ := hp31
          show Xw K G 0 0 _ n VA R 34 [(0, .ref (aG G 42)), (1, .int (iI seed)), (2, .int (iI m)), (3, .int (iI (V 42 4))), (4, .int (iI k))] [.int (iI (zUshr (wr ((V3 42 37) * 1103515245 + 12345)) 9 % 7))]
          rw [hdV3] at hsVA
          have hdVA : VA 42 37 = dsd (wr seed) (4 * k + 1) := hsVA.trans ((dsd_s (s := (wr seed)) (k := 4 * k) (by omega)).symm.trans (congrArg (dsd (wr seed)) (by omega)))
          have huVA := zUshr9 (wr (V3 42 37 * 1103515245 + 12345))
          refine x_nm (fun dk h_dk => ?_)
          refine x_istore C dX12_drawnBy_34 (by decide) (lv' := [(0, .ref (aG G 42)), (1, .int (iI seed)), (2, .int (iI m)), (3, .int (iI (V 42 4))), (4, .int (iI k)), (5, .int (iI dk))]) rfl ?_
          refine x_aload_n C 0 dX12_drawnBy_36 rfl rfl ?_
          refine x_bipush C dX12_drawnBy_37 (w := 8) (by decide) ?_
          refine x_runU (r_callV C ok_Model 42 (lt67 hn rfl) rfl (ce_X12_draw) (m_X12_draw G n VA R (8) hn hLR (by first | assumption | omega | decide)) rfl dX12_drawnBy_39 q_46_17 q_46_18 q_46_19 rfl rfl ⟨Nat.le_of_ble_eq_true rfl, Nat.le_of_ble_eq_true rfl⟩ ⟨rfl, rfl⟩ ⟨Nat.le_of_ble_eq_true rfl, Nat.le_of_ble_eq_true rfl⟩ (Nat.le_of_ble_eq_true rfl)) (fun v39 u39 hp39 => ?_)
          obtain ⟨VB, rfl, rfl, hsVB, hfVB⟩ := hp39
          show Xw K G 0 0 _ n VB R 42 [(0, .ref (aG G 42)), (1, .int (iI seed)), (2, .int (iI m)), (3, .int (iI (V 42 4))), (4, .int (iI k)), (5, .int (iI dk))] [.int (iI (zUshr (wr ((VA 42 37) * 1103515245 + 12345)) 9 % 8))]
          rw [hdVA] at hsVB
          have hdVB : VB 42 37 = dsd (wr seed) (4 * k + 2) := hsVB.trans ((dsd_s (s := (wr seed)) (k := 4 * k + 1) (by omega)).symm.trans (congrArg (dsd (wr seed)) (by omega)))
          have huVB := zUshr9 (wr (VA 42 37 * 1103515245 + 12345))
          refine x_nm (fun da h_da => ?_)
          refine x_istore C dX12_drawnBy_42 (by decide) (lv' := [(0, .ref (aG G 42)), (1, .int (iI seed)), (2, .int (iI m)), (3, .int (iI (V 42 4))), (4, .int (iI k)), (5, .int (iI dk)), (6, .int (iI da))]) rfl ?_
          refine x_aload_n C 0 dX12_drawnBy_44 rfl rfl ?_
          refine x_bipush C dX12_drawnBy_45 (w := 8) (by decide) ?_
          refine x_runU (r_callV C ok_Model 42 (lt67 hn rfl) rfl (ce_X12_draw) (m_X12_draw G n VB R (8) hn hLR (by first | assumption | omega | decide)) rfl dX12_drawnBy_47 q_46_17 q_46_18 q_46_19 rfl rfl ⟨Nat.le_of_ble_eq_true rfl, Nat.le_of_ble_eq_true rfl⟩ ⟨rfl, rfl⟩ ⟨Nat.le_of_ble_eq_true rfl, Nat.le_of_ble_eq_true rfl⟩ (Nat.le_of_ble_eq_true rfl)) (fun v47 u47 hp47 => ?_)
          obtain ⟨VC, rfl, rfl, hsVC, hfVC⟩ := hp47
          show Xw K G 0 0 _ n VC R 50 [(0, .ref (aG G 42)), (1, .int (iI seed)), (2, .int (iI m)), (3, .int (iI (V 42 4))), (4, .int (iI k)), (5, .int (iI dk)), (6, .int (iI da))] [.int (iI (zUshr (wr ((VB 42 37) * 1103515245 + 12345)) 9 % 8))]
          rw [hdVB] at hsVC
          have hdVC : VC 42 37 = dsd (wr seed) (4 * k + 3) := hsVC.trans ((dsd_s (s := (wr seed)) (k := 4 * k + 2) (by omega)).symm.trans (congrArg (dsd (wr seed)) (by omega)))
          have huVC := zUshr9 (wr (VB 42 37 * 1103515245 + 12345))
          refine x_nm (fun ds h_ds => ?_)
          refine x_istore C dX12_drawnBy_50 (by decide) (lv' := [(0, .ref (aG G 42)), (1, .int (iI seed)), (2, .int (iI m)), (3, .int (iI (V 42 4))), (4, .int (iI k)), (5, .int (iI dk)), (6, .int (iI da)), (7, .int (iI ds))]) rfl ?_
          refine x_aload_n C 0 dX12_drawnBy_52 rfl rfl ?_
          refine x_iload C 5 dX12_drawnBy_53 rfl ?_
          refine x_iload C 6 dX12_drawnBy_55 rfl ?_
          refine x_iload C 7 dX12_drawnBy_57 rfl ?_
          refine x_iconst C dX12_drawnBy_59 ?_
          refine x_aload_n C 0 dX12_drawnBy_60 rfl rfl ?_
          refine x_iconst C dX12_drawnBy_61 ?_
          refine x_runU (r_callV C ok_Model 42 (lt67 hn rfl) rfl (ce_X12_draw) (m_X12_draw G n VC R (4) hn hLR (by first | assumption | omega | decide)) rfl dX12_drawnBy_62 q_46_17 q_46_18 q_46_19 rfl rfl ⟨Nat.le_of_ble_eq_true rfl, Nat.le_of_ble_eq_true rfl⟩ ⟨rfl, rfl⟩ ⟨Nat.le_of_ble_eq_true rfl, Nat.le_of_ble_eq_true rfl⟩ (Nat.le_of_ble_eq_true rfl)) (fun v62 u62 hp62 => ?_)
          obtain ⟨VD, rfl, rfl, hsVD, hfVD⟩ := hp62
          show Xw K G 0 0 _ n VD R 65 [(0, .ref (aG G 42)), (1, .int (iI seed)), (2, .int (iI m)), (3, .int (iI (V 42 4))), (4, .int (iI k)), (5, .int (iI dk)), (6, .int (iI da)), (7, .int (iI ds))] [.int (iI (zUshr (wr ((VC 42 37) * 1103515245 + 12345)) 9 % 4)), .int (iI 1), .int (iI ds), .int (iI da), .int (iI dk), .ref (aG G 42)]
          rw [hdVC] at hsVD
          have hdVD : VD 42 37 = dsd (wr seed) (4 * k + 4) := hsVD.trans ((dsd_s (s := (wr seed)) (k := 4 * k + 3) (by omega)).symm.trans (congrArg (dsd (wr seed)) (by omega)))
          have huVD := zUshr9 (wr (VC 42 37 * 1103515245 + 12345))
          refine x_nm (fun dz h_dz => ?_)
          refine x_iadd C dX12_drawnBy_65 ?_
          have eD4 : VD 42 4 = V3 42 4 := by rw [hfVD 42 4 (by omega), hfVC 42 4 (by omega), hfVB 42 4 (by omega), hfVA 42 4 (by omega)]
          refine x_runU (r_callV C ok_Model 42 (lt67 hn rfl) rfl (ce_X12_adds) (m_X12_adds G n VD R (dk) (da) (ds) (1 + dz) hn hLR (by constructor <;> omega) (by constructor <;> omega) (by constructor <;> omega) (by constructor <;> omega) (by omega)) rfl dX12_drawnBy_66 q_16_22 q_16_23 q_17_0 rfl rfl ⟨Nat.le_of_ble_eq_true rfl, Nat.le_of_ble_eq_true rfl⟩ ⟨rfl, rfl⟩ ⟨Nat.le_of_ble_eq_true rfl, Nat.le_of_ble_eq_true rfl⟩ (Nat.le_of_ble_eq_true rfl)) (fun v66 u66 hp66 => ?_)
          obtain ⟨rfl, rfl⟩ := hp66
          show Xw K G 0 0 _ n (u2 (u2 (u2 (u2 (u2 VD 43 (4 * VD 42 4) dk) 43 (4 * VD 42 4 + 1) da) 43 (4 * VD 42 4 + 2) ds) 43 (4 * VD 42 4 + 3) (1 + dz)) 42 4 (VD 42 4 + 1)) R 69 [(0, .ref (aG G 42)), (1, .int (iI seed)), (2, .int (iI m)), (3, .int (iI (V 42 4))), (4, .int (iI k)), (5, .int (iI dk)), (6, .int (iI da)), (7, .int (iI ds))] []
          refine x_iinc C 4 dX12_drawnBy_69 rfl (by decide) (lv' := [(0, .ref (aG G 42)), (1, .int (iI seed)), (2, .int (iI m)), (3, .int (iI (V 42 4))), (4, .int (iI (k + 1))), (5, .int (iI dk)), (6, .int (iI da)), (7, .int (iI ds))]) rfl ?_
          refine x_goto C dX12_drawnBy_72 (tgt := 13) (by decide) ?_
          refine x_sub [0, 1, 2, 3, 4] (lv' := [(0, .ref (aG G 42)), (1, .int (iI seed)), (2, .int (iI m)), (3, .int (iI (V 42 4))), (4, .int (iI (k + 1)))]) rfl ?_
          exact ih13 ((k + 1)) ((u2 (u2 (u2 (u2 (u2 VD 43 (4 * VD 42 4) dk) 43 (4 * VD 42 4 + 1) da) 43 (4 * VD 42 4 + 2) ds) 43 (4 * VD 42 4 + 3) (1 + dz)) 42 4 (VD 42 4 + 1))) (by omega) (by rw [u2_s, u1_s]; omega) (by rw [u2_at, if_neg (by omega), u2_n (by decide), u2_n (by decide), u2_n (by decide), u2_n (by decide), hdVD]; congr 1; omega) (by exact dr_f hfr hfVA hfVB hfVC hfVD) (by exact fun z a b => by (rw [u2_n (by decide), u2_n (by decide), u2_n (by decide), u2_n (by decide), u2_n (by decide), hfVD 58 z (by omega), hfVC 58 z (by omega), hfVB 58 z (by omega), hfVA 58 z (by omega)]; exact h58 z a b)) (by exact fun z a => by (rw [u2_n (by decide), u2_s, u1_n (by omega), u2_s, u1_n (by omega), u2_s, u1_n (by omega), u2_s, u1_n (by omega), hfVD 43 z (by omega), hfVC 43 z (by omega), hfVB 43 z (by omega), hfVA 43 z (by omega)]; exact hlow z a)) (by exact dr_s (m := V 42 4) hdr (fun z => by rw [hfVD 43 z (by omega), hfVC 43 z (by omega), hfVB 43 z (by omega), hfVA 43 z (by omega)]) (by omega) hk.1 (by rw [h_dk, hdV3]; exact dr0 hk.1) (by rw [h_da, hdVA]; exact dr1 hk.1) (by rw [h_ds, hdVB]; exact dr2 hk.1) (by rw [h_dz, hdVC]; exact dr3 hk.1)) (by omega)
  exact lp_13 ((m - 0).toNat + 1) (0) ((u2 V2 42 37 (wr seed))) (by omega) (by rw [u2_at, if_neg (by omega), hF2 42 (by decide)]; omega) (by rw [u2_s, u1_s]; rfl) (by exact fun q z a b c => by rw [u2_at, if_neg (by omega), hF2 q b]) (by exact fun z a b => by rw [u2_n (by decide)]; exact hc2 z a b) (by exact fun z a => by rw [u2_n (by decide), hF2 43 (by decide)]) (by exact fun i a b => by omega) (by omega)
set_option maxRecDepth 100000 in
set_option maxHeartbeats 4000000 in
theorem m_X12_drawn (G : GS) (n : Nat) (V : Nat → Int → Int) (R : Nat → Int → Option Nat) (seed : Int) (m : Int) (hn : 67 ≤ n) (hLR : LR R) (gm : Rg m) (hl : LogOk V) (hru : RulesOk (V 44)) : Cn G yX12_drawn cX12_drawn 3 (some .long) (rmk 7 0 0 182) [.ref (aG G 42), .int (iI seed), .int (iI m)] n V R 0 0 (fun vv uu => ∃ (r : Int), ∃ (V1 : Nat → Int → Int), vv = some (.long (jI r)) ∧ uu = (n, V1, R) ∧ (∀ q z, q ≠ 50 → q ≠ 51 → q ≠ 52 → q ≠ 53 → q ≠ 58 → ¬ (q = 42 ∧ ((22 ≤ z ∧ z ≤ 28) ∨ z = 37)) → (q = 43 → 0 ≤ z ∧ z < 32) → V1 q z = V q z) ∧ (((V 42 2 = 0 ∨ ¬ (0 ≤ m ∧ m ≤ 8)) ∧ r = (-4611686018427387904)) ∨ (V 42 2 ≠ 0 ∧ (0 ≤ m ∧ m ≤ 8) ∧ ∃ F, (∀ i, 0 ≤ i → i < V 42 4 → ∀ j, 0 ≤ j → j ≤ 3 → F i j = FM V i j) ∧ (∀ i, 0 ≤ i → i < min m (8 - V 42 4) → ∀ j, 0 ≤ j → j ≤ 3 → F (V 42 4 + i) j = drF (wr seed) i j) ∧ r = (opT (V 42 0) (V 42 1) (V 42 2) F (V 42 4 + min m (8 - V 42 4)) (V 44) (V 42 3) (-1)).1 0))) := by
  refine Cn.of (by decide) (Nat.le_of_ble_eq_true rfl) (fun K C hct => ?_)
  show Xw K G 0 0 _ n V R 0 [(0, .ref (aG G 42)), (1, .int (iI seed)), (2, .int (iI m))] []
  obtain ⟨h1, h2, h3, h5, h4, hF⟩ := id hl
  obtain ⟨hkf, hsv, hpr, hth⟩ := id hru
  refine x_aload_n C 0 dX12_drawn_0 rfl rfl ?_
  refine x_geti C ok_Model 42 2 dX12_drawn_1 (lt67 hn rfl) rfl (by decide) rfl q_6_12 rfl (kz := 2) rfl (fun rg1 => ?_)
  refine x_if_le C dX12_drawn_4 (tgt := 29) (by decide) (by first | assumption | (constructor <;> omega)) (fun h4 => ?_) (fun h4 => ?_)
  · skip
    refine x_ldc2 C dX12_drawn_29 q_36_2 (w := -4611686018427387904) (by decide) ?_
    refine x_lret C dX12_drawn_32 ⟨_, _, rfl, rfl, ?_, ?_⟩
    · first | exact fun _ _ _ _ _ _ _ _ _ => rfl | exact hfk
    · first | exact Or.inl ⟨by omega, rfl⟩ | exact Or.inr ⟨by omega, by omega, hdp⟩
  · skip
    refine x_iload_n C 2 dX12_drawn_7 rfl rfl ?_
    refine x_i2l C dX12_drawn_8 (by first | assumption | (constructor <;> omega)) ?_
    refine x_lconst C dX12_drawn_9 (w := 0) (by decide) ?_
    refine x_ldc2 C dX12_drawn_10 q_6_9 (w := 8) (by decide) ?_
    refine x_runU (r_callS C (ce_X12_in) (m_X12_in G n V R (m) (0) (8) (by first | assumption | omega | decide) (by first | assumption | omega | decide) (by first | assumption | omega | decide)) dX12_drawn_13 q_6_15 q_6_16 rfl rfl ⟨Nat.le_of_ble_eq_true rfl, Nat.le_of_ble_eq_true rfl⟩ ⟨rfl, rfl⟩ ⟨Nat.le_of_ble_eq_true rfl, Nat.le_of_ble_eq_true rfl⟩ (Nat.le_of_ble_eq_true rfl)) (fun v13 u13 hp13 => ?_)
    obtain ⟨rfl, rfl⟩ := hp13
    show Xw K G 0 0 _ n V R 16 [(0, .ref (aG G 42)), (1, .int (iI seed)), (2, .int (iI m))] [.int (iI (bI (0 ≤ m ∧ m ≤ 8)))]
    refine x_ifeq_b C dX12_drawn_16 (tgt := 29) (by decide) (fun h16 => ?_) (fun h16 => ?_)
    · skip
      refine x_ldc2 C dX12_drawn_29 q_36_2 (w := -4611686018427387904) (by decide) ?_
      refine x_lret C dX12_drawn_32 ⟨_, _, rfl, rfl, ?_, ?_⟩
      · first | exact fun _ _ _ _ _ _ _ _ _ => rfl | exact hfk
      · first | exact Or.inl ⟨by omega, rfl⟩ | exact Or.inr ⟨by omega, by omega, hdp⟩
    · skip
      refine x_aload_n C 0 dX12_drawn_19 rfl rfl ?_
      refine x_iload_n C 1 dX12_drawn_20 rfl rfl ?_
      refine x_iload_n C 2 dX12_drawn_21 rfl rfl ?_
      refine x_runU (r_callV C ok_Model 42 (lt67 hn rfl) rfl (ce_X12_drawnBy) (m_X12_drawnBy G n V R (seed) (m) hn hLR (by first | assumption | omega | decide) (by first | assumption | omega | decide) (by first | assumption | omega | decide) (by first | assumption | omega | decide)) rfl dX12_drawn_22 q_46_12 q_46_13 q_46_14 rfl rfl ⟨Nat.le_of_ble_eq_true rfl, Nat.le_of_ble_eq_true rfl⟩ ⟨rfl, rfl⟩ ⟨Nat.le_of_ble_eq_true rfl, Nat.le_of_ble_eq_true rfl⟩ (Nat.le_of_ble_eq_true rfl)) (fun v22 u22 hp22 => ?_)
      obtain ⟨r1, V3, rfl, rfl, hfk, hdp, hrb⟩ := hp22
      show Xw K G 0 0 _ n V3 R 25 [(0, .ref (aG G 42)), (1, .int (iI seed)), (2, .int (iI m))] [.int (iI r1)]
      refine x_i2l C dX12_drawn_25 (by first | assumption | (constructor <;> omega)) ?_
      refine x_goto C dX12_drawn_26 (tgt := 32) (by decide) ?_
      refine x_lret C dX12_drawn_32 ⟨_, _, rfl, rfl, ?_, ?_⟩
      · first | exact fun _ _ _ _ _ _ _ _ _ => rfl | exact hfk
      · first | exact Or.inl ⟨by omega, rfl⟩ | exact Or.inr ⟨by omega, by omega, hdp⟩
set_option maxRecDepth 100000 in
set_option maxHeartbeats 4000000 in
theorem m_X12_lowest (G : GS) (n : Nat) (V : Nat → Int → Int) (R : Nat → Int → Option Nat) (a : Int) (b : Int) (w : Int) (ha : 0 ≤ a ∧ a ≤ 8) (hb : 1 ≤ b ∧ b ≤ 8) (gw : Rg w) : Cn G yX12_lowest cX12_lowest 6 (some .int) (rmk 1 0 0 16) [.int (iI a), .int (iI b), .int (iI w)] n V R 0 0 (fun vv uu => vv = some (.int (iI (if w = 0 then a / (Nat.gcd a.toNat b.toNat : Int) else b / (Nat.gcd a.toNat b.toNat : Int)))) ∧ uu = (n, V, R)) := by
  refine Cn.of (by decide) (Nat.le_of_ble_eq_true rfl) (fun K C hct => ?_)
  show Xw K G 0 0 _ n V R 0 [(0, .int (iI a)), (1, .int (iI b)), (2, .int (iI w))] []
  refine x_iload_n C 0 dX12_lowest_0 rfl rfl ?_
  refine x_istore_n C dX12_lowest_1 rfl (by decide) (lv' := [(0, .int (iI a)), (1, .int (iI b)), (2, .int (iI w)), (3, .int (iI a))]) rfl ?_
  refine x_iload_n C 1 dX12_lowest_2 rfl rfl ?_
  refine x_istore C dX12_lowest_3 (by decide) (lv' := [(0, .int (iI a)), (1, .int (iI b)), (2, .int (iI w)), (3, .int (iI a)), (4, .int (iI b))]) rfl ?_
  have lp_5 : ∀ (fuel : Nat) (x : Int) (y : Int), (0 ≤ x ∧ x ≤ 8) → (0 ≤ y ∧ y ≤ 8) → (Nat.gcd x.toNat y.toNat = Nat.gcd a.toNat b.toNat) → (1 ≤ x ∨ 1 ≤ y) → (y) < (fuel : Int) → Xw K G 0 0 (EndQ K G 0 0 (fun vv uu => vv = some (.int (iI (if w = 0 then a / (Nat.gcd a.toNat b.toNat : Int) else b / (Nat.gcd a.toNat b.toNat : Int)))) ∧ uu = (n, V, R))) n V R 5 [(0, .int (iI a)), (1, .int (iI b)), (2, .int (iI w)), (3, .int (iI x)), (4, .int (iI y))] [] := by
    intro fuel5
    induction fuel5 with
    | zero => intro x y hx hy hg hxy hfu5; exfalso; omega
    | succ fuel5 ih5 =>
      intro x y hx hy hg hxy hfu5
      refine x_iload C 4 dX12_lowest_5 rfl ?_
      refine x_if_eq C dX12_lowest_7 (tgt := 26) (by decide) (by first | assumption | (constructor <;> omega)) (fun h7 => ?_) (fun h7 => ?_)
      · skip
        refine x_iload_n C 2 dX12_lowest_26 rfl rfl ?_
        refine x_if_ne C dX12_lowest_27 (tgt := 34) (by decide) (by first | assumption | (constructor <;> omega)) (fun h27 => ?_) (fun h27 => ?_)
        · skip
          refine x_iload_n C 1 dX12_lowest_34 rfl rfl ?_
          refine x_iload_n C 3 dX12_lowest_35 rfl rfl ?_
          refine x_idiv C dX12_lowest_36 (by first | assumption | (constructor <;> omega)) (by first | assumption | (constructor <;> omega)) (by omega) (by omega) ?_
          refine x_iret C dX12_lowest_37 ⟨congrArg (fun z => some (Value.int (iI z))) (by first | (rw [if_pos (by omega), ← hg, show y = 0 by omega, gcd_0 hx.1]) | (rw [if_neg (by omega), ← hg, show y = 0 by omega, gcd_0 hx.1])), rfl⟩
        · skip
          refine x_iload_n C 0 dX12_lowest_30 rfl rfl ?_
          refine x_goto C dX12_lowest_31 (tgt := 35) (by decide) ?_
          refine x_iload_n C 3 dX12_lowest_35 rfl rfl ?_
          refine x_idiv C dX12_lowest_36 (by first | assumption | (constructor <;> omega)) (by first | assumption | (constructor <;> omega)) (by omega) (by omega) ?_
          refine x_iret C dX12_lowest_37 ⟨congrArg (fun z => some (Value.int (iI z))) (by first | (rw [if_pos (by omega), ← hg, show y = 0 by omega, gcd_0 hx.1]) | (rw [if_neg (by omega), ← hg, show y = 0 by omega, gcd_0 hx.1])), rfl⟩
      · skip
        refine x_iload_n C 3 dX12_lowest_10 rfl rfl ?_
        refine x_iload C 4 dX12_lowest_11 rfl ?_
        refine x_irem C dX12_lowest_13 (by first | assumption | (constructor <;> omega)) (by first | assumption | (constructor <;> omega)) (by omega) (by omega) ?_
        refine x_istore C dX12_lowest_14 (by decide) (lv' := [(0, .int (iI a)), (1, .int (iI b)), (2, .int (iI w)), (3, .int (iI x)), (4, .int (iI y)), (5, .int (iI (x % y)))]) rfl ?_
        refine x_iload C 4 dX12_lowest_16 rfl ?_
        refine x_istore_n C dX12_lowest_18 rfl (by decide) (lv' := [(0, .int (iI a)), (1, .int (iI b)), (2, .int (iI w)), (3, .int (iI y)), (4, .int (iI y)), (5, .int (iI (x % y)))]) rfl ?_
        refine x_iload C 5 dX12_lowest_19 rfl ?_
        refine x_istore C dX12_lowest_21 (by decide) (lv' := [(0, .int (iI a)), (1, .int (iI b)), (2, .int (iI w)), (3, .int (iI y)), (4, .int (iI (x % y))), (5, .int (iI (x % y)))]) rfl ?_
        refine x_goto C dX12_lowest_23 (tgt := 5) (by decide) ?_
        refine x_sub [0, 1, 2, 3, 4] (lv' := [(0, .int (iI a)), (1, .int (iI b)), (2, .int (iI w)), (3, .int (iI y)), (4, .int (iI (x % y)))]) rfl ?_
        exact ih5 (y) ((x % y)) (by omega) (by have := Int.emod_lt_of_pos x (show 0 < y by omega); have := Int.emod_nonneg x (show y ≠ 0 by omega); omega) (by rw [← hg]; exact gcd_st hx.1 (by omega)) (by omega) (by have := Int.emod_lt_of_pos x (show 0 < y by omega); omega)
  exact lp_5 ((b).toNat + 1) (a) (b) (by omega) (by omega) (by rfl) (by omega) (by omega)
