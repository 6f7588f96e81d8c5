def kbT (v : Int) : Int := if v = 107 then 0 else if v = 108 then 1 else if v = 115 then 2 else if v = 104 then 3 else if v = 114 then 4 else if v = 111 then 5 else if v = 116 then 6 else -1
def hereT (T : Int → Int) (n p : Int) : Int := if p < n then T p else -1
def blankT (T : Int → Int) (p : Int) : Prop := T p = 32 ∨ T p = 10
theorem hereT_b {T : Int → Int} {n p : Int} (hp : 0 ≤ p) (h : ∀ z, 0 ≤ z → z < n → 0 ≤ T z ∧ T z ≤ 255) : -1 ≤ hereT T n p ∧ hereT T n p ≤ 255 := by
  unfold hereT
  split
  · next q => have := h p hp q; omega
  · omega
theorem hereT_lt {T : Int → Int} {n p : Int} (h : hereT T n p ≠ -1) : p < n := Classical.byContradiction fun q => h (by unfold hereT; rw [if_neg q])
theorem hereT_in {T : Int → Int} {n p : Int} (h : p < n) : hereT T n p = T p := by unfold hereT; rw [if_pos h]
theorem hereT_bl {T : Int → Int} {n p : Int} (h : hereT T n p = 32 ∨ hereT T n p = 10) : p < n ∧ blankT T p := by
  have h1 := hereT_lt (T := T) (n := n) (p := p) (by omega)
  rw [hereT_in h1] at h
  exact ⟨h1, h⟩
theorem hereT_dg {T : Int → Int} {n p lo hi : Int} (h0 : 0 ≤ lo) : (lo ≤ hereT T n p ∧ hereT T n p ≤ hi) ↔ (p < n ∧ lo ≤ T p ∧ T p ≤ hi) := by
  unfold hereT
  split <;> omega
noncomputable def skN (T : Int → Int) (n : Int) : Nat → Int → Int
  | 0, p => p
  | f + 1, p => cif (p < n ∧ blankT T p) (skN T n f (p + 1)) p
noncomputable def skS (T : Int → Int) (n p : Int) : Int := skN T n (n - p).toNat p
theorem skS_y {T : Int → Int} {n p : Int} (h : p < n ∧ blankT T p) : skS T n p = skS T n (p + 1) := by
  unfold skS
  rw [show (n - p).toNat = (n - (p + 1)).toNat + 1 by omega]
  exact cif_t h
theorem skS_n {T : Int → Int} {n p : Int} (h : ¬ (p < n ∧ blankT T p)) : skS T n p = p := by
  unfold skS
  cases e : (n - p).toNat with
  | zero => rfl
  | succ k => exact cif_f h
theorem skS_b {T : Int → Int} {n : Int} : ∀ (k : Nat) (p : Int), (n - p).toNat ≤ k → p ≤ skS T n p ∧ (p ≤ n → skS T n p ≤ n) ∧ ¬ (skS T n p < n ∧ blankT T (skS T n p))
  | 0, p, hk => by
    have e : ¬ (p < n ∧ blankT T p) := fun q => by have := q.1; omega
    rw [skS_n e]; exact ⟨Int.le_refl _, fun h => h, e⟩
  | k + 1, p, hk => by
    by_cases e : p < n ∧ blankT T p
    · rw [skS_y e]
      have e1 := e.1
      have h := skS_b (T := T) (n := n) k (p + 1) (by omega)
      exact ⟨by omega, fun _ => h.2.1 (by omega), h.2.2⟩
    · rw [skS_n e]; exact ⟨Int.le_refl _, fun h => h, e⟩

set_option maxRecDepth 100000 in
set_option maxHeartbeats 4000000 in
theorem m_X12_here (G : GS) (n : Nat) (V : Nat → Int → Int) (R : Nat → Int → Option Nat) (hn : 67 ≤ n) (hLR : LR R) (hp : 0 ≤ V 42 17 ∧ V 42 17 ≤ 40) (hn12 : 0 ≤ V 42 12 ∧ V 42 12 ≤ 40) : Cn G yX12_here cX12_here 1 (some .int) (rmk 1 0 0 16) [.ref (aG G 42)] n V R 0 0 (fun vv uu => vv = some (.int (iI (hereT (V 47) (V 42 12) (V 42 17)))) ∧ uu = (n, V, R)) := by
  refine Cn.of (by decide) (Nat.le_of_ble_eq_true rfl) (fun K C hct => ?_)
  show Xw K G 0 0 _ n V R 0 [(0, .ref (aG G 42))] []
  refine x_aload_n C 0 dX12_here_0 rfl rfl ?_
  refine x_geti C ok_Model 42 17 dX12_here_1 (lt67 hn rfl) rfl (by decide) rfl q_15_17 rfl (kz := 17) rfl (fun rg1 => ?_)
  refine x_aload_n C 0 dX12_here_4 rfl rfl ?_
  refine x_geti C ok_Model 42 12 dX12_here_5 (lt67 hn rfl) rfl (by decide) rfl q_8_0 rfl (kz := 12) rfl (fun rg5 => ?_)
  refine x_icmp_ge C dX12_here_8 (tgt := 23) (by decide) (by first | assumption | (constructor <;> omega)) (by first | assumption | (constructor <;> omega)) (fun h8 => ?_) (fun h8 => ?_)
  · skip
    refine x_iconst C dX12_here_23 ?_
    refine x_iret C dX12_here_24 ⟨congrArg (fun z => some (Value.int (iI z))) (by unfold hereT; first | rw [if_pos (by omega)] | rw [if_neg (by omega)]), rfl⟩
  · skip
    refine x_aload_n C 0 dX12_here_11 rfl rfl ?_
    refine x_getr C ok_Model 42 11 (d := 47) dX12_here_12 (lt67 hn rfl) rfl (by decide) rfl q_4_5 rfl (kz := 11) rfl (lr_42_11 hLR) ?_
    refine x_aload_n C 0 dX12_here_15 rfl rfl ?_
    refine x_geti C ok_Model 42 17 dX12_here_16 (lt67 hn rfl) rfl (by decide) rfl q_15_17 rfl (kz := 17) rfl (fun rg16 => ?_)
    refine x_iald C 47 dX12_here_19 (lt67 hn rfl) rfl (by refine ⟨?_, ?_⟩ <;> omega) (fun rg19 => ?_)
    refine x_goto C dX12_here_20 (tgt := 24) (by decide) ?_
    refine x_iret C dX12_here_24 ⟨congrArg (fun z => some (Value.int (iI z))) (by unfold hereT; first | rw [if_pos (by omega)] | rw [if_neg (by omega)]), rfl⟩
set_option maxRecDepth 100000 in
set_option maxHeartbeats 4000000 in
theorem m_X12_skips (G : GS) (n : Nat) (V : Nat → Int → Int) (R : Nat → Int → Option Nat) (hn : 67 ≤ n) (hLR : LR R) (hp : 0 ≤ V 42 17 ∧ V 42 17 ≤ 40) (hn12 : 0 ≤ V 42 12 ∧ V 42 12 ≤ 40) (hby : ∀ z, 0 ≤ z → z < V 42 12 → 0 ≤ V 47 z ∧ V 47 z ≤ 255) : Cn G yX12_skips cX12_skips 1 none (rmk 2 0 0 36) [.ref (aG G 42)] n V R 0 0 (fun vv uu => ∃ (V1 : Nat → Int → Int), vv = none ∧ uu = (n, V1, R) ∧ (V1 42 17 = skS (V 47) (V 42 12) (V 42 17)) ∧ (∀ q z, ¬ (q = 42 ∧ z = 17) → V1 q z = V q z)) := by
  refine Cn.of (by decide) (Nat.le_of_ble_eq_true rfl) (fun K C hct => ?_)
  show Xw K G 0 0 _ n V R 0 [(0, .ref (aG G 42))] []
  have lp_0 : ∀ (fuel : Nat) (V2 : Nat → Int → Int), (∀ q z, ¬ (q = 42 ∧ z = 17) → V2 q z = V q z) → (skS (V 47) (V 42 12) (V2 42 17) = skS (V 47) (V 42 12) (V 42 17)) → (0 ≤ V2 42 17 ∧ V2 42 17 ≤ 40) → ((41 : Int) - V2 42 17) < (fuel : Int) → Xw K G 0 0 (EndQ K G 0 0 (fun vv uu => ∃ (V1 : Nat → Int → Int), vv = none ∧ uu = (n, V1, R) ∧ (V1 42 17 = skS (V 47) (V 42 12) (V 42 17)) ∧ (∀ q z, ¬ (q = 42 ∧ z = 17) → V1 q z = V q z))) n V2 R 0 [(0, .ref (aG G 42))] [] := by
    intro fuel0
    induction fuel0 with
    | zero => intro V2 hF hs hp2 hfu0; exfalso; omega
    | succ fuel0 ih0 =>
      intro V2 hF hs hp2 hfu0
      have e47 : V2 47 = V 47 := funext fun z => hF 47 z (by omega)
      have e12 : V2 42 12 = V 42 12 := hF 42 12 (by omega)
      have hhb := hereT_b (T := V 47) (n := V 42 12) (p := V2 42 17) hp2.1 hby
      refine x_aload_n C 0 dX12_skips_0 rfl rfl ?_
      refine x_runU (r_callV C ok_Model 42 (lt67 hn rfl) rfl (ce_X12_here) (m_X12_here G n V2 R hn hLR (by exact hp2) (by rw [e12]; exact hn12)) rfl dX12_skips_1 q_16_2 q_16_3 q_16_4 rfl rfl ⟨Nat.le_of_ble_eq_true rfl, Nat.le_of_ble_eq_true rfl⟩ ⟨rfl, rfl⟩ ⟨Nat.le_of_ble_eq_true rfl, Nat.le_of_ble_eq_true rfl⟩ (Nat.le_of_ble_eq_true rfl)) (fun v1 u1 hp1 => ?_)
      obtain ⟨rfl, rfl⟩ := hp1
      show Xw K G 0 0 _ n V2 R 4 [(0, .ref (aG G 42))] [.int (iI (hereT (V2 47) (V2 42 12) (V2 42 17)))]
      refine x_top (b := (hereT (V 47) (V 42 12) (V2 42 17))) (by rw [e47, e12]) ?_
      refine x_bipush C dX12_skips_4 (w := 32) (by decide) ?_
      refine x_icmp_eq C dX12_skips_6 (tgt := 18) (by decide) (by first | assumption | (constructor <;> omega)) (by first | assumption | (constructor <;> omega)) (fun h6 => ?_) (fun h6 => ?_)
      · skip
        refine x_aload_n C 0 dX12_skips_18 rfl rfl ?_
        refine x_dup C dX12_skips_19 rfl ?_
        refine x_geti C ok_Model 42 17 dX12_skips_20 (lt67 hn rfl) rfl (by decide) rfl q_15_17 rfl (kz := 17) rfl (fun rg20 => ?_)
        refine x_iconst C dX12_skips_23 ?_
        refine x_iadd C dX12_skips_24 ?_
        refine x_puti C ok_Model 42 17 dX12_skips_25 (lt67 hn rfl) rfl (by decide) rfl q_15_17 rfl rfl (Or.inl rfl) (by first | assumption | (constructor <;> omega)) (kz := 17) rfl ?_
        refine x_goto C dX12_skips_28 (tgt := 0) (by decide) ?_
        exact ih0 ((u2 V2 42 17 ((V2 42 17) + 1))) (by exact fun q z a => by rw [u2_at, if_neg a]; exact hF q z a) (by rw [u2_s, u1_s, ← hs]; exact (skS_y (hereT_bl (by omega))).symm) (by rw [u2_s, u1_s]; have := hereT_lt (T := V 47) (n := V 42 12) (p := V2 42 17) (by omega); omega) (by rw [u2_s, u1_s]; omega)
      · skip
        refine x_aload_n C 0 dX12_skips_9 rfl rfl ?_
        refine x_runU (r_callV C ok_Model 42 (lt67 hn rfl) rfl (ce_X12_here) (m_X12_here G n V2 R hn hLR (by exact hp2) (by rw [e12]; exact hn12)) rfl dX12_skips_10 q_16_2 q_16_3 q_16_4 rfl rfl ⟨Nat.le_of_ble_eq_true rfl, Nat.le_of_ble_eq_true rfl⟩ ⟨rfl, rfl⟩ ⟨Nat.le_of_ble_eq_true rfl, Nat.le_of_ble_eq_true rfl⟩ (Nat.le_of_ble_eq_true rfl)) (fun v10 u10 hp10 => ?_)
        obtain ⟨rfl, rfl⟩ := hp10
        show Xw K G 0 0 _ n V2 R 13 [(0, .ref (aG G 42))] [.int (iI (hereT (V2 47) (V2 42 12) (V2 42 17)))]
        refine x_top (b := (hereT (V 47) (V 42 12) (V2 42 17))) (by rw [e47, e12]) ?_
        refine x_bipush C dX12_skips_13 (w := 10) (by decide) ?_
        refine x_icmp_ne C dX12_skips_15 (tgt := 31) (by decide) (by first | assumption | (constructor <;> omega)) (by first | assumption | (constructor <;> omega)) (fun h15 => ?_) (fun h15 => ?_)
        · skip
          refine x_vret C dX12_skips_31 ⟨_, rfl, rfl, ?_, ?_⟩
          · rw [← hs]; exact (skS_n (fun q => by have h1 := hereT_in (T := V 47) (n := V 42 12) (p := V2 42 17) q.1; have h2 : V 47 (V2 42 17) = 32 ∨ V 47 (V2 42 17) = 10 := q.2; omega)).symm
          · exact hF
        · skip
          refine x_aload_n C 0 dX12_skips_18 rfl rfl ?_
          refine x_dup C dX12_skips_19 rfl ?_
          refine x_geti C ok_Model 42 17 dX12_skips_20 (lt67 hn rfl) rfl (by decide) rfl q_15_17 rfl (kz := 17) rfl (fun rg20 => ?_)
          refine x_iconst C dX12_skips_23 ?_
          refine x_iadd C dX12_skips_24 ?_
          refine x_puti C ok_Model 42 17 dX12_skips_25 (lt67 hn rfl) rfl (by decide) rfl q_15_17 rfl rfl (Or.inl rfl) (by first | assumption | (constructor <;> omega)) (kz := 17) rfl ?_
          refine x_goto C dX12_skips_28 (tgt := 0) (by decide) ?_
          exact ih0 ((u2 V2 42 17 ((V2 42 17) + 1))) (by exact fun q z a => by rw [u2_at, if_neg a]; exact hF q z a) (by rw [u2_s, u1_s, ← hs]; exact (skS_y (hereT_bl (by omega))).symm) (by rw [u2_s, u1_s]; have := hereT_lt (T := V 47) (n := V 42 12) (p := V2 42 17) (by omega); omega) (by rw [u2_s, u1_s]; omega)
  exact lp_0 (((41 : Int) - V 42 17).toNat + 1) (V) (by exact fun _ _ _ => rfl) (by rfl) (by exact hp) (by omega)
set_option maxRecDepth 100000 in
set_option maxHeartbeats 4000000 in
theorem m_X12_kindOf (G : GS) (n : Nat) (V : Nat → Int → Int) (R : Nat → Int → Option Nat) (v : Int) (gv : Rg v) : Cn G yX12_kindOf cX12_kindOf 1 (some .int) (rmk 1 0 0 16) [.int (iI v)] n V R 0 0 (fun vv uu => vv = some (.int (iI (kbT v))) ∧ uu = (n, V, R)) := by
  refine Cn.of (by decide) (Nat.le_of_ble_eq_true rfl) (fun K C hct => ?_)
  show Xw K G 0 0 _ n V R 0 [(0, .int (iI v))] []
  refine x_iload_n C 0 dX12_kindOf_0 rfl rfl ?_
  rcases (show v = 104 ∨ v = 105 ∨ v = 106 ∨ v = 107 ∨ v = 108 ∨ v = 109 ∨ v = 110 ∨ v = 111 ∨ v = 112 ∨ v = 113 ∨ v = 114 ∨ v = 115 ∨ v = 116 ∨ (v < 104 ∨ 116 < v) by omega) with h1 | h1 | h1 | h1 | h1 | h1 | h1 | h1 | h1 | h1 | h1 | h1 | h1 | h1
  · skip
    refine x_tin C 104 h1 dX12_kindOf_1 (by constructor <;> decide) (by decide) (by decide) (off := 73) rfl (tgt := 74) (by decide) ?_
    refine x_iconst C dX12_kindOf_74 ?_
    refine x_iret C dX12_kindOf_75 ⟨congrArg (fun z => some (Value.int (iI z))) (by unfold kbT; repeat' split <;> omega), rfl⟩
  · skip
    refine x_tin C 105 h1 dX12_kindOf_1 (by constructor <;> decide) (by decide) (by decide) (off := 82) rfl (tgt := 83) (by decide) ?_
    refine x_iconst C dX12_kindOf_83 ?_
    refine x_iret C dX12_kindOf_84 ⟨congrArg (fun z => some (Value.int (iI z))) (by unfold kbT; repeat' split <;> omega), rfl⟩
  · skip
    refine x_tin C 106 h1 dX12_kindOf_1 (by constructor <;> decide) (by decide) (by decide) (off := 82) rfl (tgt := 83) (by decide) ?_
    refine x_iconst C dX12_kindOf_83 ?_
    refine x_iret C dX12_kindOf_84 ⟨congrArg (fun z => some (Value.int (iI z))) (by unfold kbT; repeat' split <;> omega), rfl⟩
  · skip
    refine x_tin C 107 h1 dX12_kindOf_1 (by constructor <;> decide) (by decide) (by decide) (off := 67) rfl (tgt := 68) (by decide) ?_
    refine x_iconst C dX12_kindOf_68 ?_
    refine x_iret C dX12_kindOf_69 ⟨congrArg (fun z => some (Value.int (iI z))) (by unfold kbT; repeat' split <;> omega), rfl⟩
  · skip
    refine x_tin C 108 h1 dX12_kindOf_1 (by constructor <;> decide) (by decide) (by decide) (off := 69) rfl (tgt := 70) (by decide) ?_
    refine x_iconst C dX12_kindOf_70 ?_
    refine x_iret C dX12_kindOf_71 ⟨congrArg (fun z => some (Value.int (iI z))) (by unfold kbT; repeat' split <;> omega), rfl⟩
  · skip
    refine x_tin C 109 h1 dX12_kindOf_1 (by constructor <;> decide) (by decide) (by decide) (off := 82) rfl (tgt := 83) (by decide) ?_
    refine x_iconst C dX12_kindOf_83 ?_
    refine x_iret C dX12_kindOf_84 ⟨congrArg (fun z => some (Value.int (iI z))) (by unfold kbT; repeat' split <;> omega), rfl⟩
  · skip
    refine x_tin C 110 h1 dX12_kindOf_1 (by constructor <;> decide) (by decide) (by decide) (off := 82) rfl (tgt := 83) (by decide) ?_
    refine x_iconst C dX12_kindOf_83 ?_
    refine x_iret C dX12_kindOf_84 ⟨congrArg (fun z => some (Value.int (iI z))) (by unfold kbT; repeat' split <;> omega), rfl⟩
  · skip
    refine x_tin C 111 h1 dX12_kindOf_1 (by constructor <;> decide) (by decide) (by decide) (off := 77) rfl (tgt := 78) (by decide) ?_
    refine x_iconst C dX12_kindOf_78 ?_
    refine x_iret C dX12_kindOf_79 ⟨congrArg (fun z => some (Value.int (iI z))) (by unfold kbT; repeat' split <;> omega), rfl⟩
  · skip
    refine x_tin C 112 h1 dX12_kindOf_1 (by constructor <;> decide) (by decide) (by decide) (off := 82) rfl (tgt := 83) (by decide) ?_
    refine x_iconst C dX12_kindOf_83 ?_
    refine x_iret C dX12_kindOf_84 ⟨congrArg (fun z => some (Value.int (iI z))) (by unfold kbT; repeat' split <;> omega), rfl⟩
  · skip
    refine x_tin C 113 h1 dX12_kindOf_1 (by constructor <;> decide) (by decide) (by decide) (off := 82) rfl (tgt := 83) (by decide) ?_
    refine x_iconst C dX12_kindOf_83 ?_
    refine x_iret C dX12_kindOf_84 ⟨congrArg (fun z => some (Value.int (iI z))) (by unfold kbT; repeat' split <;> omega), rfl⟩
  · skip
    refine x_tin C 114 h1 dX12_kindOf_1 (by constructor <;> decide) (by decide) (by decide) (off := 75) rfl (tgt := 76) (by decide) ?_
    refine x_iconst C dX12_kindOf_76 ?_
    refine x_iret C dX12_kindOf_77 ⟨congrArg (fun z => some (Value.int (iI z))) (by unfold kbT; repeat' split <;> omega), rfl⟩
  · skip
    refine x_tin C 115 h1 dX12_kindOf_1 (by constructor <;> decide) (by decide) (by decide) (off := 71) rfl (tgt := 72) (by decide) ?_
    refine x_iconst C dX12_kindOf_72 ?_
    refine x_iret C dX12_kindOf_73 ⟨congrArg (fun z => some (Value.int (iI z))) (by unfold kbT; repeat' split <;> omega), rfl⟩
  · skip
    refine x_tin C 116 h1 dX12_kindOf_1 (by constructor <;> decide) (by decide) (by decide) (off := 79) rfl (tgt := 80) (by decide) ?_
    refine x_bipush C dX12_kindOf_80 (w := 6) (by decide) ?_
    refine x_iret C dX12_kindOf_82 ⟨congrArg (fun z => some (Value.int (iI z))) (by unfold kbT; repeat' split <;> omega), rfl⟩
  · skip
    refine x_tout C dX12_kindOf_1 (tgt := 83) (by decide) (by first | assumption | (constructor <;> omega)) h1 ?_
    refine x_iconst C dX12_kindOf_83 ?_
    refine x_iret C dX12_kindOf_84 ⟨congrArg (fun z => some (Value.int (iI z))) (by unfold kbT; repeat' split <;> omega), rfl⟩
set_option maxRecDepth 100000 in
set_option maxHeartbeats 4000000 in
theorem m_X12_digit (G : GS) (n : Nat) (V : Nat → Int → Int) (R : Nat → Int → Option Nat) (lo : Int) (hi : Int) (hn : 67 ≤ n) (hLR : LR R) (hp : 0 ≤ V 42 17 ∧ V 42 17 ≤ 40) (hn12 : 0 ≤ V 42 12 ∧ V 42 12 ≤ 40) (hby : ∀ z, 0 ≤ z → z < V 42 12 → 0 ≤ V 47 z ∧ V 47 z ≤ 255) (h18 : V 42 18 = 0) (hlo : 0 ≤ lo ∧ lo ≤ 100) (hhi : 0 ≤ hi ∧ hi ≤ 100) : Cn G yX12_digit cX12_digit 4 (some .int) (rmk 2 0 0 41) [.ref (aG G 42), .int (iI lo), .int (iI hi)] n V R 0 0 (fun vv uu => ∃ (V1 : Nat → Int → Int), vv = some (.int (iI ((hereT (V 47) (V 42 12) (V 42 17)) - 48))) ∧ uu = (n, V1, R) ∧ (((V 42 17 < V 42 12 ∧ lo ≤ V 47 (V 42 17) ∧ V 47 (V 42 17) ≤ hi) ∧ V1 42 18 = 0 ∧ V1 42 17 = V 42 17 + 1) ∨ (¬ (V 42 17 < V 42 12 ∧ lo ≤ V 47 (V 42 17) ∧ V 47 (V 42 17) ≤ hi) ∧ V1 42 18 = 1 ∧ V1 42 17 = V 42 17)) ∧ (∀ q z, ¬ (q = 42 ∧ (z = 17 ∨ z = 18)) → V1 q z = V q z)) := by
  refine Cn.of (by decide) (Nat.le_of_ble_eq_true rfl) (fun K C hct => ?_)
  show Xw K G 0 0 _ n V R 0 [(0, .ref (aG G 42)), (1, .int (iI lo)), (2, .int (iI hi))] []
  have hhb := hereT_b (T := V 47) (n := V 42 12) (p := V 42 17) hp.1 hby
  have hhi2 := hereT_dg (T := V 47) (n := V 42 12) (p := V 42 17) (lo := lo) (hi := hi) hlo.1
  refine x_aload_n C 0 dX12_digit_0 rfl rfl ?_
  refine x_dup C dX12_digit_1 rfl ?_
  refine x_geti C ok_Model 42 18 dX12_digit_2 (lt67 hn rfl) rfl (by decide) rfl q_15_16 rfl (kz := 18) rfl (fun rg2 => ?_)
  refine x_aload_n C 0 dX12_digit_5 rfl rfl ?_
  refine x_runU (r_callV C ok_Model 42 (lt67 hn rfl) rfl (ce_X12_here) (m_X12_here G n V R hn hLR (by first | assumption | omega | decide) (by first | assumption | omega | decide)) rfl dX12_digit_6 q_16_2 q_16_3 q_16_4 rfl rfl ⟨Nat.le_of_ble_eq_true rfl, Nat.le_of_ble_eq_true rfl⟩ ⟨rfl, rfl⟩ ⟨Nat.le_of_ble_eq_true rfl, Nat.le_of_ble_eq_true rfl⟩ (Nat.le_of_ble_eq_true rfl)) (fun v6 u6 hp6 => ?_)
  obtain ⟨rfl, rfl⟩ := hp6
  show Xw K G 0 0 _ n V R 9 [(0, .ref (aG G 42)), (1, .int (iI lo)), (2, .int (iI hi))] [.int (iI (hereT (V 47) (V 42 12) (V 42 17))), .int (iI (V 42 18)), .ref (aG G 42)]
  refine x_i2l C dX12_digit_9 (by first | assumption | (constructor <;> omega)) ?_
  refine x_iload_n C 1 dX12_digit_10 rfl rfl ?_
  refine x_i2l C dX12_digit_11 (by first | assumption | (constructor <;> omega)) ?_
  refine x_iload_n C 2 dX12_digit_12 rfl rfl ?_
  refine x_i2l C dX12_digit_13 (by first | assumption | (constructor <;> omega)) ?_
  refine x_runU (r_callS C (ce_X12_in) (m_X12_in G n V R (hereT (V 47) (V 42 12) (V 42 17)) (lo) (hi) (by first | assumption | omega | decide) (by first | assumption | omega | decide) (by first | assumption | omega | decide)) dX12_digit_14 q_6_15 q_6_16 rfl rfl ⟨Nat.le_of_ble_eq_true rfl, Nat.le_of_ble_eq_true rfl⟩ ⟨rfl, rfl⟩ ⟨Nat.le_of_ble_eq_true rfl, Nat.le_of_ble_eq_true rfl⟩ (Nat.le_of_ble_eq_true rfl)) (fun v14 u14 hp14 => ?_)
  obtain ⟨rfl, rfl⟩ := hp14
  show Xw K G 0 0 _ n V R 17 [(0, .ref (aG G 42)), (1, .int (iI lo)), (2, .int (iI hi))] [.int (iI (bI (lo ≤ (hereT (V 47) (V 42 12) (V 42 17)) ∧ (hereT (V 47) (V 42 12) (V 42 17)) ≤ hi))), .int (iI (V 42 18)), .ref (aG G 42)]
  refine x_ifne_b C dX12_digit_17 (tgt := 24) (by decide) (fun h17 => ?_) (fun h17 => ?_)
  · skip
    refine x_iconst C dX12_digit_24 ?_
    refine x_ior C dX12_digit_25 ?_
    refine x_nm (fun fl h_fl => ?_)
    have hfl : (fl = 0 ∧ (V 42 17 < V 42 12 ∧ lo ≤ V 47 (V 42 17) ∧ V 47 (V 42 17) ≤ hi)) ∨ (fl = 1 ∧ ¬ (V 42 17 < V 42 12 ∧ lo ≤ V 47 (V 42 17) ∧ V 47 (V 42 17) ≤ hi)) := by (rw [h_fl, h18]; first | exact Or.inl ⟨by decide, hhi2.mp h17⟩ | exact Or.inr ⟨by decide, fun q => h17 (hhi2.mpr q)⟩)
    refine x_puti C ok_Model 42 18 dX12_digit_26 (lt67 hn rfl) rfl (by decide) rfl q_15_16 rfl rfl (Or.inr ⟨rfl, by first | exact Or.inl rfl | exact Or.inr rfl | omega⟩) (by first | assumption | (constructor <;> omega)) (kz := 18) rfl ?_
    refine x_aload_n C 0 dX12_digit_29 rfl rfl ?_
    refine x_runU (r_callV C ok_Model 42 (lt67 hn rfl) rfl (ce_X12_here) (m_X12_here G n (u2 V 42 18 fl) R hn hLR (by simp [u2_at]; omega) (by simp [u2_at]; omega)) rfl dX12_digit_30 q_16_2 q_16_3 q_16_4 rfl rfl ⟨Nat.le_of_ble_eq_true rfl, Nat.le_of_ble_eq_true rfl⟩ ⟨rfl, rfl⟩ ⟨Nat.le_of_ble_eq_true rfl, Nat.le_of_ble_eq_true rfl⟩ (Nat.le_of_ble_eq_true rfl)) (fun v30 u30 hp30 => ?_)
    obtain ⟨rfl, rfl⟩ := hp30
    show Xw K G 0 0 _ n (u2 V 42 18 fl) R 33 [(0, .ref (aG G 42)), (1, .int (iI lo)), (2, .int (iI hi))] [.int (iI (hereT ((u2 V 42 18 fl) 47) ((u2 V 42 18 fl) 42 12) ((u2 V 42 18 fl) 42 17)))]
    refine x_top (b := (hereT (V 47) (V 42 12) (V 42 17))) (by rfl) ?_
    refine x_bipush C dX12_digit_33 (w := 48) (by decide) ?_
    refine x_isub C dX12_digit_35 ?_
    refine x_istore_n C dX12_digit_36 rfl (by decide) (lv' := [(0, .ref (aG G 42)), (1, .int (iI lo)), (2, .int (iI hi)), (3, .int (iI ((hereT (V 47) (V 42 12) (V 42 17)) - 48)))]) rfl ?_
    refine x_aload_n C 0 dX12_digit_37 rfl rfl ?_
    refine x_dup C dX12_digit_38 rfl ?_
    refine x_geti C ok_Model 42 17 dX12_digit_39 (lt67 hn rfl) rfl (by decide) rfl q_15_17 rfl (kz := 17) rfl (fun rg39 => ?_)
    refine x_top (b := (V 42 17)) (by first | rfl | (simp only [u2_at]; simp) | (simp only [u2_at]; first | (rw [if_neg (by omega)]) | omega)) ?_
    refine x_aload_n C 0 dX12_digit_42 rfl rfl ?_
    refine x_geti C ok_Model 42 18 dX12_digit_43 (lt67 hn rfl) rfl (by decide) rfl q_15_16 rfl (kz := 18) rfl (fun rg43 => ?_)
    refine x_top (b := fl) (by first | rfl | (simp only [u2_at]; simp) | (simp only [u2_at]; first | (rw [if_neg (by omega)]) | omega)) ?_
    refine x_if_eq C dX12_digit_46 (tgt := 53) (by decide) (by first | assumption | (constructor <;> omega)) (fun h46 => ?_) (fun h46 => ?_)
    · skip
      refine x_iconst C dX12_digit_53 ?_
      refine x_iadd C dX12_digit_54 ?_
      refine x_puti C ok_Model 42 17 dX12_digit_55 (lt67 hn rfl) rfl (by decide) rfl q_15_17 rfl rfl (Or.inl rfl) (by first | assumption | (constructor <;> omega)) (kz := 17) rfl ?_
      refine x_iload_n C 3 dX12_digit_58 rfl rfl ?_
      refine x_iret C dX12_digit_59 ⟨_, rfl, rfl, ?_, ?_⟩
      · first | (refine Or.inl ⟨by omega, ?_, ?_⟩ <;> simp [u2_at] <;> omega) | (refine Or.inr ⟨by omega, ?_, ?_⟩ <;> simp [u2_at] <;> omega)
      · exact fun q z a => by (rw [u2_at, if_neg (by omega), u2_at, if_neg (by omega)])
    · skip
      refine x_iconst C dX12_digit_49 ?_
      refine x_goto C dX12_digit_50 (tgt := 54) (by decide) ?_
      refine x_iadd C dX12_digit_54 ?_
      refine x_puti C ok_Model 42 17 dX12_digit_55 (lt67 hn rfl) rfl (by decide) rfl q_15_17 rfl rfl (Or.inl rfl) (by first | assumption | (constructor <;> omega)) (kz := 17) rfl ?_
      refine x_iload_n C 3 dX12_digit_58 rfl rfl ?_
      refine x_iret C dX12_digit_59 ⟨_, rfl, rfl, ?_, ?_⟩
      · first | (refine Or.inl ⟨by omega, ?_, ?_⟩ <;> simp [u2_at] <;> omega) | (refine Or.inr ⟨by omega, ?_, ?_⟩ <;> simp [u2_at] <;> omega)
      · exact fun q z a => by (rw [u2_at, if_neg (by omega), u2_at, if_neg (by omega)])
  · skip
    refine x_iconst C dX12_digit_20 ?_
    refine x_goto C dX12_digit_21 (tgt := 25) (by decide) ?_
    refine x_ior C dX12_digit_25 ?_
    refine x_nm (fun fl h_fl => ?_)
    have hfl : (fl = 0 ∧ (V 42 17 < V 42 12 ∧ lo ≤ V 47 (V 42 17) ∧ V 47 (V 42 17) ≤ hi)) ∨ (fl = 1 ∧ ¬ (V 42 17 < V 42 12 ∧ lo ≤ V 47 (V 42 17) ∧ V 47 (V 42 17) ≤ hi)) := by (rw [h_fl, h18]; first | exact Or.inl ⟨by decide, hhi2.mp h17⟩ | exact Or.inr ⟨by decide, fun q => h17 (hhi2.mpr q)⟩)
    refine x_puti C ok_Model 42 18 dX12_digit_26 (lt67 hn rfl) rfl (by decide) rfl q_15_16 rfl rfl (Or.inr ⟨rfl, by first | exact Or.inl rfl | exact Or.inr rfl | omega⟩) (by first | assumption | (constructor <;> omega)) (kz := 18) rfl ?_
    refine x_aload_n C 0 dX12_digit_29 rfl rfl ?_
    refine x_runU (r_callV C ok_Model 42 (lt67 hn rfl) rfl (ce_X12_here) (m_X12_here G n (u2 V 42 18 fl) R hn hLR (by simp [u2_at]; omega) (by simp [u2_at]; omega)) rfl dX12_digit_30 q_16_2 q_16_3 q_16_4 rfl rfl ⟨Nat.le_of_ble_eq_true rfl, Nat.le_of_ble_eq_true rfl⟩ ⟨rfl, rfl⟩ ⟨Nat.le_of_ble_eq_true rfl, Nat.le_of_ble_eq_true rfl⟩ (Nat.le_of_ble_eq_true rfl)) (fun v30 u30 hp30 => ?_)
    obtain ⟨rfl, rfl⟩ := hp30
    show Xw K G 0 0 _ n (u2 V 42 18 fl) R 33 [(0, .ref (aG G 42)), (1, .int (iI lo)), (2, .int (iI hi))] [.int (iI (hereT ((u2 V 42 18 fl) 47) ((u2 V 42 18 fl) 42 12) ((u2 V 42 18 fl) 42 17)))]
    refine x_top (b := (hereT (V 47) (V 42 12) (V 42 17))) (by rfl) ?_
    refine x_bipush C dX12_digit_33 (w := 48) (by decide) ?_
    refine x_isub C dX12_digit_35 ?_
    refine x_istore_n C dX12_digit_36 rfl (by decide) (lv' := [(0, .ref (aG G 42)), (1, .int (iI lo)), (2, .int (iI hi)), (3, .int (iI ((hereT (V 47) (V 42 12) (V 42 17)) - 48)))]) rfl ?_
    refine x_aload_n C 0 dX12_digit_37 rfl rfl ?_
    refine x_dup C dX12_digit_38 rfl ?_
    refine x_geti C ok_Model 42 17 dX12_digit_39 (lt67 hn rfl) rfl (by decide) rfl q_15_17 rfl (kz := 17) rfl (fun rg39 => ?_)
    refine x_top (b := (V 42 17)) (by first | rfl | (simp only [u2_at]; simp) | (simp only [u2_at]; first | (rw [if_neg (by omega)]) | omega)) ?_
    refine x_aload_n C 0 dX12_digit_42 rfl rfl ?_
    refine x_geti C ok_Model 42 18 dX12_digit_43 (lt67 hn rfl) rfl (by decide) rfl q_15_16 rfl (kz := 18) rfl (fun rg43 => ?_)
    refine x_top (b := fl) (by first | rfl | (simp only [u2_at]; simp) | (simp only [u2_at]; first | (rw [if_neg (by omega)]) | omega)) ?_
    refine x_if_eq C dX12_digit_46 (tgt := 53) (by decide) (by first | assumption | (constructor <;> omega)) (fun h46 => ?_) (fun h46 => ?_)
    · skip
      refine x_iconst C dX12_digit_53 ?_
      refine x_iadd C dX12_digit_54 ?_
      refine x_puti C ok_Model 42 17 dX12_digit_55 (lt67 hn rfl) rfl (by decide) rfl q_15_17 rfl rfl (Or.inl rfl) (by first | assumption | (constructor <;> omega)) (kz := 17) rfl ?_
      refine x_iload_n C 3 dX12_digit_58 rfl rfl ?_
      refine x_iret C dX12_digit_59 ⟨_, rfl, rfl, ?_, ?_⟩
      · first | (refine Or.inl ⟨by omega, ?_, ?_⟩ <;> simp [u2_at] <;> omega) | (refine Or.inr ⟨by omega, ?_, ?_⟩ <;> simp [u2_at] <;> omega)
      · exact fun q z a => by (rw [u2_at, if_neg (by omega), u2_at, if_neg (by omega)])
    · skip
      refine x_iconst C dX12_digit_49 ?_
      refine x_goto C dX12_digit_50 (tgt := 54) (by decide) ?_
      refine x_iadd C dX12_digit_54 ?_
      refine x_puti C ok_Model 42 17 dX12_digit_55 (lt67 hn rfl) rfl (by decide) rfl q_15_17 rfl rfl (Or.inl rfl) (by first | assumption | (constructor <;> omega)) (kz := 17) rfl ?_
      refine x_iload_n C 3 dX12_digit_58 rfl rfl ?_
      refine x_iret C dX12_digit_59 ⟨_, rfl, rfl, ?_, ?_⟩
      · first | (refine Or.inl ⟨by omega, ?_, ?_⟩ <;> simp [u2_at] <;> omega) | (refine Or.inr ⟨by omega, ?_, ?_⟩ <;> simp [u2_at] <;> omega)
      · exact fun q z a => by (rw [u2_at, if_neg (by omega), u2_at, if_neg (by omega)])
