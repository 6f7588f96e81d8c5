/-- how many of the first k rows stay, by bits -/
noncomputable def keptK (b k : Int) : Int := sm (fun i => bI (inS b i)) k
theorem keptK_s {b k : Int} (h : 0 ≤ k) : keptK b (k + 1) = keptK b k + bI (inS b k) := sm_s h
theorem keptK_b {b k : Int} (h : 0 ≤ k) : 0 ≤ keptK b k ∧ keptK b k ≤ k := by
  have := sm_b (f := fun i => bI (inS b i)) (A := 1) h (fun i _ _ => bI_b _)
  unfold keptK
  omega
theorem keptK_m {b : Int} {z k : Int} (hz : 0 ≤ z) (h : z < k) (hi : inS b z) : keptK b z + 1 ≤ keptK b k := by
  have h1 := sm_diffI (f := fun i => bI (inS b i)) (A := 1) (by decide) (a := z + 1) (b := k) (by omega) (by omega) (fun i _ => bI_b _)
  have h2 := keptK_s (b := b) hz
  rw [bI_t hi] at h2
  unfold keptK at h2 ⊢
  omega
theorem bitN {r m q : Int} {P : Int → Prop} (h : inS r q ↔ (q < m ∧ P q)) (hn : ¬ P m) : inS r q ↔ (q < m + 1 ∧ P q) := by
  rw [h]
  constructor
  · exact fun w => ⟨by omega, w.2⟩
  · intro w
    refine ⟨?_, w.2⟩
    have : q ≠ m := fun e => hn (e ▸ w.2)
    omega
theorem bitY {r m q : Int} {P : Int → Prop} (h : inS r q ↔ (q < m ∧ P q)) (hn : P m) : (inS r q ∨ q = m) ↔ (q < m + 1 ∧ P q) := by
  rw [h]
  constructor
  · rintro (w | w)
    · exact ⟨by omega, w.2⟩
    · subst w; exact ⟨by omega, hn⟩
  · intro w
    by_cases e : q = m
    · exact Or.inr e
    · exact Or.inl ⟨by omega, w.2⟩
theorem keptN {b m : Int} {f g : Int → Int} (h : ∀ z, 0 ≤ z → z < m → inS b z → ∀ j, 0 ≤ j → j < 4 → g (4 * keptK b z + j) = f (4 * z + j)) (hn : ¬ inS b m) : ∀ z, 0 ≤ z → z < m + 1 → inS b z → ∀ j, 0 ≤ j → j < 4 → g (4 * keptK b z + j) = f (4 * z + j) := by
  intro z a c hi
  have : z ≠ m := fun e => hn (e ▸ hi)
  exact h z a (by omega) hi
theorem keptY {b m w : Int} {V V2 : Nat → Int → Int} {c : Nat} (h : ∀ z, 0 ≤ z → z < m → inS b z → ∀ j, 0 ≤ j → j < 4 → V2 c (4 * keptK b z + j) = V c (4 * z + j)) (hU : ∀ z, 4 * m ≤ z → V2 c z = V c z) (hw : w = keptK b m) (hwb : 0 ≤ keptK b m ∧ keptK b m ≤ m) (hm : 0 ≤ m) (hn : inS b m) : ∀ z, 0 ≤ z → z < m + 1 → inS b z → ∀ j, 0 ≤ j → j < 4 → cpy V2 c c (4 * m) (4 * w) 4 c (4 * keptK b z + j) = V c (4 * z + j) := by
  intro z a d hi j hj hj2
  rw [cpy_s]
  by_cases e : z = m
  · subst e
    rw [if_pos (by omega), show 4 * z + (4 * keptK b z + j - 4 * w) = 4 * z + j by omega]
    exact hU _ (by omega)
  · have hk := keptK_m a (show z < m by omega) hi
    rw [if_neg (by omega)]
    exact h z a (by omega) hi j hj hj2

set_option maxRecDepth 100000 in
set_option maxHeartbeats 4000000 in
theorem m_X10_boardsThatMeet (G : GS) (n : Nat) (V : Nat → Int → Int) (R : Nat → Int → Option Nat) (yd : Nat) (o : Int) (hn : 67 ≤ n) (hLR : LR R) (hy : yd = 1 ∨ yd = 6) (ho : 0 ≤ o ∧ o < 6) (hb : 0 ≤ V yd 8 ∧ V yd 8 ≤ 16) : Cn G yX10_boardsThatMeet cX10_boardsThatMeet 4 (some .int) (rmk 2 0 0 38) [.ref (aG G yd), .int (iI o)] n V R 0 0 (fun vv uu => ∃ (r : Int), vv = some (.int (iI r)) ∧ uu = (n, V, R) ∧ (Rg r) ∧ (∀ q, 0 ≤ q → q < 32 → (inS r q ↔ (q < V yd 8 ∧ meetQ (V (yd + 3)) (V (yd + 4)) (4 * q) (4 * o))))) := by
  refine Cn.of (by decide) (Nat.le_of_ble_eq_true rfl) (fun K C hct => ?_)
  show Xw K G 0 0 _ n V R 0 [(0, .ref (aG G yd)), (1, .int (iI o))] []
  refine x_iconst C dX10_boardsThatMeet_0 ?_
  refine x_istore_n C dX10_boardsThatMeet_1 rfl (by decide) (lv' := [(0, .ref (aG G yd)), (1, .int (iI o)), (2, .int (iI 0))]) rfl ?_
  refine x_iconst C dX10_boardsThatMeet_2 ?_
  refine x_istore_n C dX10_boardsThatMeet_3 rfl (by decide) (lv' := [(0, .ref (aG G yd)), (1, .int (iI o)), (2, .int (iI 0)), (3, .int (iI 0))]) rfl ?_
  have lp_4 : ∀ (fuel : Nat) (m : Int) (r : Int), (0 ≤ m ∧ m ≤ V yd 8) → (Rg r) → (∀ q, 0 ≤ q → q < 32 → (inS r q ↔ (q < m ∧ meetQ (V (yd + 3)) (V (yd + 4)) (4 * q) (4 * o)))) → ((17 : Int) - m) < (fuel : Int) → Xw K G 0 0 (EndQ K G 0 0 (fun vv uu => ∃ (r : Int), vv = some (.int (iI r)) ∧ uu = (n, V, R) ∧ (Rg r) ∧ (∀ q, 0 ≤ q → q < 32 → (inS r q ↔ (q < V yd 8 ∧ meetQ (V (yd + 3)) (V (yd + 4)) (4 * q) (4 * o)))))) n V R 4 [(0, .ref (aG G yd)), (1, .int (iI o)), (2, .int (iI r)), (3, .int (iI m))] [] := by
    intro fuel4
    induction fuel4 with
    | zero => intro m r hm hrr hS hfu4; exfalso; omega
    | succ fuel4 ih4 =>
      intro m r hm hrr hS hfu4
      refine x_iload_n C 3 dX10_boardsThatMeet_4 rfl rfl ?_
      refine x_aload_n C 0 dX10_boardsThatMeet_5 rfl rfl ?_
      refine x_geti C ok_Yard yd 8 dX10_boardsThatMeet_6 (ltY hy hn (by decide) : yd + 0 < n) (tbY_0 hy) (by decide) rfl q_2_0 rfl (kz := 8) rfl (fun rg6 => ?_)
      refine x_icmp_ge C dX10_boardsThatMeet_9 (tgt := 37) (by decide) (by first | assumption | (constructor <;> omega)) (by first | assumption | (constructor <;> omega)) (fun h9 => ?_) (fun h9 => ?_)
      · skip
        refine x_iload_n C 2 dX10_boardsThatMeet_37 rfl rfl ?_
        refine x_iret C dX10_boardsThatMeet_38 ⟨_, rfl, rfl, ?_, ?_⟩
        · exact hrr
        · exact fun q a b => by rw [hS q a b, show m = V yd 8 by omega]
      · skip
        refine x_aload_n C 0 dX10_boardsThatMeet_12 rfl rfl ?_
        refine x_iconst C dX10_boardsThatMeet_13 ?_
        refine x_iload_n C 3 dX10_boardsThatMeet_14 rfl rfl ?_
        refine x_imul C dX10_boardsThatMeet_15 ?_
        refine x_iconst C dX10_boardsThatMeet_16 ?_
        refine x_iload_n C 1 dX10_boardsThatMeet_17 rfl rfl ?_
        refine x_imul C dX10_boardsThatMeet_18 ?_
        refine x_runU (r_callV C ok_Yard yd (ltY hy hn (by decide) : yd + 0 < n) (tbY_0 hy) (ce_X10_meets) (m_X10_meets G n V R (yd) (4 * m) (4 * o) hn hLR (by first | assumption | omega | decide) (by first | assumption | omega | decide) (by first | assumption | omega | decide)) rfl dX10_boardsThatMeet_19 q_41_17 q_41_18 q_41_19 rfl rfl ⟨Nat.le_of_ble_eq_true rfl, Nat.le_of_ble_eq_true rfl⟩ ⟨rfl, rfl⟩ ⟨Nat.le_of_ble_eq_true rfl, Nat.le_of_ble_eq_true rfl⟩ (Nat.le_of_ble_eq_true rfl)) (fun v19 u19 hp19 => ?_)
        obtain ⟨rfl, rfl⟩ := hp19
        show Xw K G 0 0 _ n V R 22 [(0, .ref (aG G yd)), (1, .int (iI o)), (2, .int (iI r)), (3, .int (iI m))] [.int (iI (bI (meetQ (V (yd + 3)) (V (yd + 4)) (4 * m) (4 * o))))]
        refine x_ifeq_b C dX10_boardsThatMeet_22 (tgt := 31) (by decide) (fun h22 => ?_) (fun h22 => ?_)
        · skip
          refine x_iinc C 3 dX10_boardsThatMeet_31 rfl (by decide) (lv' := [(0, .ref (aG G yd)), (1, .int (iI o)), (2, .int (iI r)), (3, .int (iI (m + 1)))]) rfl ?_
          refine x_goto C dX10_boardsThatMeet_34 (tgt := 4) (by decide) ?_
          exact ih4 ((m + 1)) (r) (by omega) (by first | exact hrr | exact zOr_rg _ _) (by first | exact fun q a b => bitN (P := fun z => meetQ (V (yd + 3)) (V (yd + 4)) (4 * z) (4 * o)) (hS q a b) (by assumption) | exact fun q a b => by rw [inS_or ⟨a, b⟩, inS_shl (by omega) ⟨a, b⟩]; exact bitY (P := fun z => meetQ (V (yd + 3)) (V (yd + 4)) (4 * z) (4 * o)) (hS q a b) (by assumption)) (by omega)
        · skip
          refine x_iload_n C 2 dX10_boardsThatMeet_25 rfl rfl ?_
          refine x_iconst C dX10_boardsThatMeet_26 ?_
          refine x_iload_n C 3 dX10_boardsThatMeet_27 rfl rfl ?_
          refine x_ishl C dX10_boardsThatMeet_28 ?_
          refine x_ior C dX10_boardsThatMeet_29 ?_
          refine x_istore_n C dX10_boardsThatMeet_30 rfl (by decide) (lv' := [(0, .ref (aG G yd)), (1, .int (iI o)), (2, .int (iI (zOr r (zShl 1 m)))), (3, .int (iI m))]) rfl ?_
          refine x_iinc C 3 dX10_boardsThatMeet_31 rfl (by decide) (lv' := [(0, .ref (aG G yd)), (1, .int (iI o)), (2, .int (iI (zOr r (zShl 1 m)))), (3, .int (iI (m + 1)))]) rfl ?_
          refine x_goto C dX10_boardsThatMeet_34 (tgt := 4) (by decide) ?_
          exact ih4 ((m + 1)) ((zOr r (zShl 1 m))) (by omega) (by first | exact hrr | exact zOr_rg _ _) (by first | exact fun q a b => bitN (P := fun z => meetQ (V (yd + 3)) (V (yd + 4)) (4 * z) (4 * o)) (hS q a b) (by assumption) | exact fun q a b => by rw [inS_or ⟨a, b⟩, inS_shl (by omega) ⟨a, b⟩]; exact bitY (P := fun z => meetQ (V (yd + 3)) (V (yd + 4)) (4 * z) (4 * o)) (hS q a b) (by assumption)) (by omega)
  exact lp_4 (((17 : Int) - 0).toNat + 1) (0) (0) (by omega) (by constructor <;> omega) (by exact fun q a b => ⟨fun w => absurd w (inS_0 ⟨a, b⟩), fun w => by omega⟩) (by omega)
set_option maxRecDepth 100000 in
set_option maxHeartbeats 4000000 in
theorem m_X10_keepRows (G : GS) (n : Nat) (V : Nat → Int → Int) (R : Nat → Int → Option Nat) (c : Nat) (L : Nat) (k : Int) (b : Int) (hn : 67 ≤ n) (hLR : LR R) (hc : c < n) (ht : tb c = (20, L)) (hk : 0 ≤ k ∧ 4 * k ≤ L ∧ L ≤ 2000) (gb : Rg b) : Cn G yX10_keepRows cX10_keepRows 5 (some .int) (rmk 2 0 0 64) [.ref (aG G c), .int (iI k), .int (iI b)] n V R 0 0 (fun vv uu => ∃ (V1 : Nat → Int → Int), vv = some (.int (iI (keptK b k))) ∧ uu = (n, V1, R) ∧ (∀ q, q ≠ c → V1 q = V q) ∧ (∀ z, 0 ≤ z → z < k → inS b z → ∀ j, 0 ≤ j → j < 4 → V1 c (4 * keptK b z + j) = V c (4 * z + j))) := by
  refine Cn.of (by decide) (Nat.le_of_ble_eq_true rfl) (fun K C hct => ?_)
  show Xw K G 0 0 _ n V R 0 [(0, .ref (aG G c)), (1, .int (iI k)), (2, .int (iI b))] []
  refine x_iconst C dX10_keepRows_0 ?_
  refine x_istore_n C dX10_keepRows_1 rfl (by decide) (lv' := [(0, .ref (aG G c)), (1, .int (iI k)), (2, .int (iI b)), (3, .int (iI 0))]) rfl ?_
  refine x_iconst C dX10_keepRows_2 ?_
  refine x_istore C dX10_keepRows_3 (by decide) (lv' := [(0, .ref (aG G c)), (1, .int (iI k)), (2, .int (iI b)), (3, .int (iI 0)), (4, .int (iI 0))]) rfl ?_
  have lp_5 : ∀ (fuel : Nat) (m : Int) (w : Int) (V2 : Nat → Int → Int), (0 ≤ m ∧ m ≤ k) → (w = keptK b m) → (∀ q, q ≠ c → V2 q = V q) → (∀ z, 0 ≤ z → z < m → inS b z → ∀ j, 0 ≤ j → j < 4 → V2 c (4 * keptK b z + j) = V c (4 * z + j)) → (∀ z, 4 * m ≤ z → V2 c z = V c z) → (k + 1 - m) < (fuel : Int) → Xw K G 0 0 (EndQ K G 0 0 (fun vv uu => ∃ (V1 : Nat → Int → Int), vv = some (.int (iI (keptK b k))) ∧ uu = (n, V1, R) ∧ (∀ q, q ≠ c → V1 q = V q) ∧ (∀ z, 0 ≤ z → z < k → inS b z → ∀ j, 0 ≤ j → j < 4 → V1 c (4 * keptK b z + j) = V c (4 * z + j)))) n V2 R 5 [(0, .ref (aG G c)), (1, .int (iI k)), (2, .int (iI b)), (3, .int (iI w)), (4, .int (iI m))] [] := by
    intro fuel5
    induction fuel5 with
    | zero => intro m w V2 hm hw hF hT hU hfu5; exfalso; omega
    | succ fuel5 ih5 =>
      intro m w V2 hm hw hF hT hU hfu5
      have hwb := keptK_b (b := b) hm.1
      refine x_iload C 4 dX10_keepRows_5 rfl ?_
      refine x_iload_n C 1 dX10_keepRows_7 rfl rfl ?_
      refine x_icmp_ge C dX10_keepRows_8 (tgt := 42) (by decide) (by first | assumption | (constructor <;> omega)) (by first | assumption | (constructor <;> omega)) (fun h8 => ?_) (fun h8 => ?_)
      · skip
        refine x_iload_n C 3 dX10_keepRows_42 rfl rfl ?_
        refine x_iret C dX10_keepRows_43 ⟨_, congrArg (fun z => some (Value.int (iI z))) (by rw [hw, show m = k by omega]), rfl, ?_, ?_⟩
        · exact hF
        · exact fun z a c2 => hT z a (by omega)
      · skip
        refine x_iload_n C 2 dX10_keepRows_11 rfl rfl ?_
        refine x_iload C 4 dX10_keepRows_12 rfl ?_
        refine x_runU (r_callSN C (ce_X11_has) (m_X11_has G n V2 R (b) (m)) dX10_keepRows_14 (List.mem_of_getElem? (i := 26) rfl) q_36_17 rfl rfl ⟨Nat.le_of_ble_eq_true rfl, Nat.le_of_ble_eq_true rfl⟩ ⟨rfl, rfl⟩ ⟨Nat.le_of_ble_eq_true rfl, Nat.le_of_ble_eq_true rfl⟩ (Nat.le_of_ble_eq_true rfl)) (fun v14 u14 hp14 => ?_)
        obtain ⟨rfl, rfl⟩ := hp14
        show Xw K G 0 0 _ n V2 R 17 [(0, .ref (aG G c)), (1, .int (iI k)), (2, .int (iI b)), (3, .int (iI w)), (4, .int (iI m))] [.int (iI (bI (inS b m)))]
        refine x_ifeq_b C dX10_keepRows_17 (tgt := 36) (by decide) (fun h17 => ?_) (fun h17 => ?_)
        · skip
          refine x_iinc C 4 dX10_keepRows_36 rfl (by decide) (lv' := [(0, .ref (aG G c)), (1, .int (iI k)), (2, .int (iI b)), (3, .int (iI w)), (4, .int (iI (m + 1)))]) rfl ?_
          refine x_goto C dX10_keepRows_39 (tgt := 5) (by decide) ?_
          exact ih5 ((m + 1)) (w) (V2) (by omega) (by rw [keptK_s hm.1, ← hw]; first | (rw [bI_t (by assumption)]) | (rw [bI_f (by assumption)]; omega)) (by first | exact hF | exact fun q a => by rw [cpy_n a]; exact hF q a) (by first | exact keptN hT (by assumption) | exact keptY hT hU hw hwb hm.1 (by assumption)) (by first | exact fun z a => hU z (by omega) | exact fun z a => by rw [cpy_s, if_neg (by omega)]; exact hU z (by omega)) (by omega)
        · skip
          refine x_aload_n C 0 dX10_keepRows_20 rfl rfl ?_
          refine x_iconst C dX10_keepRows_21 ?_
          refine x_iload C 4 dX10_keepRows_22 rfl ?_
          refine x_imul C dX10_keepRows_24 ?_
          refine x_aload_n C 0 dX10_keepRows_25 rfl rfl ?_
          refine x_iconst C dX10_keepRows_26 ?_
          refine x_iload_n C 3 dX10_keepRows_27 rfl rfl ?_
          refine x_imul C dX10_keepRows_28 ?_
          refine x_iconst C dX10_keepRows_29 ?_
          refine x_acpi C c c dX10_keepRows_30 hc hc ht ht (by refine ⟨?_, ?_, ?_, ?_, ?_⟩ <;> omega) q_2_3 q_2_4 q_2_5 q_2_6 (Nat.le_of_ble_eq_true rfl) (Nat.le_of_ble_eq_true rfl) ?_
          refine x_iinc C 3 dX10_keepRows_33 rfl (by decide) (lv' := [(0, .ref (aG G c)), (1, .int (iI k)), (2, .int (iI b)), (3, .int (iI (w + 1))), (4, .int (iI m))]) rfl ?_
          refine x_iinc C 4 dX10_keepRows_36 rfl (by decide) (lv' := [(0, .ref (aG G c)), (1, .int (iI k)), (2, .int (iI b)), (3, .int (iI (w + 1))), (4, .int (iI (m + 1)))]) rfl ?_
          refine x_goto C dX10_keepRows_39 (tgt := 5) (by decide) ?_
          exact ih5 ((m + 1)) ((w + 1)) ((cpy V2 c c (4 * m) (4 * w) 4)) (by omega) (by rw [keptK_s hm.1, ← hw]; first | (rw [bI_t (by assumption)]) | (rw [bI_f (by assumption)]; omega)) (by first | exact hF | exact fun q a => by rw [cpy_n a]; exact hF q a) (by first | exact keptN hT (by assumption) | exact keptY hT hU hw hwb hm.1 (by assumption)) (by first | exact fun z a => hU z (by omega) | exact fun z a => by rw [cpy_s, if_neg (by omega)]; exact hU z (by omega)) (by omega)
  exact lp_5 ((k + 1 - 0).toNat + 1) (0) (0) (V) (by omega) (by rfl) (by exact fun _ _ => rfl) (by exact fun z a c2 => by omega) (by exact fun _ _ => rfl) (by omega)
set_option maxRecDepth 100000 in
set_option maxHeartbeats 4000000 in
theorem m_X10_keepBoards (G : GS) (n : Nat) (V : Nat → Int → Int) (R : Nat → Int → Option Nat) (yd : Nat) (b : Int) (hn : 67 ≤ n) (hLR : LR R) (hy : yd = 1 ∨ yd = 6) (gb : Rg b) (h5 : 0 ≤ V yd 8 ∧ V yd 8 ≤ 16) : Cn G yX10_keepBoards cX10_keepBoards 2 none (rmk 3 0 0 88) [.ref (aG G yd), .int (iI b)] n V R 0 0 (fun vv uu => ∃ (V1 : Nat → Int → Int), vv = none ∧ uu = (n, V1, R) ∧ (∀ q z, q ≠ yd + 3 → ¬ (q = yd ∧ z = 8) → V1 q z = V q z) ∧ (V1 yd 8 = keptK b (V yd 8)) ∧ (∀ z, 0 ≤ z → z < V yd 8 → inS b z → ∀ j, 0 ≤ j → j < 4 → V1 (yd + 3) (4 * keptK b z + j) = V (yd + 3) (4 * z + j))) := by
  refine Cn.of (by decide) (Nat.le_of_ble_eq_true rfl) (fun K C hct => ?_)
  show Xw K G 0 0 _ n V R 0 [(0, .ref (aG G yd)), (1, .int (iI b))] []
  refine x_aload_n C 0 dX10_keepBoards_0 rfl rfl ?_
  refine x_aload_n C 0 dX10_keepBoards_1 rfl rfl ?_
  refine x_getr C ok_Yard yd 7 (d := (yd + 3)) dX10_keepBoards_2 (ltY hy hn (by decide) : yd + 0 < n) (tbY_0 hy) (by decide) rfl q_1_23 rfl (kz := 7) rfl (lrY_7 hy hLR) ?_
  refine x_aload_n C 0 dX10_keepBoards_5 rfl rfl ?_
  refine x_geti C ok_Yard yd 8 dX10_keepBoards_6 (ltY hy hn (by decide) : yd + 0 < n) (tbY_0 hy) (by decide) rfl q_2_0 rfl (kz := 8) rfl (fun rg6 => ?_)
  refine x_iload_n C 1 dX10_keepBoards_9 rfl rfl ?_
  refine x_runU (r_callS C (ce_X10_keepRows) (m_X10_keepRows G n V R (yd + 3) (64) (V yd 8) (b) hn hLR (by omega) (by exact tbY_3 hy) (by first | assumption | omega | decide) (by first | assumption | omega | decide)) dX10_keepBoards_10 q_44_5 q_44_6 rfl rfl ⟨Nat.le_of_ble_eq_true rfl, Nat.le_of_ble_eq_true rfl⟩ ⟨rfl, rfl⟩ ⟨Nat.le_of_ble_eq_true rfl, Nat.le_of_ble_eq_true rfl⟩ (Nat.le_of_ble_eq_true rfl)) (fun v10 u10 hp10 => ?_)
  obtain ⟨V1_10, rfl, rfl, hq10_0, hq10_1⟩ := hp10
  show Xw K G 0 0 _ n V1_10 R 13 [(0, .ref (aG G yd)), (1, .int (iI b))] [.int (iI (keptK b (V yd 8))), .ref (aG G yd)]
  refine x_puti C ok_Yard yd 8 dX10_keepBoards_13 (ltY hy hn (by decide) : yd + 0 < n) (tbY_0 hy) (by decide) rfl q_2_0 rfl rfl (Or.inl rfl) (by have hkb := keptK_b (b := b) h5.1; constructor <;> omega) (kz := 8) rfl ?_
  refine x_vret C dX10_keepBoards_16 ⟨_, rfl, rfl, ?_, ?_, ?_⟩
  · exact fun q z a c => by rw [u2_at, if_neg c]; exact congrFun (hq10_0 q a) z
  · rw [u2_s, u1_s]
  · rw [u2_n (by omega)]; exact hq10_1
set_option maxRecDepth 100000 in
set_option maxHeartbeats 4000000 in
theorem m_X10_keepOrders (G : GS) (n : Nat) (V : Nat → Int → Int) (R : Nat → Int → Option Nat) (yd : Nat) (b : Int) (hn : 67 ≤ n) (hLR : LR R) (hy : yd = 1 ∨ yd = 6) (gb : Rg b) (h5 : 0 ≤ V yd 10 ∧ V yd 10 ≤ 6) : Cn G yX10_keepOrders cX10_keepOrders 2 none (rmk 3 0 0 88) [.ref (aG G yd), .int (iI b)] n V R 0 0 (fun vv uu => ∃ (V1 : Nat → Int → Int), vv = none ∧ uu = (n, V1, R) ∧ (∀ q z, q ≠ yd + 4 → ¬ (q = yd ∧ z = 10) → V1 q z = V q z) ∧ (V1 yd 10 = keptK b (V yd 10)) ∧ (∀ z, 0 ≤ z → z < V yd 10 → inS b z → ∀ j, 0 ≤ j → j < 4 → V1 (yd + 4) (4 * keptK b z + j) = V (yd + 4) (4 * z + j))) := by
  refine Cn.of (by decide) (Nat.le_of_ble_eq_true rfl) (fun K C hct => ?_)
  show Xw K G 0 0 _ n V R 0 [(0, .ref (aG G yd)), (1, .int (iI b))] []
  refine x_aload_n C 0 dX10_keepOrders_0 rfl rfl ?_
  refine x_aload_n C 0 dX10_keepOrders_1 rfl rfl ?_
  refine x_getr C ok_Yard yd 9 (d := (yd + 4)) dX10_keepOrders_2 (ltY hy hn (by decide) : yd + 0 < n) (tbY_0 hy) (by decide) rfl q_2_1 rfl (kz := 9) rfl (lrY_9 hy hLR) ?_
  refine x_aload_n C 0 dX10_keepOrders_5 rfl rfl ?_
  refine x_geti C ok_Yard yd 10 dX10_keepOrders_6 (ltY hy hn (by decide) : yd + 0 < n) (tbY_0 hy) (by decide) rfl q_2_2 rfl (kz := 10) rfl (fun rg6 => ?_)
  refine x_iload_n C 1 dX10_keepOrders_9 rfl rfl ?_
  refine x_runU (r_callS C (ce_X10_keepRows) (m_X10_keepRows G n V R (yd + 4) (24) (V yd 10) (b) hn hLR (by omega) (by exact tbY_4 hy) (by first | assumption | omega | decide) (by first | assumption | omega | decide)) dX10_keepOrders_10 q_44_5 q_44_6 rfl rfl ⟨Nat.le_of_ble_eq_true rfl, Nat.le_of_ble_eq_true rfl⟩ ⟨rfl, rfl⟩ ⟨Nat.le_of_ble_eq_true rfl, Nat.le_of_ble_eq_true rfl⟩ (Nat.le_of_ble_eq_true rfl)) (fun v10 u10 hp10 => ?_)
  obtain ⟨V1_10, rfl, rfl, hq10_0, hq10_1⟩ := hp10
  show Xw K G 0 0 _ n V1_10 R 13 [(0, .ref (aG G yd)), (1, .int (iI b))] [.int (iI (keptK b (V yd 10))), .ref (aG G yd)]
  refine x_puti C ok_Yard yd 10 dX10_keepOrders_13 (ltY hy hn (by decide) : yd + 0 < n) (tbY_0 hy) (by decide) rfl q_2_2 rfl rfl (Or.inl rfl) (by have hkb := keptK_b (b := b) h5.1; constructor <;> omega) (kz := 10) rfl ?_
  refine x_vret C dX10_keepOrders_16 ⟨_, rfl, rfl, ?_, ?_, ?_⟩
  · exact fun q z a c => by rw [u2_at, if_neg c]; exact congrFun (hq10_0 q a) z
  · rw [u2_s, u1_s]
  · rw [u2_n (by omega)]; exact hq10_1
set_option maxRecDepth 100000 in
set_option maxHeartbeats 4000000 in
theorem m_X10_becomeAs (G : GS) (n : Nat) (V : Nat → Int → Int) (R : Nat → Int → Option Nat) (yd : Nat) (od : Nat) (hn : 67 ≤ n) (hLR : LR R) (hy : yd = 1 ∨ yd = 6) (hyo : (yd = 1 ∧ od = 6) ∨ (yd = 6 ∧ od = 1)) (ho : od = 1 ∨ od = 6) (hE : ∀ z d, R (od + 1) z = some d → d < n ∧ tb d = (99, 0)) : Cn G yX10_becomeAs cX10_becomeAs 3 none (rmk 1 0 0 64) [.ref (aG G yd), .ref (aG G od)] n V R 0 0 (fun vv uu => ∃ (R1 : Nat → Int → Option Nat), vv = none ∧ uu = (n, (cpy (cpy (cpy (u2 (u2 (u2 (u2 (u2 (u2 (u2 V yd 0 (V od 0)) yd 1 (V od 1)) yd 2 (V od 2)) yd 3 (V od 3)) yd 5 (V od 5)) yd 8 (V od 8)) yd 10 (V od 10)) (od + 2) (yd + 2) 0 0 7) (od + 3) (yd + 3) 0 0 64) (od + 4) (yd + 4) 0 0 24), R1) ∧ (∀ q, q ≠ yd + 1 → R1 q = R q) ∧ (∀ z, 0 ≤ z → z < 8 → R1 (yd + 1) z = R (od + 1) z)) := by
  refine Cn.of (by decide) (Nat.le_of_ble_eq_true rfl) (fun K C hct => ?_)
  show Xw K G 0 0 _ n V R 0 [(0, .ref (aG G yd)), (1, .ref (aG G od))] []
  refine x_rg (fun hRg => ?_)
  have ro : ∀ z, Rg (V od z) := fun z => (hRg od z).2 (by have h := tbY_0 ho; rw [show od + 0 = od from rfl] at h; rw [h]; decide)
  have rr0 := ro 0
  have rr1 := ro 1
  have rr2 := ro 2
  have rr3 := ro 3
  have rr5 := ro 5
  have rr8 := ro 8
  have rr10 := ro 10
  refine x_aload_n C 0 dX10_becomeAs_0 rfl rfl ?_
  refine x_aload_n C 1 dX10_becomeAs_1 rfl rfl ?_
  refine x_geti C ok_Yard od 0 dX10_becomeAs_2 (ltY ho hn (by decide) : od + 0 < n) (tbY_0 ho) (by decide) rfl q_1_15 rfl (kz := 0) rfl (fun rg2 => ?_)
  refine x_puti C ok_Yard yd 0 dX10_becomeAs_5 (ltY hy hn (by decide) : yd + 0 < n) (tbY_0 hy) (by decide) rfl q_1_15 rfl rfl (Or.inl rfl) (by first | assumption | (constructor <;> omega)) (kz := 0) rfl ?_
  refine x_aload_n C 0 dX10_becomeAs_8 rfl rfl ?_
  refine x_aload_n C 1 dX10_becomeAs_9 rfl rfl ?_
  refine x_geti C ok_Yard od 1 dX10_becomeAs_10 (ltY ho hn (by decide) : od + 0 < n) (tbY_0 ho) (by decide) rfl q_1_16 rfl (kz := 1) rfl (fun rg10 => ?_)
  refine x_top (b := (V od 1)) (by first | rfl | (simp only [u2_at]; simp) | (simp only [u2_at]; first | (rw [if_neg (by omega)]) | omega) | (repeat rw [u2_at, if_neg (by omega)])) ?_
  refine x_puti C ok_Yard yd 1 dX10_becomeAs_13 (ltY hy hn (by decide) : yd + 0 < n) (tbY_0 hy) (by decide) rfl q_1_16 rfl rfl (Or.inl rfl) (by first | assumption | (constructor <;> omega)) (kz := 1) rfl ?_
  refine x_aload_n C 0 dX10_becomeAs_16 rfl rfl ?_
  refine x_aload_n C 1 dX10_becomeAs_17 rfl rfl ?_
  refine x_geti C ok_Yard od 2 dX10_becomeAs_18 (ltY ho hn (by decide) : od + 0 < n) (tbY_0 ho) (by decide) rfl q_1_17 rfl (kz := 2) rfl (fun rg18 => ?_)
  refine x_top (b := (V od 2)) (by first | rfl | (simp only [u2_at]; simp) | (simp only [u2_at]; first | (rw [if_neg (by omega)]) | omega) | (repeat rw [u2_at, if_neg (by omega)])) ?_
  refine x_puti C ok_Yard yd 2 dX10_becomeAs_21 (ltY hy hn (by decide) : yd + 0 < n) (tbY_0 hy) (by decide) rfl q_1_17 rfl rfl (Or.inl rfl) (by first | assumption | (constructor <;> omega)) (kz := 2) rfl ?_
  refine x_aload_n C 0 dX10_becomeAs_24 rfl rfl ?_
  refine x_aload_n C 1 dX10_becomeAs_25 rfl rfl ?_
  refine x_geti C ok_Yard od 3 dX10_becomeAs_26 (ltY ho hn (by decide) : od + 0 < n) (tbY_0 ho) (by decide) rfl q_1_18 rfl (kz := 3) rfl (fun rg26 => ?_)
  refine x_top (b := (V od 3)) (by first | rfl | (simp only [u2_at]; simp) | (simp only [u2_at]; first | (rw [if_neg (by omega)]) | omega) | (repeat rw [u2_at, if_neg (by omega)])) ?_
  refine x_puti C ok_Yard yd 3 dX10_becomeAs_29 (ltY hy hn (by decide) : yd + 0 < n) (tbY_0 hy) (by decide) rfl q_1_18 rfl rfl (Or.inl rfl) (by first | assumption | (constructor <;> omega)) (kz := 3) rfl ?_
  refine x_aload_n C 0 dX10_becomeAs_32 rfl rfl ?_
  refine x_aload_n C 1 dX10_becomeAs_33 rfl rfl ?_
  refine x_geti C ok_Yard od 5 dX10_becomeAs_34 (ltY ho hn (by decide) : od + 0 < n) (tbY_0 ho) (by decide) rfl q_1_21 rfl (kz := 5) rfl (fun rg34 => ?_)
  refine x_top (b := (V od 5)) (by first | rfl | (simp only [u2_at]; simp) | (simp only [u2_at]; first | (rw [if_neg (by omega)]) | omega) | (repeat rw [u2_at, if_neg (by omega)])) ?_
  refine x_puti C ok_Yard yd 5 dX10_becomeAs_37 (ltY hy hn (by decide) : yd + 0 < n) (tbY_0 hy) (by decide) rfl q_1_21 rfl rfl (Or.inl rfl) (by first | assumption | (constructor <;> omega)) (kz := 5) rfl ?_
  refine x_aload_n C 0 dX10_becomeAs_40 rfl rfl ?_
  refine x_aload_n C 1 dX10_becomeAs_41 rfl rfl ?_
  refine x_geti C ok_Yard od 8 dX10_becomeAs_42 (ltY ho hn (by decide) : od + 0 < n) (tbY_0 ho) (by decide) rfl q_2_0 rfl (kz := 8) rfl (fun rg42 => ?_)
  refine x_top (b := (V od 8)) (by first | rfl | (simp only [u2_at]; simp) | (simp only [u2_at]; first | (rw [if_neg (by omega)]) | omega) | (repeat rw [u2_at, if_neg (by omega)])) ?_
  refine x_puti C ok_Yard yd 8 dX10_becomeAs_45 (ltY hy hn (by decide) : yd + 0 < n) (tbY_0 hy) (by decide) rfl q_2_0 rfl rfl (Or.inl rfl) (by first | assumption | (constructor <;> omega)) (kz := 8) rfl ?_
  refine x_aload_n C 0 dX10_becomeAs_48 rfl rfl ?_
  refine x_aload_n C 1 dX10_becomeAs_49 rfl rfl ?_
  refine x_geti C ok_Yard od 10 dX10_becomeAs_50 (ltY ho hn (by decide) : od + 0 < n) (tbY_0 ho) (by decide) rfl q_2_2 rfl (kz := 10) rfl (fun rg50 => ?_)
  refine x_top (b := (V od 10)) (by first | rfl | (simp only [u2_at]; simp) | (simp only [u2_at]; first | (rw [if_neg (by omega)]) | omega) | (repeat rw [u2_at, if_neg (by omega)])) ?_
  refine x_puti C ok_Yard yd 10 dX10_becomeAs_53 (ltY hy hn (by decide) : yd + 0 < n) (tbY_0 hy) (by decide) rfl q_2_2 rfl rfl (Or.inl rfl) (by first | assumption | (constructor <;> omega)) (kz := 10) rfl ?_
  refine x_iconst C dX10_becomeAs_56 ?_
  refine x_istore_n C dX10_becomeAs_57 rfl (by decide) (lv' := [(0, .ref (aG G yd)), (1, .ref (aG G od)), (2, .int (iI 0))]) rfl ?_
  have lp_58 : ∀ (fuel : Nat) (m : Int) (R2 : Nat → Int → Option Nat), (0 ≤ m ∧ m ≤ 8) → (∀ q, q ≠ yd + 1 → R2 q = R q) → (∀ z, 0 ≤ z → z < m → R2 (yd + 1) z = R (od + 1) z) → ((9 : Int) - m) < (fuel : Int) → Xw K G 0 0 (EndQ K G 0 0 (fun vv uu => ∃ (R1 : Nat → Int → Option Nat), vv = none ∧ uu = (n, (cpy (cpy (cpy (u2 (u2 (u2 (u2 (u2 (u2 (u2 V yd 0 (V od 0)) yd 1 (V od 1)) yd 2 (V od 2)) yd 3 (V od 3)) yd 5 (V od 5)) yd 8 (V od 8)) yd 10 (V od 10)) (od + 2) (yd + 2) 0 0 7) (od + 3) (yd + 3) 0 0 64) (od + 4) (yd + 4) 0 0 24), R1) ∧ (∀ q, q ≠ yd + 1 → R1 q = R q) ∧ (∀ z, 0 ≤ z → z < 8 → R1 (yd + 1) z = R (od + 1) z))) n (u2 (u2 (u2 (u2 (u2 (u2 (u2 V yd 0 (V od 0)) yd 1 (V od 1)) yd 2 (V od 2)) yd 3 (V od 3)) yd 5 (V od 5)) yd 8 (V od 8)) yd 10 (V od 10)) R2 58 [(0, .ref (aG G yd)), (1, .ref (aG G od)), (2, .int (iI m))] [] := by
    intro fuel58
    induction fuel58 with
    | zero => intro m R2 hm hR2 hN hfu58; exfalso; omega
    | succ fuel58 ih58 =>
      intro m R2 hm hR2 hN hfu58
      have hLR2 := LR_fr (Or.inr hy) hLR hR2
      refine x_iload_n C 2 dX10_becomeAs_58 rfl rfl ?_
      refine x_bipush C dX10_becomeAs_59 (w := 8) (by decide) ?_
      refine x_icmp_ge C dX10_becomeAs_61 (tgt := 82) (by decide) (by first | assumption | (constructor <;> omega)) (by first | assumption | (constructor <;> omega)) (fun h61 => ?_) (fun h61 => ?_)
      · skip
        refine x_aload_n C 1 dX10_becomeAs_82 rfl rfl ?_
        refine x_getr C ok_Yard od 6 (d := (od + 2)) dX10_becomeAs_83 (ltY ho hn (by decide) : od + 0 < n) (tbY_0 ho) (by decide) rfl q_1_22 rfl (kz := 6) rfl (by exact (lrY_6 ho hLR2)) ?_
        refine x_iconst C dX10_becomeAs_86 ?_
        refine x_aload_n C 0 dX10_becomeAs_87 rfl rfl ?_
        refine x_getr C ok_Yard yd 6 (d := (yd + 2)) dX10_becomeAs_88 (ltY hy hn (by decide) : yd + 0 < n) (tbY_0 hy) (by decide) rfl q_1_22 rfl (kz := 6) rfl (by exact (lrY_6 hy hLR2)) ?_
        refine x_iconst C dX10_becomeAs_91 ?_
        refine x_bipush C dX10_becomeAs_92 (w := 7) (by decide) ?_
        refine x_acpi C (od + 2) (yd + 2) dX10_becomeAs_94 (ltY ho hn (by decide)) (ltY hy hn (by decide)) (tbY_2 ho) (tbY_2 hy) (by refine ⟨?_, ?_, ?_, ?_, ?_⟩ <;> omega) q_2_3 q_2_4 q_2_5 q_2_6 (Nat.le_of_ble_eq_true rfl) (Nat.le_of_ble_eq_true rfl) ?_
        refine x_aload_n C 1 dX10_becomeAs_97 rfl rfl ?_
        refine x_getr C ok_Yard od 7 (d := (od + 3)) dX10_becomeAs_98 (ltY ho hn (by decide) : od + 0 < n) (tbY_0 ho) (by decide) rfl q_1_23 rfl (kz := 7) rfl (by exact (lrY_7 ho hLR2)) ?_
        refine x_iconst C dX10_becomeAs_101 ?_
        refine x_aload_n C 0 dX10_becomeAs_102 rfl rfl ?_
        refine x_getr C ok_Yard yd 7 (d := (yd + 3)) dX10_becomeAs_103 (ltY hy hn (by decide) : yd + 0 < n) (tbY_0 hy) (by decide) rfl q_1_23 rfl (kz := 7) rfl (by exact (lrY_7 hy hLR2)) ?_
        refine x_iconst C dX10_becomeAs_106 ?_
        refine x_bipush C dX10_becomeAs_107 (w := 64) (by decide) ?_
        refine x_acpi C (od + 3) (yd + 3) dX10_becomeAs_109 (ltY ho hn (by decide)) (ltY hy hn (by decide)) (tbY_3 ho) (tbY_3 hy) (by refine ⟨?_, ?_, ?_, ?_, ?_⟩ <;> omega) q_2_3 q_2_4 q_2_5 q_2_6 (Nat.le_of_ble_eq_true rfl) (Nat.le_of_ble_eq_true rfl) ?_
        refine x_aload_n C 1 dX10_becomeAs_112 rfl rfl ?_
        refine x_getr C ok_Yard od 9 (d := (od + 4)) dX10_becomeAs_113 (ltY ho hn (by decide) : od + 0 < n) (tbY_0 ho) (by decide) rfl q_2_1 rfl (kz := 9) rfl (by exact (lrY_9 ho hLR2)) ?_
        refine x_iconst C dX10_becomeAs_116 ?_
        refine x_aload_n C 0 dX10_becomeAs_117 rfl rfl ?_
        refine x_getr C ok_Yard yd 9 (d := (yd + 4)) dX10_becomeAs_118 (ltY hy hn (by decide) : yd + 0 < n) (tbY_0 hy) (by decide) rfl q_2_1 rfl (kz := 9) rfl (by exact (lrY_9 hy hLR2)) ?_
        refine x_iconst C dX10_becomeAs_121 ?_
        refine x_bipush C dX10_becomeAs_122 (w := 24) (by decide) ?_
        refine x_acpi C (od + 4) (yd + 4) dX10_becomeAs_124 (ltY ho hn (by decide)) (ltY hy hn (by decide)) (tbY_4 ho) (tbY_4 hy) (by refine ⟨?_, ?_, ?_, ?_, ?_⟩ <;> omega) q_2_3 q_2_4 q_2_5 q_2_6 (Nat.le_of_ble_eq_true rfl) (Nat.le_of_ble_eq_true rfl) ?_
        refine x_vret C dX10_becomeAs_127 ⟨_, rfl, rfl, ?_, ?_⟩
        · exact hR2
        · exact fun z a b => hN z a (by omega)
      · skip
        refine x_aload_n C 0 dX10_becomeAs_64 rfl rfl ?_
        refine x_getr C ok_Yard yd 4 (d := (yd + 1)) dX10_becomeAs_65 (ltY hy hn (by decide) : yd + 0 < n) (tbY_0 hy) (by decide) rfl q_1_20 rfl (kz := 4) rfl (by exact (lrY_4 hy hLR2)) ?_
        refine x_iload_n C 2 dX10_becomeAs_68 rfl rfl ?_
        refine x_aload_n C 1 dX10_becomeAs_69 rfl rfl ?_
        refine x_getr C ok_Yard od 4 (d := (od + 1)) dX10_becomeAs_70 (ltY ho hn (by decide) : od + 0 < n) (tbY_0 ho) (by decide) rfl q_1_20 rfl (kz := 4) rfl (by exact (lrY_4 ho hLR2)) ?_
        refine x_iload_n C 2 dX10_becomeAs_73 rfl rfl ?_
        refine x_aald C (od + 1) dX10_becomeAs_74 (ltY ho hn (by decide)) (tbY_1 ho) (by refine ⟨?_, ?_⟩ <;> omega) ?_
        refine x_aastR C (yd + 1) dX10_becomeAs_75 (ltY hy hn (by decide)) (tbY_1 hy) (by refine ⟨?_, ?_⟩ <;> omega) (by rw [hR2 (od + 1) (by omega)]; exact hE _) ?_
        refine x_iinc C 2 dX10_becomeAs_76 rfl (by decide) (lv' := [(0, .ref (aG G yd)), (1, .ref (aG G od)), (2, .int (iI (m + 1)))]) rfl ?_
        refine x_goto C dX10_becomeAs_79 (tgt := 58) (by decide) ?_
        exact ih58 ((m + 1)) ((u2 R2 (yd + 1) m (R2 (od + 1) m))) (by omega) (by exact fun q a => by rw [u2_n a]; exact hR2 q a) (by exact fun z a b => by (rw [u2_at]; by_cases e : z = m; (rw [if_pos ⟨rfl, e⟩, e, hR2 (od + 1) (by omega)]); (rw [if_neg (by omega)]; exact hN z a (by omega)))) (by omega)
  exact lp_58 (((9 : Int) - 0).toNat + 1) (0) (R) (by omega) (by exact fun _ _ => rfl) (by exact fun z a b => by omega) (by omega)
