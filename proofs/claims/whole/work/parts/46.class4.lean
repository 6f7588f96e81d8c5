theorem sm_tail {f : Int → Int} {a : Int} (ha : 0 ≤ a) : ∀ (k : Nat), (∀ i, a ≤ i → i < a + k → f i = 0) → sm f (a + k) = sm f a
  | 0, _ => by rw [Int.natCast_zero, Int.add_zero]
  | k + 1, h => by
    rw [show a + ((k + 1 : Nat) : Int) = a + k + 1 by omega, sm_s (by omega), sm_tail ha k (fun i x y => h i x (by omega)), h (a + k) (by omega) (by omega), Int.add_zero]
theorem sm_tailI {f : Int → Int} {a b : Int} (ha : 0 ≤ a) (hab : a ≤ b) (h : ∀ i, a ≤ i → i < b → f i = 0) : sm f b = sm f a := by
  have := sm_tail (f := f) ha (b - a).toNat (fun i x y => h i x (by omega))
  rw [show a + ((b - a).toNat : Int) = b by omega] at this
  exact this
/-- wood that a fault goes through, cell by cell -/
noncomputable def wG (r t k a sl z : Int) : Int → Int := fun c => bI (atF k sl z (c / 144) ∧ inF k a z (c % 12) (c / 12 % 12) ∧ woodP r t (c % 12) (c / 12 % 12) (c / 144))
theorem wG_s {r t k a sl z s q : Int} (h : 0 ≤ q) (h2 : q < 144) (hs : 0 ≤ s) : sm (wG r t k a sl z) (144 * s + (q + 1)) = sm (wG r t k a sl z) (144 * s + q) + bI (atF k sl z s ∧ inU k a z (2 * (q % 12) - 11) (2 * (q / 12) - 11) ∧ woodP r t (q % 12) (q / 12) s) := by
  rw [← Int.add_assoc, sm_s (by omega)]
  show _ + bI (atF k sl z ((144 * s + q) / 144) ∧ inF k a z ((144 * s + q) % 12) ((144 * s + q) / 12 % 12) ∧ woodP r t ((144 * s + q) % 12) ((144 * s + q) / 12 % 12) ((144 * s + q) / 144)) = _
  rw [show (144 * s + q) / 144 = s by omega, show (144 * s + q) % 12 = q % 12 by omega, show (144 * s + q) / 12 % 12 = q / 12 by omega]
  rfl
theorem wG_0 {r t k a sl z : Int} (h : 0 ≤ sl) : sm (wG r t k a sl z) (144 * sl) = 0 := by
  have := sm_tailI (f := wG r t k a sl z) (a := 0) (b := 144 * sl) (by omega) (by omega) (fun i x y => bI_f (fun w => by have := w.1.1; omega))
  exact this
theorem atC {k sl z L e s : Int} (he : e = sl + max 0 (min (lastC k sl z L) (L - sl))) (h1 : sl ≤ s) (h2 : s < e) (hz : 1 ≤ z ∧ z ≤ 4) (hL : L ≤ 8 := by omega) (hsl : 0 ≤ sl := by omega) : atF k sl z s := by
  refine ⟨h1, ?_⟩
  have h3 : s < sl + lastC k sl z L ∧ s < L := by omega
  have h4 := h3.1
  unfold lastC at h4
  unfold lastF
  (repeat' split at h4) <;> (repeat' split) <;> omega
theorem wG_e {r t k a sl z L s : Int} (he : s = sl + max 0 (min (lastC k sl z L) (L - sl))) (hL : 0 ≤ L ∧ L ≤ 8) (hz : 1 ≤ z ∧ z ≤ 4) (hsl : 0 ≤ sl ∧ sl ≤ 7) : sm (wG r t k a sl z) (144 * s) = nWoodIn r t L k a sl z := by
  show _ = sm (wG r t k a sl z) (144 * L)
  by_cases c : s ≤ L
  · refine (sm_tailI (by omega) (by omega) (fun i x y => bI_f (fun w => ?_))).symm
    have h1 := w.1.2
    have h2 : s ≤ i / 144 ∧ i / 144 < L := by omega
    unfold lastF at h1
    unfold lastC at he
    (repeat' split at h1) <;> (repeat' split at he) <;> omega
  · refine sm_tailI (by omega) (by omega) (fun i x y => bI_f (fun w => ?_))
    have h1 := w.1.1
    omega
/-- the faults that cell a's row names -/
noncomputable def FR (V : Nat → Int → Int) (R : Nat → Int → Option Nat) (a : Nat) : Int → Int → Int := fun i j => match R a i with
  | some c => if j = 0 then V c 3 else V c (j - 1)
  | none => 0
theorem FR_e {V : Nat → Int → Int} {R : Nat → Int → Option Nat} {a c : Nat} {i : Int} (h : R a i = some c) : FR V R a i 0 = V c 3 ∧ FR V R a i 1 = V c 0 ∧ FR V R a i 2 = V c 1 ∧ FR V R a i 3 = V c 2 := by
  unfold FR
  rw [h]
  exact ⟨rfl, rfl, rfl, rfl⟩
theorem hit_c {V : Nat → Int → Int} {R : Nat → Int → Option Nat} {a c : Nat} {i x y s : Int} (h : R a i = some c) : hitF (FR V R a) i x y s ↔ (atF (V c 3) (V c 1) (V c 2) s ∧ inU (V c 3) (V c 0) (V c 2) (2 * x - 11) (2 * y - 11)) := by
  obtain ⟨e0, e1, e2, e3⟩ := FR_e (V := V) h
  unfold hitF
  rw [e0, e1, e2, e3]
  exact Iff.rfl
theorem hitC {V : Nat → Int → Int} {c : Nat} {L s : Int} {P : Prop} (hs : 0 ≤ V c 1 ∧ V c 1 ≤ 7) (hz : 1 ≤ V c 2 ∧ V c 2 ≤ 4) (h0 : 0 ≤ s ∧ s < L) (hL : 0 ≤ L ∧ L ≤ 8) : (atF (V c 3) (V c 1) (V c 2) s ∧ P) ↔ ((V c 1 ≤ s ∧ s < V c 1 + max 0 (min (lastC (V c 3) (V c 1) (V c 2) L) (L - V c 1))) ∧ P) := by
  have e : atF (V c 3) (V c 1) (V c 2) s ↔ (V c 1 ≤ s ∧ s < V c 1 + max 0 (min (lastC (V c 3) (V c 1) (V c 2) L) (L - V c 1))) := by
    unfold atF lastF lastC
    (repeat' split) <;> omega
  rw [e]

set_option maxRecDepth 100000 in
set_option maxHeartbeats 4000000 in
theorem m_X10_woodIn (G : GS) (n : Nat) (V : Nat → Int → Int) (R : Nat → Int → Option Nat) (yd : Nat) (c : Nat) (hn : 67 ≤ n) (hLR : LR R) (hy : yd = 1 ∨ yd = 6) (hc : c < n) (ht : tb c = (99, 0)) (hk : 0 ≤ V c 3 ∧ V c 3 ≤ 6) (ha : 0 ≤ V c 0 ∧ V c 0 ≤ 7) (hs : 0 ≤ V c 1 ∧ V c 1 ≤ 7) (hz : 1 ≤ V c 2 ∧ V c 2 ≤ 4) (hr : 0 ≤ V yd 0 ∧ V yd 0 ≤ 6) (hta : 0 ≤ V yd 1 ∧ V yd 1 ≤ 4) (hL : 0 ≤ V yd 2 ∧ V yd 2 ≤ 8) : Cn G yX10_woodIn cX10_woodIn 8 (some .int) (rmk 4 0 0 79) [.ref (aG G yd), .ref (aG G c)] n V R 0 0 (fun vv uu => vv = some (.int (iI (nWoodIn (V yd 0) (V yd 1) (V yd 2) (V c 3) (V c 0) (V c 1) (V c 2)))) ∧ uu = (n, V, R)) := by
  have lb := lastC_b hz hs hL (k := V c 3)
  refine Cn.of (by decide) (Nat.le_of_ble_eq_true rfl) (fun K C hct => ?_)
  show Xw K G 0 0 _ n V R 0 [(0, .ref (aG G yd)), (1, .ref (aG G c))] []
  refine x_aload_n C 1 dX10_woodIn_0 rfl rfl ?_
  refine x_getF C c 1 dX10_woodIn_1 hc ht (by decide) q_19_8 (Or.inl rfl) (kz := 1) rfl (fun rg1 => ?_)
  refine x_aload_n C 1 dX10_woodIn_4 rfl rfl ?_
  refine x_aload_n C 0 dX10_woodIn_5 rfl rfl ?_
  refine x_geti C ok_Yard yd 2 dX10_woodIn_6 (ltY hy hn (by decide) : yd + 0 < n) (tbY_0 hy) (by decide) rfl q_1_17 rfl (kz := 2) rfl (fun rg6 => ?_)
  refine x_runU (mc := 0) (ms := 0) (st := [.int (iI (V c 1))]) (post := (fun vv uu => vv = some (.int (iI (max 0 (min (lastC (V c 3) (V c 1) (V c 2) (V yd 2)) ((V yd 2) - V c 1))))) ∧ uu = (n, V, R))) ?_ (fun v9 u9 hp9 => ?_)
  · rcases (show V c 3 = 0 ∨ V c 3 = 1 ∨ V c 3 = 2 ∨ V c 3 = 3 ∨ V c 3 = 4 ∨ V c 3 = 5 ∨ V c 3 = 6 by omega) with e | e | e | e | e | e | e
    · exact XRun.mono (r_callF C c hc ht (r := (RX1, TX1, 3)) (by rw [e]; rfl) (owner := "LogSawyer$Fault") ce_X0_slicesOf (m_X0_slicesOf G n V R (c) (V yd 2) hn hLR (by first | assumption | omega | decide) (by first | assumption | omega | decide) (by first | assumption | omega | decide) (by first | assumption | omega | decide) (by first | assumption | omega | decide) (by first | assumption | omega | decide)) rfl dX10_woodIn_9 q_19_9 q_19_10 ⟨by decide, by decide⟩ (Or.inr ⟨_, _, _, q_19_13, q_19_12⟩) rfl q_19_11 q_19_12 rfl rfl ⟨Nat.le_of_ble_eq_true rfl, Nat.le_of_ble_eq_true rfl⟩ ⟨rfl, rfl⟩ ⟨Nat.le_of_ble_eq_true rfl, Nat.le_of_ble_eq_true rfl⟩ (Nat.le_of_ble_eq_true rfl)) (fun vv uu h => by first | exact h | (exact ⟨h.1.trans (by rw [e]; rfl), h.2⟩))
    · exact XRun.mono (r_callF C c hc ht (r := (RX2, TX2, 3)) (by rw [e]; rfl) (owner := "LogSawyer$Fault") ce_X0_slicesOf (m_X0_slicesOf G n V R (c) (V yd 2) hn hLR (by first | assumption | omega | decide) (by first | assumption | omega | decide) (by first | assumption | omega | decide) (by first | assumption | omega | decide) (by first | assumption | omega | decide) (by first | assumption | omega | decide)) rfl dX10_woodIn_9 q_19_9 q_19_10 ⟨by decide, by decide⟩ (Or.inr ⟨_, _, _, q_19_13, q_19_12⟩) rfl q_20_15 q_19_12 rfl rfl ⟨Nat.le_of_ble_eq_true rfl, Nat.le_of_ble_eq_true rfl⟩ ⟨rfl, rfl⟩ ⟨Nat.le_of_ble_eq_true rfl, Nat.le_of_ble_eq_true rfl⟩ (Nat.le_of_ble_eq_true rfl)) (fun vv uu h => by first | exact h | (exact ⟨h.1.trans (by rw [e]; rfl), h.2⟩))
    · exact XRun.mono (r_callF C c hc ht (r := (RX8, TX8, 3)) (by rw [e]; rfl) (owner := "LogSawyer$Fault") ce_X0_slicesOf (m_X0_slicesOf G n V R (c) (V yd 2) hn hLR (by first | assumption | omega | decide) (by first | assumption | omega | decide) (by first | assumption | omega | decide) (by first | assumption | omega | decide) (by first | assumption | omega | decide) (by first | assumption | omega | decide)) rfl dX10_woodIn_9 q_19_9 q_19_10 ⟨by decide, by decide⟩ (Or.inr ⟨_, _, _, q_19_13, q_19_12⟩) rfl q_20_19 q_19_12 rfl rfl ⟨Nat.le_of_ble_eq_true rfl, Nat.le_of_ble_eq_true rfl⟩ ⟨rfl, rfl⟩ ⟨Nat.le_of_ble_eq_true rfl, Nat.le_of_ble_eq_true rfl⟩ (Nat.le_of_ble_eq_true rfl)) (fun vv uu h => by first | exact h | (exact ⟨h.1.trans (by rw [e]; rfl), h.2⟩))
    · exact XRun.mono (r_callF C c hc ht (r := (RX7, TX7, 3)) (by rw [e]; rfl) (owner := "LogSawyer$Fault") ce_X0_slicesOf (m_X0_slicesOf G n V R (c) (V yd 2) hn hLR (by first | assumption | omega | decide) (by first | assumption | omega | decide) (by first | assumption | omega | decide) (by first | assumption | omega | decide) (by first | assumption | omega | decide) (by first | assumption | omega | decide)) rfl dX10_woodIn_9 q_19_9 q_19_10 ⟨by decide, by decide⟩ (Or.inr ⟨_, _, _, q_19_13, q_19_12⟩) rfl q_20_18 q_19_12 rfl rfl ⟨Nat.le_of_ble_eq_true rfl, Nat.le_of_ble_eq_true rfl⟩ ⟨rfl, rfl⟩ ⟨Nat.le_of_ble_eq_true rfl, Nat.le_of_ble_eq_true rfl⟩ (Nat.le_of_ble_eq_true rfl)) (fun vv uu h => by first | exact h | (exact ⟨h.1.trans (by rw [e]; rfl), h.2⟩))
    · exact XRun.mono (r_callF C c hc ht (r := (RX4, TX4, 3)) (by rw [e]; rfl) (owner := "LogSawyer$Fault") ce_X0_slicesOf (m_X0_slicesOf G n V R (c) (V yd 2) hn hLR (by first | assumption | omega | decide) (by first | assumption | omega | decide) (by first | assumption | omega | decide) (by first | assumption | omega | decide) (by first | assumption | omega | decide) (by first | assumption | omega | decide)) rfl dX10_woodIn_9 q_19_9 q_19_10 ⟨by decide, by decide⟩ (Or.inr ⟨_, _, _, q_19_13, q_19_12⟩) rfl q_20_16 q_19_12 rfl rfl ⟨Nat.le_of_ble_eq_true rfl, Nat.le_of_ble_eq_true rfl⟩ ⟨rfl, rfl⟩ ⟨Nat.le_of_ble_eq_true rfl, Nat.le_of_ble_eq_true rfl⟩ (Nat.le_of_ble_eq_true rfl)) (fun vv uu h => by first | exact h | (exact ⟨h.1.trans (by rw [e]; rfl), h.2⟩))
    · exact XRun.mono (r_callF C c hc ht (r := (RX5, TX5, 3)) (by rw [e]; rfl) (owner := "LogSawyer$Fault") ce_X0_slicesOf (m_X0_slicesOf G n V R (c) (V yd 2) hn hLR (by first | assumption | omega | decide) (by first | assumption | omega | decide) (by first | assumption | omega | decide) (by first | assumption | omega | decide) (by first | assumption | omega | decide) (by first | assumption | omega | decide)) rfl dX10_woodIn_9 q_19_9 q_19_10 ⟨by decide, by decide⟩ (Or.inr ⟨_, _, _, q_19_13, q_19_12⟩) rfl q_20_17 q_19_12 rfl rfl ⟨Nat.le_of_ble_eq_true rfl, Nat.le_of_ble_eq_true rfl⟩ ⟨rfl, rfl⟩ ⟨Nat.le_of_ble_eq_true rfl, Nat.le_of_ble_eq_true rfl⟩ (Nat.le_of_ble_eq_true rfl)) (fun vv uu h => by first | exact h | (exact ⟨h.1.trans (by rw [e]; rfl), h.2⟩))
    · exact XRun.mono (r_callF C c hc ht (r := (RX9, TX9, 3)) (by rw [e]; rfl) (owner := "LogSawyer$Fault") ce_X0_slicesOf (m_X0_slicesOf G n V R (c) (V yd 2) hn hLR (by first | assumption | omega | decide) (by first | assumption | omega | decide) (by first | assumption | omega | decide) (by first | assumption | omega | decide) (by first | assumption | omega | decide) (by first | assumption | omega | decide)) rfl dX10_woodIn_9 q_19_9 q_19_10 ⟨by decide, by decide⟩ (Or.inr ⟨_, _, _, q_19_13, q_19_12⟩) rfl q_20_20 q_19_12 rfl rfl ⟨Nat.le_of_ble_eq_true rfl, Nat.le_of_ble_eq_true rfl⟩ ⟨rfl, rfl⟩ ⟨Nat.le_of_ble_eq_true rfl, Nat.le_of_ble_eq_true rfl⟩ (Nat.le_of_ble_eq_true rfl)) (fun vv uu h => by first | exact h | (exact ⟨h.1.trans (by rw [e]; rfl), h.2⟩))
  obtain ⟨rfl, rfl⟩ := hp9
  show Xw K G 0 0 _ n V R 12 [(0, .ref (aG G yd)), (1, .ref (aG G c))] [.int (iI (max 0 (min (lastC (V c 3) (V c 1) (V c 2) (V yd 2)) ((V yd 2) - V c 1)))), .int (iI (V c 1))]
  refine x_iadd C dX10_woodIn_12 ?_
  refine x_nm (fun e h_e => ?_)
  refine x_istore_n C dX10_woodIn_13 rfl (by decide) (lv' := [(0, .ref (aG G yd)), (1, .ref (aG G c)), (2, .int (iI e))]) rfl ?_
  have he : V c 1 ≤ e ∧ (e ≤ 8 ∨ e = V c 1) ∧ e ≤ 15 := by omega
  refine x_iconst C dX10_woodIn_14 ?_
  refine x_istore_n C dX10_woodIn_15 rfl (by decide) (lv' := [(0, .ref (aG G yd)), (1, .ref (aG G c)), (2, .int (iI e)), (3, .int (iI 0))]) rfl ?_
  refine x_aload_n C 1 dX10_woodIn_16 rfl rfl ?_
  refine x_getF C c 1 dX10_woodIn_17 hc ht (by decide) q_19_8 (Or.inl rfl) (kz := 1) rfl (fun rg17 => ?_)
  refine x_istore C dX10_woodIn_20 (by decide) (lv' := [(0, .ref (aG G yd)), (1, .ref (aG G c)), (2, .int (iI e)), (3, .int (iI 0)), (4, .int (iI (V c 1)))]) rfl ?_
  have lp_22 : ∀ (fuel : Nat) (s : Int) (w : Int), (V c 1 ≤ s ∧ s ≤ e) → (w = sm (wG (V yd 0) (V yd 1) (V c 3) (V c 0) (V c 1) (V c 2)) (144 * s)) → ((17 : Int) - s) < (fuel : Int) → Xw K G 0 0 (EndQ K G 0 0 (fun vv uu => vv = some (.int (iI (nWoodIn (V yd 0) (V yd 1) (V yd 2) (V c 3) (V c 0) (V c 1) (V c 2)))) ∧ uu = (n, V, R))) n V R 22 [(0, .ref (aG G yd)), (1, .ref (aG G c)), (2, .int (iI e)), (3, .int (iI w)), (4, .int (iI s))] [] := by
    intro fuel22
    induction fuel22 with
    | zero => intro s w hs2 hw hfu22; exfalso; omega
    | succ fuel22 ih22 =>
      intro s w hs2 hw hfu22
      have hwb := sm_b (f := (wG (V yd 0) (V yd 1) (V c 3) (V c 0) (V c 1) (V c 2))) (A := 1) (z := 144 * s) (by omega) (fun i _ _ => bI_b _)
      refine x_iload C 4 dX10_woodIn_22 rfl ?_
      refine x_iload_n C 2 dX10_woodIn_24 rfl rfl ?_
      refine x_icmp_ge C dX10_woodIn_25 (tgt := 98) (by decide) (by first | assumption | (constructor <;> omega)) (by first | assumption | (constructor <;> omega)) (fun h25 => ?_) (fun h25 => ?_)
      · skip
        refine x_iload_n C 3 dX10_woodIn_98 rfl rfl ?_
        refine x_iret C dX10_woodIn_99 ⟨congrArg (fun z => some (Value.int (iI z))) (by rw [hw]; exact wG_e (by omega) hL hz hs), rfl⟩
      · skip
        refine x_iconst C dX10_woodIn_28 ?_
        refine x_istore C dX10_woodIn_29 (by decide) (lv' := [(0, .ref (aG G yd)), (1, .ref (aG G c)), (2, .int (iI e)), (3, .int (iI w)), (4, .int (iI s)), (5, .int (iI 0))]) rfl ?_
        have lp_31 : ∀ (fuel : Nat) (q : Int) (w2 : Int), (0 ≤ q ∧ q ≤ 144) → (w2 = sm (wG (V yd 0) (V yd 1) (V c 3) (V c 0) (V c 1) (V c 2)) (144 * s + q)) → ((145 : Int) - q) < (fuel : Int) → Xw K G 0 0 (EndQ K G 0 0 (fun vv uu => vv = some (.int (iI (nWoodIn (V yd 0) (V yd 1) (V yd 2) (V c 3) (V c 0) (V c 1) (V c 2)))) ∧ uu = (n, V, R))) n V R 31 [(0, .ref (aG G yd)), (1, .ref (aG G c)), (2, .int (iI e)), (3, .int (iI w2)), (4, .int (iI s)), (5, .int (iI q))] [] := by
          intro fuel31
          induction fuel31 with
          | zero => intro q w2 hq hw2 hfu31; exfalso; omega
          | succ fuel31 ih31 =>
            intro q w2 hq hw2 hfu31
            have hwb2 := sm_b (f := (wG (V yd 0) (V yd 1) (V c 3) (V c 0) (V c 1) (V c 2))) (A := 1) (z := 144 * s + q) (by omega) (fun i _ _ => bI_b _)
            refine x_iload C 5 dX10_woodIn_31 rfl ?_
            refine x_sipush C dX10_woodIn_33 (w := 144) (by decide) ?_
            refine x_icmp_ge C dX10_woodIn_36 (tgt := 92) (by decide) (by first | assumption | (constructor <;> omega)) (by first | assumption | (constructor <;> omega)) (fun h36 => ?_) (fun h36 => ?_)
            · skip
              refine x_iinc C 4 dX10_woodIn_92 rfl (by decide) (lv' := [(0, .ref (aG G yd)), (1, .ref (aG G c)), (2, .int (iI e)), (3, .int (iI w2)), (4, .int (iI (s + 1))), (5, .int (iI q))]) rfl ?_
              refine x_goto C dX10_woodIn_95 (tgt := 22) (by decide) ?_
              refine x_sub [0, 1, 2, 3, 4] (lv' := [(0, .ref (aG G yd)), (1, .ref (aG G c)), (2, .int (iI e)), (3, .int (iI w2)), (4, .int (iI (s + 1)))]) rfl ?_
              exact ih22 ((s + 1)) (w2) (by omega) (by rw [hw2]; congr 1; omega) (by omega)
            · skip
              refine x_iload C 5 dX10_woodIn_39 rfl ?_
              refine x_bipush C dX10_woodIn_41 (w := 12) (by decide) ?_
              refine x_irem C dX10_woodIn_43 (by first | assumption | (constructor <;> omega)) (by first | assumption | (constructor <;> omega)) (by omega) (by omega) ?_
              refine x_istore C dX10_woodIn_44 (by decide) (lv' := [(0, .ref (aG G yd)), (1, .ref (aG G c)), (2, .int (iI e)), (3, .int (iI w2)), (4, .int (iI s)), (5, .int (iI q)), (6, .int (iI (q % 12)))]) rfl ?_
              refine x_iload C 5 dX10_woodIn_46 rfl ?_
              refine x_bipush C dX10_woodIn_48 (w := 12) (by decide) ?_
              refine x_idiv C dX10_woodIn_50 (by first | assumption | (constructor <;> omega)) (by first | assumption | (constructor <;> omega)) (by omega) (by omega) ?_
              refine x_istore C dX10_woodIn_51 (by decide) (lv' := [(0, .ref (aG G yd)), (1, .ref (aG G c)), (2, .int (iI e)), (3, .int (iI w2)), (4, .int (iI s)), (5, .int (iI q)), (6, .int (iI (q % 12))), (7, .int (iI (q / 12)))]) rfl ?_
              have d1 := wG_s (r := V yd 0) (t := V yd 1) (k := V c 3) (a := V c 0) (sl := V c 1) (z := V c 2) (s := s) hq.1 (by omega) (by omega)
              refine x_aload_n C 0 dX10_woodIn_53 rfl rfl ?_
              refine x_iload C 6 dX10_woodIn_54 rfl ?_
              refine x_iload C 7 dX10_woodIn_56 rfl ?_
              refine x_iload C 4 dX10_woodIn_58 rfl ?_
              refine x_runU (r_callV C ok_Yard yd (ltY hy hn (by decide) : yd + 0 < n) (tbY_0 hy) (ce_X10_isWood) (m_X10_isWood G n V R (yd) (q % 12) (q / 12) (s) hn hLR (by first | assumption | omega | decide) (by first | assumption | omega | decide) (by first | assumption | omega | decide) (by first | assumption | omega | decide) (by first | assumption | omega | decide) (by first | assumption | omega | decide)) rfl dX10_woodIn_60 q_20_21 q_5_17 q_5_18 rfl rfl ⟨Nat.le_of_ble_eq_true rfl, Nat.le_of_ble_eq_true rfl⟩ ⟨rfl, rfl⟩ ⟨Nat.le_of_ble_eq_true rfl, Nat.le_of_ble_eq_true rfl⟩ (Nat.le_of_ble_eq_true rfl)) (fun v60 u60 hp60 => ?_)
              obtain ⟨rfl, rfl⟩ := hp60
              show Xw K G 0 0 _ n V R 63 [(0, .ref (aG G yd)), (1, .ref (aG G c)), (2, .int (iI e)), (3, .int (iI w2)), (4, .int (iI s)), (5, .int (iI q)), (6, .int (iI (q % 12))), (7, .int (iI (q / 12)))] [.int (iI (bI (woodP (V yd 0) (V yd 1) (q % 12) (q / 12) s)))]
              refine x_ifeq_b C dX10_woodIn_63 (tgt := 86) (by decide) (fun h63 => ?_) (fun h63 => ?_)
              · skip
                refine x_iinc C 5 dX10_woodIn_86 rfl (by decide) (lv' := [(0, .ref (aG G yd)), (1, .ref (aG G c)), (2, .int (iI e)), (3, .int (iI w2)), (4, .int (iI s)), (5, .int (iI (q + 1))), (6, .int (iI (q % 12))), (7, .int (iI (q / 12)))]) rfl ?_
                refine x_goto C dX10_woodIn_89 (tgt := 31) (by decide) ?_
                refine x_sub [0, 1, 2, 3, 4, 5] (lv' := [(0, .ref (aG G yd)), (1, .ref (aG G c)), (2, .int (iI e)), (3, .int (iI w2)), (4, .int (iI s)), (5, .int (iI (q + 1)))]) rfl ?_
                exact ih31 ((q + 1)) (w2) (by omega) (by rw [d1, ← hw2]; first | rw [bI_t ⟨atC h_e (by omega) (by omega) hz, by assumption, by assumption⟩] | (rw [bI_f (fun x => by first | exact absurd x.2.2 (by assumption) | exact absurd x.2.1 (by assumption))]; omega)) (by omega)
              · skip
                refine x_aload_n C 1 dX10_woodIn_66 rfl rfl ?_
                refine x_iload C 6 dX10_woodIn_67 rfl ?_
                refine x_runU (r_callSN C (ce_X11_fromMiddle) (m_X11_fromMiddle G n V R (q % 12)) dX10_woodIn_69 (List.mem_of_getElem? (i := 18) rfl) q_6_0 rfl rfl ⟨Nat.le_of_ble_eq_true rfl, Nat.le_of_ble_eq_true rfl⟩ ⟨rfl, rfl⟩ ⟨Nat.le_of_ble_eq_true rfl, Nat.le_of_ble_eq_true rfl⟩ (Nat.le_of_ble_eq_true rfl)) (fun v69 u69 hp69 => ?_)
                obtain ⟨rfl, rfl⟩ := hp69
                show Xw K G 0 0 _ n V R 72 [(0, .ref (aG G yd)), (1, .ref (aG G c)), (2, .int (iI e)), (3, .int (iI w2)), (4, .int (iI s)), (5, .int (iI q)), (6, .int (iI (q % 12))), (7, .int (iI (q / 12)))] [.int (iI (2 * (q % 12) - 11)), .ref (aG G c)]
                refine x_iload C 7 dX10_woodIn_72 rfl ?_
                refine x_runU (r_callSN C (ce_X11_fromMiddle) (m_X11_fromMiddle G n V R (q / 12)) dX10_woodIn_74 (List.mem_of_getElem? (i := 18) rfl) q_6_0 rfl rfl ⟨Nat.le_of_ble_eq_true rfl, Nat.le_of_ble_eq_true rfl⟩ ⟨rfl, rfl⟩ ⟨Nat.le_of_ble_eq_true rfl, Nat.le_of_ble_eq_true rfl⟩ (Nat.le_of_ble_eq_true rfl)) (fun v74 u74 hp74 => ?_)
                obtain ⟨rfl, rfl⟩ := hp74
                show Xw K G 0 0 _ n V R 77 [(0, .ref (aG G yd)), (1, .ref (aG G c)), (2, .int (iI e)), (3, .int (iI w2)), (4, .int (iI s)), (5, .int (iI q)), (6, .int (iI (q % 12))), (7, .int (iI (q / 12)))] [.int (iI (2 * (q / 12) - 11)), .int (iI (2 * (q % 12) - 11)), .ref (aG G c)]
                refine x_runU (mc := 0) (ms := 0) (st := []) (post := (fun vv uu => vv = some (.int (iI (bI (inU (V c 3) (V c 0) (V c 2) (2 * (q % 12) - 11) (2 * (q / 12) - 11))))) ∧ uu = (n, V, R))) ?_ (fun v77 u77 hp77 => ?_)
                · rcases (show V c 3 = 0 ∨ V c 3 = 1 ∨ V c 3 = 2 ∨ V c 3 = 3 ∨ V c 3 = 4 ∨ V c 3 = 5 ∨ V c 3 = 6 by omega) with e | e | e | e | e | e | e
                  · exact XRun.mono (r_callF C c hc ht (r := (RX1, TX1, 3)) (by rw [e]; rfl) (owner := "LogSawyer$Fault") ce_X1_isIn (m_X1_isIn G n V R (c) (2 * (q % 12) - 11) (2 * (q / 12) - 11) hn hLR (by first | assumption | omega | decide) (by first | assumption | omega | decide) (by first | assumption | omega | decide) (by first | assumption | omega | decide) (by first | assumption | omega | decide) (by first | assumption | omega | decide) (by first | assumption | omega | decide)) rfl dX10_woodIn_77 q_20_22 q_20_23 ⟨by decide, by decide⟩ (Or.inl (List.mem_of_getElem? (i := 14) rfl)) rfl q_21_0 q_21_1 rfl rfl ⟨Nat.le_of_ble_eq_true rfl, Nat.le_of_ble_eq_true rfl⟩ ⟨rfl, rfl⟩ ⟨Nat.le_of_ble_eq_true rfl, Nat.le_of_ble_eq_true rfl⟩ (Nat.le_of_ble_eq_true rfl)) (fun vv uu h => by first | exact h | (exact ⟨h.1.trans (by first | rfl | exact congrArg (fun p => some (Value.int (iI (bI p)))) (propext (in5 e).symm)), h.2⟩))
                  · exact XRun.mono (r_callF C c hc ht (r := (RX2, TX2, 3)) (by rw [e]; rfl) (owner := "LogSawyer$Fault") ce_X1_isIn (m_X1_isIn G n V R (c) (2 * (q % 12) - 11) (2 * (q / 12) - 11) hn hLR (by first | assumption | omega | decide) (by first | assumption | omega | decide) (by first | assumption | omega | decide) (by first | assumption | omega | decide) (by first | assumption | omega | decide) (by first | assumption | omega | decide) (by first | assumption | omega | decide)) rfl dX10_woodIn_77 q_20_22 q_20_23 ⟨by decide, by decide⟩ (Or.inl (List.mem_of_getElem? (i := 14) rfl)) rfl q_22_9 q_21_1 rfl rfl ⟨Nat.le_of_ble_eq_true rfl, Nat.le_of_ble_eq_true rfl⟩ ⟨rfl, rfl⟩ ⟨Nat.le_of_ble_eq_true rfl, Nat.le_of_ble_eq_true rfl⟩ (Nat.le_of_ble_eq_true rfl)) (fun vv uu h => by first | exact h | (exact ⟨h.1.trans (by first | rfl | exact congrArg (fun p => some (Value.int (iI (bI p)))) (propext (in5 e).symm)), h.2⟩))
                  · exact XRun.mono (r_callF C c hc ht (r := (RX8, TX8, 3)) (by rw [e]; rfl) (owner := "LogSawyer$Fault") ce_X1_isIn (m_X1_isIn G n V R (c) (2 * (q % 12) - 11) (2 * (q / 12) - 11) hn hLR (by first | assumption | omega | decide) (by first | assumption | omega | decide) (by first | assumption | omega | decide) (by first | assumption | omega | decide) (by first | assumption | omega | decide) (by first | assumption | omega | decide) (by first | assumption | omega | decide)) rfl dX10_woodIn_77 q_20_22 q_20_23 ⟨by decide, by decide⟩ (Or.inl (List.mem_of_getElem? (i := 14) rfl)) rfl q_23_3 q_21_1 rfl rfl ⟨Nat.le_of_ble_eq_true rfl, Nat.le_of_ble_eq_true rfl⟩ ⟨rfl, rfl⟩ ⟨Nat.le_of_ble_eq_true rfl, Nat.le_of_ble_eq_true rfl⟩ (Nat.le_of_ble_eq_true rfl)) (fun vv uu h => by first | exact h | (exact ⟨h.1.trans (by first | rfl | exact congrArg (fun p => some (Value.int (iI (bI p)))) (propext (in5 e).symm)), h.2⟩))
                  · exact XRun.mono (r_callF C c hc ht (r := (RX7, TX7, 3)) (by rw [e]; rfl) (owner := "LogSawyer$Fault") ce_X7_isIn (m_X7_isIn G n V R (c) (2 * (q % 12) - 11) (2 * (q / 12) - 11) hn hLR (by first | assumption | omega | decide) (by first | assumption | omega | decide) (by first | assumption | omega | decide) (by first | assumption | omega | decide) (by first | assumption | omega | decide) (by first | assumption | omega | decide) (by first | assumption | omega | decide)) rfl dX10_woodIn_77 q_20_22 q_20_23 ⟨by decide, by decide⟩ (Or.inl (List.mem_of_getElem? (i := 14) rfl)) rfl q_22_20 q_22_21 rfl rfl ⟨Nat.le_of_ble_eq_true rfl, Nat.le_of_ble_eq_true rfl⟩ ⟨rfl, rfl⟩ ⟨Nat.le_of_ble_eq_true rfl, Nat.le_of_ble_eq_true rfl⟩ (Nat.le_of_ble_eq_true rfl)) (fun vv uu h => by first | exact h | (exact ⟨h.1.trans (by first | rfl | exact congrArg (fun p => some (Value.int (iI (bI p)))) (propext (in5 e).symm)), h.2⟩))
                  · exact XRun.mono (r_callF C c hc ht (r := (RX4, TX4, 3)) (by rw [e]; rfl) (owner := "LogSawyer$Fault") ce_X4_isIn (m_X4_isIn G n V R (c) (2 * (q % 12) - 11) (2 * (q / 12) - 11) hn hLR (by first | assumption | omega | decide) (by first | assumption | omega | decide) (by first | assumption | omega | decide) (by first | assumption | omega | decide) (by first | assumption | omega | decide) (by first | assumption | omega | decide)) rfl dX10_woodIn_77 q_20_22 q_20_23 ⟨by decide, by decide⟩ (Or.inl (List.mem_of_getElem? (i := 14) rfl)) rfl q_22_10 q_22_11 rfl rfl ⟨Nat.le_of_ble_eq_true rfl, Nat.le_of_ble_eq_true rfl⟩ ⟨rfl, rfl⟩ ⟨Nat.le_of_ble_eq_true rfl, Nat.le_of_ble_eq_true rfl⟩ (Nat.le_of_ble_eq_true rfl)) (fun vv uu h => by first | exact h | (exact ⟨h.1.trans (by first | rfl | exact congrArg (fun p => some (Value.int (iI (bI p)))) (propext (in5 e).symm)), h.2⟩))
                  · exact XRun.mono (r_callF C c hc ht (r := (RX5, TX5, 3)) (by rw [e]; rfl) (owner := "LogSawyer$Fault") ce_X5_isIn (m_X5_isIn G n V R (c) (2 * (q % 12) - 11) (2 * (q / 12) - 11) hn hLR (by first | assumption | omega | decide) (by first | assumption | omega | decide) (by first | assumption | omega | decide) (by first | assumption | omega | decide) (by first | assumption | omega | decide)) rfl dX10_woodIn_77 q_20_22 q_20_23 ⟨by decide, by decide⟩ (Or.inl (List.mem_of_getElem? (i := 14) rfl)) rfl q_22_15 q_22_16 rfl rfl ⟨Nat.le_of_ble_eq_true rfl, Nat.le_of_ble_eq_true rfl⟩ ⟨rfl, rfl⟩ ⟨Nat.le_of_ble_eq_true rfl, Nat.le_of_ble_eq_true rfl⟩ (Nat.le_of_ble_eq_true rfl)) (fun vv uu h => by first | exact h | (exact ⟨h.1.trans (by first | rfl | exact congrArg (fun p => some (Value.int (iI (bI p)))) (propext (in5 e).symm)), h.2⟩))
                  · exact XRun.mono (r_callF C c hc ht (r := (RX9, TX9, 3)) (by rw [e]; rfl) (owner := "LogSawyer$Fault") ce_X9_isIn (m_X9_isIn G n V R (c) (2 * (q % 12) - 11) (2 * (q / 12) - 11) hn hLR (by first | assumption | omega | decide) (by first | assumption | omega | decide) (by first | assumption | omega | decide) (by first | assumption | omega | decide) (by first | assumption | omega | decide) (by first | assumption | omega | decide) (by first | assumption | omega | decide)) rfl dX10_woodIn_77 q_20_22 q_20_23 ⟨by decide, by decide⟩ (Or.inl (List.mem_of_getElem? (i := 14) rfl)) rfl q_23_4 q_23_5 rfl rfl ⟨Nat.le_of_ble_eq_true rfl, Nat.le_of_ble_eq_true rfl⟩ ⟨rfl, rfl⟩ ⟨Nat.le_of_ble_eq_true rfl, Nat.le_of_ble_eq_true rfl⟩ (Nat.le_of_ble_eq_true rfl)) (fun vv uu h => by first | exact h | (exact ⟨h.1.trans (by first | rfl | exact congrArg (fun p => some (Value.int (iI (bI p)))) (propext (in5 e).symm)), h.2⟩))
                obtain ⟨rfl, rfl⟩ := hp77
                show Xw K G 0 0 _ n V R 80 [(0, .ref (aG G yd)), (1, .ref (aG G c)), (2, .int (iI e)), (3, .int (iI w2)), (4, .int (iI s)), (5, .int (iI q)), (6, .int (iI (q % 12))), (7, .int (iI (q / 12)))] [.int (iI (bI (inU (V c 3) (V c 0) (V c 2) (2 * (q % 12) - 11) (2 * (q / 12) - 11))))]
                refine x_ifeq_b C dX10_woodIn_80 (tgt := 86) (by decide) (fun h80 => ?_) (fun h80 => ?_)
                · skip
                  refine x_iinc C 5 dX10_woodIn_86 rfl (by decide) (lv' := [(0, .ref (aG G yd)), (1, .ref (aG G c)), (2, .int (iI e)), (3, .int (iI w2)), (4, .int (iI s)), (5, .int (iI (q + 1))), (6, .int (iI (q % 12))), (7, .int (iI (q / 12)))]) rfl ?_
                  refine x_goto C dX10_woodIn_89 (tgt := 31) (by decide) ?_
                  refine x_sub [0, 1, 2, 3, 4, 5] (lv' := [(0, .ref (aG G yd)), (1, .ref (aG G c)), (2, .int (iI e)), (3, .int (iI w2)), (4, .int (iI s)), (5, .int (iI (q + 1)))]) rfl ?_
                  exact ih31 ((q + 1)) (w2) (by omega) (by rw [d1, ← hw2]; first | rw [bI_t ⟨atC h_e (by omega) (by omega) hz, by assumption, by assumption⟩] | (rw [bI_f (fun x => by first | exact absurd x.2.2 (by assumption) | exact absurd x.2.1 (by assumption))]; omega)) (by omega)
                · skip
                  refine x_iinc C 3 dX10_woodIn_83 rfl (by decide) (lv' := [(0, .ref (aG G yd)), (1, .ref (aG G c)), (2, .int (iI e)), (3, .int (iI (w2 + 1))), (4, .int (iI s)), (5, .int (iI q)), (6, .int (iI (q % 12))), (7, .int (iI (q / 12)))]) rfl ?_
                  refine x_iinc C 5 dX10_woodIn_86 rfl (by decide) (lv' := [(0, .ref (aG G yd)), (1, .ref (aG G c)), (2, .int (iI e)), (3, .int (iI (w2 + 1))), (4, .int (iI s)), (5, .int (iI (q + 1))), (6, .int (iI (q % 12))), (7, .int (iI (q / 12)))]) rfl ?_
                  refine x_goto C dX10_woodIn_89 (tgt := 31) (by decide) ?_
                  refine x_sub [0, 1, 2, 3, 4, 5] (lv' := [(0, .ref (aG G yd)), (1, .ref (aG G c)), (2, .int (iI e)), (3, .int (iI (w2 + 1))), (4, .int (iI s)), (5, .int (iI (q + 1)))]) rfl ?_
                  exact ih31 ((q + 1)) ((w2 + 1)) (by omega) (by rw [d1, ← hw2]; first | rw [bI_t ⟨atC h_e (by omega) (by omega) hz, by assumption, by assumption⟩] | (rw [bI_f (fun x => by first | exact absurd x.2.2 (by assumption) | exact absurd x.2.1 (by assumption))]; omega)) (by omega)
        exact lp_31 (((145 : Int) - 0).toNat + 1) (0) (w) (by omega) (by rw [hw]; congr 1; omega) (by omega)
  exact lp_22 (((17 : Int) - (V c 1)).toNat + 1) ((V c 1)) (0) (by omega) (by exact (wG_0 hs.1).symm) (by omega)
set_option maxRecDepth 100000 in
set_option maxHeartbeats 4000000 in
theorem m_X10_leastFaultIn (G : GS) (n : Nat) (V : Nat → Int → Int) (R : Nat → Int → Option Nat) (yd : Nat) (x : Int) (y : Int) (s : Int) (hn : 67 ≤ n) (hLR : LR R) (hy : yd = 1 ∨ yd = 6) (hx : 0 ≤ x ∧ x ≤ 11) (hyy : 0 ≤ y ∧ y ≤ 11) (h0 : 0 ≤ s ∧ s < V yd 2) (hL : 0 ≤ V yd 2 ∧ V yd 2 ≤ 8) (h5 : 0 ≤ V yd 5 ∧ V yd 5 ≤ 8) (hF : FsOk n V R (yd + 1) (V yd 5)) : Cn G yX10_leastFaultIn cX10_leastFaultIn 6 (some .int) (rmk 5 0 0 101) [.ref (aG G yd), .int (iI x), .int (iI y), .int (iI s)] n V R 0 0 (fun vv uu => ∃ (r : Int), vv = some (.int (iI r)) ∧ uu = (n, V, R) ∧ (leastP (FR V R (yd + 1)) (V yd 5) x y s r)) := by
  refine Cn.of (by decide) (Nat.le_of_ble_eq_true rfl) (fun K C hct => ?_)
  show Xw K G 0 0 _ n V R 0 [(0, .ref (aG G yd)), (1, .int (iI x)), (2, .int (iI y)), (3, .int (iI s))] []
  refine x_iconst C dX10_leastFaultIn_0 ?_
  refine x_istore C dX10_leastFaultIn_1 (by decide) (lv' := [(0, .ref (aG G yd)), (1, .int (iI x)), (2, .int (iI y)), (3, .int (iI s)), (4, .int (iI 0))]) rfl ?_
  have lp_3 : ∀ (fuel : Nat) (m : Int), (0 ≤ m ∧ m ≤ V yd 5) → (∀ i, 0 ≤ i → i < m → ¬ hitF (FR V R (yd + 1)) i x y s) → ((9 : Int) - m) < (fuel : Int) → Xw K G 0 0 (EndQ K G 0 0 (fun vv uu => ∃ (r : Int), vv = some (.int (iI r)) ∧ uu = (n, V, R) ∧ (leastP (FR V R (yd + 1)) (V yd 5) x y s r))) n V R 3 [(0, .ref (aG G yd)), (1, .int (iI x)), (2, .int (iI y)), (3, .int (iI s)), (4, .int (iI m))] [] := by
    intro fuel3
    induction fuel3 with
    | zero => intro m hm hN hfu3; exfalso; omega
    | succ fuel3 ih3 =>
      intro m hm hN hfu3
      refine x_iload C 4 dX10_leastFaultIn_3 rfl ?_
      refine x_aload_n C 0 dX10_leastFaultIn_5 rfl rfl ?_
      refine x_geti C ok_Yard yd 5 dX10_leastFaultIn_6 (ltY hy hn (by decide) : yd + 0 < n) (tbY_0 hy) (by decide) rfl q_1_21 rfl (kz := 5) rfl (fun rg6 => ?_)
      refine x_icmp_ge C dX10_leastFaultIn_9 (tgt := 63) (by decide) (by first | assumption | (constructor <;> omega)) (by first | assumption | (constructor <;> omega)) (fun h9 => ?_) (fun h9 => ?_)
      · skip
        refine x_iconst C dX10_leastFaultIn_63 ?_
        refine x_iret C dX10_leastFaultIn_64 ⟨_, rfl, rfl, ?_⟩
        · exact Or.inl ⟨rfl, fun i a b => hN i a (by omega)⟩
      · skip
        refine x_aload_n C 0 dX10_leastFaultIn_12 rfl rfl ?_
        refine x_iload C 4 dX10_leastFaultIn_13 rfl ?_
        refine x_runU (r_callV C ok_Yard yd (ltY hy hn (by decide) : yd + 0 < n) (tbY_0 hy) (ce_X10_faultOf) (m_X10_faultOf G n V R (yd) (m) hn hLR (by first | assumption | omega | decide) (by first | assumption | omega | decide) (by first | assumption | omega | decide)) rfl dX10_leastFaultIn_15 q_30_11 q_17_7 q_17_8 rfl rfl ⟨Nat.le_of_ble_eq_true rfl, Nat.le_of_ble_eq_true rfl⟩ ⟨rfl, rfl⟩ ⟨Nat.le_of_ble_eq_true rfl, Nat.le_of_ble_eq_true rfl⟩ (Nat.le_of_ble_eq_true rfl)) (fun v15 u15 hp15 => ?_)
        obtain ⟨rfl, rfl⟩ := hp15
        show Xw K G 0 0 _ n V R 18 [(0, .ref (aG G yd)), (1, .int (iI x)), (2, .int (iI y)), (3, .int (iI s)), (4, .int (iI m))] [rv G.2.1 (cif (0 ≤ m ∧ m ≤ V yd 5 - 1) (R (yd + 1) m) none)]
        by_cases htr : True
        · skip
          obtain ⟨c, hRc, hFc⟩ := hF m hm.1 (by omega)
          obtain ⟨f1, f2, hk7, ha, hs, hz⟩ := hFc
          have hFc : FOk n V c := ⟨f1, f2, hk7, ha, hs, hz⟩
          have htc := tb_dyn f1
          have hcc := f2
          have hhit := hit_c (V := V) (x := x) (y := y) (s := s) hRc
          have hhl := hitC (V := V) (c := c) (P := inU (V c 3) (V c 0) (V c 2) (2 * x - 11) (2 * y - 11)) hs hz h0 hL
          rw [cif_t (by omega), hRc]
          show Xw K G 0 0 _ n V R 18 [(0, .ref (aG G yd)), (1, .int (iI x)), (2, .int (iI y)), (3, .int (iI s)), (4, .int (iI m))] [.ref (aG G c)]
          refine x_astore C dX10_leastFaultIn_18 (by decide) (lv' := [(0, .ref (aG G yd)), (1, .int (iI x)), (2, .int (iI y)), (3, .int (iI s)), (4, .int (iI m)), (5, .ref (aG G c))]) rfl ?_
          refine x_aload C 5 dX10_leastFaultIn_20 rfl ?_
          refine x_ifnull C dX10_leastFaultIn_22 ?_
          refine x_aload C 5 dX10_leastFaultIn_25 rfl ?_
          refine x_iload_n C 3 dX10_leastFaultIn_27 rfl rfl ?_
          refine x_aload_n C 0 dX10_leastFaultIn_28 rfl rfl ?_
          refine x_geti C ok_Yard yd 2 dX10_leastFaultIn_29 (ltY hy hn (by decide) : yd + 0 < n) (tbY_0 hy) (by decide) rfl q_1_17 rfl (kz := 2) rfl (fun rg29 => ?_)
          refine x_runU (mc := 0) (ms := 0) (st := []) (post := (fun vv uu => vv = some (.int (iI (bI (V c 1 ≤ s ∧ s < V c 1 + (max 0 (min (lastC (V c 3) (V c 1) (V c 2) (V yd 2)) ((V yd 2) - V c 1))))))) ∧ uu = (n, V, R))) ?_ (fun v32 u32 hp32 => ?_)
          · rcases (show V c 3 = 0 ∨ V c 3 = 1 ∨ V c 3 = 2 ∨ V c 3 = 3 ∨ V c 3 = 4 ∨ V c 3 = 5 ∨ V c 3 = 6 by omega) with e | e | e | e | e | e | e
            · exact XRun.mono (r_callF C c hcc htc (r := (RX1, TX1, 3)) (by rw [e]; rfl) (owner := "LogSawyer$Fault") ce_X0_isInSlice (m_X0_isInSlice G n V R (c) (s) (V yd 2) hn hLR (by first | assumption | omega | decide) (by first | assumption | omega | decide) (by first | assumption | omega | decide) (by first | assumption | omega | decide) (by first | assumption | omega | decide) (by first | assumption | omega | decide) (by first | assumption | omega | decide)) rfl dX10_leastFaultIn_32 q_30_12 q_30_13 ⟨by decide, by decide⟩ (Or.inr ⟨_, _, _, q_30_16, q_30_15⟩) rfl q_30_14 q_30_15 rfl rfl ⟨Nat.le_of_ble_eq_true rfl, Nat.le_of_ble_eq_true rfl⟩ ⟨rfl, rfl⟩ ⟨Nat.le_of_ble_eq_true rfl, Nat.le_of_ble_eq_true rfl⟩ (Nat.le_of_ble_eq_true rfl)) (fun vv uu h => by first | exact h | (exact ⟨h.1.trans (by rw [e]; rfl), h.2⟩))
            · exact XRun.mono (r_callF C c hcc htc (r := (RX2, TX2, 3)) (by rw [e]; rfl) (owner := "LogSawyer$Fault") ce_X0_isInSlice (m_X0_isInSlice G n V R (c) (s) (V yd 2) hn hLR (by first | assumption | omega | decide) (by first | assumption | omega | decide) (by first | assumption | omega | decide) (by first | assumption | omega | decide) (by first | assumption | omega | decide) (by first | assumption | omega | decide) (by first | assumption | omega | decide)) rfl dX10_leastFaultIn_32 q_30_12 q_30_13 ⟨by decide, by decide⟩ (Or.inr ⟨_, _, _, q_30_16, q_30_15⟩) rfl q_30_18 q_30_15 rfl rfl ⟨Nat.le_of_ble_eq_true rfl, Nat.le_of_ble_eq_true rfl⟩ ⟨rfl, rfl⟩ ⟨Nat.le_of_ble_eq_true rfl, Nat.le_of_ble_eq_true rfl⟩ (Nat.le_of_ble_eq_true rfl)) (fun vv uu h => by first | exact h | (exact ⟨h.1.trans (by rw [e]; rfl), h.2⟩))
            · exact XRun.mono (r_callF C c hcc htc (r := (RX8, TX8, 3)) (by rw [e]; rfl) (owner := "LogSawyer$Fault") ce_X0_isInSlice (m_X0_isInSlice G n V R (c) (s) (V yd 2) hn hLR (by first | assumption | omega | decide) (by first | assumption | omega | decide) (by first | assumption | omega | decide) (by first | assumption | omega | decide) (by first | assumption | omega | decide) (by first | assumption | omega | decide) (by first | assumption | omega | decide)) rfl dX10_leastFaultIn_32 q_30_12 q_30_13 ⟨by decide, by decide⟩ (Or.inr ⟨_, _, _, q_30_16, q_30_15⟩) rfl q_30_22 q_30_15 rfl rfl ⟨Nat.le_of_ble_eq_true rfl, Nat.le_of_ble_eq_true rfl⟩ ⟨rfl, rfl⟩ ⟨Nat.le_of_ble_eq_true rfl, Nat.le_of_ble_eq_true rfl⟩ (Nat.le_of_ble_eq_true rfl)) (fun vv uu h => by first | exact h | (exact ⟨h.1.trans (by rw [e]; rfl), h.2⟩))
            · exact XRun.mono (r_callF C c hcc htc (r := (RX7, TX7, 3)) (by rw [e]; rfl) (owner := "LogSawyer$Fault") ce_X0_isInSlice (m_X0_isInSlice G n V R (c) (s) (V yd 2) hn hLR (by first | assumption | omega | decide) (by first | assumption | omega | decide) (by first | assumption | omega | decide) (by first | assumption | omega | decide) (by first | assumption | omega | decide) (by first | assumption | omega | decide) (by first | assumption | omega | decide)) rfl dX10_leastFaultIn_32 q_30_12 q_30_13 ⟨by decide, by decide⟩ (Or.inr ⟨_, _, _, q_30_16, q_30_15⟩) rfl q_30_21 q_30_15 rfl rfl ⟨Nat.le_of_ble_eq_true rfl, Nat.le_of_ble_eq_true rfl⟩ ⟨rfl, rfl⟩ ⟨Nat.le_of_ble_eq_true rfl, Nat.le_of_ble_eq_true rfl⟩ (Nat.le_of_ble_eq_true rfl)) (fun vv uu h => by first | exact h | (exact ⟨h.1.trans (by rw [e]; rfl), h.2⟩))
            · exact XRun.mono (r_callF C c hcc htc (r := (RX4, TX4, 3)) (by rw [e]; rfl) (owner := "LogSawyer$Fault") ce_X0_isInSlice (m_X0_isInSlice G n V R (c) (s) (V yd 2) hn hLR (by first | assumption | omega | decide) (by first | assumption | omega | decide) (by first | assumption | omega | decide) (by first | assumption | omega | decide) (by first | assumption | omega | decide) (by first | assumption | omega | decide) (by first | assumption | omega | decide)) rfl dX10_leastFaultIn_32 q_30_12 q_30_13 ⟨by decide, by decide⟩ (Or.inr ⟨_, _, _, q_30_16, q_30_15⟩) rfl q_30_19 q_30_15 rfl rfl ⟨Nat.le_of_ble_eq_true rfl, Nat.le_of_ble_eq_true rfl⟩ ⟨rfl, rfl⟩ ⟨Nat.le_of_ble_eq_true rfl, Nat.le_of_ble_eq_true rfl⟩ (Nat.le_of_ble_eq_true rfl)) (fun vv uu h => by first | exact h | (exact ⟨h.1.trans (by rw [e]; rfl), h.2⟩))
            · exact XRun.mono (r_callF C c hcc htc (r := (RX5, TX5, 3)) (by rw [e]; rfl) (owner := "LogSawyer$Fault") ce_X0_isInSlice (m_X0_isInSlice G n V R (c) (s) (V yd 2) hn hLR (by first | assumption | omega | decide) (by first | assumption | omega | decide) (by first | assumption | omega | decide) (by first | assumption | omega | decide) (by first | assumption | omega | decide) (by first | assumption | omega | decide) (by first | assumption | omega | decide)) rfl dX10_leastFaultIn_32 q_30_12 q_30_13 ⟨by decide, by decide⟩ (Or.inr ⟨_, _, _, q_30_16, q_30_15⟩) rfl q_30_20 q_30_15 rfl rfl ⟨Nat.le_of_ble_eq_true rfl, Nat.le_of_ble_eq_true rfl⟩ ⟨rfl, rfl⟩ ⟨Nat.le_of_ble_eq_true rfl, Nat.le_of_ble_eq_true rfl⟩ (Nat.le_of_ble_eq_true rfl)) (fun vv uu h => by first | exact h | (exact ⟨h.1.trans (by rw [e]; rfl), h.2⟩))
            · exact XRun.mono (r_callF C c hcc htc (r := (RX9, TX9, 3)) (by rw [e]; rfl) (owner := "LogSawyer$Fault") ce_X0_isInSlice (m_X0_isInSlice G n V R (c) (s) (V yd 2) hn hLR (by first | assumption | omega | decide) (by first | assumption | omega | decide) (by first | assumption | omega | decide) (by first | assumption | omega | decide) (by first | assumption | omega | decide) (by first | assumption | omega | decide) (by first | assumption | omega | decide)) rfl dX10_leastFaultIn_32 q_30_12 q_30_13 ⟨by decide, by decide⟩ (Or.inr ⟨_, _, _, q_30_16, q_30_15⟩) rfl q_30_23 q_30_15 rfl rfl ⟨Nat.le_of_ble_eq_true rfl, Nat.le_of_ble_eq_true rfl⟩ ⟨rfl, rfl⟩ ⟨Nat.le_of_ble_eq_true rfl, Nat.le_of_ble_eq_true rfl⟩ (Nat.le_of_ble_eq_true rfl)) (fun vv uu h => by first | exact h | (exact ⟨h.1.trans (by rw [e]; rfl), h.2⟩))
          obtain ⟨rfl, rfl⟩ := hp32
          show Xw K G 0 0 _ n V R 35 [(0, .ref (aG G yd)), (1, .int (iI x)), (2, .int (iI y)), (3, .int (iI s)), (4, .int (iI m)), (5, .ref (aG G c))] [.int (iI (bI (V c 1 ≤ s ∧ s < V c 1 + (max 0 (min (lastC (V c 3) (V c 1) (V c 2) (V yd 2)) ((V yd 2) - V c 1))))))]
          refine x_ifeq_b C dX10_leastFaultIn_35 (tgt := 57) (by decide) (fun h35 => ?_) (fun h35 => ?_)
          · skip
            refine x_iinc C 4 dX10_leastFaultIn_57 rfl (by decide) (lv' := [(0, .ref (aG G yd)), (1, .int (iI x)), (2, .int (iI y)), (3, .int (iI s)), (4, .int (iI (m + 1))), (5, .ref (aG G c))]) rfl ?_
            refine x_goto C dX10_leastFaultIn_60 (tgt := 3) (by decide) ?_
            refine x_sub [0, 1, 2, 3, 4] (lv' := [(0, .ref (aG G yd)), (1, .int (iI x)), (2, .int (iI y)), (3, .int (iI s)), (4, .int (iI (m + 1)))]) rfl ?_
            exact ih3 ((m + 1)) (by omega) (by exact fun i a b => (if e : i = m then by (rw [e, hhit, hhl]; exact fun w => by first | exact absurd w.2 (by assumption) | exact absurd w.1 (by assumption)) else hN i a (by omega))) (by omega)
          · skip
            refine x_aload C 5 dX10_leastFaultIn_38 rfl ?_
            refine x_iload_n C 1 dX10_leastFaultIn_40 rfl rfl ?_
            refine x_runU (r_callSN C (ce_X11_fromMiddle) (m_X11_fromMiddle G n V R (x)) dX10_leastFaultIn_41 (List.mem_of_getElem? (i := 18) rfl) q_6_0 rfl rfl ⟨Nat.le_of_ble_eq_true rfl, Nat.le_of_ble_eq_true rfl⟩ ⟨rfl, rfl⟩ ⟨Nat.le_of_ble_eq_true rfl, Nat.le_of_ble_eq_true rfl⟩ (Nat.le_of_ble_eq_true rfl)) (fun v41 u41 hp41 => ?_)
            obtain ⟨rfl, rfl⟩ := hp41
            show Xw K G 0 0 _ n V R 44 [(0, .ref (aG G yd)), (1, .int (iI x)), (2, .int (iI y)), (3, .int (iI s)), (4, .int (iI m)), (5, .ref (aG G c))] [.int (iI (2 * x - 11)), .ref (aG G c)]
            refine x_iload_n C 2 dX10_leastFaultIn_44 rfl rfl ?_
            refine x_runU (r_callSN C (ce_X11_fromMiddle) (m_X11_fromMiddle G n V R (y)) dX10_leastFaultIn_45 (List.mem_of_getElem? (i := 18) rfl) q_6_0 rfl rfl ⟨Nat.le_of_ble_eq_true rfl, Nat.le_of_ble_eq_true rfl⟩ ⟨rfl, rfl⟩ ⟨Nat.le_of_ble_eq_true rfl, Nat.le_of_ble_eq_true rfl⟩ (Nat.le_of_ble_eq_true rfl)) (fun v45 u45 hp45 => ?_)
            obtain ⟨rfl, rfl⟩ := hp45
            show Xw K G 0 0 _ n V R 48 [(0, .ref (aG G yd)), (1, .int (iI x)), (2, .int (iI y)), (3, .int (iI s)), (4, .int (iI m)), (5, .ref (aG G c))] [.int (iI (2 * y - 11)), .int (iI (2 * x - 11)), .ref (aG G c)]
            refine x_runU (mc := 0) (ms := 0) (st := []) (post := (fun vv uu => vv = some (.int (iI (bI (inU (V c 3) (V c 0) (V c 2) (2 * x - 11) (2 * y - 11))))) ∧ uu = (n, V, R))) ?_ (fun v48 u48 hp48 => ?_)
            · rcases (show V c 3 = 0 ∨ V c 3 = 1 ∨ V c 3 = 2 ∨ V c 3 = 3 ∨ V c 3 = 4 ∨ V c 3 = 5 ∨ V c 3 = 6 by omega) with e | e | e | e | e | e | e
              · exact XRun.mono (r_callF C c hcc htc (r := (RX1, TX1, 3)) (by rw [e]; rfl) (owner := "LogSawyer$Fault") ce_X1_isIn (m_X1_isIn G n V R (c) (2 * x - 11) (2 * y - 11) hn hLR (by first | assumption | omega | decide) (by first | assumption | omega | decide) (by first | assumption | omega | decide) (by first | assumption | omega | decide) (by first | assumption | omega | decide) (by first | assumption | omega | decide) (by first | assumption | omega | decide)) rfl dX10_leastFaultIn_48 q_20_22 q_20_23 ⟨by decide, by decide⟩ (Or.inl (List.mem_of_getElem? (i := 14) rfl)) rfl q_21_0 q_21_1 rfl rfl ⟨Nat.le_of_ble_eq_true rfl, Nat.le_of_ble_eq_true rfl⟩ ⟨rfl, rfl⟩ ⟨Nat.le_of_ble_eq_true rfl, Nat.le_of_ble_eq_true rfl⟩ (Nat.le_of_ble_eq_true rfl)) (fun vv uu h => by first | exact h | (exact ⟨h.1.trans (by first | rfl | exact congrArg (fun p => some (Value.int (iI (bI p)))) (propext (in5 e).symm)), h.2⟩))
              · exact XRun.mono (r_callF C c hcc htc (r := (RX2, TX2, 3)) (by rw [e]; rfl) (owner := "LogSawyer$Fault") ce_X1_isIn (m_X1_isIn G n V R (c) (2 * x - 11) (2 * y - 11) hn hLR (by first | assumption | omega | decide) (by first | assumption | omega | decide) (by first | assumption | omega | decide) (by first | assumption | omega | decide) (by first | assumption | omega | decide) (by first | assumption | omega | decide) (by first | assumption | omega | decide)) rfl dX10_leastFaultIn_48 q_20_22 q_20_23 ⟨by decide, by decide⟩ (Or.inl (List.mem_of_getElem? (i := 14) rfl)) rfl q_22_9 q_21_1 rfl rfl ⟨Nat.le_of_ble_eq_true rfl, Nat.le_of_ble_eq_true rfl⟩ ⟨rfl, rfl⟩ ⟨Nat.le_of_ble_eq_true rfl, Nat.le_of_ble_eq_true rfl⟩ (Nat.le_of_ble_eq_true rfl)) (fun vv uu h => by first | exact h | (exact ⟨h.1.trans (by first | rfl | exact congrArg (fun p => some (Value.int (iI (bI p)))) (propext (in5 e).symm)), h.2⟩))
              · exact XRun.mono (r_callF C c hcc htc (r := (RX8, TX8, 3)) (by rw [e]; rfl) (owner := "LogSawyer$Fault") ce_X1_isIn (m_X1_isIn G n V R (c) (2 * x - 11) (2 * y - 11) hn hLR (by first | assumption | omega | decide) (by first | assumption | omega | decide) (by first | assumption | omega | decide) (by first | assumption | omega | decide) (by first | assumption | omega | decide) (by first | assumption | omega | decide) (by first | assumption | omega | decide)) rfl dX10_leastFaultIn_48 q_20_22 q_20_23 ⟨by decide, by decide⟩ (Or.inl (List.mem_of_getElem? (i := 14) rfl)) rfl q_23_3 q_21_1 rfl rfl ⟨Nat.le_of_ble_eq_true rfl, Nat.le_of_ble_eq_true rfl⟩ ⟨rfl, rfl⟩ ⟨Nat.le_of_ble_eq_true rfl, Nat.le_of_ble_eq_true rfl⟩ (Nat.le_of_ble_eq_true rfl)) (fun vv uu h => by first | exact h | (exact ⟨h.1.trans (by first | rfl | exact congrArg (fun p => some (Value.int (iI (bI p)))) (propext (in5 e).symm)), h.2⟩))
              · exact XRun.mono (r_callF C c hcc htc (r := (RX7, TX7, 3)) (by rw [e]; rfl) (owner := "LogSawyer$Fault") ce_X7_isIn (m_X7_isIn G n V R (c) (2 * x - 11) (2 * y - 11) hn hLR (by first | assumption | omega | decide) (by first | assumption | omega | decide) (by first | assumption | omega | decide) (by first | assumption | omega | decide) (by first | assumption | omega | decide) (by first | assumption | omega | decide) (by first | assumption | omega | decide)) rfl dX10_leastFaultIn_48 q_20_22 q_20_23 ⟨by decide, by decide⟩ (Or.inl (List.mem_of_getElem? (i := 14) rfl)) rfl q_22_20 q_22_21 rfl rfl ⟨Nat.le_of_ble_eq_true rfl, Nat.le_of_ble_eq_true rfl⟩ ⟨rfl, rfl⟩ ⟨Nat.le_of_ble_eq_true rfl, Nat.le_of_ble_eq_true rfl⟩ (Nat.le_of_ble_eq_true rfl)) (fun vv uu h => by first | exact h | (exact ⟨h.1.trans (by first | rfl | exact congrArg (fun p => some (Value.int (iI (bI p)))) (propext (in5 e).symm)), h.2⟩))
              · exact XRun.mono (r_callF C c hcc htc (r := (RX4, TX4, 3)) (by rw [e]; rfl) (owner := "LogSawyer$Fault") ce_X4_isIn (m_X4_isIn G n V R (c) (2 * x - 11) (2 * y - 11) hn hLR (by first | assumption | omega | decide) (by first | assumption | omega | decide) (by first | assumption | omega | decide) (by first | assumption | omega | decide) (by first | assumption | omega | decide) (by first | assumption | omega | decide)) rfl dX10_leastFaultIn_48 q_20_22 q_20_23 ⟨by decide, by decide⟩ (Or.inl (List.mem_of_getElem? (i := 14) rfl)) rfl q_22_10 q_22_11 rfl rfl ⟨Nat.le_of_ble_eq_true rfl, Nat.le_of_ble_eq_true rfl⟩ ⟨rfl, rfl⟩ ⟨Nat.le_of_ble_eq_true rfl, Nat.le_of_ble_eq_true rfl⟩ (Nat.le_of_ble_eq_true rfl)) (fun vv uu h => by first | exact h | (exact ⟨h.1.trans (by first | rfl | exact congrArg (fun p => some (Value.int (iI (bI p)))) (propext (in5 e).symm)), h.2⟩))
              · exact XRun.mono (r_callF C c hcc htc (r := (RX5, TX5, 3)) (by rw [e]; rfl) (owner := "LogSawyer$Fault") ce_X5_isIn (m_X5_isIn G n V R (c) (2 * x - 11) (2 * y - 11) hn hLR (by first | assumption | omega | decide) (by first | assumption | omega | decide) (by first | assumption | omega | decide) (by first | assumption | omega | decide) (by first | assumption | omega | decide)) rfl dX10_leastFaultIn_48 q_20_22 q_20_23 ⟨by decide, by decide⟩ (Or.inl (List.mem_of_getElem? (i := 14) rfl)) rfl q_22_15 q_22_16 rfl rfl ⟨Nat.le_of_ble_eq_true rfl, Nat.le_of_ble_eq_true rfl⟩ ⟨rfl, rfl⟩ ⟨Nat.le_of_ble_eq_true rfl, Nat.le_of_ble_eq_true rfl⟩ (Nat.le_of_ble_eq_true rfl)) (fun vv uu h => by first | exact h | (exact ⟨h.1.trans (by first | rfl | exact congrArg (fun p => some (Value.int (iI (bI p)))) (propext (in5 e).symm)), h.2⟩))
              · exact XRun.mono (r_callF C c hcc htc (r := (RX9, TX9, 3)) (by rw [e]; rfl) (owner := "LogSawyer$Fault") ce_X9_isIn (m_X9_isIn G n V R (c) (2 * x - 11) (2 * y - 11) hn hLR (by first | assumption | omega | decide) (by first | assumption | omega | decide) (by first | assumption | omega | decide) (by first | assumption | omega | decide) (by first | assumption | omega | decide) (by first | assumption | omega | decide) (by first | assumption | omega | decide)) rfl dX10_leastFaultIn_48 q_20_22 q_20_23 ⟨by decide, by decide⟩ (Or.inl (List.mem_of_getElem? (i := 14) rfl)) rfl q_23_4 q_23_5 rfl rfl ⟨Nat.le_of_ble_eq_true rfl, Nat.le_of_ble_eq_true rfl⟩ ⟨rfl, rfl⟩ ⟨Nat.le_of_ble_eq_true rfl, Nat.le_of_ble_eq_true rfl⟩ (Nat.le_of_ble_eq_true rfl)) (fun vv uu h => by first | exact h | (exact ⟨h.1.trans (by first | rfl | exact congrArg (fun p => some (Value.int (iI (bI p)))) (propext (in5 e).symm)), h.2⟩))
            obtain ⟨rfl, rfl⟩ := hp48
            show Xw K G 0 0 _ n V R 51 [(0, .ref (aG G yd)), (1, .int (iI x)), (2, .int (iI y)), (3, .int (iI s)), (4, .int (iI m)), (5, .ref (aG G c))] [.int (iI (bI (inU (V c 3) (V c 0) (V c 2) (2 * x - 11) (2 * y - 11))))]
            refine x_ifeq_b C dX10_leastFaultIn_51 (tgt := 57) (by decide) (fun h51 => ?_) (fun h51 => ?_)
            · skip
              refine x_iinc C 4 dX10_leastFaultIn_57 rfl (by decide) (lv' := [(0, .ref (aG G yd)), (1, .int (iI x)), (2, .int (iI y)), (3, .int (iI s)), (4, .int (iI (m + 1))), (5, .ref (aG G c))]) rfl ?_
              refine x_goto C dX10_leastFaultIn_60 (tgt := 3) (by decide) ?_
              refine x_sub [0, 1, 2, 3, 4] (lv' := [(0, .ref (aG G yd)), (1, .int (iI x)), (2, .int (iI y)), (3, .int (iI s)), (4, .int (iI (m + 1)))]) rfl ?_
              exact ih3 ((m + 1)) (by omega) (by exact fun i a b => (if e : i = m then by (rw [e, hhit, hhl]; exact fun w => by first | exact absurd w.2 (by assumption) | exact absurd w.1 (by assumption)) else hN i a (by omega))) (by omega)
            · skip
              refine x_iload C 4 dX10_leastFaultIn_54 rfl ?_
              refine x_iret C dX10_leastFaultIn_56 ⟨_, rfl, rfl, ?_⟩
              · exact Or.inr ⟨hm.1, by omega, by rw [hhit, hhl]; exact ⟨by assumption, by assumption⟩, hN⟩
        · skip
          exact absurd trivial htr
  exact lp_3 (((9 : Int) - 0).toNat + 1) (0) (by omega) (by exact fun i a b => by omega) (by omega)
