theorem tbt {c L : Nat} (h : (c = 45 ∧ L = 64) ∨ (c = 46 ∧ L = 24)) : tb c = (20, L) := by rcases h with ⟨h, e⟩ | ⟨h, e⟩ <;> subst h <;> subst e <;> rfl
theorem may_c {V : Nat → Int → Int} {b w : Int} (hb : 0 ≤ b ∧ b < V 42 7) : CanP (V 42 7) (V 42 9) (fun c => -1 ≤ V 56 c ∧ c ≠ b) (meetP (V 45) (V 46)) (inS w) ↔ canM (u2 V 56 b (-2)) w := by
  unfold canM
  rw [u2_n (show (42 : Nat) ≠ 56 by decide), u2_n (show (45 : Nat) ≠ 56 by decide), u2_n (show (46 : Nat) ≠ 56 by decide), u2_s]
  have k : ∀ c, (-1 ≤ u1 (V 56) b (-2) c) ↔ (-1 ≤ V 56 c ∧ c ≠ b) := fun c => by
    by_cases e : c = b
    · rw [e, u1_s]; exact ⟨fun q => absurd q (by decide), fun q => absurd rfl q.2⟩
    · rw [u1_n e]; exact ⟨fun q => ⟨q, e⟩, fun q => q.1⟩
  exact ⟨fun h => h.c (fun c _ _ q => (k c).mpr q) (fun _ _ q => q) (fun _ _ _ q => q), fun h => h.c (fun c _ _ q => (k c).mp q) (fun _ _ q => q) (fun _ _ _ q => q)⟩

set_option maxRecDepth 100000 in
set_option maxHeartbeats 4000000 in
theorem m_X12_takesOut (G : GS) (n : Nat) (V : Nat → Int → Int) (R : Nat → Int → Option Nat) (c : Nat) (L : Nat) (m : Int) (w : Int) (hn : 67 ≤ n) (hLR : LR R) (hc : (c = 45 ∧ L = 64) ∨ (c = 46 ∧ L = 24)) (hm : 0 ≤ m ∧ 4 * m ≤ L) : Cn G yX12_takesOut cX12_takesOut 6 (some .int) (rmk 1 0 0 16) [.ref (aG G c), .int (iI m), .int (iI w)] n V R 0 0 (fun vv uu => ∃ (V1 : Nat → Int → Int), vv = some (.int (iI (leftK w m))) ∧ uu = (n, V1, R) ∧ (FrT V V1 c) ∧ (tookP w m (V c) (V1 c))) := by
  refine Cn.of (by decide) (Nat.le_of_ble_eq_true rfl) (fun K C hct => ?_)
  show Xw K G 0 0 _ n V R 0 [(0, .ref (aG G c)), (1, .int (iI m)), (2, .int (iI w))] []
  refine x_iconst C dX12_takesOut_0 ?_
  refine x_istore_n C dX12_takesOut_1 rfl (by decide) (lv' := [(0, .ref (aG G c)), (1, .int (iI m)), (2, .int (iI w)), (3, .int (iI 0))]) rfl ?_
  refine x_iconst C dX12_takesOut_2 ?_
  refine x_istore C dX12_takesOut_3 (by decide) (lv' := [(0, .ref (aG G c)), (1, .int (iI m)), (2, .int (iI w)), (3, .int (iI 0)), (4, .int (iI 0))]) rfl ?_
  have lp_5 : ∀ (fuel : Nat) (q : Int) (k : Int) (V2 : Nat → Int → Int), (0 ≤ k ∧ k ≤ m) → (q = leftK w k) → (FrT V V2 c) → (tookP w k (V c) (V2 c)) → (∀ z, 4 * k ≤ z → V2 c z = V c z) → (m - k) < (fuel : Int) → Xw K G 0 0 (EndQ K G 0 0 (fun vv uu => ∃ (V1 : Nat → Int → Int), vv = some (.int (iI (leftK w m))) ∧ uu = (n, V1, R) ∧ (FrT V V1 c) ∧ (tookP w m (V c) (V1 c)))) n V2 R 5 [(0, .ref (aG G c)), (1, .int (iI m)), (2, .int (iI w)), (3, .int (iI q)), (4, .int (iI k))] [] := by
    intro fuel5
    induction fuel5 with
    | zero => intro q k V2 hk hq hF ht hr hfu5; exfalso; omega
    | succ fuel5 ih5 =>
      intro q k V2 hk hq hF ht hr hfu5
      have hqb := leftK_b (w := w) hk.1
      refine x_iload C 4 dX12_takesOut_5 rfl ?_
      refine x_iload_n C 1 dX12_takesOut_7 rfl rfl ?_
      refine x_icmp_ge C dX12_takesOut_8 (tgt := 61) (by decide) (by first | assumption | (constructor <;> omega)) (by first | assumption | (constructor <;> omega)) (fun h8 => ?_) (fun h8 => ?_)
      · skip
        refine x_iload_n C 3 dX12_takesOut_61 rfl rfl ?_
        refine x_iret C dX12_takesOut_62 ⟨_, congrArg (fun z => some (Value.int (iI z))) (by rw [hq, show k = m by omega]), rfl, ?_, ?_⟩
        · exact hF
        · rw [show m = k by omega]; exact ht
      · skip
        refine x_iload_n C 2 dX12_takesOut_11 rfl rfl ?_
        refine x_iload C 4 dX12_takesOut_12 rfl ?_
        refine x_ishr C dX12_takesOut_14 ?_
        refine x_iconst C dX12_takesOut_15 ?_
        refine x_iand C dX12_takesOut_16 ?_
        refine x_if_ne C dX12_takesOut_17 (tgt := 55) (by decide) (by first | exact zAnd_rg _ _ | (constructor <;> omega)) (fun h17 => ?_) (fun h17 => ?_)
        · skip
          refine x_iinc C 4 dX12_takesOut_55 rfl (by decide) (lv' := [(0, .ref (aG G c)), (1, .int (iI m)), (2, .int (iI w)), (3, .int (iI q)), (4, .int (iI (k + 1)))]) rfl ?_
          refine x_goto C dX12_takesOut_58 (tgt := 5) (by decide) ?_
          exact ih5 (q) ((k + 1)) (V2) (by omega) (by rw [leftK_s hk.1, hq]; first | (rw [bI_t h17]) | (rw [bI_f h17]; omega)) (by first | exact hF | exact hF3) (by first | exact took_n ht h17 | exact took_y hk.1 ht (fun z a b => hlo z a (by rw [hq]; exact b)) (fun j2 a b => by rw [← hq]; exact hw j2 a (by omega))) (by first | exact fun z a => hr z (by omega) | exact fun z a => hr3 z (by omega)) (by omega)
        · skip
          refine x_iconst C dX12_takesOut_20 ?_
          refine x_istore C dX12_takesOut_21 (by decide) (lv' := [(0, .ref (aG G c)), (1, .int (iI m)), (2, .int (iI w)), (3, .int (iI q)), (4, .int (iI k)), (5, .int (iI 0))]) rfl ?_
          have lp_23 : ∀ (fuel : Nat) (j : Int) (V3 : Nat → Int → Int), (0 ≤ j ∧ j ≤ 4) → (FrT V V3 c) → (∀ z, 0 ≤ z → z < 4 * q → V3 c z = V2 c z) → (∀ j2, 0 ≤ j2 → j2 < j → V3 c (4 * q + j2) = V c (4 * k + j2)) → (∀ z, 4 * k + j ≤ z → V3 c z = V c z) → ((4 : Int) - j) < (fuel : Int) → Xw K G 0 0 (EndQ K G 0 0 (fun vv uu => ∃ (V1 : Nat → Int → Int), vv = some (.int (iI (leftK w m))) ∧ uu = (n, V1, R) ∧ (FrT V V1 c) ∧ (tookP w m (V c) (V1 c)))) n V3 R 23 [(0, .ref (aG G c)), (1, .int (iI m)), (2, .int (iI w)), (3, .int (iI q)), (4, .int (iI k)), (5, .int (iI j))] [] := by
            intro fuel23
            induction fuel23 with
            | zero => intro j V3 hj hF3 hlo hw hr3 hfu23; exfalso; omega
            | succ fuel23 ih23 =>
              intro j V3 hj hF3 hlo hw hr3 hfu23
              refine x_iload C 5 dX12_takesOut_23 rfl ?_
              refine x_iconst C dX12_takesOut_25 ?_
              refine x_icmp_ge C dX12_takesOut_26 (tgt := 52) (by decide) (by first | assumption | (constructor <;> omega)) (by first | assumption | (constructor <;> omega)) (fun h26 => ?_) (fun h26 => ?_)
              · skip
                refine x_iinc C 3 dX12_takesOut_52 rfl (by decide) (lv' := [(0, .ref (aG G c)), (1, .int (iI m)), (2, .int (iI w)), (3, .int (iI (q + 1))), (4, .int (iI k)), (5, .int (iI j))]) rfl ?_
                refine x_iinc C 4 dX12_takesOut_55 rfl (by decide) (lv' := [(0, .ref (aG G c)), (1, .int (iI m)), (2, .int (iI w)), (3, .int (iI (q + 1))), (4, .int (iI (k + 1))), (5, .int (iI j))]) rfl ?_
                refine x_goto C dX12_takesOut_58 (tgt := 5) (by decide) ?_
                refine x_sub [0, 1, 2, 3, 4] (lv' := [(0, .ref (aG G c)), (1, .int (iI m)), (2, .int (iI w)), (3, .int (iI (q + 1))), (4, .int (iI (k + 1)))]) rfl ?_
                exact ih5 ((q + 1)) ((k + 1)) (V3) (by omega) (by rw [leftK_s hk.1, hq]; first | (rw [bI_t h17]) | (rw [bI_f h17]; omega)) (by first | exact hF | exact hF3) (by first | exact took_n ht h17 | exact took_y hk.1 ht (fun z a b => hlo z a (by rw [hq]; exact b)) (fun j2 a b => by rw [← hq]; exact hw j2 a (by omega))) (by first | exact fun z a => hr z (by omega) | exact fun z a => hr3 z (by omega)) (by omega)
              · skip
                refine x_aload_n C 0 dX12_takesOut_29 rfl rfl ?_
                refine x_iconst C dX12_takesOut_30 ?_
                refine x_iload_n C 3 dX12_takesOut_31 rfl rfl ?_
                refine x_imul C dX12_takesOut_32 ?_
                refine x_iload C 5 dX12_takesOut_33 rfl ?_
                refine x_iadd C dX12_takesOut_35 ?_
                refine x_aload_n C 0 dX12_takesOut_36 rfl rfl ?_
                refine x_iconst C dX12_takesOut_37 ?_
                refine x_iload C 4 dX12_takesOut_38 rfl ?_
                refine x_imul C dX12_takesOut_40 ?_
                refine x_iload C 5 dX12_takesOut_41 rfl ?_
                refine x_iadd C dX12_takesOut_43 ?_
                refine x_iald C c dX12_takesOut_44 (by omega) (tbt hc) (by refine ⟨?_, ?_⟩ <;> omega) (fun rg44 => ?_)
                refine x_iast C c dX12_takesOut_45 (by omega) (tbt hc) (by refine ⟨?_, ?_⟩ <;> omega) (by first | assumption | (constructor <;> omega)) ?_
                refine x_iinc C 5 dX12_takesOut_46 rfl (by decide) (lv' := [(0, .ref (aG G c)), (1, .int (iI m)), (2, .int (iI w)), (3, .int (iI q)), (4, .int (iI k)), (5, .int (iI (j + 1)))]) rfl ?_
                refine x_goto C dX12_takesOut_49 (tgt := 23) (by decide) ?_
                exact ih23 ((j + 1)) ((u2 V3 c ((4 * q) + j) (V3 c ((4 * k) + j)))) (by omega) (by exact fun p e => by rw [u2_n e]; exact hF3 p e) (by exact fun z a b => by (rw [u2_s, u1_n (by omega)]; exact hlo z a b)) (by exact fun j2 a b => by (rw [u2_s]; by_cases e : j2 = j; (rw [e, u1_s]; exact hr3 _ (by omega)); (rw [u1_n (by omega)]; exact hw j2 a (by omega)))) (by exact fun z a => by (rw [u2_s, u1_n (by omega)]; exact hr3 z (by omega))) (by omega)
          exact lp_23 (((4 : Int) - 0).toNat + 1) (0) (V2) (by omega) (by exact hF) (by exact fun _ _ _ => rfl) (by exact fun j2 a b => by omega) (by exact fun z a => hr z (by omega)) (by omega)
  exact lp_5 ((m - 0).toNat + 1) (0) (0) (V) (by omega) (by rfl) (by exact fun _ _ => rfl) (by exact fun k a b => by omega) (by exact fun _ _ => rfl) (by omega)
set_option maxRecDepth 100000 in
set_option maxHeartbeats 4000000 in
theorem m_X12_mayGive (G : GS) (n : Nat) (V : Nat → Int → Int) (R : Nat → Int → Option Nat) (b : Int) (o : Int) (w : Int) (hn : 67 ≤ n) (hLR : LR R) (hnb : 0 ≤ V 42 7 ∧ V 42 7 ≤ 16) (hno : 0 ≤ V 42 9 ∧ V 42 9 ≤ 6) (hb : 0 ≤ b ∧ b < V 42 7) (ho : 0 ≤ o ∧ o < V 42 9) : Cn G yX12_mayGive cX12_mayGive 4 (some .boolean) (rmk 21 0 0 765) [.ref (aG G 42), .int (iI b), .int (iI o), .int (iI w)] n V R 0 0 (fun vv uu => ∃ (p : Prop), ∃ (V1 : Nat → Int → Int), vv = some (.int (iI (bI (p)))) ∧ uu = (n, V1, R) ∧ (FrG V V1) ∧ (p ↔ giveP (V 42 7) (V 42 9) (fun c => -1 ≤ V 56 c) (meetP (V 45) (V 46)) (inS w) o b) ∧ (∀ c, 0 ≤ c → c < V 42 7 → (-1 ≤ V1 56 c ↔ (-1 ≤ V 56 c ∧ (p → c ≠ b))))) := by
  refine Cn.of (by decide) (Nat.le_of_ble_eq_true rfl) (fun K C hct => ?_)
  show Xw K G 0 0 _ n V R 0 [(0, .ref (aG G 42)), (1, .int (iI b)), (2, .int (iI o)), (3, .int (iI w))] []
  refine x_aload_n C 0 dX12_mayGive_0 rfl rfl ?_
  refine x_getr C ok_Model 42 34 (d := 56) dX12_mayGive_1 (lt67 hn rfl) rfl (by decide) rfl q_4_14 rfl (kz := 34) rfl (lr_42_34 hLR) ?_
  refine x_iload_n C 1 dX12_mayGive_4 rfl rfl ?_
  refine x_iald C 56 dX12_mayGive_5 (lt67 hn rfl) rfl (by refine ⟨?_, ?_⟩ <;> omega) (fun rg5 => ?_)
  refine x_iconst C dX12_mayGive_6 ?_
  refine x_icmp_lt C dX12_mayGive_7 (tgt := 19) (by decide) (by first | assumption | (constructor <;> omega)) (by first | assumption | (constructor <;> omega)) (fun h7 => ?_) (fun h7 => ?_)
  · skip
    refine x_iconst C dX12_mayGive_19 ?_
    refine x_zret C (Or.inl rfl) dX12_mayGive_20 ⟨False, _, bI_rf id, rfl, ?_, ?_, ?_⟩
    · exact FrG.rf
    · first | exact ⟨False.elim, fun q => absurd q.1 (by omega)⟩ | exact ⟨False.elim, fun q => absurd q.2.1 h16⟩
    · exact fun c _ _ => ⟨fun q => ⟨q, False.elim⟩, fun q => q.1⟩
  · skip
    refine x_aload_n C 0 dX12_mayGive_10 rfl rfl ?_
    refine x_iload_n C 1 dX12_mayGive_11 rfl rfl ?_
    refine x_iload_n C 2 dX12_mayGive_12 rfl rfl ?_
    refine x_runU (r_callV C ok_Model 42 (lt67 hn rfl) rfl (ce_X12_meets) (m_X12_meets G n V R (b) (o) hn hLR (by first | assumption | omega | decide) (by first | assumption | omega | decide)) rfl dX12_mayGive_13 q_43_13 q_43_14 q_43_15 rfl rfl ⟨Nat.le_of_ble_eq_true rfl, Nat.le_of_ble_eq_true rfl⟩ ⟨rfl, rfl⟩ ⟨Nat.le_of_ble_eq_true rfl, Nat.le_of_ble_eq_true rfl⟩ (Nat.le_of_ble_eq_true rfl)) (fun v13 u13 hp13 => ?_)
    obtain ⟨rfl, rfl⟩ := hp13
    show Xw K G 0 0 _ n V R 16 [(0, .ref (aG G 42)), (1, .int (iI b)), (2, .int (iI o)), (3, .int (iI w))] [.int (iI (bI (meetP (V 45) (V 46) b o)))]
    refine x_ifne_b C dX12_mayGive_16 (tgt := 21) (by decide) (fun h16 => ?_) (fun h16 => ?_)
    · skip
      refine x_aload_n C 0 dX12_mayGive_21 rfl rfl ?_
      refine x_getr C ok_Model 42 34 (d := 56) dX12_mayGive_22 (lt67 hn rfl) rfl (by decide) rfl q_4_14 rfl (kz := 34) rfl (lr_42_34 hLR) ?_
      refine x_iload_n C 1 dX12_mayGive_25 rfl rfl ?_
      refine x_bipush C dX12_mayGive_26 (w := -2) (by decide) ?_
      refine x_iast C 56 dX12_mayGive_28 (lt67 hn rfl) rfl (by refine ⟨?_, ?_⟩ <;> omega) (by first | assumption | (constructor <;> omega)) ?_
      refine x_aload_n C 0 dX12_mayGive_29 rfl rfl ?_
      refine x_iload_n C 3 dX12_mayGive_30 rfl rfl ?_
      refine x_runU (r_callV C ok_Model 42 (lt67 hn rfl) rfl (ce_X12_can) (m_X12_can G n (u2 V 56 b (-2)) R (w) hn hLR (by rw [u2_n (by decide)]; exact hnb) (by rw [u2_n (by decide)]; exact hno)) rfl dX12_mayGive_31 q_43_5 q_43_6 q_43_7 rfl rfl ⟨Nat.le_of_ble_eq_true rfl, Nat.le_of_ble_eq_true rfl⟩ ⟨rfl, rfl⟩ ⟨Nat.le_of_ble_eq_true rfl, Nat.le_of_ble_eq_true rfl⟩ (Nat.le_of_ble_eq_true rfl)) (fun v31 u31 hp31 => ?_)
      obtain ⟨pr, V3, rfl, rfl, hF3, hA3, hp3⟩ := hp31
      show Xw K G 0 0 _ n V3 R 34 [(0, .ref (aG G 42)), (1, .int (iI b)), (2, .int (iI o)), (3, .int (iI w))] [.int (iI (bI (pr)))]
      have hFV3 : FrG V V3 := (FrG.rf.w (Or.inl rfl)).tr hF3
      have hp4 := may_c (V := V) (b := b) (w := w) hb
      rw [← hp4] at hp3
      refine x_ifeq_b C dX12_mayGive_34 (tgt := 39) (by decide) (fun h34 => ?_) (fun h34 => ?_)
      · skip
        refine x_aload_n C 0 dX12_mayGive_39 rfl rfl ?_
        refine x_getr C ok_Model 42 34 (d := 56) dX12_mayGive_40 (lt67 hn rfl) rfl (by decide) rfl q_4_14 rfl (kz := 34) rfl (lr_42_34 hLR) ?_
        refine x_iload_n C 1 dX12_mayGive_43 rfl rfl ?_
        refine x_iconst C dX12_mayGive_44 ?_
        refine x_iast C 56 dX12_mayGive_45 (lt67 hn rfl) rfl (by refine ⟨?_, ?_⟩ <;> omega) (by first | assumption | (constructor <;> omega)) ?_
        refine x_iconst C dX12_mayGive_46 ?_
        refine x_zret C (Or.inl rfl) dX12_mayGive_47 ⟨False, _, bI_rf id, rfl, ?_, ?_, ?_⟩
        · exact hFV3.w (Or.inl rfl)
        · exact ⟨False.elim, fun q => h34 (hp3.mpr q.2.2)⟩
        · exact fun c a d => by (rw [u2_s]; by_cases e : c = b; (rw [e, u1_s]; exact ⟨fun _ => ⟨h7, False.elim⟩, fun _ => by decide⟩); (rw [u1_n e, hA3 c a (by rw [u2_n (by decide)]; exact d), u2_s, u1_n e]; exact ⟨fun q => ⟨q, False.elim⟩, fun q => q.1⟩))
      · skip
        refine x_iconst C dX12_mayGive_37 ?_
        refine x_zret C (Or.inr rfl) dX12_mayGive_38 ⟨True, _, bI_rt trivial, rfl, ?_, ?_, ?_⟩
        · exact hFV3
        · exact ⟨fun _ => ⟨h7, h16, hp3.mp h34⟩, fun _ => trivial⟩
        · exact fun c a d => by (rw [hA3 c a (by rw [u2_n (by decide)]; exact d), u2_s]; by_cases e : c = b; (rw [e, u1_s]; exact ⟨fun q => absurd q (by decide), fun q => absurd rfl (q.2 trivial)⟩); (rw [u1_n e]; exact ⟨fun q => ⟨q, fun _ => e⟩, fun q => q.1⟩))
    · skip
      refine x_iconst C dX12_mayGive_19 ?_
      refine x_zret C (Or.inl rfl) dX12_mayGive_20 ⟨False, _, bI_rf id, rfl, ?_, ?_, ?_⟩
      · exact FrG.rf
      · first | exact ⟨False.elim, fun q => absurd q.1 (by omega)⟩ | exact ⟨False.elim, fun q => absurd q.2.1 h16⟩
      · exact fun c _ _ => ⟨fun q => ⟨q, False.elim⟩, fun q => q.1⟩
