
set_option maxRecDepth 100000 in
set_option maxHeartbeats 4000000 in
theorem m_X11_commonDivisor (G : GS) (n : Nat) (V : Nat → Int → Int) (R : Nat → Int → Option Nat) (h : Int) (k : Int) (hh : 0 ≤ h ∧ h ≤ k) (hk : 1 ≤ k ∧ k ≤ 8) : Cn G yX11_commonDivisor cX11_commonDivisor 3 (some .int) (rmk 1 0 0 16) [.int (iI h), .int (iI k)] n V R 0 0 (fun vv uu => vv = some (.int (iI (Nat.gcd h.toNat k.toNat : Int))) ∧ uu = (n, V, R)) := by
  refine Cn.of (by decide) (Nat.le_of_ble_eq_true rfl) (fun K C hct => ?_)
  show Xw K G 0 0 _ n V R 0 [(0, .int (iI h)), (1, .int (iI k))] []
  refine x_iload_n C 1 dX11_commonDivisor_0 rfl rfl ?_
  refine x_istore_n C dX11_commonDivisor_1 rfl (by decide) (lv' := [(0, .int (iI h)), (1, .int (iI k)), (2, .int (iI k))]) rfl ?_
  have lp_2 : ∀ (fuel : Nat) (d : Int), (1 ≤ d ∧ d ≤ k) → (∀ e, d < e → e ≤ k → ¬ (h % e = 0 ∧ k % e = 0)) → (d) < (fuel : Int) → Xw K G 0 0 (EndQ K G 0 0 (fun vv uu => vv = some (.int (iI (Nat.gcd h.toNat k.toNat : Int))) ∧ uu = (n, V, R))) n V R 2 [(0, .int (iI h)), (1, .int (iI k)), (2, .int (iI d))] [] := by
    intro fuel2
    induction fuel2 with
    | zero => intro d hd hn2 hfu2; exfalso; omega
    | succ fuel2 ih2 =>
      intro d hd hn2 hfu2
      have m1 := Int.emod_nonneg h (show d ≠ 0 by omega)
      have m2 := Int.emod_lt_of_pos h (show 0 < d by omega)
      have m3 := Int.emod_nonneg k (show d ≠ 0 by omega)
      have m4 := Int.emod_lt_of_pos k (show 0 < d by omega)
      refine x_iload_n C 2 dX11_commonDivisor_2 rfl rfl ?_
      refine x_iconst C dX11_commonDivisor_3 ?_
      refine x_icmp_le C dX11_commonDivisor_4 (tgt := 27) (by decide) (by first | assumption | (constructor <;> omega)) (by first | assumption | (constructor <;> omega)) (fun h4 => ?_) (fun h4 => ?_)
      · skip
        refine x_iconst C dX11_commonDivisor_27 ?_
        refine x_iret C dX11_commonDivisor_28 ⟨congrArg (fun z => some (Value.int (iI z))) (by exact gcd_u hh hk (by omega) (fun e a b => hn2 e (by omega) b) (by omega) (by omega)), rfl⟩
      · skip
        refine x_iload_n C 0 dX11_commonDivisor_7 rfl rfl ?_
        refine x_iload_n C 2 dX11_commonDivisor_8 rfl rfl ?_
        refine x_irem C dX11_commonDivisor_9 (by first | assumption | (constructor <;> omega)) (by first | assumption | (constructor <;> omega)) (by omega) (by omega) ?_
        refine x_if_ne C dX11_commonDivisor_10 (tgt := 21) (by decide) (by first | assumption | (constructor <;> omega)) (fun h10 => ?_) (fun h10 => ?_)
        · skip
          refine x_iinc C 2 dX11_commonDivisor_21 rfl (by decide) (lv' := [(0, .int (iI h)), (1, .int (iI k)), (2, .int (iI (d + (-1))))]) rfl ?_
          refine x_goto C dX11_commonDivisor_24 (tgt := 2) (by decide) ?_
          exact ih2 ((d + (-1))) (by omega) (by exact fun e a b => by (by_cases w : e = d; (rw [w]; omega); exact hn2 e (by omega) b)) (by omega)
        · skip
          refine x_iload_n C 1 dX11_commonDivisor_13 rfl rfl ?_
          refine x_iload_n C 2 dX11_commonDivisor_14 rfl rfl ?_
          refine x_irem C dX11_commonDivisor_15 (by first | assumption | (constructor <;> omega)) (by first | assumption | (constructor <;> omega)) (by omega) (by omega) ?_
          refine x_if_ne C dX11_commonDivisor_16 (tgt := 21) (by decide) (by first | assumption | (constructor <;> omega)) (fun h16 => ?_) (fun h16 => ?_)
          · skip
            refine x_iinc C 2 dX11_commonDivisor_21 rfl (by decide) (lv' := [(0, .int (iI h)), (1, .int (iI k)), (2, .int (iI (d + (-1))))]) rfl ?_
            refine x_goto C dX11_commonDivisor_24 (tgt := 2) (by decide) ?_
            exact ih2 ((d + (-1))) (by omega) (by exact fun e a b => by (by_cases w : e = d; (rw [w]; omega); exact hn2 e (by omega) b)) (by omega)
          · skip
            refine x_iload_n C 2 dX11_commonDivisor_19 rfl rfl ?_
            refine x_iret C dX11_commonDivisor_20 ⟨congrArg (fun z => some (Value.int (iI z))) (by exact gcd_u hh hk hd hn2 (by assumption) (by assumption)), rfl⟩
  exact lp_2 ((k).toNat + 1) (k) (by omega) (by exact fun e a b => by omega) (by omega)
set_option maxRecDepth 100000 in
set_option maxHeartbeats 4000000 in
theorem m_X11_chance (G : GS) (n : Nat) (V : Nat → Int → Int) (R : Nat → Int → Option Nat) (lr : Int) (lt : Int) (L : Int) (f : Int → Int → Int) (m : Int) (g : Int) (pr : Int → Int) (seed : Int) (mm : Int) (w : Int) (p : Int) (hn : 67 ≤ n) (hLR : LR R) (hI : CInv n V R lr lt L f m g pr) (gmm : Rg mm) (gw : Rg w) (gp : Rg p) : Cn G yX11_chance cX11_chance 7 (some .int) (rmk 7 64 192 181) [.ref (aG G 0), .int (iI seed), .int (iI mm), .int (iI w), .int (iI p)] n V R 64 192 (fun vv uu => ∃ (r : Int), ∃ (n1 : Nat), ∃ (V1 : Nat → Int → Int), ∃ (R1 : Nat → Int → Option Nat), vv = some (.int (iI r)) ∧ uu = (n1, V1, R1) ∧ (n ≤ n1) ∧ (∀ q, q < 23 ∨ (34 < q ∧ q < n) → V1 q = V q) ∧ (∀ q, q ≠ 35 → R1 q = R q) ∧ (CInv n1 V1 R1 lr lt L f m g pr) ∧ (((L = 0 ∧ r = -3)) ∨ ((L ≠ 0 ∧ ¬ ((1 ≤ mm ∧ mm ≤ 8) ∧ 0 ≤ w ∧ (0 ≤ p ∧ p ≤ 1)) ∧ r = -2)) ∨ ((L ≠ 0 ∧ ((1 ≤ mm ∧ mm ≤ 8) ∧ 0 ≤ w ∧ (0 ≤ p ∧ p ≤ 1)) ∧ r = (if p = 0 then sm (fun x => bI (w ≤ dwV lr lt L f m pr g (wr (seed + x)) 2)) mm / (Nat.gcd (sm (fun x => bI (w ≤ dwV lr lt L f m pr g (wr (seed + x)) 2)) mm).toNat mm.toNat : Int) else mm / (Nat.gcd (sm (fun x => bI (w ≤ dwV lr lt L f m pr g (wr (seed + x)) 2)) mm).toNat mm.toNat : Int)))))) := by
  obtain ⟨ea0, ea1, ea2, ea3, ea5⟩ := hI.1.1
  obtain ⟨eb0, eb1, eb2, eb3, eb5⟩ := hI.1.2.1
  refine Cn.of (by decide) (Nat.le_of_ble_eq_true rfl) (fun K C hct => ?_)
  show Xw K G 0 0 _ n V R 0 [(0, .ref (aG G 0)), (1, .int (iI seed)), (2, .int (iI mm)), (3, .int (iI w)), (4, .int (iI p))] []
  refine x_aload_n C 0 dX11_chance_0 rfl rfl ?_
  refine x_getr C ok_Class 0 0 (d := 1) dX11_chance_1 (lt67 hn rfl) rfl (by decide) rfl q_0_16 rfl (kz := 0) rfl (lr_0_0 hLR) ?_
  refine x_runU (r_callV C ok_Yard 1 (lt67 hn rfl) rfl (ce_X10_hasLog) (m_X10_hasLog G n V R (1) hn hLR (by first | assumption | omega | decide)) rfl dX11_chance_4 q_8_6 q_8_7 q_8_8 rfl rfl ⟨Nat.le_of_ble_eq_true rfl, Nat.le_of_ble_eq_true rfl⟩ ⟨rfl, rfl⟩ ⟨Nat.le_of_ble_eq_true rfl, Nat.le_of_ble_eq_true rfl⟩ (Nat.le_of_ble_eq_true rfl)) (fun v4 u4 hp4 => ?_)
  obtain ⟨rfl, rfl⟩ := hp4
  show Xw K G 0 0 _ n V R 7 [(0, .ref (aG G 0)), (1, .int (iI seed)), (2, .int (iI mm)), (3, .int (iI w)), (4, .int (iI p))] [.int (iI (bI (0 < V 1 2)))]
  refine x_ifne_b C dX11_chance_7 (tgt := 13) (by decide) (fun h7 => ?_) (fun h7 => ?_)
  · skip
    refine x_iload_n C 2 dX11_chance_13 rfl rfl ?_
    refine x_iconst C dX11_chance_14 ?_
    refine x_bipush C dX11_chance_15 (w := 8) (by decide) ?_
    refine x_runU (r_callS C (ce_X11_within) (m_X11_within G n V R (mm) (1) (8) (by first | assumption | omega | decide) (by first | assumption | omega | decide) (by first | assumption | omega | decide)) dX11_chance_17 q_5_4 q_5_5 rfl rfl ⟨Nat.le_of_ble_eq_true rfl, Nat.le_of_ble_eq_true rfl⟩ ⟨rfl, rfl⟩ ⟨Nat.le_of_ble_eq_true rfl, Nat.le_of_ble_eq_true rfl⟩ (Nat.le_of_ble_eq_true rfl)) (fun v17 u17 hp17 => ?_)
    obtain ⟨rfl, rfl⟩ := hp17
    show Xw K G 0 0 _ n V R 20 [(0, .ref (aG G 0)), (1, .int (iI seed)), (2, .int (iI mm)), (3, .int (iI w)), (4, .int (iI p))] [.int (iI (bI (1 ≤ mm ∧ mm ≤ 8)))]
    refine x_ifeq_b C dX11_chance_20 (tgt := 37) (by decide) (fun h20 => ?_) (fun h20 => ?_)
    · skip
      refine x_bipush C dX11_chance_37 (w := -2) (by decide) ?_
      refine x_wid (cells' := 64) (slots' := 192) (by first | decide | omega) (by first | decide | omega) ?_
      refine x_iret C dX11_chance_39 ⟨_, _, _, _, rfl, rfl, ?_, ?_, ?_, ?_, ?_⟩
      · first | exact Nat.le_refl _ | exact hcc.2.2
      · first | exact fun _ _ => rfl | exact hV
      · first | exact fun _ _ => rfl | exact hR
      · first | exact hI | exact hC2
      · first | exact Or.inl ⟨by omega, rfl⟩ | exact Or.inr (Or.inl ⟨by omega, by omega, rfl⟩) | exact Or.inr (Or.inr ⟨by omega, by omega, by first | (rw [if_pos (by omega), show mm = j by omega, ← hc.1]) | (rw [if_neg (by omega), show mm = j by omega, ← hc.1])⟩)
    · skip
      refine x_iload_n C 3 dX11_chance_23 rfl rfl ?_
      refine x_if_lt C dX11_chance_24 (tgt := 37) (by decide) (by first | assumption | (constructor <;> omega)) (fun h24 => ?_) (fun h24 => ?_)
      · skip
        refine x_bipush C dX11_chance_37 (w := -2) (by decide) ?_
        refine x_wid (cells' := 64) (slots' := 192) (by first | decide | omega) (by first | decide | omega) ?_
        refine x_iret C dX11_chance_39 ⟨_, _, _, _, rfl, rfl, ?_, ?_, ?_, ?_, ?_⟩
        · first | exact Nat.le_refl _ | exact hcc.2.2
        · first | exact fun _ _ => rfl | exact hV
        · first | exact fun _ _ => rfl | exact hR
        · first | exact hI | exact hC2
        · first | exact Or.inl ⟨by omega, rfl⟩ | exact Or.inr (Or.inl ⟨by omega, by omega, rfl⟩) | exact Or.inr (Or.inr ⟨by omega, by omega, by first | (rw [if_pos (by omega), show mm = j by omega, ← hc.1]) | (rw [if_neg (by omega), show mm = j by omega, ← hc.1])⟩)
      · skip
        refine x_iload C 4 dX11_chance_27 rfl ?_
        refine x_iconst C dX11_chance_29 ?_
        refine x_iconst C dX11_chance_30 ?_
        refine x_runU (r_callS C (ce_X11_within) (m_X11_within G n V R (p) (0) (1) (by first | assumption | omega | decide) (by first | assumption | omega | decide) (by first | assumption | omega | decide)) dX11_chance_31 q_5_4 q_5_5 rfl rfl ⟨Nat.le_of_ble_eq_true rfl, Nat.le_of_ble_eq_true rfl⟩ ⟨rfl, rfl⟩ ⟨Nat.le_of_ble_eq_true rfl, Nat.le_of_ble_eq_true rfl⟩ (Nat.le_of_ble_eq_true rfl)) (fun v31 u31 hp31 => ?_)
        obtain ⟨rfl, rfl⟩ := hp31
        show Xw K G 0 0 _ n V R 34 [(0, .ref (aG G 0)), (1, .int (iI seed)), (2, .int (iI mm)), (3, .int (iI w)), (4, .int (iI p))] [.int (iI (bI (0 ≤ p ∧ p ≤ 1)))]
        refine x_ifne_b C dX11_chance_34 (tgt := 40) (by decide) (fun h34 => ?_) (fun h34 => ?_)
        · skip
          refine x_iconst C dX11_chance_40 ?_
          refine x_istore C dX11_chance_41 (by decide) (lv' := [(0, .ref (aG G 0)), (1, .int (iI seed)), (2, .int (iI mm)), (3, .int (iI w)), (4, .int (iI p)), (5, .int (iI 0))]) rfl ?_
          refine x_iconst C dX11_chance_43 ?_
          refine x_istore C dX11_chance_44 (by decide) (lv' := [(0, .ref (aG G 0)), (1, .int (iI seed)), (2, .int (iI mm)), (3, .int (iI w)), (4, .int (iI p)), (5, .int (iI 0)), (6, .int (iI 0))]) rfl ?_
          have lp_46 : ∀ (fuel : Nat) (j : Int) (c : Int) (n2 : Nat) (V2 : Nat → Int → Int) (R2 : Nat → Int → Option Nat) (cc : Nat) (ss : Nat), (0 ≤ j ∧ j ≤ mm) → (c = sm (fun x => bI (w ≤ dwV lr lt L f m pr g (wr (seed + x)) 2)) j ∧ 0 ≤ c ∧ c ≤ j) → (cc = 8 * j.toNat ∧ ss = 24 * j.toNat ∧ n ≤ n2) → (∀ q, q < 23 ∨ (34 < q ∧ q < n) → V2 q = V q) → (∀ q, q ≠ 35 → R2 q = R q) → (CInv n2 V2 R2 lr lt L f m g pr) → (mm + 1 - j) < (fuel : Int) → Xw K G cc ss (EndQ K G 64 192 (fun vv uu => ∃ (r : Int), ∃ (n1 : Nat), ∃ (V1 : Nat → Int → Int), ∃ (R1 : Nat → Int → Option Nat), vv = some (.int (iI r)) ∧ uu = (n1, V1, R1) ∧ (n ≤ n1) ∧ (∀ q, q < 23 ∨ (34 < q ∧ q < n) → V1 q = V q) ∧ (∀ q, q ≠ 35 → R1 q = R q) ∧ (CInv n1 V1 R1 lr lt L f m g pr) ∧ (((L = 0 ∧ r = -3)) ∨ ((L ≠ 0 ∧ ¬ ((1 ≤ mm ∧ mm ≤ 8) ∧ 0 ≤ w ∧ (0 ≤ p ∧ p ≤ 1)) ∧ r = -2)) ∨ ((L ≠ 0 ∧ ((1 ≤ mm ∧ mm ≤ 8) ∧ 0 ≤ w ∧ (0 ≤ p ∧ p ≤ 1)) ∧ r = (if p = 0 then sm (fun x => bI (w ≤ dwV lr lt L f m pr g (wr (seed + x)) 2)) mm / (Nat.gcd (sm (fun x => bI (w ≤ dwV lr lt L f m pr g (wr (seed + x)) 2)) mm).toNat mm.toNat : Int) else mm / (Nat.gcd (sm (fun x => bI (w ≤ dwV lr lt L f m pr g (wr (seed + x)) 2)) mm).toNat mm.toNat : Int))))))) n2 V2 R2 46 [(0, .ref (aG G 0)), (1, .int (iI seed)), (2, .int (iI mm)), (3, .int (iI w)), (4, .int (iI p)), (5, .int (iI c)), (6, .int (iI j))] [] := by
            intro fuel46
            induction fuel46 with
            | zero => intro j c n2 V2 R2 cc ss hj hc hcc hV hR hC2 hfu46; exfalso; omega
            | succ fuel46 ih46 =>
              intro j c n2 V2 R2 cc ss hj hc hcc hV hR hC2 hfu46
              have hLR2 := LR_fr (a := 34) (Or.inl rfl) hLR hR
              have hn2 : 67 ≤ n2 := by omega
              refine x_iload C 6 dX11_chance_46 rfl ?_
              refine x_iload_n C 2 dX11_chance_48 rfl rfl ?_
              refine x_icmp_ge C dX11_chance_49 (tgt := 78) (by decide) (by first | assumption | (constructor <;> omega)) (by first | assumption | (constructor <;> omega)) (fun h49 => ?_) (fun h49 => ?_)
              · skip
                refine x_iload C 5 dX11_chance_78 rfl ?_
                refine x_iload_n C 2 dX11_chance_80 rfl rfl ?_
                refine x_runU (r_callS C (ce_X11_commonDivisor) (m_X11_commonDivisor G n2 V2 R2 (c) (mm) (by omega) (by omega)) dX11_chance_81 q_47_2 q_47_3 rfl rfl ⟨Nat.le_of_ble_eq_true rfl, Nat.le_of_ble_eq_true rfl⟩ ⟨rfl, rfl⟩ ⟨(show cc + 0 ≤ 64 from by omega), (show ss + 0 ≤ 192 from by omega)⟩ (Nat.le_of_ble_eq_true rfl)) (fun v81 u81 hp81 => ?_)
                obtain ⟨rfl, rfl⟩ := hp81
                show Xw K G cc ss _ n2 V2 R2 84 [(0, .ref (aG G 0)), (1, .int (iI seed)), (2, .int (iI mm)), (3, .int (iI w)), (4, .int (iI p)), (5, .int (iI c)), (6, .int (iI j))] [.int (iI (Nat.gcd c.toNat mm.toNat : Int))]
                have hgp := gcd_pos (h := c) (k := mm) (by omega)
                refine x_istore C dX11_chance_84 (by decide) (lv' := [(0, .ref (aG G 0)), (1, .int (iI seed)), (2, .int (iI mm)), (3, .int (iI w)), (4, .int (iI p)), (5, .int (iI c)), (6, .int (iI (Nat.gcd c.toNat mm.toNat : Int)))]) rfl ?_
                refine x_iload C 4 dX11_chance_86 rfl ?_
                refine x_if_ne C dX11_chance_88 (tgt := 99) (by decide) (by first | assumption | (constructor <;> omega)) (fun h88 => ?_) (fun h88 => ?_)
                · skip
                  refine x_iload_n C 2 dX11_chance_99 rfl rfl ?_
                  refine x_iload C 6 dX11_chance_100 rfl ?_
                  refine x_idiv C dX11_chance_102 (by first | assumption | (constructor <;> omega)) (by first | assumption | (constructor <;> omega)) (by omega) (by omega) ?_
                  refine x_wid (cells' := 64) (slots' := 192) (by first | decide | omega) (by first | decide | omega) ?_
                  refine x_iret C dX11_chance_103 ⟨_, _, _, _, rfl, rfl, ?_, ?_, ?_, ?_, ?_⟩
                  · first | exact Nat.le_refl _ | exact hcc.2.2
                  · first | exact fun _ _ => rfl | exact hV
                  · first | exact fun _ _ => rfl | exact hR
                  · first | exact hI | exact hC2
                  · first | exact Or.inl ⟨by omega, rfl⟩ | exact Or.inr (Or.inl ⟨by omega, by omega, rfl⟩) | exact Or.inr (Or.inr ⟨by omega, by omega, by first | (rw [if_pos (by omega), show mm = j by omega, ← hc.1]) | (rw [if_neg (by omega), show mm = j by omega, ← hc.1])⟩)
                · skip
                  refine x_iload C 5 dX11_chance_91 rfl ?_
                  refine x_iload C 6 dX11_chance_93 rfl ?_
                  refine x_idiv C dX11_chance_95 (by first | assumption | (constructor <;> omega)) (by first | assumption | (constructor <;> omega)) (by omega) (by omega) ?_
                  refine x_goto C dX11_chance_96 (tgt := 103) (by decide) ?_
                  refine x_wid (cells' := 64) (slots' := 192) (by first | decide | omega) (by first | decide | omega) ?_
                  refine x_iret C dX11_chance_103 ⟨_, _, _, _, rfl, rfl, ?_, ?_, ?_, ?_, ?_⟩
                  · first | exact Nat.le_refl _ | exact hcc.2.2
                  · first | exact fun _ _ => rfl | exact hV
                  · first | exact fun _ _ => rfl | exact hR
                  · first | exact hI | exact hC2
                  · first | exact Or.inl ⟨by omega, rfl⟩ | exact Or.inr (Or.inl ⟨by omega, by omega, rfl⟩) | exact Or.inr (Or.inr ⟨by omega, by omega, by first | (rw [if_pos (by omega), show mm = j by omega, ← hc.1]) | (rw [if_neg (by omega), show mm = j by omega, ← hc.1])⟩)
              · skip
                refine x_aload_n C 0 dX11_chance_52 rfl rfl ?_
                refine x_aload_n C 0 dX11_chance_53 rfl rfl ?_
                refine x_iload_n C 1 dX11_chance_54 rfl rfl ?_
                refine x_iload C 6 dX11_chance_55 rfl ?_
                refine x_iadd C dX11_chance_57 ?_
                refine x_wr ?_
                refine x_iconst C dX11_chance_58 ?_
                refine x_runU (r_callV C ok_Class 0 (by omega) rfl (ce_X11_drawFaults) (m_X11_drawFaults G n2 V2 R2 (lr) (lt) (L) (f) (m) (g) (pr) (wr (seed + j)) (2) (by exact hn2) (by first | exact hLR3 | exact hLR2) (by exact hC2) (by exact wr_Rg _) (by omega)) rfl dX11_chance_59 q_46_0 q_46_1 q_46_2 rfl rfl ⟨Nat.le_of_ble_eq_true rfl, Nat.le_of_ble_eq_true rfl⟩ ⟨rfl, rfl⟩ ⟨(show cc + 8 ≤ 64 from by omega), (show ss + 24 ≤ 192 from by omega)⟩ (Nat.le_of_ble_eq_true rfl)) (fun v59 u59 hp59 => ?_)
                obtain ⟨r_59, n1_59, V1_59, R1_59, rfl, rfl, hq59_0⟩ := hp59
                show Xw K G (cc + 8) (ss + 24) _ n1_59 V1_59 R1_59 62 [(0, .ref (aG G 0)), (1, .int (iI seed)), (2, .int (iI mm)), (3, .int (iI w)), (4, .int (iI p)), (5, .int (iI c)), (6, .int (iI j))] [.int (iI r_59), .ref (aG G 0)]
                have hC3 := hC2.grow hq59_0.1 hq59_0.2.1 hq59_0.2.2.1
                have hLR3 := LR_fr (a := 34) (Or.inl rfl) hLR2 hq59_0.2.2.1
                have hn3 : 67 ≤ n1_59 := by have := hq59_0.1; omega
                have hcb := hq59_0.2.2.2.1
                have hdw := dw_eq (lr := lr) (lt := lt) (L := L) (g := g) (pr := pr) hq59_0
                refine x_runU (r_callV C ok_Class 0 (by omega) rfl (ce_X11_worthInThought) (m_X11_worthInThought G n1_59 V1_59 R1_59 (lr) (lt) (L) (f) (m) (g) (pr) (r_59) (by exact hn3) (by exact hLR3) (by exact hC3) (by omega) (by first | assumption | omega | decide) (by exact hq59_0.2.2.2.2.1)) rfl dX11_chance_62 q_45_4 q_45_5 q_45_6 rfl rfl ⟨Nat.le_of_ble_eq_true rfl, Nat.le_of_ble_eq_true rfl⟩ ⟨rfl, rfl⟩ ⟨(show (cc + 8) + 0 ≤ 64 from by omega), (show (ss + 24) + 0 ≤ 192 from by omega)⟩ (Nat.le_of_ble_eq_true rfl)) (fun v62 u62 hp62 => ?_)
                obtain ⟨V1_62, rfl, rfl, hq62_0, hq62_1⟩ := hp62
                show Xw K G (cc + 8) (ss + 24) _ n1_59 V1_62 R1_59 65 [(0, .ref (aG G 0)), (1, .int (iI seed)), (2, .int (iI mm)), (3, .int (iI w)), (4, .int (iI p)), (5, .int (iI c)), (6, .int (iI j))] [.int (iI ((opT lr lt L (FR V1_59 R1_59 35) r_59 pr g (-1)).1 0))]
                have hbw := (opT_b (r := lr) (t := lt) (L := L) (f := FR V1_59 R1_59 35) (m := r_59) (pr := pr) (g := g) (y := -1) (by decide)).1 0
                refine x_iload_n C 3 dX11_chance_65 rfl rfl ?_
                refine x_icmp_lt C dX11_chance_66 (tgt := 72) (by decide) (by first | assumption | (constructor <;> omega)) (by first | assumption | (constructor <;> omega)) (fun h66 => ?_) (fun h66 => ?_)
                · skip
                  refine x_iinc C 6 dX11_chance_72 rfl (by decide) (lv' := [(0, .ref (aG G 0)), (1, .int (iI seed)), (2, .int (iI mm)), (3, .int (iI w)), (4, .int (iI p)), (5, .int (iI c)), (6, .int (iI (j + 1)))]) rfl ?_
                  refine x_goto C dX11_chance_75 (tgt := 46) (by decide) ?_
                  exact ih46 ((j + 1)) (c) (n1_59) (V1_62) (R1_59) (cc + 8) (ss + 24) (by omega) (by refine ⟨?_, by omega, by omega⟩; rw [sm_s hj.1, ← hc.1, ← hdw]; first | (rw [bI_t (by assumption)]) | (rw [bI_f (by omega)]; omega)) (by exact ⟨by omega, by omega, by have := hq59_0.1; omega⟩) (by exact fun q a => (hq62_0 q (by omega)).trans ((hq59_0.2.1 q (by omega)).trans (hV q a))) (by exact fun q a => (hq59_0.2.2.1 q a).trans (hR q a)) (by exact hq62_1) (by omega)
                · skip
                  refine x_iinc C 5 dX11_chance_69 rfl (by decide) (lv' := [(0, .ref (aG G 0)), (1, .int (iI seed)), (2, .int (iI mm)), (3, .int (iI w)), (4, .int (iI p)), (5, .int (iI (c + 1))), (6, .int (iI j))]) rfl ?_
                  refine x_iinc C 6 dX11_chance_72 rfl (by decide) (lv' := [(0, .ref (aG G 0)), (1, .int (iI seed)), (2, .int (iI mm)), (3, .int (iI w)), (4, .int (iI p)), (5, .int (iI (c + 1))), (6, .int (iI (j + 1)))]) rfl ?_
                  refine x_goto C dX11_chance_75 (tgt := 46) (by decide) ?_
                  exact ih46 ((j + 1)) ((c + 1)) (n1_59) (V1_62) (R1_59) (cc + 8) (ss + 24) (by omega) (by refine ⟨?_, by omega, by omega⟩; rw [sm_s hj.1, ← hc.1, ← hdw]; first | (rw [bI_t (by assumption)]) | (rw [bI_f (by omega)]; omega)) (by exact ⟨by omega, by omega, by have := hq59_0.1; omega⟩) (by exact fun q a => (hq62_0 q (by omega)).trans ((hq59_0.2.1 q (by omega)).trans (hV q a))) (by exact fun q a => (hq59_0.2.2.1 q a).trans (hR q a)) (by exact hq62_1) (by omega)
          exact lp_46 ((mm + 1 - 0).toNat + 1) (0) (0) (n) (V) (R) (0) (0) (by omega) (by exact ⟨rfl, by omega, by omega⟩) (by exact ⟨rfl, rfl, Nat.le_refl _⟩) (by exact fun _ _ => rfl) (by exact fun _ _ => rfl) (by exact hI) (by omega)
        · skip
          refine x_bipush C dX11_chance_37 (w := -2) (by decide) ?_
          refine x_wid (cells' := 64) (slots' := 192) (by first | decide | omega) (by first | decide | omega) ?_
          refine x_iret C dX11_chance_39 ⟨_, _, _, _, rfl, rfl, ?_, ?_, ?_, ?_, ?_⟩
          · first | exact Nat.le_refl _ | exact hcc.2.2
          · first | exact fun _ _ => rfl | exact hV
          · first | exact fun _ _ => rfl | exact hR
          · first | exact hI | exact hC2
          · first | exact Or.inl ⟨by omega, rfl⟩ | exact Or.inr (Or.inl ⟨by omega, by omega, rfl⟩) | exact Or.inr (Or.inr ⟨by omega, by omega, by first | (rw [if_pos (by omega), show mm = j by omega, ← hc.1]) | (rw [if_neg (by omega), show mm = j by omega, ← hc.1])⟩)
  · skip
    refine x_bipush C dX11_chance_10 (w := -3) (by decide) ?_
    refine x_wid (cells' := 64) (slots' := 192) (by first | decide | omega) (by first | decide | omega) ?_
    refine x_iret C dX11_chance_12 ⟨_, _, _, _, rfl, rfl, ?_, ?_, ?_, ?_, ?_⟩
    · first | exact Nat.le_refl _ | exact hcc.2.2
    · first | exact fun _ _ => rfl | exact hV
    · first | exact fun _ _ => rfl | exact hR
    · first | exact hI | exact hC2
    · first | exact Or.inl ⟨by omega, rfl⟩ | exact Or.inr (Or.inl ⟨by omega, by omega, rfl⟩) | exact Or.inr (Or.inr ⟨by omega, by omega, by first | (rw [if_pos (by omega), show mm = j by omega, ← hc.1]) | (rw [if_neg (by omega), show mm = j by omega, ← hc.1])⟩)
set_option maxRecDepth 100000 in
set_option maxHeartbeats 4000000 in
theorem m_X11_firstOtherwise (G : GS) (n : Nat) (V : Nat → Int → Int) (R : Nat → Int → Option Nat) (s : Int) (sv : Nat) (len : Int) (gr : Int → Int) (hn : 67 ≤ n) (hLR : LR R) (hs : 0 ≤ s ∧ s ≤ 3) (hsz : ∀ z, 0 ≤ z → z ≤ 3 → (-1 ≤ V 37 z ∧ V 37 z ≤ 1) ∧ (0 ≤ V 38 z ∧ V 38 z ≤ 40)) (hsv : sv = 11 ∨ sv = 23) (hlen : V sv 2 = len ∧ 0 ≤ len ∧ len ≤ 12) (hgr : ∀ q : Int, 0 ≤ q → q < len → (0 ≤ V (sv + 11) q ∧ V (sv + 11) q ≤ 11) ∧ V (sv + 10) (V (sv + 11) q) = gr q) : Cn G yX11_firstOtherwise cX11_firstOtherwise 6 (some .int) (rmk 4 0 0 80) [.ref (aG G 0), .int (iI s), .ref (aG G sv)] n V R 0 0 (fun vv uu => ∃ (r : Int), vv = some (.int (iI r)) ∧ uu = (n, V, R) ∧ (othP gr (fun q => V 39 (40 * s + q)) len (V 38 s) r)) := by
  have hz := (hsz s hs.1 hs.2).2
  refine Cn.of (by decide) (Nat.le_of_ble_eq_true rfl) (fun K C hct => ?_)
  show Xw K G 0 0 _ n V R 0 [(0, .ref (aG G 0)), (1, .int (iI s)), (2, .ref (aG G sv))] []
  refine x_aload_n C 0 dX11_firstOtherwise_0 rfl rfl ?_
  refine x_getr C ok_Class 0 9 (d := 38) dX11_firstOtherwise_1 (lt67 hn rfl) rfl (by decide) rfl q_1_6 rfl (kz := 9) rfl (lr_0_9 hLR) ?_
  refine x_iload_n C 1 dX11_firstOtherwise_4 rfl rfl ?_
  refine x_iald C 38 dX11_firstOtherwise_5 (lt67 hn rfl) rfl (by refine ⟨?_, ?_⟩ <;> omega) (fun rg5 => ?_)
  refine x_istore_n C dX11_firstOtherwise_6 rfl (by decide) (lv' := [(0, .ref (aG G 0)), (1, .int (iI s)), (2, .ref (aG G sv)), (3, .int (iI (V 38 s)))]) rfl ?_
  refine x_iload_n C 3 dX11_firstOtherwise_7 rfl rfl ?_
  refine x_aload_n C 2 dX11_firstOtherwise_8 rfl rfl ?_
  refine x_geti C ok_Saw sv 2 dX11_firstOtherwise_9 (ltS hsv hn (by decide) : sv + 0 < n) (tbS_0 hsv) (by decide) rfl q_36_7 rfl (kz := 2) rfl (fun rg9 => ?_)
  refine x_min C dX11_firstOtherwise_12 q_47_23 q_10_5 q_5_22 q_10_6 ⟨Nat.le_of_ble_eq_true rfl, Nat.le_of_ble_eq_true rfl⟩ ⟨Nat.zero_le _, Nat.zero_le _⟩ (by first | assumption | (constructor <;> omega)) (by first | assumption | (constructor <;> omega)) ?_
  refine x_istore C dX11_firstOtherwise_15 (by decide) (lv' := [(0, .ref (aG G 0)), (1, .int (iI s)), (2, .ref (aG G sv)), (3, .int (iI (V 38 s))), (4, .int (iI (min (V 38 s) (V sv 2))))]) rfl ?_
  refine x_iconst C dX11_firstOtherwise_17 ?_
  refine x_istore C dX11_firstOtherwise_18 (by decide) (lv' := [(0, .ref (aG G 0)), (1, .int (iI s)), (2, .ref (aG G sv)), (3, .int (iI (V 38 s))), (4, .int (iI (min (V 38 s) (V sv 2)))), (5, .int (iI 0))]) rfl ?_
  have lp_20 : ∀ (fuel : Nat) (q : Int), (0 ≤ q ∧ q ≤ min (V 38 s) len) → (∀ x : Int, 0 ≤ x → x < q → (fun q => V 39 (40 * s + q)) x = gr x) → ((14 : Int) - q) < (fuel : Int) → Xw K G 0 0 (EndQ K G 0 0 (fun vv uu => ∃ (r : Int), vv = some (.int (iI r)) ∧ uu = (n, V, R) ∧ (othP gr (fun q => V 39 (40 * s + q)) len (V 38 s) r))) n V R 20 [(0, .ref (aG G 0)), (1, .int (iI s)), (2, .ref (aG G sv)), (3, .int (iI (V 38 s))), (4, .int (iI (min (V 38 s) (V sv 2)))), (5, .int (iI q))] [] := by
    intro fuel20
    induction fuel20 with
    | zero => intro q hq hE hfu20; exfalso; omega
    | succ fuel20 ih20 =>
      intro q hq hE hfu20
      refine x_iload C 5 dX11_firstOtherwise_20 rfl ?_
      refine x_iload C 4 dX11_firstOtherwise_22 rfl ?_
      refine x_icmp_ge C dX11_firstOtherwise_24 (tgt := 59) (by decide) (by first | assumption | (constructor <;> omega)) (by first | assumption | (constructor <;> omega)) (fun h24 => ?_) (fun h24 => ?_)
      · skip
        refine x_iload_n C 3 dX11_firstOtherwise_59 rfl rfl ?_
        refine x_aload_n C 2 dX11_firstOtherwise_60 rfl rfl ?_
        refine x_geti C ok_Saw sv 2 dX11_firstOtherwise_61 (ltS hsv hn (by decide) : sv + 0 < n) (tbS_0 hsv) (by decide) rfl q_36_7 rfl (kz := 2) rfl (fun rg61 => ?_)
        refine x_icmp_ne C dX11_firstOtherwise_64 (tgt := 71) (by decide) (by first | assumption | (constructor <;> omega)) (by first | assumption | (constructor <;> omega)) (fun h64 => ?_) (fun h64 => ?_)
        · skip
          refine x_iload C 4 dX11_firstOtherwise_71 rfl ?_
          refine x_iret C dX11_firstOtherwise_73 ⟨_, rfl, rfl, ?_⟩
          · exact Or.inr ⟨fun x a b c => hE x a (by omega), by first | (rw [if_pos (by omega)]; done) | (rw [if_neg (by omega)]; omega)⟩
        · skip
          refine x_iconst C dX11_firstOtherwise_67 ?_
          refine x_goto C dX11_firstOtherwise_68 (tgt := 73) (by decide) ?_
          refine x_iret C dX11_firstOtherwise_73 ⟨_, rfl, rfl, ?_⟩
          · exact Or.inr ⟨fun x a b c => hE x a (by omega), by first | (rw [if_pos (by omega)]; done) | (rw [if_neg (by omega)]; omega)⟩
      · skip
        refine x_aload_n C 0 dX11_firstOtherwise_27 rfl rfl ?_
        refine x_getr C ok_Class 0 10 (d := 39) dX11_firstOtherwise_28 (lt67 hn rfl) rfl (by decide) rfl q_1_8 rfl (kz := 10) rfl (lr_0_10 hLR) ?_
        refine x_bipush C dX11_firstOtherwise_31 (w := 40) (by decide) ?_
        refine x_iload_n C 1 dX11_firstOtherwise_33 rfl rfl ?_
        refine x_imul C dX11_firstOtherwise_34 ?_
        refine x_iload C 5 dX11_firstOtherwise_35 rfl ?_
        refine x_iadd C dX11_firstOtherwise_37 ?_
        refine x_lald C 39 dX11_firstOtherwise_38 (lt67 hn rfl) rfl (by refine ⟨?_, ?_⟩ <;> omega) (fun rg38 => ?_)
        have hg1 := hgr q (by omega) (by omega)
        refine x_aload_n C 2 dX11_firstOtherwise_39 rfl rfl ?_
        refine x_iload C 5 dX11_firstOtherwise_40 rfl ?_
        refine x_runU (r_callV C ok_Saw sv (ltS hsv hn (by decide) : sv + 0 < n) (tbS_0 hsv) (ce_X6_gradeAt) (m_X6_gradeAt G n V R (sv) (q) hn hLR (by first | assumption | omega | decide) (by first | assumption | omega | decide) (by exact hg1.1)) rfl dX11_firstOtherwise_42 q_37_9 q_37_10 q_37_11 rfl rfl ⟨Nat.le_of_ble_eq_true rfl, Nat.le_of_ble_eq_true rfl⟩ ⟨rfl, rfl⟩ ⟨Nat.le_of_ble_eq_true rfl, Nat.le_of_ble_eq_true rfl⟩ (Nat.le_of_ble_eq_true rfl)) (fun v42 u42 hp42 => ?_)
        obtain ⟨rfl, rfl⟩ := hp42
        show Xw K G 0 0 _ n V R 45 [(0, .ref (aG G 0)), (1, .int (iI s)), (2, .ref (aG G sv)), (3, .int (iI (V 38 s))), (4, .int (iI (min (V 38 s) (V sv 2)))), (5, .int (iI q))] [.int (iI (V (sv + 10) (V (sv + 11) q))), .long (jI (V 39 ((40 * s) + q)))]
        refine x_rg (fun hRg => ?_)
        have hgR : Rl (V (sv + 10) (V (sv + 11) q)) := (hRg _ _).1
        have hgI : Rg (V (sv + 10) (V (sv + 11) q)) := (hRg _ _).2 (by rw [tbS_10 hsv]; decide)
        refine x_i2l C dX11_firstOtherwise_45 (by first | assumption | (constructor <;> omega)) ?_
        refine x_lcmp C dX11_firstOtherwise_46 (by first | assumption | (constructor <;> omega)) (by first | assumption | (constructor <;> omega)) ?_
        refine x_zcmp_eq C dX11_firstOtherwise_47 (tgt := 53) (by decide) (fun h47 => ?_) (fun h47 => ?_)
        · skip
          refine x_iinc C 5 dX11_firstOtherwise_53 rfl (by decide) (lv' := [(0, .ref (aG G 0)), (1, .int (iI s)), (2, .ref (aG G sv)), (3, .int (iI (V 38 s))), (4, .int (iI (min (V 38 s) (V sv 2)))), (5, .int (iI (q + 1)))]) rfl ?_
          refine x_goto C dX11_firstOtherwise_56 (tgt := 20) (by decide) ?_
          exact ih20 ((q + 1)) (by omega) (by exact fun x a b => by (by_cases e : x = q; (rw [e, ← hg1.2]; assumption); exact hE x a (by omega))) (by omega)
        · skip
          refine x_iload C 5 dX11_firstOtherwise_50 rfl ?_
          refine x_iret C dX11_firstOtherwise_52 ⟨_, rfl, rfl, ?_⟩
          · exact Or.inl ⟨by omega, by omega, by omega, by rw [← hg1.2]; assumption, hE⟩
  exact lp_20 (((14 : Int) - 0).toNat + 1) (0) (by omega) (by exact fun x a b => by omega) (by omega)
