
set_option maxRecDepth 100000 in
set_option maxHeartbeats 4000000 in
theorem m_X11_wrongPlace (G : GS) (n : Nat) (V : Nat → Int → Int) (R : Nat → Int → Option Nat) (m : Int) (hn : 67 ≤ n) (hLR : LR R) (hm : 0 ≤ m ∧ m ≤ 40) (hby : ∀ z, 0 ≤ z → z < m → 0 ≤ V 36 z ∧ V 36 z ≤ 255) : Cn G yX11_wrongPlace cX11_wrongPlace 5 (some .int) (rmk 7 0 0 148) [.ref (aG G 0), .int (iI m)] n V R 0 0 (fun vv uu => vv = some (.int (iI (prs (V 36) m (skS (V 36) m 0)).2)) ∧ uu = (n, V, R)) := by
  refine Cn.of (by decide) (Nat.le_of_ble_eq_true rfl) (fun K C hct => ?_)
  show Xw K G 0 0 _ n V R 0 [(0, .ref (aG G 0)), (1, .int (iI m))] []
  refine x_iconst C dX11_wrongPlace_0 ?_
  refine x_istore_n C dX11_wrongPlace_1 rfl (by decide) (lv' := [(0, .ref (aG G 0)), (1, .int (iI m)), (2, .int (iI 0))]) rfl ?_
  refine x_iconst C dX11_wrongPlace_2 ?_
  refine x_istore_n C dX11_wrongPlace_3 rfl (by decide) (lv' := [(0, .ref (aG G 0)), (1, .int (iI m)), (2, .int (iI 0)), (3, .int (iI 0))]) rfl ?_
  refine x_iconst C dX11_wrongPlace_4 ?_
  refine x_istore C dX11_wrongPlace_5 (by decide) (lv' := [(0, .ref (aG G 0)), (1, .int (iI m)), (2, .int (iI 0)), (3, .int (iI 0)), (4, .int (iI 0))]) rfl ?_
  have lp_7 : ∀ (fuel : Nat) (q : Int) (a : Int) (j : Int), (0 ≤ j ∧ j ≤ m) → ((0 ≤ q ∧ q ≤ 3) ∧ (a = 0 ∨ a = 1)) → (AutI (V 36) m (prs (V 36) m (skS (V 36) m 0)).2 q a j) → (m + 1 - j) < (fuel : Int) → Xw K G 0 0 (EndQ K G 0 0 (fun vv uu => vv = some (.int (iI (prs (V 36) m (skS (V 36) m 0)).2)) ∧ uu = (n, V, R))) n V R 7 [(0, .ref (aG G 0)), (1, .int (iI m)), (2, .int (iI q)), (3, .int (iI a)), (4, .int (iI j))] [] := by
    intro fuel7
    induction fuel7 with
    | zero => intro q a j hj hq hA hfu7; exfalso; omega
    | succ fuel7 ih7 =>
      intro q a j hj hq hA hfu7
      refine x_iload C 4 dX11_wrongPlace_7 rfl ?_
      refine x_iload_n C 1 dX11_wrongPlace_9 rfl rfl ?_
      refine x_icmp_ge C dX11_wrongPlace_10 (tgt := 71) (by decide) (by first | assumption | (constructor <;> omega)) (by first | assumption | (constructor <;> omega)) (fun h10 => ?_) (fun h10 => ?_)
      · skip
        refine x_iload_n C 3 dX11_wrongPlace_71 rfl rfl ?_
        refine x_if_eq C dX11_wrongPlace_72 (tgt := 83) (by decide) (by first | assumption | (constructor <;> omega)) (fun h72 => ?_) (fun h72 => ?_)
        · skip
          refine x_iload_n C 1 dX11_wrongPlace_83 rfl rfl ?_
          refine x_iret C dX11_wrongPlace_84 ⟨congrArg (fun z => some (Value.int (iI z))) (by first | exact (hA.fin1 (by omega) (by omega) (by omega) (by omega)).symm | exact (hA.fin2 (by omega) (by omega) (by omega)).symm), rfl⟩
        · skip
          refine x_iload_n C 2 dX11_wrongPlace_75 rfl rfl ?_
          refine x_if_ne C dX11_wrongPlace_76 (tgt := 83) (by decide) (by first | assumption | (constructor <;> omega)) (fun h76 => ?_) (fun h76 => ?_)
          · skip
            refine x_iload_n C 1 dX11_wrongPlace_83 rfl rfl ?_
            refine x_iret C dX11_wrongPlace_84 ⟨congrArg (fun z => some (Value.int (iI z))) (by first | exact (hA.fin1 (by omega) (by omega) (by omega) (by omega)).symm | exact (hA.fin2 (by omega) (by omega) (by omega)).symm), rfl⟩
          · skip
            refine x_iconst C dX11_wrongPlace_79 ?_
            refine x_goto C dX11_wrongPlace_80 (tgt := 84) (by decide) ?_
            refine x_iret C dX11_wrongPlace_84 ⟨congrArg (fun z => some (Value.int (iI z))) (by first | exact (hA.fin1 (by omega) (by omega) (by omega) (by omega)).symm | exact (hA.fin2 (by omega) (by omega) (by omega)).symm), rfl⟩
      · skip
        refine x_iload C 4 dX11_wrongPlace_13 rfl ?_
        refine x_bipush C dX11_wrongPlace_15 (w := 40) (by decide) ?_
        refine x_icmp_ge C dX11_wrongPlace_17 (tgt := 71) (by decide) (by first | assumption | (constructor <;> omega)) (by first | assumption | (constructor <;> omega)) (fun h17 => ?_) (fun h17 => ?_)
        · skip
          refine x_iload_n C 3 dX11_wrongPlace_71 rfl rfl ?_
          refine x_if_eq C dX11_wrongPlace_72 (tgt := 83) (by decide) (by first | assumption | (constructor <;> omega)) (fun h72 => ?_) (fun h72 => ?_)
          · skip
            refine x_iload_n C 1 dX11_wrongPlace_83 rfl rfl ?_
            refine x_iret C dX11_wrongPlace_84 ⟨congrArg (fun z => some (Value.int (iI z))) (by first | exact (hA.fin1 (by omega) (by omega) (by omega) (by omega)).symm | exact (hA.fin2 (by omega) (by omega) (by omega)).symm), rfl⟩
          · skip
            refine x_iload_n C 2 dX11_wrongPlace_75 rfl rfl ?_
            refine x_if_ne C dX11_wrongPlace_76 (tgt := 83) (by decide) (by first | assumption | (constructor <;> omega)) (fun h76 => ?_) (fun h76 => ?_)
            · skip
              refine x_iload_n C 1 dX11_wrongPlace_83 rfl rfl ?_
              refine x_iret C dX11_wrongPlace_84 ⟨congrArg (fun z => some (Value.int (iI z))) (by first | exact (hA.fin1 (by omega) (by omega) (by omega) (by omega)).symm | exact (hA.fin2 (by omega) (by omega) (by omega)).symm), rfl⟩
            · skip
              refine x_iconst C dX11_wrongPlace_79 ?_
              refine x_goto C dX11_wrongPlace_80 (tgt := 84) (by decide) ?_
              refine x_iret C dX11_wrongPlace_84 ⟨congrArg (fun z => some (Value.int (iI z))) (by first | exact (hA.fin1 (by omega) (by omega) (by omega) (by omega)).symm | exact (hA.fin2 (by omega) (by omega) (by omega)).symm), rfl⟩
        · skip
          refine x_iload_n C 2 dX11_wrongPlace_20 rfl rfl ?_
          refine x_if_ne C dX11_wrongPlace_21 (tgt := 40) (by decide) (by first | assumption | (constructor <;> omega)) (fun h21 => ?_) (fun h21 => ?_)
          · skip
            have hbz2 := hby j hj.1 (by omega)
            refine x_aload_n C 0 dX11_wrongPlace_40 rfl rfl ?_
            refine x_getr C ok_Class 0 6 (d := 36) dX11_wrongPlace_41 (lt67 hn rfl) rfl (by decide) rfl q_1_3 rfl (kz := 6) rfl (lr_0_6 hLR) ?_
            refine x_iload C 4 dX11_wrongPlace_44 rfl ?_
            refine x_iald C 36 dX11_wrongPlace_46 (lt67 hn rfl) rfl (by refine ⟨?_, ?_⟩ <;> omega) (fun rg46 => ?_)
            refine x_iload_n C 2 dX11_wrongPlace_47 rfl rfl ?_
            refine x_runU (r_callS C (ce_X11_canBePart) (m_X11_canBePart G n V R (V 36 j) (q) (by first | assumption | omega | decide) (by first | assumption | omega | decide)) dX11_wrongPlace_48 q_8_17 q_8_18 rfl rfl ⟨Nat.le_of_ble_eq_true rfl, Nat.le_of_ble_eq_true rfl⟩ ⟨rfl, rfl⟩ ⟨Nat.le_of_ble_eq_true rfl, Nat.le_of_ble_eq_true rfl⟩ (Nat.le_of_ble_eq_true rfl)) (fun v48 u48 hp48 => ?_)
            obtain ⟨rfl, rfl⟩ := hp48
            show Xw K G 0 0 _ n V R 51 [(0, .ref (aG G 0)), (1, .int (iI m)), (2, .int (iI q)), (3, .int (iI a)), (4, .int (iI j))] [.int (iI (bI (canP (V 36 j) q)))]
            refine x_ifne_b C dX11_wrongPlace_51 (tgt := 57) (by decide) (fun h51 => ?_) (fun h51 => ?_)
            · skip
              refine x_iconst C dX11_wrongPlace_57 ?_
              refine x_istore_n C dX11_wrongPlace_58 rfl (by decide) (lv' := [(0, .ref (aG G 0)), (1, .int (iI m)), (2, .int (iI q)), (3, .int (iI 1)), (4, .int (iI j))]) rfl ?_
              refine x_iload_n C 2 dX11_wrongPlace_59 rfl rfl ?_
              refine x_iconst C dX11_wrongPlace_60 ?_
              refine x_iadd C dX11_wrongPlace_61 ?_
              refine x_iconst C dX11_wrongPlace_62 ?_
              refine x_irem C dX11_wrongPlace_63 (by first | assumption | (constructor <;> omega)) (by first | assumption | (constructor <;> omega)) (by omega) (by omega) ?_
              refine x_istore_n C dX11_wrongPlace_64 rfl (by decide) (lv' := [(0, .ref (aG G 0)), (1, .int (iI m)), (2, .int (iI ((q + 1) % 4))), (3, .int (iI 1)), (4, .int (iI j))]) rfl ?_
              refine x_iinc C 4 dX11_wrongPlace_65 rfl (by decide) (lv' := [(0, .ref (aG G 0)), (1, .int (iI m)), (2, .int (iI ((q + 1) % 4))), (3, .int (iI 1)), (4, .int (iI (j + 1)))]) rfl ?_
              refine x_goto C dX11_wrongPlace_68 (tgt := 7) (by decide) ?_
              exact ih7 (((q + 1) % 4)) (1) ((j + 1)) (by omega) (by omega) (by first | exact hA.blank (by assumption) (by omega) (by omega) | exact hA.part (by assumption) (by omega) (by omega) (by omega) (by omega)) (by omega)
            · skip
              refine x_iload C 4 dX11_wrongPlace_54 rfl ?_
              refine x_iret C dX11_wrongPlace_56 ⟨congrArg (fun z => some (Value.int (iI z))) (by exact hA.bad (by assumption) (by omega) (by omega) (by omega)), rfl⟩
          · skip
            have hbz := hby j hj.1 (by omega)
            refine x_aload_n C 0 dX11_wrongPlace_24 rfl rfl ?_
            refine x_getr C ok_Class 0 6 (d := 36) dX11_wrongPlace_25 (lt67 hn rfl) rfl (by decide) rfl q_1_3 rfl (kz := 6) rfl (lr_0_6 hLR) ?_
            refine x_iload C 4 dX11_wrongPlace_28 rfl ?_
            refine x_iald C 36 dX11_wrongPlace_30 (lt67 hn rfl) rfl (by refine ⟨?_, ?_⟩ <;> omega) (fun rg30 => ?_)
            refine x_runU (r_callS C (ce_X11_isBlank) (m_X11_isBlank G n V R (V 36 j) (by first | assumption | omega | decide)) dX11_wrongPlace_31 q_8_14 q_8_15 rfl rfl ⟨Nat.le_of_ble_eq_true rfl, Nat.le_of_ble_eq_true rfl⟩ ⟨rfl, rfl⟩ ⟨Nat.le_of_ble_eq_true rfl, Nat.le_of_ble_eq_true rfl⟩ (Nat.le_of_ble_eq_true rfl)) (fun v31 u31 hp31 => ?_)
            obtain ⟨rfl, rfl⟩ := hp31
            show Xw K G 0 0 _ n V R 34 [(0, .ref (aG G 0)), (1, .int (iI m)), (2, .int (iI q)), (3, .int (iI a)), (4, .int (iI j))] [.int (iI (bI ((V 36 j) = 32 ∨ (V 36 j) = 10)))]
            refine x_ifeq_b C dX11_wrongPlace_34 (tgt := 40) (by decide) (fun h34 => ?_) (fun h34 => ?_)
            · skip
              have hbz2 := hby j hj.1 (by omega)
              refine x_aload_n C 0 dX11_wrongPlace_40 rfl rfl ?_
              refine x_getr C ok_Class 0 6 (d := 36) dX11_wrongPlace_41 (lt67 hn rfl) rfl (by decide) rfl q_1_3 rfl (kz := 6) rfl (lr_0_6 hLR) ?_
              refine x_iload C 4 dX11_wrongPlace_44 rfl ?_
              refine x_iald C 36 dX11_wrongPlace_46 (lt67 hn rfl) rfl (by refine ⟨?_, ?_⟩ <;> omega) (fun rg46 => ?_)
              refine x_iload_n C 2 dX11_wrongPlace_47 rfl rfl ?_
              refine x_runU (r_callS C (ce_X11_canBePart) (m_X11_canBePart G n V R (V 36 j) (q) (by first | assumption | omega | decide) (by first | assumption | omega | decide)) dX11_wrongPlace_48 q_8_17 q_8_18 rfl rfl ⟨Nat.le_of_ble_eq_true rfl, Nat.le_of_ble_eq_true rfl⟩ ⟨rfl, rfl⟩ ⟨Nat.le_of_ble_eq_true rfl, Nat.le_of_ble_eq_true rfl⟩ (Nat.le_of_ble_eq_true rfl)) (fun v48 u48 hp48 => ?_)
              obtain ⟨rfl, rfl⟩ := hp48
              show Xw K G 0 0 _ n V R 51 [(0, .ref (aG G 0)), (1, .int (iI m)), (2, .int (iI q)), (3, .int (iI a)), (4, .int (iI j))] [.int (iI (bI (canP (V 36 j) q)))]
              refine x_ifne_b C dX11_wrongPlace_51 (tgt := 57) (by decide) (fun h51 => ?_) (fun h51 => ?_)
              · skip
                refine x_iconst C dX11_wrongPlace_57 ?_
                refine x_istore_n C dX11_wrongPlace_58 rfl (by decide) (lv' := [(0, .ref (aG G 0)), (1, .int (iI m)), (2, .int (iI q)), (3, .int (iI 1)), (4, .int (iI j))]) rfl ?_
                refine x_iload_n C 2 dX11_wrongPlace_59 rfl rfl ?_
                refine x_iconst C dX11_wrongPlace_60 ?_
                refine x_iadd C dX11_wrongPlace_61 ?_
                refine x_iconst C dX11_wrongPlace_62 ?_
                refine x_irem C dX11_wrongPlace_63 (by first | assumption | (constructor <;> omega)) (by first | assumption | (constructor <;> omega)) (by omega) (by omega) ?_
                refine x_istore_n C dX11_wrongPlace_64 rfl (by decide) (lv' := [(0, .ref (aG G 0)), (1, .int (iI m)), (2, .int (iI ((q + 1) % 4))), (3, .int (iI 1)), (4, .int (iI j))]) rfl ?_
                refine x_iinc C 4 dX11_wrongPlace_65 rfl (by decide) (lv' := [(0, .ref (aG G 0)), (1, .int (iI m)), (2, .int (iI ((q + 1) % 4))), (3, .int (iI 1)), (4, .int (iI (j + 1)))]) rfl ?_
                refine x_goto C dX11_wrongPlace_68 (tgt := 7) (by decide) ?_
                exact ih7 (((q + 1) % 4)) (1) ((j + 1)) (by omega) (by omega) (by first | exact hA.blank (by assumption) (by omega) (by omega) | exact hA.part (by assumption) (by omega) (by omega) (by omega) (by omega)) (by omega)
              · skip
                refine x_iload C 4 dX11_wrongPlace_54 rfl ?_
                refine x_iret C dX11_wrongPlace_56 ⟨congrArg (fun z => some (Value.int (iI z))) (by exact hA.bad (by assumption) (by omega) (by omega) (by omega)), rfl⟩
            · skip
              refine x_goto C dX11_wrongPlace_37 (tgt := 65) (by decide) ?_
              refine x_iinc C 4 dX11_wrongPlace_65 rfl (by decide) (lv' := [(0, .ref (aG G 0)), (1, .int (iI m)), (2, .int (iI q)), (3, .int (iI a)), (4, .int (iI (j + 1)))]) rfl ?_
              refine x_goto C dX11_wrongPlace_68 (tgt := 7) (by decide) ?_
              exact ih7 (q) (a) ((j + 1)) (by omega) (by omega) (by first | exact hA.blank (by assumption) (by omega) (by omega) | exact hA.part (by assumption) (by omega) (by omega) (by omega) (by omega)) (by omega)
  exact lp_7 ((m + 1 - 0).toNat + 1) (0) (0) (0) (by omega) (by omega) (by exact AutI.zero) (by omega)
