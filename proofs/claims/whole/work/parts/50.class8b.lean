
set_option maxRecDepth 100000 in
set_option maxHeartbeats 4000000 in
theorem m_J7_fill_53178 (G : GS) (n : Nat) (V : Nat → Int → Int) (R : Nat → Int → Option Nat) (c : Nat) (N : Nat) (v : Int) (hn : 67 ≤ n) (hLR : LR R) (hc : c < n) (ht : tb c = (20, N)) (hN : N ≤ 2000) (gv : Rg v) : Cn G yJ7_fill_53178 cJ7_fill_53178 4 none (rmk 1 0 0 16) [.ref (aG G c), .int (iI v)] n V R 0 0 (fun vv uu => ∃ (V1 : Nat → Int → Int), vv = none ∧ uu = (n, V1, R) ∧ (∀ q, q ≠ c → V1 q = V q) ∧ (∀ z : Int, 0 ≤ z → z < N → V1 c z = v)) := by
  refine Cn.of (by decide) (Nat.le_of_ble_eq_true rfl) (fun K C hct => ?_)
  show Xw K G 0 0 _ n V R 0 [(0, .ref (aG G c)), (1, .int (iI v))] []
  refine x_iconst C dJ7_fill_53178_0 ?_
  refine x_istore_n C dJ7_fill_53178_1 rfl (by decide) (lv' := [(0, .ref (aG G c)), (1, .int (iI v)), (2, .int (iI 0))]) rfl ?_
  refine x_aload_n C 0 dJ7_fill_53178_2 rfl rfl ?_
  refine x_alen C c (w := (N : Int)) dJ7_fill_53178_3 hc ht (by decide) rfl ?_
  refine x_istore_n C dJ7_fill_53178_4 rfl (by decide) (lv' := [(0, .ref (aG G c)), (1, .int (iI v)), (2, .int (iI 0)), (3, .int (iI (N : Int)))]) rfl ?_
  have lp_5 : ∀ (fuel : Nat) (m : Int) (V2 : Nat → Int → Int), (0 ≤ m ∧ m ≤ N) → (∀ q, q ≠ c → V2 q = V q) → (∀ z, 0 ≤ z → z < m → V2 c z = v) → ((N : Int) + 1 - m) < (fuel : Int) → Xw K G 0 0 (EndQ K G 0 0 (fun vv uu => ∃ (V1 : Nat → Int → Int), vv = none ∧ uu = (n, V1, R) ∧ (∀ q, q ≠ c → V1 q = V q) ∧ (∀ z : Int, 0 ≤ z → z < N → V1 c z = v))) n V2 R 5 [(0, .ref (aG G c)), (1, .int (iI v)), (2, .int (iI m)), (3, .int (iI (N : Int)))] [] := by
    intro fuel5
    induction fuel5 with
    | zero => intro m V2 hm hF hD hfu5; exfalso; omega
    | succ fuel5 ih5 =>
      intro m V2 hm hF hD hfu5
      refine x_iload_n C 2 dJ7_fill_53178_5 rfl rfl ?_
      refine x_iload_n C 3 dJ7_fill_53178_6 rfl rfl ?_
      refine x_icmp_ge C dJ7_fill_53178_7 (tgt := 20) (by decide) (by first | assumption | (constructor <;> omega)) (by first | assumption | (constructor <;> omega)) (fun h7 => ?_) (fun h7 => ?_)
      · skip
        refine x_vret C dJ7_fill_53178_20 ⟨_, rfl, rfl, ?_, ?_⟩
        · exact hF
        · exact fun z a b => hD z a (by omega)
      · skip
        refine x_aload_n C 0 dJ7_fill_53178_10 rfl rfl ?_
        refine x_iload_n C 2 dJ7_fill_53178_11 rfl rfl ?_
        refine x_iload_n C 1 dJ7_fill_53178_12 rfl rfl ?_
        refine x_iast C c dJ7_fill_53178_13 hc ht (by refine ⟨?_, ?_⟩ <;> omega) (by first | assumption | (constructor <;> omega)) ?_
        refine x_iinc C 2 dJ7_fill_53178_14 rfl (by decide) (lv' := [(0, .ref (aG G c)), (1, .int (iI v)), (2, .int (iI (m + 1))), (3, .int (iI (N : Int)))]) rfl ?_
        refine x_goto C dJ7_fill_53178_17 (tgt := 5) (by decide) ?_
        exact ih5 ((m + 1)) ((u2 V2 c m v)) (by omega) (by exact fun q a => by rw [u2_n a]; exact hF q a) (by exact fun z a b => by (rw [u2_at]; by_cases e : z = m; (rw [if_pos ⟨rfl, e⟩]); (rw [if_neg (by omega)]; exact hD z a (by omega)))) (by omega)
  exact lp_5 (((N : Int) + 1 - 0).toNat + 1) (0) (V) (by omega) (by exact fun _ _ => rfl) (by exact fun z a b => by omega) (by omega)
set_option maxRecDepth 100000 in
set_option maxHeartbeats 4000000 in
theorem m_X11_ownX (G : GS) (n : Nat) (V : Nat → Int → Int) (R : Nat → Int → Option Nat) (g : Int) (x : Int) (y : Int) (hg : 0 ≤ g ∧ g ≤ 3) : Cn G yX11_ownX cX11_ownX 3 (some .int) (rmk 1 0 0 16) [.int (iI g), .int (iI x), .int (iI y)] n V R 0 0 (fun vv uu => vv = some (.int (iI (oX x y g))) ∧ uu = (n, V, R)) := by
  refine Cn.of (by decide) (Nat.le_of_ble_eq_true rfl) (fun K C hct => ?_)
  show Xw K G 0 0 _ n V R 0 [(0, .int (iI g)), (1, .int (iI x)), (2, .int (iI y))] []
  refine x_iload_n C 0 dX11_ownX_0 rfl rfl ?_
  rcases (show g = 1 ∨ g = 2 ∨ g = 3 ∨ (g < 1 ∨ 3 < g) by omega) with h1 | h1 | h1 | h1
  · skip
    refine x_tin C 1 h1 dX11_ownX_1 (by constructor <;> decide) (by decide) (by decide) (off := 27) rfl (tgt := 28) (by decide) ?_
    refine x_iload_n C 2 dX11_ownX_28 rfl rfl ?_
    refine x_iret C dX11_ownX_29 ⟨congrArg (fun z => some (Value.int (iI z))) (by unfold oX; (repeat' split) <;> omega), rfl⟩
  · skip
    refine x_tin C 2 h1 dX11_ownX_1 (by constructor <;> decide) (by decide) (by decide) (off := 29) rfl (tgt := 30) (by decide) ?_
    refine x_bipush C dX11_ownX_30 (w := 11) (by decide) ?_
    refine x_iload_n C 1 dX11_ownX_32 rfl rfl ?_
    refine x_isub C dX11_ownX_33 ?_
    refine x_iret C dX11_ownX_34 ⟨congrArg (fun z => some (Value.int (iI z))) (by unfold oX; (repeat' split) <;> omega), rfl⟩
  · skip
    refine x_tin C 3 h1 dX11_ownX_1 (by constructor <;> decide) (by decide) (by decide) (off := 34) rfl (tgt := 35) (by decide) ?_
    refine x_bipush C dX11_ownX_35 (w := 11) (by decide) ?_
    refine x_iload_n C 2 dX11_ownX_37 rfl rfl ?_
    refine x_isub C dX11_ownX_38 ?_
    refine x_iret C dX11_ownX_39 ⟨congrArg (fun z => some (Value.int (iI z))) (by unfold oX; (repeat' split) <;> omega), rfl⟩
  · skip
    refine x_tout C dX11_ownX_1 (tgt := 40) (by decide) (by first | assumption | (constructor <;> omega)) h1 ?_
    refine x_iload_n C 1 dX11_ownX_40 rfl rfl ?_
    refine x_iret C dX11_ownX_41 ⟨congrArg (fun z => some (Value.int (iI z))) (by unfold oX; (repeat' split) <;> omega), rfl⟩
set_option maxRecDepth 100000 in
set_option maxHeartbeats 4000000 in
theorem m_X11_ownY (G : GS) (n : Nat) (V : Nat → Int → Int) (R : Nat → Int → Option Nat) (g : Int) (x : Int) (y : Int) (hg : 0 ≤ g ∧ g ≤ 3) : Cn G yX11_ownY cX11_ownY 3 (some .int) (rmk 2 0 0 38) [.int (iI g), .int (iI x), .int (iI y)] n V R 0 0 (fun vv uu => vv = some (.int (iI (oY x y g))) ∧ uu = (n, V, R)) := by
  refine Cn.of (by decide) (Nat.le_of_ble_eq_true rfl) (fun K C hct => ?_)
  show Xw K G 0 0 _ n V R 0 [(0, .int (iI g)), (1, .int (iI x)), (2, .int (iI y))] []
  refine x_iload_n C 0 dX11_ownY_0 rfl rfl ?_
  refine x_iconst C dX11_ownY_1 ?_
  refine x_iadd C dX11_ownY_2 ?_
  refine x_iconst C dX11_ownY_3 ?_
  refine x_irem C dX11_ownY_4 (by first | assumption | (constructor <;> omega)) (by first | assumption | (constructor <;> omega)) (by omega) (by omega) ?_
  refine x_iload_n C 1 dX11_ownY_5 rfl rfl ?_
  refine x_iload_n C 2 dX11_ownY_6 rfl rfl ?_
  refine x_runU (r_callS C (ce_X11_ownX) (m_X11_ownX G n V R ((g + 1) % 4) (x) (y) (by first | assumption | omega | decide)) dX11_ownY_7 q_29_20 q_29_16 rfl rfl ⟨Nat.le_of_ble_eq_true rfl, Nat.le_of_ble_eq_true rfl⟩ ⟨rfl, rfl⟩ ⟨Nat.le_of_ble_eq_true rfl, Nat.le_of_ble_eq_true rfl⟩ (Nat.le_of_ble_eq_true rfl)) (fun v7 u7 hp7 => ?_)
  obtain ⟨rfl, rfl⟩ := hp7
  show Xw K G 0 0 _ n V R 10 [(0, .int (iI g)), (1, .int (iI x)), (2, .int (iI y))] [.int (iI (oX x y ((g + 1) % 4)))]
  refine x_iret C dX11_ownY_10 ⟨congrArg (fun z => some (Value.int (iI z))) (by unfold oX oY; (repeat' split) <;> omega), rfl⟩
set_option maxRecDepth 100000 in
set_option maxHeartbeats 4000000 in
theorem m_X6_findFirstWood (G : GS) (n : Nat) (V : Nat → Int → Int) (R : Nat → Int → Option Nat) (sv : Nat) (yd : Nat) (L : Int) (hn : 67 ≤ n) (hLR : LR R) (hsv : sv = 11 ∨ sv = 23) (hyd : yd = 1 ∨ yd = 6) (hl : V sv 3 = L) (hL8 : 1 ≤ L ∧ L ≤ 8) (hr : 0 ≤ V yd 0 ∧ V yd 0 ≤ 6) (hta : 0 ≤ V yd 1 ∧ V yd 1 ≤ 4) : Cn G yX6_findFirstWood cX6_findFirstWood 5 none (rmk 3 0 0 62) [.ref (aG G sv), .ref (aG G yd)] n V R 0 0 (fun vv uu => ∃ (V1 : Nat → Int → Int), vv = none ∧ uu = (n, V1, R) ∧ (∀ q, q ≠ sv + 2 → V1 q = V q) ∧ (∀ s1 y1 : Int, 0 ≤ s1 → s1 < L → 0 ≤ y1 → y1 < 12 → V1 (sv + 2) (s1 * 12 + y1) = fwS (V yd 0) (V yd 1) y1 s1)) := by
  refine Cn.of (by decide) (Nat.le_of_ble_eq_true rfl) (fun K C hct => ?_)
  show Xw K G 0 0 _ n V R 0 [(0, .ref (aG G sv)), (1, .ref (aG G yd))] []
  refine x_iconst C dX6_findFirstWood_0 ?_
  refine x_istore_n C dX6_findFirstWood_1 rfl (by decide) (lv' := [(0, .ref (aG G sv)), (1, .ref (aG G yd)), (2, .int (iI 0))]) rfl ?_
  have lp_2 : ∀ (fuel : Nat) (s : Int) (V2 : Nat → Int → Int), (0 ≤ s ∧ s ≤ L) → (∀ q, q ≠ sv + 2 → V2 q = V q) → (∀ s1 y1 : Int, 0 ≤ s1 → s1 < 8 → 0 ≤ y1 → y1 < 12 → s1 < s → V2 (sv + 2) (s1 * 12 + y1) = fwS (V yd 0) (V yd 1) y1 s1) → (L + 1 - s) < (fuel : Int) → Xw K G 0 0 (EndQ K G 0 0 (fun vv uu => ∃ (V1 : Nat → Int → Int), vv = none ∧ uu = (n, V1, R) ∧ (∀ q, q ≠ sv + 2 → V1 q = V q) ∧ (∀ s1 y1 : Int, 0 ≤ s1 → s1 < L → 0 ≤ y1 → y1 < 12 → V1 (sv + 2) (s1 * 12 + y1) = fwS (V yd 0) (V yd 1) y1 s1))) n V2 R 2 [(0, .ref (aG G sv)), (1, .ref (aG G yd)), (2, .int (iI s))] [] := by
    intro fuel2
    induction fuel2 with
    | zero => intro s V2 hs hF2 hD2 hfu2; exfalso; omega
    | succ fuel2 ih2 =>
      intro s V2 hs hF2 hD2 hfu2
      have e3 : V2 sv 3 = L := by rw [hF2 sv (by omega)]; exact hl
      refine x_iload_n C 2 dX6_findFirstWood_2 rfl rfl ?_
      refine x_aload_n C 0 dX6_findFirstWood_3 rfl rfl ?_
      refine x_geti C ok_Saw sv 3 dX6_findFirstWood_4 (ltS hsv hn (by decide) : sv + 0 < n) (tbS_0 hsv) (by decide) rfl q_2_13 rfl (kz := 3) rfl (fun rg4 => ?_)
      refine x_icmp_ge C dX6_findFirstWood_7 (tgt := 70) (by decide) (by first | assumption | (constructor <;> omega)) (by first | assumption | (constructor <;> omega)) (fun h7 => ?_) (fun h7 => ?_)
      · skip
        refine x_vret C dX6_findFirstWood_70 ⟨_, rfl, rfl, ?_, ?_⟩
        · assumption
        · exact fun s1 y1 a b c d => hD2 s1 y1 a (by omega) c d (by omega)
      · skip
        refine x_iconst C dX6_findFirstWood_10 ?_
        refine x_istore_n C dX6_findFirstWood_11 rfl (by decide) (lv' := [(0, .ref (aG G sv)), (1, .ref (aG G yd)), (2, .int (iI s)), (3, .int (iI 0))]) rfl ?_
        have lp_12 : ∀ (fuel : Nat) (y : Int) (V3 : Nat → Int → Int), (0 ≤ y ∧ y ≤ 12) → (∀ q, q ≠ sv + 2 → V3 q = V q) → (∀ s1 y1 : Int, 0 ≤ s1 → s1 < 8 → 0 ≤ y1 → y1 < 12 → s1 < s ∨ (s1 = s ∧ y1 < y) → V3 (sv + 2) (s1 * 12 + y1) = fwS (V yd 0) (V yd 1) y1 s1) → ((13 : Int) - y) < (fuel : Int) → Xw K G 0 0 (EndQ K G 0 0 (fun vv uu => ∃ (V1 : Nat → Int → Int), vv = none ∧ uu = (n, V1, R) ∧ (∀ q, q ≠ sv + 2 → V1 q = V q) ∧ (∀ s1 y1 : Int, 0 ≤ s1 → s1 < L → 0 ≤ y1 → y1 < 12 → V1 (sv + 2) (s1 * 12 + y1) = fwS (V yd 0) (V yd 1) y1 s1))) n V3 R 12 [(0, .ref (aG G sv)), (1, .ref (aG G yd)), (2, .int (iI s)), (3, .int (iI y))] [] := by
          intro fuel12
          induction fuel12 with
          | zero => intro y V3 hyy hF3 hD3 hfu12; exfalso; omega
          | succ fuel12 ih12 =>
            intro y V3 hyy hF3 hD3 hfu12
            have eyd : V3 yd = V yd := hF3 yd (by omega)
            have e33 : V3 sv 3 = L := by rw [hF3 sv (by omega)]; exact hl
            refine x_iload_n C 3 dX6_findFirstWood_12 rfl rfl ?_
            refine x_bipush C dX6_findFirstWood_13 (w := 12) (by decide) ?_
            refine x_icmp_ge C dX6_findFirstWood_15 (tgt := 64) (by decide) (by first | assumption | (constructor <;> omega)) (by first | assumption | (constructor <;> omega)) (fun h15 => ?_) (fun h15 => ?_)
            · skip
              refine x_iinc C 2 dX6_findFirstWood_64 rfl (by decide) (lv' := [(0, .ref (aG G sv)), (1, .ref (aG G yd)), (2, .int (iI (s + 1))), (3, .int (iI y))]) rfl ?_
              refine x_goto C dX6_findFirstWood_67 (tgt := 2) (by decide) ?_
              refine x_sub [0, 1, 2] (lv' := [(0, .ref (aG G sv)), (1, .ref (aG G yd)), (2, .int (iI (s + 1)))]) rfl ?_
              exact ih2 ((s + 1)) (V3) (by omega) (by assumption) (by exact fun s1 y1 a b c d e => hD3 s1 y1 a b c d (by omega)) (by omega)
            · skip
              refine x_iconst C dX6_findFirstWood_18 ?_
              refine x_istore C dX6_findFirstWood_19 (by decide) (lv' := [(0, .ref (aG G sv)), (1, .ref (aG G yd)), (2, .int (iI s)), (3, .int (iI y)), (4, .int (iI 0))]) rfl ?_
              have lp_21 : ∀ (fuel : Nat) (x : Int), (0 ≤ x ∧ x ≤ 6) → (∀ j, 0 ≤ j → j < x → ¬ woodP (V yd 0) (V yd 1) j y s) → ((7 : Int) - x) < (fuel : Int) → Xw K G 0 0 (EndQ K G 0 0 (fun vv uu => ∃ (V1 : Nat → Int → Int), vv = none ∧ uu = (n, V1, R) ∧ (∀ q, q ≠ sv + 2 → V1 q = V q) ∧ (∀ s1 y1 : Int, 0 ≤ s1 → s1 < L → 0 ≤ y1 → y1 < 12 → V1 (sv + 2) (s1 * 12 + y1) = fwS (V yd 0) (V yd 1) y1 s1))) n V3 R 21 [(0, .ref (aG G sv)), (1, .ref (aG G yd)), (2, .int (iI s)), (3, .int (iI y)), (4, .int (iI x))] [] := by
                intro fuel21
                induction fuel21 with
                | zero => intro x hx hNo hfu21; exfalso; omega
                | succ fuel21 ih21 =>
                  intro x hx hNo hfu21
                  refine x_iload C 4 dX6_findFirstWood_21 rfl ?_
                  refine x_bipush C dX6_findFirstWood_23 (w := 6) (by decide) ?_
                  refine x_icmp_ge C dX6_findFirstWood_25 (tgt := 45) (by decide) (by first | assumption | (constructor <;> omega)) (by first | assumption | (constructor <;> omega)) (fun h25 => ?_) (fun h25 => ?_)
                  · skip
                    refine x_aload_n C 0 dX6_findFirstWood_45 rfl rfl ?_
                    refine x_getr C ok_Saw sv 6 (d := (sv + 2)) dX6_findFirstWood_46 (ltS hsv hn (by decide) : sv + 0 < n) (tbS_0 hsv) (by decide) rfl q_2_16 rfl (kz := 6) rfl (lrS_6 hsv hLR) ?_
                    refine x_iload_n C 2 dX6_findFirstWood_49 rfl rfl ?_
                    refine x_bipush C dX6_findFirstWood_50 (w := 12) (by decide) ?_
                    refine x_imul C dX6_findFirstWood_52 ?_
                    refine x_iload_n C 3 dX6_findFirstWood_53 rfl rfl ?_
                    refine x_iadd C dX6_findFirstWood_54 ?_
                    refine x_iload C 4 dX6_findFirstWood_55 rfl ?_
                    refine x_iast C (sv + 2) dX6_findFirstWood_57 (ltS hsv hn (by decide)) (tbS_2 hsv) (by refine ⟨?_, ?_⟩ <;> omega) (by first | assumption | (constructor <;> omega)) ?_
                    refine x_iinc C 3 dX6_findFirstWood_58 rfl (by decide) (lv' := [(0, .ref (aG G sv)), (1, .ref (aG G yd)), (2, .int (iI s)), (3, .int (iI (y + 1))), (4, .int (iI x))]) rfl ?_
                    refine x_goto C dX6_findFirstWood_61 (tgt := 12) (by decide) ?_
                    refine x_sub [0, 1, 2, 3] (lv' := [(0, .ref (aG G sv)), (1, .ref (aG G yd)), (2, .int (iI s)), (3, .int (iI (y + 1)))]) rfl ?_
                    exact ih12 ((y + 1)) ((u2 V3 (sv + 2) ((s * 12) + y) x)) (by omega) (by exact fun q a => by rw [u2_n a]; exact hF3 q a) (by exact fun s1 y1 a b c d e => by (rw [u2_at]; by_cases w : s1 * 12 + y1 = s * 12 + y; (rw [if_pos ⟨rfl, w⟩, show s1 = s by omega, show y1 = y by omega]; exact fwS_u hx hNo (by first | exact fun z => by omega | exact fun _ => (by rw [← eyd]; assumption))); (rw [if_neg (fun z => w z.2)]; exact hD3 s1 y1 a b c d (by omega)))) (by omega)
                  · skip
                    refine x_aload_n C 1 dX6_findFirstWood_28 rfl rfl ?_
                    refine x_iload C 4 dX6_findFirstWood_29 rfl ?_
                    refine x_iload_n C 3 dX6_findFirstWood_31 rfl rfl ?_
                    refine x_iload_n C 2 dX6_findFirstWood_32 rfl rfl ?_
                    refine x_runU (r_callV C ok_Yard yd (ltY hyd hn (by decide) : yd + 0 < n) (tbY_0 hyd) (ce_X10_isWood) (m_X10_isWood G n V3 R (yd) (x) (y) (s) hn hLR (by first | assumption | omega | decide) (by first | assumption | omega | decide) (by first | assumption | omega | decide) (by first | assumption | omega | decide) (by rw [eyd]; exact hr) (by rw [eyd]; exact hta)) rfl dX6_findFirstWood_33 q_29_7 q_5_17 q_5_18 rfl rfl ⟨Nat.le_of_ble_eq_true rfl, Nat.le_of_ble_eq_true rfl⟩ ⟨rfl, rfl⟩ ⟨Nat.le_of_ble_eq_true rfl, Nat.le_of_ble_eq_true rfl⟩ (Nat.le_of_ble_eq_true rfl)) (fun v33 u33 hp33 => ?_)
                    obtain ⟨rfl, rfl⟩ := hp33
                    show Xw K G 0 0 _ n V3 R 36 [(0, .ref (aG G sv)), (1, .ref (aG G yd)), (2, .int (iI s)), (3, .int (iI y)), (4, .int (iI x))] [.int (iI (bI (woodP (V3 yd 0) (V3 yd 1) x y s)))]
                    refine x_ifne_b C dX6_findFirstWood_36 (tgt := 45) (by decide) (fun h36 => ?_) (fun h36 => ?_)
                    · skip
                      refine x_aload_n C 0 dX6_findFirstWood_45 rfl rfl ?_
                      refine x_getr C ok_Saw sv 6 (d := (sv + 2)) dX6_findFirstWood_46 (ltS hsv hn (by decide) : sv + 0 < n) (tbS_0 hsv) (by decide) rfl q_2_16 rfl (kz := 6) rfl (lrS_6 hsv hLR) ?_
                      refine x_iload_n C 2 dX6_findFirstWood_49 rfl rfl ?_
                      refine x_bipush C dX6_findFirstWood_50 (w := 12) (by decide) ?_
                      refine x_imul C dX6_findFirstWood_52 ?_
                      refine x_iload_n C 3 dX6_findFirstWood_53 rfl rfl ?_
                      refine x_iadd C dX6_findFirstWood_54 ?_
                      refine x_iload C 4 dX6_findFirstWood_55 rfl ?_
                      refine x_iast C (sv + 2) dX6_findFirstWood_57 (ltS hsv hn (by decide)) (tbS_2 hsv) (by refine ⟨?_, ?_⟩ <;> omega) (by first | assumption | (constructor <;> omega)) ?_
                      refine x_iinc C 3 dX6_findFirstWood_58 rfl (by decide) (lv' := [(0, .ref (aG G sv)), (1, .ref (aG G yd)), (2, .int (iI s)), (3, .int (iI (y + 1))), (4, .int (iI x))]) rfl ?_
                      refine x_goto C dX6_findFirstWood_61 (tgt := 12) (by decide) ?_
                      refine x_sub [0, 1, 2, 3] (lv' := [(0, .ref (aG G sv)), (1, .ref (aG G yd)), (2, .int (iI s)), (3, .int (iI (y + 1)))]) rfl ?_
                      exact ih12 ((y + 1)) ((u2 V3 (sv + 2) ((s * 12) + y) x)) (by omega) (by exact fun q a => by rw [u2_n a]; exact hF3 q a) (by exact fun s1 y1 a b c d e => by (rw [u2_at]; by_cases w : s1 * 12 + y1 = s * 12 + y; (rw [if_pos ⟨rfl, w⟩, show s1 = s by omega, show y1 = y by omega]; exact fwS_u hx hNo (by first | exact fun z => by omega | exact fun _ => (by rw [← eyd]; assumption))); (rw [if_neg (fun z => w z.2)]; exact hD3 s1 y1 a b c d (by omega)))) (by omega)
                    · skip
                      refine x_iinc C 4 dX6_findFirstWood_39 rfl (by decide) (lv' := [(0, .ref (aG G sv)), (1, .ref (aG G yd)), (2, .int (iI s)), (3, .int (iI y)), (4, .int (iI (x + 1)))]) rfl ?_
                      refine x_goto C dX6_findFirstWood_42 (tgt := 21) (by decide) ?_
                      exact ih21 ((x + 1)) (by omega) (by exact fun j a b => by (by_cases w : j = x; (rw [w, ← eyd]; assumption); exact hNo j a (by omega))) (by omega)
              exact lp_21 (((7 : Int) - 0).toNat + 1) (0) (by omega) (by exact fun j a b => by omega) (by omega)
        exact lp_12 (((13 : Int) - 0).toNat + 1) (0) (V2) (by omega) (by assumption) (by exact fun s1 y1 a b c d e => hD2 s1 y1 a b c d (by omega)) (by omega)
  exact lp_2 ((L + 1 - 0).toNat + 1) (0) (V) (by omega) (by exact fun _ _ => rfl) (by exact fun s1 y1 a b c d e => by omega) (by omega)
set_option maxRecDepth 100000 in
set_option maxHeartbeats 4000000 in
theorem m_X6_mark (G : GS) (n : Nat) (V : Nat → Int → Int) (R : Nat → Int → Option Nat) (sv : Nat) (c : Nat) (g : Int) (L : Int) (hn : 67 ≤ n) (hLR : LR R) (hsv : sv = 11 ∨ sv = 23) (hF : FOk n V c) (hg : 0 ≤ g ∧ g ≤ 3) (hl : V sv 3 = L) (hL8 : 1 ≤ L ∧ L ≤ 8) (hB : ∀ z, Rg (V (sv + 3) z)) : Cn G yX6_mark cX6_mark 10 none (rmk 4 0 0 79) [.ref (aG G sv), .ref (aG G c), .int (iI g)] n V R 0 0 (fun vv uu => ∃ (V1 : Nat → Int → Int), vv = none ∧ uu = (n, V1, R) ∧ (∀ q, q ≠ sv + 3 → V1 q = V q) ∧ (MkI V V1 sv (V c 3) (V c 0) (V c 1) (V c 2) g L 144 0)) := by
  obtain ⟨f1, f2, hk7, ha, hs, hz⟩ := hF
  have htc := tb_dyn f1
  have hcc := f2
  have lb := lastC_b hz hs (show 0 ≤ L ∧ L ≤ 8 by omega) (k := V c 3)
  have hkb := hurtK_b (V c 3)
  refine Cn.of (by decide) (Nat.le_of_ble_eq_true rfl) (fun K C hct => ?_)
  show Xw K G 0 0 _ n V R 0 [(0, .ref (aG G sv)), (1, .ref (aG G c)), (2, .int (iI g))] []
  refine x_aload_n C 0 dX6_mark_0 rfl rfl ?_
  refine x_geti C ok_Saw sv 3 dX6_mark_1 (ltS hsv hn (by decide) : sv + 0 < n) (tbS_0 hsv) (by decide) rfl q_2_13 rfl (kz := 3) rfl (fun rg1 => ?_)
  refine x_aload_n C 1 dX6_mark_4 rfl rfl ?_
  refine x_getF C c 1 dX6_mark_5 hcc htc (by decide) q_29_13 (Or.inl rfl) (kz := 1) rfl (fun rg5 => ?_)
  refine x_aload_n C 1 dX6_mark_8 rfl rfl ?_
  refine x_aload_n C 0 dX6_mark_9 rfl rfl ?_
  refine x_geti C ok_Saw sv 3 dX6_mark_10 (ltS hsv hn (by decide) : sv + 0 < n) (tbS_0 hsv) (by decide) rfl q_2_13 rfl (kz := 3) rfl (fun rg10 => ?_)
  refine x_runU (mc := 0) (ms := 0) (st := [.int (iI (V c 1)), .int (iI (V sv 3))]) (post := (fun vv uu => vv = some (.int (iI (max 0 (min (lastC (V c 3) (V c 1) (V c 2) (V sv 3)) ((V sv 3) - V c 1))))) ∧ uu = (n, V, R))) ?_ (fun v13 u13 hp13 => ?_)
  · rcases (show V c 3 = 0 ∨ V c 3 = 1 ∨ V c 3 = 2 ∨ V c 3 = 3 ∨ V c 3 = 4 ∨ V c 3 = 5 ∨ V c 3 = 6 by omega) with e | e | e | e | e | e | e
    · exact XRun.mono (r_callF C c hcc htc (r := (RX1, TX1, 3)) (by rw [e]; rfl) (owner := "LogSawyer$Fault") ce_X0_slicesOf (m_X0_slicesOf G n V R (c) (V sv 3) hn hLR (by first | assumption | omega | decide) (by first | assumption | omega | decide) (by omega) (by first | assumption | omega | decide) (by first | assumption | omega | decide) (by first | assumption | omega | decide)) rfl dX6_mark_13 q_29_14 q_19_10 ⟨by decide, by decide⟩ (Or.inr ⟨_, _, _, q_19_13, q_19_12⟩) rfl q_19_11 q_19_12 rfl rfl ⟨Nat.le_of_ble_eq_true rfl, Nat.le_of_ble_eq_true rfl⟩ ⟨rfl, rfl⟩ ⟨Nat.le_of_ble_eq_true rfl, Nat.le_of_ble_eq_true rfl⟩ (Nat.le_of_ble_eq_true rfl)) (fun vv uu h => by first | exact h | (exact ⟨h.1.trans (by rw [e]; rfl), h.2⟩))
    · exact XRun.mono (r_callF C c hcc htc (r := (RX2, TX2, 3)) (by rw [e]; rfl) (owner := "LogSawyer$Fault") ce_X0_slicesOf (m_X0_slicesOf G n V R (c) (V sv 3) hn hLR (by first | assumption | omega | decide) (by first | assumption | omega | decide) (by omega) (by first | assumption | omega | decide) (by first | assumption | omega | decide) (by first | assumption | omega | decide)) rfl dX6_mark_13 q_29_14 q_19_10 ⟨by decide, by decide⟩ (Or.inr ⟨_, _, _, q_19_13, q_19_12⟩) rfl q_20_15 q_19_12 rfl rfl ⟨Nat.le_of_ble_eq_true rfl, Nat.le_of_ble_eq_true rfl⟩ ⟨rfl, rfl⟩ ⟨Nat.le_of_ble_eq_true rfl, Nat.le_of_ble_eq_true rfl⟩ (Nat.le_of_ble_eq_true rfl)) (fun vv uu h => by first | exact h | (exact ⟨h.1.trans (by rw [e]; rfl), h.2⟩))
    · exact XRun.mono (r_callF C c hcc htc (r := (RX8, TX8, 3)) (by rw [e]; rfl) (owner := "LogSawyer$Fault") ce_X0_slicesOf (m_X0_slicesOf G n V R (c) (V sv 3) hn hLR (by first | assumption | omega | decide) (by first | assumption | omega | decide) (by omega) (by first | assumption | omega | decide) (by first | assumption | omega | decide) (by first | assumption | omega | decide)) rfl dX6_mark_13 q_29_14 q_19_10 ⟨by decide, by decide⟩ (Or.inr ⟨_, _, _, q_19_13, q_19_12⟩) rfl q_20_19 q_19_12 rfl rfl ⟨Nat.le_of_ble_eq_true rfl, Nat.le_of_ble_eq_true rfl⟩ ⟨rfl, rfl⟩ ⟨Nat.le_of_ble_eq_true rfl, Nat.le_of_ble_eq_true rfl⟩ (Nat.le_of_ble_eq_true rfl)) (fun vv uu h => by first | exact h | (exact ⟨h.1.trans (by rw [e]; rfl), h.2⟩))
    · exact XRun.mono (r_callF C c hcc htc (r := (RX7, TX7, 3)) (by rw [e]; rfl) (owner := "LogSawyer$Fault") ce_X0_slicesOf (m_X0_slicesOf G n V R (c) (V sv 3) hn hLR (by first | assumption | omega | decide) (by first | assumption | omega | decide) (by omega) (by first | assumption | omega | decide) (by first | assumption | omega | decide) (by first | assumption | omega | decide)) rfl dX6_mark_13 q_29_14 q_19_10 ⟨by decide, by decide⟩ (Or.inr ⟨_, _, _, q_19_13, q_19_12⟩) rfl q_20_18 q_19_12 rfl rfl ⟨Nat.le_of_ble_eq_true rfl, Nat.le_of_ble_eq_true rfl⟩ ⟨rfl, rfl⟩ ⟨Nat.le_of_ble_eq_true rfl, Nat.le_of_ble_eq_true rfl⟩ (Nat.le_of_ble_eq_true rfl)) (fun vv uu h => by first | exact h | (exact ⟨h.1.trans (by rw [e]; rfl), h.2⟩))
    · exact XRun.mono (r_callF C c hcc htc (r := (RX4, TX4, 3)) (by rw [e]; rfl) (owner := "LogSawyer$Fault") ce_X0_slicesOf (m_X0_slicesOf G n V R (c) (V sv 3) hn hLR (by first | assumption | omega | decide) (by first | assumption | omega | decide) (by omega) (by first | assumption | omega | decide) (by first | assumption | omega | decide) (by first | assumption | omega | decide)) rfl dX6_mark_13 q_29_14 q_19_10 ⟨by decide, by decide⟩ (Or.inr ⟨_, _, _, q_19_13, q_19_12⟩) rfl q_20_16 q_19_12 rfl rfl ⟨Nat.le_of_ble_eq_true rfl, Nat.le_of_ble_eq_true rfl⟩ ⟨rfl, rfl⟩ ⟨Nat.le_of_ble_eq_true rfl, Nat.le_of_ble_eq_true rfl⟩ (Nat.le_of_ble_eq_true rfl)) (fun vv uu h => by first | exact h | (exact ⟨h.1.trans (by rw [e]; rfl), h.2⟩))
    · exact XRun.mono (r_callF C c hcc htc (r := (RX5, TX5, 3)) (by rw [e]; rfl) (owner := "LogSawyer$Fault") ce_X0_slicesOf (m_X0_slicesOf G n V R (c) (V sv 3) hn hLR (by first | assumption | omega | decide) (by first | assumption | omega | decide) (by omega) (by first | assumption | omega | decide) (by first | assumption | omega | decide) (by first | assumption | omega | decide)) rfl dX6_mark_13 q_29_14 q_19_10 ⟨by decide, by decide⟩ (Or.inr ⟨_, _, _, q_19_13, q_19_12⟩) rfl q_20_17 q_19_12 rfl rfl ⟨Nat.le_of_ble_eq_true rfl, Nat.le_of_ble_eq_true rfl⟩ ⟨rfl, rfl⟩ ⟨Nat.le_of_ble_eq_true rfl, Nat.le_of_ble_eq_true rfl⟩ (Nat.le_of_ble_eq_true rfl)) (fun vv uu h => by first | exact h | (exact ⟨h.1.trans (by rw [e]; rfl), h.2⟩))
    · exact XRun.mono (r_callF C c hcc htc (r := (RX9, TX9, 3)) (by rw [e]; rfl) (owner := "LogSawyer$Fault") ce_X0_slicesOf (m_X0_slicesOf G n V R (c) (V sv 3) hn hLR (by first | assumption | omega | decide) (by first | assumption | omega | decide) (by omega) (by first | assumption | omega | decide) (by first | assumption | omega | decide) (by first | assumption | omega | decide)) rfl dX6_mark_13 q_29_14 q_19_10 ⟨by decide, by decide⟩ (Or.inr ⟨_, _, _, q_19_13, q_19_12⟩) rfl q_20_20 q_19_12 rfl rfl ⟨Nat.le_of_ble_eq_true rfl, Nat.le_of_ble_eq_true rfl⟩ ⟨rfl, rfl⟩ ⟨Nat.le_of_ble_eq_true rfl, Nat.le_of_ble_eq_true rfl⟩ (Nat.le_of_ble_eq_true rfl)) (fun vv uu h => by first | exact h | (exact ⟨h.1.trans (by rw [e]; rfl), h.2⟩))
  obtain ⟨rfl, rfl⟩ := hp13
  show Xw K G 0 0 _ n V R 16 [(0, .ref (aG G sv)), (1, .ref (aG G c)), (2, .int (iI g))] [.int (iI (max 0 (min (lastC (V c 3) (V c 1) (V c 2) (V sv 3)) ((V sv 3) - V c 1)))), .int (iI (V c 1)), .int (iI (V sv 3))]
  refine x_top (b := (max 0 (min (lastC (V c 3) (V c 1) (V c 2) L) (L - V c 1)))) (by rw [hl]) ?_
  refine x_iadd C dX6_mark_16 ?_
  refine x_min C dX6_mark_17 q_28_23 q_10_5 q_5_22 q_10_6 ⟨Nat.le_of_ble_eq_true rfl, Nat.le_of_ble_eq_true rfl⟩ ⟨Nat.zero_le _, Nat.zero_le _⟩ (by first | assumption | (constructor <;> omega)) (by first | assumption | (constructor <;> omega)) ?_
  refine x_nm (fun e h_e => ?_)
  refine x_istore_n C dX6_mark_20 rfl (by decide) (lv' := [(0, .ref (aG G sv)), (1, .ref (aG G c)), (2, .int (iI g)), (3, .int (iI e))]) rfl ?_
  rw [hl] at h_e
  refine x_aload_n C 1 dX6_mark_21 rfl rfl ?_
  refine x_runU (mc := 0) (ms := 0) (st := []) (post := (fun vv uu => vv = some (.int (iI (hurtK (V c 3)))) ∧ uu = (n, V, R))) ?_ (fun v22 u22 hp22 => ?_)
  · rcases (show V c 3 = 0 ∨ V c 3 = 1 ∨ V c 3 = 2 ∨ V c 3 = 3 ∨ V c 3 = 4 ∨ V c 3 = 5 ∨ V c 3 = 6 by omega) with e | e | e | e | e | e | e
    · exact XRun.mono (r_callF C c hcc htc (r := (RX1, TX1, 3)) (by rw [e]; rfl) (owner := "LogSawyer$Fault") ce_X1_hurts (m_X1_hurts G n V R (c) hn hLR (by first | assumption | omega | decide) (by first | assumption | omega | decide)) rfl dX6_mark_22 q_29_15 q_23_15 ⟨by decide, by decide⟩ (Or.inl (List.mem_of_getElem? (i := 15) rfl)) rfl q_23_16 q_23_17 rfl rfl ⟨Nat.le_of_ble_eq_true rfl, Nat.le_of_ble_eq_true rfl⟩ ⟨rfl, rfl⟩ ⟨Nat.le_of_ble_eq_true rfl, Nat.le_of_ble_eq_true rfl⟩ (Nat.le_of_ble_eq_true rfl)) (fun vv uu h => by first | exact h | (exact ⟨h.1.trans (by rw [e]; rfl), h.2⟩))
    · exact XRun.mono (r_callF C c hcc htc (r := (RX2, TX2, 3)) (by rw [e]; rfl) (owner := "LogSawyer$Fault") ce_X2_hurts (m_X2_hurts G n V R (c) hn hLR (by first | assumption | omega | decide) (by first | assumption | omega | decide) (by first | assumption | omega | decide)) rfl dX6_mark_22 q_29_15 q_23_15 ⟨by decide, by decide⟩ (Or.inl (List.mem_of_getElem? (i := 15) rfl)) rfl q_23_19 q_23_20 rfl rfl ⟨Nat.le_of_ble_eq_true rfl, Nat.le_of_ble_eq_true rfl⟩ ⟨rfl, rfl⟩ ⟨Nat.le_of_ble_eq_true rfl, Nat.le_of_ble_eq_true rfl⟩ (Nat.le_of_ble_eq_true rfl)) (fun vv uu h => by first | exact h | (exact ⟨h.1.trans (by rw [e]; rfl), h.2⟩))
    · exact XRun.mono (r_callF C c hcc htc (r := (RX8, TX8, 3)) (by rw [e]; rfl) (owner := "LogSawyer$Fault") ce_X2_hurts (m_X2_hurts G n V R (c) hn hLR (by first | assumption | omega | decide) (by first | assumption | omega | decide) (by first | assumption | omega | decide)) rfl dX6_mark_22 q_29_15 q_23_15 ⟨by decide, by decide⟩ (Or.inl (List.mem_of_getElem? (i := 15) rfl)) rfl q_24_12 q_23_20 rfl rfl ⟨Nat.le_of_ble_eq_true rfl, Nat.le_of_ble_eq_true rfl⟩ ⟨rfl, rfl⟩ ⟨Nat.le_of_ble_eq_true rfl, Nat.le_of_ble_eq_true rfl⟩ (Nat.le_of_ble_eq_true rfl)) (fun vv uu h => by first | exact h | (exact ⟨h.1.trans (by rw [e]; rfl), h.2⟩))
    · exact XRun.mono (r_callF C c hcc htc (r := (RX7, TX7, 3)) (by rw [e]; rfl) (owner := "LogSawyer$Fault") ce_X7_hurts (m_X7_hurts G n V R (c) hn hLR (by first | assumption | omega | decide) (by first | assumption | omega | decide)) rfl dX6_mark_22 q_29_15 q_23_15 ⟨by decide, by decide⟩ (Or.inl (List.mem_of_getElem? (i := 15) rfl)) rfl q_24_11 q_24_6 rfl rfl ⟨Nat.le_of_ble_eq_true rfl, Nat.le_of_ble_eq_true rfl⟩ ⟨rfl, rfl⟩ ⟨Nat.le_of_ble_eq_true rfl, Nat.le_of_ble_eq_true rfl⟩ (Nat.le_of_ble_eq_true rfl)) (fun vv uu h => by first | exact h | (exact ⟨h.1.trans (by rw [e]; rfl), h.2⟩))
    · exact XRun.mono (r_callF C c hcc htc (r := (RX4, TX4, 3)) (by rw [e]; rfl) (owner := "LogSawyer$Fault") ce_X4_hurts (m_X4_hurts G n V R (c) hn hLR (by first | assumption | omega | decide) (by first | assumption | omega | decide) (by first | assumption | omega | decide)) rfl dX6_mark_22 q_29_15 q_23_15 ⟨by decide, by decide⟩ (Or.inl (List.mem_of_getElem? (i := 15) rfl)) rfl q_24_0 q_24_1 rfl rfl ⟨Nat.le_of_ble_eq_true rfl, Nat.le_of_ble_eq_true rfl⟩ ⟨rfl, rfl⟩ ⟨Nat.le_of_ble_eq_true rfl, Nat.le_of_ble_eq_true rfl⟩ (Nat.le_of_ble_eq_true rfl)) (fun vv uu h => by first | exact h | (exact ⟨h.1.trans (by rw [e]; rfl), h.2⟩))
    · exact XRun.mono (r_callF C c hcc htc (r := (RX5, TX5, 3)) (by rw [e]; rfl) (owner := "LogSawyer$Fault") ce_X5_hurts (m_X5_hurts G n V R (c) hn hLR (by first | assumption | omega | decide) (by first | assumption | omega | decide)) rfl dX6_mark_22 q_29_15 q_23_15 ⟨by decide, by decide⟩ (Or.inl (List.mem_of_getElem? (i := 15) rfl)) rfl q_24_8 q_24_9 rfl rfl ⟨Nat.le_of_ble_eq_true rfl, Nat.le_of_ble_eq_true rfl⟩ ⟨rfl, rfl⟩ ⟨Nat.le_of_ble_eq_true rfl, Nat.le_of_ble_eq_true rfl⟩ (Nat.le_of_ble_eq_true rfl)) (fun vv uu h => by first | exact h | (exact ⟨h.1.trans (by rw [e]; rfl), h.2⟩))
    · exact XRun.mono (r_callF C c hcc htc (r := (RX9, TX9, 3)) (by rw [e]; rfl) (owner := "LogSawyer$Fault") ce_X9_hurts (m_X9_hurts G n V R (c) hn hLR (by first | assumption | omega | decide) (by first | assumption | omega | decide)) rfl dX6_mark_22 q_29_15 q_23_15 ⟨by decide, by decide⟩ (Or.inl (List.mem_of_getElem? (i := 15) rfl)) rfl q_24_13 q_24_14 rfl rfl ⟨Nat.le_of_ble_eq_true rfl, Nat.le_of_ble_eq_true rfl⟩ ⟨rfl, rfl⟩ ⟨Nat.le_of_ble_eq_true rfl, Nat.le_of_ble_eq_true rfl⟩ (Nat.le_of_ble_eq_true rfl)) (fun vv uu h => by first | exact h | (exact ⟨h.1.trans (by rw [e]; rfl), h.2⟩))
  obtain ⟨rfl, rfl⟩ := hp22
  show Xw K G 0 0 _ n V R 25 [(0, .ref (aG G sv)), (1, .ref (aG G c)), (2, .int (iI g)), (3, .int (iI e))] [.int (iI (hurtK (V c 3)))]
  refine x_istore C dX6_mark_25 (by decide) (lv' := [(0, .ref (aG G sv)), (1, .ref (aG G c)), (2, .int (iI g)), (3, .int (iI e)), (4, .int (iI (hurtK (V c 3))))]) rfl ?_
  refine x_iconst C dX6_mark_27 ?_
  refine x_istore C dX6_mark_28 (by decide) (lv' := [(0, .ref (aG G sv)), (1, .ref (aG G c)), (2, .int (iI g)), (3, .int (iI e)), (4, .int (iI (hurtK (V c 3)))), (5, .int (iI 0))]) rfl ?_
  have lp_30 : ∀ (fuel : Nat) (q : Int) (V2 : Nat → Int → Int), (0 ≤ q ∧ q ≤ 144) → (∀ q1, q1 ≠ sv + 3 → V2 q1 = V q1) → (MkI V V2 sv (V c 3) (V c 0) (V c 1) (V c 2) g L q 0) → ((145 : Int) - q) < (fuel : Int) → Xw K G 0 0 (EndQ K G 0 0 (fun vv uu => ∃ (V1 : Nat → Int → Int), vv = none ∧ uu = (n, V1, R) ∧ (∀ q, q ≠ sv + 3 → V1 q = V q) ∧ (MkI V V1 sv (V c 3) (V c 0) (V c 1) (V c 2) g L 144 0))) n V2 R 30 [(0, .ref (aG G sv)), (1, .ref (aG G c)), (2, .int (iI g)), (3, .int (iI e)), (4, .int (iI (hurtK (V c 3)))), (5, .int (iI q))] [] := by
    intro fuel30
    induction fuel30 with
    | zero => intro q V2 hq hF2 hM2 hfu30; exfalso; omega
    | succ fuel30 ih30 =>
      intro q V2 hq hF2 hM2 hfu30
      have ec : V2 c = V c := hF2 c (by omega)
      have hk2 : 0 ≤ V2 c 3 ∧ V2 c 3 ≤ 6 := by rw [ec]; exact hk7
      have ha2 : 0 ≤ V2 c 0 ∧ V2 c 0 ≤ 7 := by rw [ec]; exact ha
      have hs2 : 0 ≤ V2 c 1 ∧ V2 c 1 ≤ 7 := by rw [ec]; exact hs
      have hz2 : 1 ≤ V2 c 2 ∧ V2 c 2 ≤ 4 := by rw [ec]; exact hz
      refine x_iload C 5 dX6_mark_30 rfl ?_
      refine x_sipush C dX6_mark_32 (w := 144) (by decide) ?_
      refine x_icmp_ge C dX6_mark_35 (tgt := 135) (by decide) (by first | assumption | (constructor <;> omega)) (by first | assumption | (constructor <;> omega)) (fun h35 => ?_) (fun h35 => ?_)
      · skip
        refine x_vret C dX6_mark_135 ⟨_, rfl, rfl, ?_, ?_⟩
        · assumption
        · rw [show (144 : Int) = q by omega]; exact hM2
      · skip
        refine x_iload C 5 dX6_mark_38 rfl ?_
        refine x_bipush C dX6_mark_40 (w := 12) (by decide) ?_
        refine x_irem C dX6_mark_42 (by first | assumption | (constructor <;> omega)) (by first | assumption | (constructor <;> omega)) (by omega) (by omega) ?_
        refine x_istore C dX6_mark_43 (by decide) (lv' := [(0, .ref (aG G sv)), (1, .ref (aG G c)), (2, .int (iI g)), (3, .int (iI e)), (4, .int (iI (hurtK (V c 3)))), (5, .int (iI q)), (6, .int (iI (q % 12)))]) rfl ?_
        refine x_iload C 5 dX6_mark_45 rfl ?_
        refine x_bipush C dX6_mark_47 (w := 12) (by decide) ?_
        refine x_idiv C dX6_mark_49 (by first | assumption | (constructor <;> omega)) (by first | assumption | (constructor <;> omega)) (by omega) (by omega) ?_
        refine x_istore C dX6_mark_50 (by decide) (lv' := [(0, .ref (aG G sv)), (1, .ref (aG G c)), (2, .int (iI g)), (3, .int (iI e)), (4, .int (iI (hurtK (V c 3)))), (5, .int (iI q)), (6, .int (iI (q % 12))), (7, .int (iI (q / 12)))]) rfl ?_
        refine x_aload_n C 1 dX6_mark_52 rfl rfl ?_
        have ob := o_b (x := q % 12) (y := q / 12) (t := g) (by omega) (by omega)
        refine x_iload_n C 2 dX6_mark_53 rfl rfl ?_
        refine x_iload C 6 dX6_mark_54 rfl ?_
        refine x_iload C 7 dX6_mark_56 rfl ?_
        refine x_runU (r_callSN C (ce_X11_ownX) (m_X11_ownX G n V2 R (g) (q % 12) (q / 12) (by first | assumption | omega | decide)) dX6_mark_58 (List.mem_of_getElem? (i := 21) rfl) q_29_16 rfl rfl ⟨Nat.le_of_ble_eq_true rfl, Nat.le_of_ble_eq_true rfl⟩ ⟨rfl, rfl⟩ ⟨Nat.le_of_ble_eq_true rfl, Nat.le_of_ble_eq_true rfl⟩ (Nat.le_of_ble_eq_true rfl)) (fun v58 u58 hp58 => ?_)
        obtain ⟨rfl, rfl⟩ := hp58
        show Xw K G 0 0 _ n V2 R 61 [(0, .ref (aG G sv)), (1, .ref (aG G c)), (2, .int (iI g)), (3, .int (iI e)), (4, .int (iI (hurtK (V c 3)))), (5, .int (iI q)), (6, .int (iI (q % 12))), (7, .int (iI (q / 12)))] [.int (iI (oX (q % 12) (q / 12) g)), .ref (aG G c)]
        refine x_runU (r_callSN C (ce_X11_fromMiddle) (m_X11_fromMiddle G n V2 R (oX (q % 12) (q / 12) g)) dX6_mark_61 (List.mem_of_getElem? (i := 22) rfl) q_6_0 rfl rfl ⟨Nat.le_of_ble_eq_true rfl, Nat.le_of_ble_eq_true rfl⟩ ⟨rfl, rfl⟩ ⟨Nat.le_of_ble_eq_true rfl, Nat.le_of_ble_eq_true rfl⟩ (Nat.le_of_ble_eq_true rfl)) (fun v61 u61 hp61 => ?_)
        obtain ⟨rfl, rfl⟩ := hp61
        show Xw K G 0 0 _ n V2 R 64 [(0, .ref (aG G sv)), (1, .ref (aG G c)), (2, .int (iI g)), (3, .int (iI e)), (4, .int (iI (hurtK (V c 3)))), (5, .int (iI q)), (6, .int (iI (q % 12))), (7, .int (iI (q / 12)))] [.int (iI (2 * (oX (q % 12) (q / 12) g) - 11)), .ref (aG G c)]
        refine x_iload_n C 2 dX6_mark_64 rfl rfl ?_
        refine x_iload C 6 dX6_mark_65 rfl ?_
        refine x_iload C 7 dX6_mark_67 rfl ?_
        refine x_runU (r_callSN C (ce_X11_ownY) (m_X11_ownY G n V2 R (g) (q % 12) (q / 12) (by first | assumption | omega | decide)) dX6_mark_69 (List.mem_of_getElem? (i := 23) rfl) q_29_18 rfl rfl ⟨Nat.le_of_ble_eq_true rfl, Nat.le_of_ble_eq_true rfl⟩ ⟨rfl, rfl⟩ ⟨Nat.le_of_ble_eq_true rfl, Nat.le_of_ble_eq_true rfl⟩ (Nat.le_of_ble_eq_true rfl)) (fun v69 u69 hp69 => ?_)
        obtain ⟨rfl, rfl⟩ := hp69
        show Xw K G 0 0 _ n V2 R 72 [(0, .ref (aG G sv)), (1, .ref (aG G c)), (2, .int (iI g)), (3, .int (iI e)), (4, .int (iI (hurtK (V c 3)))), (5, .int (iI q)), (6, .int (iI (q % 12))), (7, .int (iI (q / 12)))] [.int (iI (oY (q % 12) (q / 12) g)), .int (iI (2 * (oX (q % 12) (q / 12) g) - 11)), .ref (aG G c)]
        refine x_runU (r_callSN C (ce_X11_fromMiddle) (m_X11_fromMiddle G n V2 R (oY (q % 12) (q / 12) g)) dX6_mark_72 (List.mem_of_getElem? (i := 22) rfl) q_6_0 rfl rfl ⟨Nat.le_of_ble_eq_true rfl, Nat.le_of_ble_eq_true rfl⟩ ⟨rfl, rfl⟩ ⟨Nat.le_of_ble_eq_true rfl, Nat.le_of_ble_eq_true rfl⟩ (Nat.le_of_ble_eq_true rfl)) (fun v72 u72 hp72 => ?_)
        obtain ⟨rfl, rfl⟩ := hp72
        show Xw K G 0 0 _ n V2 R 75 [(0, .ref (aG G sv)), (1, .ref (aG G c)), (2, .int (iI g)), (3, .int (iI e)), (4, .int (iI (hurtK (V c 3)))), (5, .int (iI q)), (6, .int (iI (q % 12))), (7, .int (iI (q / 12)))] [.int (iI (2 * (oY (q % 12) (q / 12) g) - 11)), .int (iI (2 * (oX (q % 12) (q / 12) g) - 11)), .ref (aG G c)]
        refine x_runU (mc := 0) (ms := 0) (st := []) (post := (fun vv uu => vv = some (.int (iI (bI (inU (V2 c 3) (V2 c 0) (V2 c 2) (2 * (oX (q % 12) (q / 12) g) - 11) (2 * (oY (q % 12) (q / 12) g) - 11))))) ∧ uu = (n, V2, R))) ?_ (fun v75 u75 hp75 => ?_)
        · rcases (show V2 c 3 = 0 ∨ V2 c 3 = 1 ∨ V2 c 3 = 2 ∨ V2 c 3 = 3 ∨ V2 c 3 = 4 ∨ V2 c 3 = 5 ∨ V2 c 3 = 6 by omega) with e | e | e | e | e | e | e
          · exact XRun.mono (r_callF C c hcc htc (r := (RX1, TX1, 3)) (by rw [e]; rfl) (owner := "LogSawyer$Fault") ce_X1_isIn (m_X1_isIn G n V2 R (c) (2 * (oX (q % 12) (q / 12) g) - 11) (2 * (oY (q % 12) (q / 12) g) - 11) hn hLR (by first | assumption | omega | decide) (by first | assumption | omega | decide) (by first | assumption | omega | decide) (by first | assumption | omega | decide) (by first | assumption | omega | decide) (by first | assumption | omega | decide) (by first | assumption | omega | decide)) rfl dX6_mark_75 q_29_21 q_20_23 ⟨by decide, by decide⟩ (Or.inl (List.mem_of_getElem? (i := 14) rfl)) rfl q_21_0 q_21_1 rfl rfl ⟨Nat.le_of_ble_eq_true rfl, Nat.le_of_ble_eq_true rfl⟩ ⟨rfl, rfl⟩ ⟨Nat.le_of_ble_eq_true rfl, Nat.le_of_ble_eq_true rfl⟩ (Nat.le_of_ble_eq_true rfl)) (fun vv uu h => by first | exact h | (exact ⟨h.1.trans (by first | rfl | exact congrArg (fun p => some (Value.int (iI (bI p)))) (propext (in5 e).symm)), h.2⟩))
          · exact XRun.mono (r_callF C c hcc htc (r := (RX2, TX2, 3)) (by rw [e]; rfl) (owner := "LogSawyer$Fault") ce_X1_isIn (m_X1_isIn G n V2 R (c) (2 * (oX (q % 12) (q / 12) g) - 11) (2 * (oY (q % 12) (q / 12) g) - 11) hn hLR (by first | assumption | omega | decide) (by first | assumption | omega | decide) (by first | assumption | omega | decide) (by first | assumption | omega | decide) (by first | assumption | omega | decide) (by first | assumption | omega | decide) (by first | assumption | omega | decide)) rfl dX6_mark_75 q_29_21 q_20_23 ⟨by decide, by decide⟩ (Or.inl (List.mem_of_getElem? (i := 14) rfl)) rfl q_22_9 q_21_1 rfl rfl ⟨Nat.le_of_ble_eq_true rfl, Nat.le_of_ble_eq_true rfl⟩ ⟨rfl, rfl⟩ ⟨Nat.le_of_ble_eq_true rfl, Nat.le_of_ble_eq_true rfl⟩ (Nat.le_of_ble_eq_true rfl)) (fun vv uu h => by first | exact h | (exact ⟨h.1.trans (by first | rfl | exact congrArg (fun p => some (Value.int (iI (bI p)))) (propext (in5 e).symm)), h.2⟩))
          · exact XRun.mono (r_callF C c hcc htc (r := (RX8, TX8, 3)) (by rw [e]; rfl) (owner := "LogSawyer$Fault") ce_X1_isIn (m_X1_isIn G n V2 R (c) (2 * (oX (q % 12) (q / 12) g) - 11) (2 * (oY (q % 12) (q / 12) g) - 11) hn hLR (by first | assumption | omega | decide) (by first | assumption | omega | decide) (by first | assumption | omega | decide) (by first | assumption | omega | decide) (by first | assumption | omega | decide) (by first | assumption | omega | decide) (by first | assumption | omega | decide)) rfl dX6_mark_75 q_29_21 q_20_23 ⟨by decide, by decide⟩ (Or.inl (List.mem_of_getElem? (i := 14) rfl)) rfl q_23_3 q_21_1 rfl rfl ⟨Nat.le_of_ble_eq_true rfl, Nat.le_of_ble_eq_true rfl⟩ ⟨rfl, rfl⟩ ⟨Nat.le_of_ble_eq_true rfl, Nat.le_of_ble_eq_true rfl⟩ (Nat.le_of_ble_eq_true rfl)) (fun vv uu h => by first | exact h | (exact ⟨h.1.trans (by first | rfl | exact congrArg (fun p => some (Value.int (iI (bI p)))) (propext (in5 e).symm)), h.2⟩))
          · exact XRun.mono (r_callF C c hcc htc (r := (RX7, TX7, 3)) (by rw [e]; rfl) (owner := "LogSawyer$Fault") ce_X7_isIn (m_X7_isIn G n V2 R (c) (2 * (oX (q % 12) (q / 12) g) - 11) (2 * (oY (q % 12) (q / 12) g) - 11) hn hLR (by first | assumption | omega | decide) (by first | assumption | omega | decide) (by first | assumption | omega | decide) (by first | assumption | omega | decide) (by first | assumption | omega | decide) (by first | assumption | omega | decide) (by first | assumption | omega | decide)) rfl dX6_mark_75 q_29_21 q_20_23 ⟨by decide, by decide⟩ (Or.inl (List.mem_of_getElem? (i := 14) rfl)) rfl q_22_20 q_22_21 rfl rfl ⟨Nat.le_of_ble_eq_true rfl, Nat.le_of_ble_eq_true rfl⟩ ⟨rfl, rfl⟩ ⟨Nat.le_of_ble_eq_true rfl, Nat.le_of_ble_eq_true rfl⟩ (Nat.le_of_ble_eq_true rfl)) (fun vv uu h => by first | exact h | (exact ⟨h.1.trans (by first | rfl | exact congrArg (fun p => some (Value.int (iI (bI p)))) (propext (in5 e).symm)), h.2⟩))
          · exact XRun.mono (r_callF C c hcc htc (r := (RX4, TX4, 3)) (by rw [e]; rfl) (owner := "LogSawyer$Fault") ce_X4_isIn (m_X4_isIn G n V2 R (c) (2 * (oX (q % 12) (q / 12) g) - 11) (2 * (oY (q % 12) (q / 12) g) - 11) hn hLR (by first | assumption | omega | decide) (by first | assumption | omega | decide) (by first | assumption | omega | decide) (by first | assumption | omega | decide) (by first | assumption | omega | decide) (by first | assumption | omega | decide)) rfl dX6_mark_75 q_29_21 q_20_23 ⟨by decide, by decide⟩ (Or.inl (List.mem_of_getElem? (i := 14) rfl)) rfl q_22_10 q_22_11 rfl rfl ⟨Nat.le_of_ble_eq_true rfl, Nat.le_of_ble_eq_true rfl⟩ ⟨rfl, rfl⟩ ⟨Nat.le_of_ble_eq_true rfl, Nat.le_of_ble_eq_true rfl⟩ (Nat.le_of_ble_eq_true rfl)) (fun vv uu h => by first | exact h | (exact ⟨h.1.trans (by first | rfl | exact congrArg (fun p => some (Value.int (iI (bI p)))) (propext (in5 e).symm)), h.2⟩))
          · exact XRun.mono (r_callF C c hcc htc (r := (RX5, TX5, 3)) (by rw [e]; rfl) (owner := "LogSawyer$Fault") ce_X5_isIn (m_X5_isIn G n V2 R (c) (2 * (oX (q % 12) (q / 12) g) - 11) (2 * (oY (q % 12) (q / 12) g) - 11) hn hLR (by first | assumption | omega | decide) (by first | assumption | omega | decide) (by first | assumption | omega | decide) (by first | assumption | omega | decide) (by first | assumption | omega | decide)) rfl dX6_mark_75 q_29_21 q_20_23 ⟨by decide, by decide⟩ (Or.inl (List.mem_of_getElem? (i := 14) rfl)) rfl q_22_15 q_22_16 rfl rfl ⟨Nat.le_of_ble_eq_true rfl, Nat.le_of_ble_eq_true rfl⟩ ⟨rfl, rfl⟩ ⟨Nat.le_of_ble_eq_true rfl, Nat.le_of_ble_eq_true rfl⟩ (Nat.le_of_ble_eq_true rfl)) (fun vv uu h => by first | exact h | (exact ⟨h.1.trans (by first | rfl | exact congrArg (fun p => some (Value.int (iI (bI p)))) (propext (in5 e).symm)), h.2⟩))
          · exact XRun.mono (r_callF C c hcc htc (r := (RX9, TX9, 3)) (by rw [e]; rfl) (owner := "LogSawyer$Fault") ce_X9_isIn (m_X9_isIn G n V2 R (c) (2 * (oX (q % 12) (q / 12) g) - 11) (2 * (oY (q % 12) (q / 12) g) - 11) hn hLR (by first | assumption | omega | decide) (by first | assumption | omega | decide) (by first | assumption | omega | decide) (by first | assumption | omega | decide) (by first | assumption | omega | decide) (by first | assumption | omega | decide) (by first | assumption | omega | decide)) rfl dX6_mark_75 q_29_21 q_20_23 ⟨by decide, by decide⟩ (Or.inl (List.mem_of_getElem? (i := 14) rfl)) rfl q_23_4 q_23_5 rfl rfl ⟨Nat.le_of_ble_eq_true rfl, Nat.le_of_ble_eq_true rfl⟩ ⟨rfl, rfl⟩ ⟨Nat.le_of_ble_eq_true rfl, Nat.le_of_ble_eq_true rfl⟩ (Nat.le_of_ble_eq_true rfl)) (fun vv uu h => by first | exact h | (exact ⟨h.1.trans (by first | rfl | exact congrArg (fun p => some (Value.int (iI (bI p)))) (propext (in5 e).symm)), h.2⟩))
        obtain ⟨rfl, rfl⟩ := hp75
        show Xw K G 0 0 _ n V2 R 78 [(0, .ref (aG G sv)), (1, .ref (aG G c)), (2, .int (iI g)), (3, .int (iI e)), (4, .int (iI (hurtK (V c 3)))), (5, .int (iI q)), (6, .int (iI (q % 12))), (7, .int (iI (q / 12)))] [.int (iI (bI (inU (V2 c 3) (V2 c 0) (V2 c 2) (2 * (oX (q % 12) (q / 12) g) - 11) (2 * (oY (q % 12) (q / 12) g) - 11))))]
        refine x_ifeq_b C dX6_mark_78 (tgt := 129) (by decide) (fun h78 => ?_) (fun h78 => ?_)
        · skip
          refine x_iinc C 5 dX6_mark_129 rfl (by decide) (lv' := [(0, .ref (aG G sv)), (1, .ref (aG G c)), (2, .int (iI g)), (3, .int (iI e)), (4, .int (iI (hurtK (V c 3)))), (5, .int (iI (q + 1))), (6, .int (iI (q % 12))), (7, .int (iI (q / 12)))]) rfl ?_
          refine x_goto C dX6_mark_132 (tgt := 30) (by decide) ?_
          refine x_sub [0, 1, 2, 3, 4, 5] (lv' := [(0, .ref (aG G sv)), (1, .ref (aG G c)), (2, .int (iI g)), (3, .int (iI e)), (4, .int (iI (hurtK (V c 3)))), (5, .int (iI (q + 1)))]) rfl ?_
          exact ih30 ((q + 1)) (V2) (by omega) (by assumption) (by first | exact MkI.out hM3 h_e (by omega) (by omega) hL8 hs hz | exact MkI.not hM2 (by rw [← ec]; assumption)) (by omega)
        · skip
          refine x_aload_n C 1 dX6_mark_81 rfl rfl ?_
          refine x_getF C c 1 dX6_mark_82 hcc htc (by decide) q_29_13 (Or.inl rfl) (kz := 1) rfl (fun rg82 => ?_)
          refine x_istore C dX6_mark_85 (by decide) (lv' := [(0, .ref (aG G sv)), (1, .ref (aG G c)), (2, .int (iI g)), (3, .int (iI e)), (4, .int (iI (hurtK (V c 3)))), (5, .int (iI q)), (6, .int (iI (q % 12))), (7, .int (iI (q / 12))), (8, .int (iI (V2 c 1)))]) rfl ?_
          have lp_87 : ∀ (fuel : Nat) (s : Int) (V3 : Nat → Int → Int), (V c 1 ≤ s ∧ s ≤ 15) → (∀ q1, q1 ≠ sv + 3 → V3 q1 = V q1) → (MkI V V3 sv (V c 3) (V c 0) (V c 1) (V c 2) g L q s) → ((17 : Int) - s) < (fuel : Int) → Xw K G 0 0 (EndQ K G 0 0 (fun vv uu => ∃ (V1 : Nat → Int → Int), vv = none ∧ uu = (n, V1, R) ∧ (∀ q, q ≠ sv + 3 → V1 q = V q) ∧ (MkI V V1 sv (V c 3) (V c 0) (V c 1) (V c 2) g L 144 0))) n V3 R 87 [(0, .ref (aG G sv)), (1, .ref (aG G c)), (2, .int (iI g)), (3, .int (iI e)), (4, .int (iI (hurtK (V c 3)))), (5, .int (iI q)), (6, .int (iI (q % 12))), (7, .int (iI (q / 12))), (8, .int (iI s))] [] := by
            intro fuel87
            induction fuel87 with
            | zero => intro s V3 hs3 hF3 hM3 hfu87; exfalso; omega
            | succ fuel87 ih87 =>
              intro s V3 hs3 hF3 hM3 hfu87
              refine x_iload C 8 dX6_mark_87 rfl ?_
              refine x_iload_n C 3 dX6_mark_89 rfl rfl ?_
              refine x_icmp_ge C dX6_mark_90 (tgt := 129) (by decide) (by first | assumption | (constructor <;> omega)) (by first | assumption | (constructor <;> omega)) (fun h90 => ?_) (fun h90 => ?_)
              · skip
                refine x_iinc C 5 dX6_mark_129 rfl (by decide) (lv' := [(0, .ref (aG G sv)), (1, .ref (aG G c)), (2, .int (iI g)), (3, .int (iI e)), (4, .int (iI (hurtK (V c 3)))), (5, .int (iI (q + 1))), (6, .int (iI (q % 12))), (7, .int (iI (q / 12))), (8, .int (iI s))]) rfl ?_
                refine x_goto C dX6_mark_132 (tgt := 30) (by decide) ?_
                refine x_sub [0, 1, 2, 3, 4, 5] (lv' := [(0, .ref (aG G sv)), (1, .ref (aG G c)), (2, .int (iI g)), (3, .int (iI e)), (4, .int (iI (hurtK (V c 3)))), (5, .int (iI (q + 1)))]) rfl ?_
                exact ih30 ((q + 1)) (V3) (by omega) (by assumption) (by first | exact MkI.out hM3 h_e (by omega) (by omega) hL8 hs hz | exact MkI.not hM2 (by rw [← ec]; assumption)) (by omega)
              · skip
                refine x_iload C 8 dX6_mark_93 rfl ?_
                refine x_sipush C dX6_mark_95 (w := 144) (by decide) ?_
                refine x_imul C dX6_mark_98 ?_
                refine x_iload C 5 dX6_mark_99 rfl ?_
                refine x_iadd C dX6_mark_101 ?_
                refine x_istore C dX6_mark_102 (by decide) (lv' := [(0, .ref (aG G sv)), (1, .ref (aG G c)), (2, .int (iI g)), (3, .int (iI e)), (4, .int (iI (hurtK (V c 3)))), (5, .int (iI q)), (6, .int (iI (q % 12))), (7, .int (iI (q / 12))), (8, .int (iI s)), (9, .int (iI ((s * 144) + q)))]) rfl ?_
                refine x_aload_n C 0 dX6_mark_104 rfl rfl ?_
                refine x_getr C ok_Saw sv 7 (d := (sv + 3)) dX6_mark_105 (ltS hsv hn (by decide) : sv + 0 < n) (tbS_0 hsv) (by decide) rfl q_2_17 rfl (kz := 7) rfl (lrS_7 hsv hLR) ?_
                refine x_iload C 9 dX6_mark_108 rfl ?_
                refine x_aload_n C 0 dX6_mark_110 rfl rfl ?_
                refine x_getr C ok_Saw sv 7 (d := (sv + 3)) dX6_mark_111 (ltS hsv hn (by decide) : sv + 0 < n) (tbS_0 hsv) (by decide) rfl q_2_17 rfl (kz := 7) rfl (lrS_7 hsv hLR) ?_
                refine x_iload C 9 dX6_mark_114 rfl ?_
                refine x_iald C (sv + 3) dX6_mark_116 (ltS hsv hn (by decide)) (tbS_3 hsv) (by refine ⟨?_, ?_⟩ <;> omega) (fun rg116 => ?_)
                refine x_iload C 4 dX6_mark_117 rfl ?_
                refine x_max C dX6_mark_119 q_29_2 q_5_21 q_5_22 q_5_23 ⟨Nat.le_of_ble_eq_true rfl, Nat.le_of_ble_eq_true rfl⟩ ⟨Nat.zero_le _, Nat.zero_le _⟩ (by first | assumption | (constructor <;> omega)) (by first | assumption | (constructor <;> omega)) ?_
                refine x_iast C (sv + 3) dX6_mark_122 (ltS hsv hn (by decide)) (tbS_3 hsv) (by refine ⟨?_, ?_⟩ <;> omega) (by first | assumption | (constructor <;> omega)) ?_
                refine x_iinc C 8 dX6_mark_123 rfl (by decide) (lv' := [(0, .ref (aG G sv)), (1, .ref (aG G c)), (2, .int (iI g)), (3, .int (iI e)), (4, .int (iI (hurtK (V c 3)))), (5, .int (iI q)), (6, .int (iI (q % 12))), (7, .int (iI (q / 12))), (8, .int (iI (s + 1))), (9, .int (iI ((s * 144) + q)))]) rfl ?_
                refine x_goto C dX6_mark_126 (tgt := 87) (by decide) ?_
                refine x_sub [0, 1, 2, 3, 4, 5, 6, 7, 8] (lv' := [(0, .ref (aG G sv)), (1, .ref (aG G c)), (2, .int (iI g)), (3, .int (iI e)), (4, .int (iI (hurtK (V c 3)))), (5, .int (iI q)), (6, .int (iI (q % 12))), (7, .int (iI (q / 12))), (8, .int (iI (s + 1)))]) rfl ?_
                exact ih87 ((s + 1)) ((u2 V3 (sv + 3) ((s * 144) + q) (max (V3 (sv + 3) ((s * 144) + q)) (hurtK (V c 3))))) (by omega) (by exact fun q1 a => by rw [u2_n a]; exact hF3 q1 a) (by exact MkI.step hM3 h_e (by omega) (by omega) (by omega) hL8 hs hz (by rw [← ec]; assumption)) (by omega)
          exact lp_87 (((17 : Int) - (V2 c 1)).toNat + 1) ((V2 c 1)) (V2) (by rw [ec]; omega) (by assumption) (by rw [ec]; exact MkI.in hM2) (by omega)
  exact lp_30 (((145 : Int) - 0).toNat + 1) (0) (V) (by omega) (by exact fun _ _ => rfl) (by exact MkI.zero) (by omega)
