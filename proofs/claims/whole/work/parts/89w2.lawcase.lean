set_option maxRecDepth 100000 in
set_option maxHeartbeats 4000000 in
theorem cs_16 {K : XS} {G : GS} {cells slots : Nat} {Q : State → Prop} {n : Nat} {V : Nat → Int → Int} {R : Nat → Int → Option Nat} {ret0 : Option FieldType} {b L : Nat} {xs : Nat → Int32} (C : Cx K G cL_law RL 4 ret0 room_1) (hX : LawX K G b L xs) (hL : L ≤ 3584) {i : Int} (hi : 0 ≤ i ∧ i + 7 ≤ L) (h : Rel n V R) (hcs : cells + 64 ≤ 600000 ∧ slots + 192 ≤ 7302250) (kk : ∀ n2 V2 R2, Rel n2 V2 R2 → Xw K G (cells + 64) (slots + 192) Q n2 V2 R2 1271 [(0, .ref b), (1, .ref (aG G 0)), (2, .ref (aG G 42)), (3, .int (iI i))] []) : Xw K G cells slots Q n V R 764 [(0, .ref b), (1, .ref (aG G 0)), (2, .ref (aG G 42)), (3, .int (iI i))] [] := by
  refine x_aload_n C 1 dL_law_764 rfl rfl ?_
  obtain ⟨post1, hc1, hp1⟩ := pr_saw (G := G)  h 
  refine x_runU (r_callV C ok_Class 0 (lt67 h.h67 rfl) rfl (ce_X11_saw) hc1 rfl dL_law_765 q_39_7 q_39_8 q_39_9 rfl rfl ⟨Nat.le_of_ble_eq_true rfl, Nat.le_of_ble_eq_true rfl⟩ ⟨rfl, rfl⟩ ⟨(show cells + 0 ≤ 600000 from by omega), (show slots + 0 ≤ 7302250 from by omega)⟩ (Nat.le_of_ble_eq_true rfl)) (fun v1 u1 hv1 => ?_)
  obtain ⟨r, rfl, h671, post2, hc2, hp2⟩ := hp1 v1 u1 hv1
  obtain ⟨n1, V1, R1⟩ := u1
  show Xw K G (cells + 0) (slots + 0) Q n1 V1 R1 768 [(0, .ref b), (1, .ref (aG G 0)), (2, .ref (aG G 42)), (3, .int (iI i))] [iM r]
  refine x_aload_n C 2 dL_law_768 rfl rfl ?_
  refine x_runU (r_callV C ok_Model 42 (lt67 h671 rfl) rfl (ce_X12_saw) hc2 rfl dL_law_769 q_40_0 q_40_1 q_40_2 rfl rfl ⟨Nat.le_of_ble_eq_true rfl, Nat.le_of_ble_eq_true rfl⟩ ⟨rfl, rfl⟩ ⟨(show cells + 0 + 0 ≤ 600000 from by omega), (show slots + 0 + 0 ≤ 7302250 from by omega)⟩ (Nat.le_of_ble_eq_true rfl)) (fun v2 u2 hv2 => ?_)
  obtain ⟨rfl, hR⟩ := hp2 v2 u2 hv2
  obtain ⟨n2, V2, R2⟩ := u2
  show Xw K G (cells + 0 + 0) (slots + 0 + 0) Q n2 V2 R2 772 [(0, .ref b), (1, .ref (aG G 0)), (2, .ref (aG G 42)), (3, .int (iI i))] [iM r, iM r]
  refine x_sameI C dL_law_772 (tgt := 1271) (by decide) ?_
  refine x_wid (cells' := cells + 64) (slots' := slots + 192) (by omega) (by omega) ?_
  exact kk _ _ _ hR
set_option maxRecDepth 100000 in
set_option maxHeartbeats 4000000 in
theorem cs_17 {K : XS} {G : GS} {cells slots : Nat} {Q : State → Prop} {n : Nat} {V : Nat → Int → Int} {R : Nat → Int → Option Nat} {ret0 : Option FieldType} {b L : Nat} {xs : Nat → Int32} (C : Cx K G cL_law RL 4 ret0 room_1) (hX : LawX K G b L xs) (hL : L ≤ 3584) {i : Int} (hi : 0 ≤ i ∧ i + 7 ≤ L) (h : Rel n V R) (hcs : cells + 64 ≤ 600000 ∧ slots + 192 ≤ 7302250) (kk : ∀ n2 V2 R2, Rel n2 V2 R2 → Xw K G (cells + 64) (slots + 192) Q n2 V2 R2 1271 [(0, .ref b), (1, .ref (aG G 0)), (2, .ref (aG G 42)), (3, .int (iI i))] []) : Xw K G cells slots Q n V R 777 [(0, .ref b), (1, .ref (aG G 0)), (2, .ref (aG G 42)), (3, .int (iI i))] [] := by
  refine x_aload_n C 1 dL_law_777 rfl rfl ?_
  refine x_aload_n C 0 dL_law_778 rfl rfl ?_
  refine x_iload_n C 3 dL_law_779 rfl rfl ?_
  refine x_iconst C dL_law_780 ?_
  refine x_iadd C dL_law_781 ?_
  refine x_sld C hX (by omega) (by omega) dL_law_782 ?_
  refine x_aload_n C 0 dL_law_783 rfl rfl ?_
  refine x_iload_n C 3 dL_law_784 rfl rfl ?_
  refine x_iconst C dL_law_785 ?_
  refine x_iadd C dL_law_786 ?_
  refine x_sld C hX (by omega) (by omega) dL_law_787 ?_
  obtain ⟨post1, hc1, hp1⟩ := pr_stack (G := G) (k := scr xs (i + 1)) (w := scr xs (i + 2)) h (scr_rg _ _) (scr_rg _ _)
  refine x_runU (r_callV C ok_Class 0 (lt67 h.h67 rfl) rfl (ce_X11_stack) hc1 rfl dL_law_788 q_40_5 q_40_6 q_40_7 rfl rfl ⟨Nat.le_of_ble_eq_true rfl, Nat.le_of_ble_eq_true rfl⟩ ⟨rfl, rfl⟩ ⟨(show cells + 0 ≤ 600000 from by omega), (show slots + 0 ≤ 7302250 from by omega)⟩ (Nat.le_of_ble_eq_true rfl)) (fun v1 u1 hv1 => ?_)
  obtain ⟨r, rfl, h671, post2, hc2, hp2⟩ := hp1 v1 u1 hv1
  obtain ⟨n1, V1, R1⟩ := u1
  show Xw K G (cells + 0) (slots + 0) Q n1 V1 R1 791 [(0, .ref b), (1, .ref (aG G 0)), (2, .ref (aG G 42)), (3, .int (iI i))] [iM r]
  refine x_aload_n C 2 dL_law_791 rfl rfl ?_
  refine x_aload_n C 0 dL_law_792 rfl rfl ?_
  refine x_iload_n C 3 dL_law_793 rfl rfl ?_
  refine x_iconst C dL_law_794 ?_
  refine x_iadd C dL_law_795 ?_
  refine x_sld C hX (by omega) (by omega) dL_law_796 ?_
  refine x_aload_n C 0 dL_law_797 rfl rfl ?_
  refine x_iload_n C 3 dL_law_798 rfl rfl ?_
  refine x_iconst C dL_law_799 ?_
  refine x_iadd C dL_law_800 ?_
  refine x_sld C hX (by omega) (by omega) dL_law_801 ?_
  refine x_runU (r_callV C ok_Model 42 (lt67 h671 rfl) rfl (ce_X12_stack) hc2 rfl dL_law_802 q_40_10 q_40_11 q_40_12 rfl rfl ⟨Nat.le_of_ble_eq_true rfl, Nat.le_of_ble_eq_true rfl⟩ ⟨rfl, rfl⟩ ⟨(show cells + 0 + 0 ≤ 600000 from by omega), (show slots + 0 + 0 ≤ 7302250 from by omega)⟩ (Nat.le_of_ble_eq_true rfl)) (fun v2 u2 hv2 => ?_)
  obtain ⟨rfl, hR⟩ := hp2 v2 u2 hv2
  obtain ⟨n2, V2, R2⟩ := u2
  show Xw K G (cells + 0 + 0) (slots + 0 + 0) Q n2 V2 R2 805 [(0, .ref b), (1, .ref (aG G 0)), (2, .ref (aG G 42)), (3, .int (iI i))] [iM r, iM r]
  refine x_sameI C dL_law_805 (tgt := 1271) (by decide) ?_
  refine x_wid (cells' := cells + 64) (slots' := slots + 192) (by omega) (by omega) ?_
  exact kk _ _ _ hR
set_option maxRecDepth 100000 in
set_option maxHeartbeats 4000000 in
theorem cs_18 {K : XS} {G : GS} {cells slots : Nat} {Q : State → Prop} {n : Nat} {V : Nat → Int → Int} {R : Nat → Int → Option Nat} {ret0 : Option FieldType} {b L : Nat} {xs : Nat → Int32} (C : Cx K G cL_law RL 4 ret0 room_1) (hX : LawX K G b L xs) (hL : L ≤ 3584) {i : Int} (hi : 0 ≤ i ∧ i + 7 ≤ L) (h : Rel n V R) (hcs : cells + 64 ≤ 600000 ∧ slots + 192 ≤ 7302250) (kk : ∀ n2 V2 R2, Rel n2 V2 R2 → Xw K G (cells + 64) (slots + 192) Q n2 V2 R2 1271 [(0, .ref b), (1, .ref (aG G 0)), (2, .ref (aG G 42)), (3, .int (iI i))] []) : Xw K G cells slots Q n V R 810 [(0, .ref b), (1, .ref (aG G 0)), (2, .ref (aG G 42)), (3, .int (iI i))] [] := by
  refine x_aload_n C 1 dL_law_810 rfl rfl ?_
  refine x_aload_n C 0 dL_law_811 rfl rfl ?_
  refine x_iload_n C 3 dL_law_812 rfl rfl ?_
  refine x_iconst C dL_law_813 ?_
  refine x_iadd C dL_law_814 ?_
  refine x_sld C hX (by omega) (by omega) dL_law_815 ?_
  refine x_aload_n C 0 dL_law_816 rfl rfl ?_
  refine x_iload_n C 3 dL_law_817 rfl rfl ?_
  refine x_iconst C dL_law_818 ?_
  refine x_iadd C dL_law_819 ?_
  refine x_sld C hX (by omega) (by omega) dL_law_820 ?_
  refine x_aload_n C 0 dL_law_821 rfl rfl ?_
  refine x_iload_n C 3 dL_law_822 rfl rfl ?_
  refine x_iconst C dL_law_823 ?_
  refine x_iadd C dL_law_824 ?_
  refine x_sld C hX (by omega) (by omega) dL_law_825 ?_
  refine x_aload_n C 0 dL_law_826 rfl rfl ?_
  refine x_iload_n C 3 dL_law_827 rfl rfl ?_
  refine x_iconst C dL_law_828 ?_
  refine x_iadd C dL_law_829 ?_
  refine x_sld C hX (by omega) (by omega) dL_law_830 ?_
  obtain ⟨post1, hc1, hp1⟩ := pr_order (G := G) (k := scr xs (i + 1)) (g := scr xs (i + 2)) (w := scr xs (i + 3)) (l := scr xs (i + 4)) h (scr_rg _ _) (scr_rg _ _) (scr_rg _ _) (scr_rg _ _)
  refine x_runU (r_callV C ok_Class 0 (lt67 h.h67 rfl) rfl (ce_X11_order) hc1 rfl dL_law_831 q_40_14 q_40_15 q_40_16 rfl rfl ⟨Nat.le_of_ble_eq_true rfl, Nat.le_of_ble_eq_true rfl⟩ ⟨rfl, rfl⟩ ⟨(show cells + 0 ≤ 600000 from by omega), (show slots + 0 ≤ 7302250 from by omega)⟩ (Nat.le_of_ble_eq_true rfl)) (fun v1 u1 hv1 => ?_)
  obtain ⟨r, rfl, h671, post2, hc2, hp2⟩ := hp1 v1 u1 hv1
  obtain ⟨n1, V1, R1⟩ := u1
  show Xw K G (cells + 0) (slots + 0) Q n1 V1 R1 834 [(0, .ref b), (1, .ref (aG G 0)), (2, .ref (aG G 42)), (3, .int (iI i))] [iM r]
  refine x_aload_n C 2 dL_law_834 rfl rfl ?_
  refine x_aload_n C 0 dL_law_835 rfl rfl ?_
  refine x_iload_n C 3 dL_law_836 rfl rfl ?_
  refine x_iconst C dL_law_837 ?_
  refine x_iadd C dL_law_838 ?_
  refine x_sld C hX (by omega) (by omega) dL_law_839 ?_
  refine x_aload_n C 0 dL_law_840 rfl rfl ?_
  refine x_iload_n C 3 dL_law_841 rfl rfl ?_
  refine x_iconst C dL_law_842 ?_
  refine x_iadd C dL_law_843 ?_
  refine x_sld C hX (by omega) (by omega) dL_law_844 ?_
  refine x_aload_n C 0 dL_law_845 rfl rfl ?_
  refine x_iload_n C 3 dL_law_846 rfl rfl ?_
  refine x_iconst C dL_law_847 ?_
  refine x_iadd C dL_law_848 ?_
  refine x_sld C hX (by omega) (by omega) dL_law_849 ?_
  refine x_aload_n C 0 dL_law_850 rfl rfl ?_
  refine x_iload_n C 3 dL_law_851 rfl rfl ?_
  refine x_iconst C dL_law_852 ?_
  refine x_iadd C dL_law_853 ?_
  refine x_sld C hX (by omega) (by omega) dL_law_854 ?_
  refine x_runU (r_callV C ok_Model 42 (lt67 h671 rfl) rfl (ce_X12_order) hc2 rfl dL_law_855 q_40_23 q_41_0 q_41_1 rfl rfl ⟨Nat.le_of_ble_eq_true rfl, Nat.le_of_ble_eq_true rfl⟩ ⟨rfl, rfl⟩ ⟨(show cells + 0 + 0 ≤ 600000 from by omega), (show slots + 0 + 0 ≤ 7302250 from by omega)⟩ (Nat.le_of_ble_eq_true rfl)) (fun v2 u2 hv2 => ?_)
  obtain ⟨rfl, hR⟩ := hp2 v2 u2 hv2
  obtain ⟨n2, V2, R2⟩ := u2
  show Xw K G (cells + 0 + 0) (slots + 0 + 0) Q n2 V2 R2 858 [(0, .ref b), (1, .ref (aG G 0)), (2, .ref (aG G 42)), (3, .int (iI i))] [iM r, iM r]
  refine x_sameI C dL_law_858 (tgt := 1271) (by decide) ?_
  refine x_wid (cells' := cells + 64) (slots' := slots + 192) (by omega) (by omega) ?_
  exact kk _ _ _ hR
set_option maxRecDepth 100000 in
set_option maxHeartbeats 4000000 in
theorem cs_19 {K : XS} {G : GS} {cells slots : Nat} {Q : State → Prop} {n : Nat} {V : Nat → Int → Int} {R : Nat → Int → Option Nat} {ret0 : Option FieldType} {b L : Nat} {xs : Nat → Int32} (C : Cx K G cL_law RL 4 ret0 room_1) (hX : LawX K G b L xs) (hL : L ≤ 3584) {i : Int} (hi : 0 ≤ i ∧ i + 7 ≤ L) (h : Rel n V R) (hcs : cells + 64 ≤ 600000 ∧ slots + 192 ≤ 7302250) (kk : ∀ n2 V2 R2, Rel n2 V2 R2 → Xw K G (cells + 64) (slots + 192) Q n2 V2 R2 1271 [(0, .ref b), (1, .ref (aG G 0)), (2, .ref (aG G 42)), (3, .int (iI i))] []) : Xw K G cells slots Q n V R 863 [(0, .ref b), (1, .ref (aG G 0)), (2, .ref (aG G 42)), (3, .int (iI i))] [] := by
  refine x_aload_n C 1 dL_law_863 rfl rfl ?_
  refine x_aload_n C 0 dL_law_864 rfl rfl ?_
  refine x_iload_n C 3 dL_law_865 rfl rfl ?_
  refine x_iconst C dL_law_866 ?_
  refine x_iadd C dL_law_867 ?_
  refine x_sld C hX (by omega) (by omega) dL_law_868 ?_
  obtain ⟨post1, hc1, hp1⟩ := pr_met (G := G) (w := scr xs (i + 1)) h (scr_rg _ _)
  refine x_runU (r_callV C ok_Class 0 (lt67 h.h67 rfl) rfl (ce_X11_met) hc1 rfl dL_law_869 q_41_5 q_41_6 q_41_7 rfl rfl ⟨Nat.le_of_ble_eq_true rfl, Nat.le_of_ble_eq_true rfl⟩ ⟨rfl, rfl⟩ ⟨(show cells + 0 ≤ 600000 from by omega), (show slots + 0 ≤ 7302250 from by omega)⟩ (Nat.le_of_ble_eq_true rfl)) (fun v1 u1 hv1 => ?_)
  obtain ⟨r, rfl, h671, post2, hc2, hp2⟩ := hp1 v1 u1 hv1
  obtain ⟨n1, V1, R1⟩ := u1
  show Xw K G (cells + 0) (slots + 0) Q n1 V1 R1 872 [(0, .ref b), (1, .ref (aG G 0)), (2, .ref (aG G 42)), (3, .int (iI i))] [iM r]
  refine x_aload_n C 2 dL_law_872 rfl rfl ?_
  refine x_aload_n C 0 dL_law_873 rfl rfl ?_
  refine x_iload_n C 3 dL_law_874 rfl rfl ?_
  refine x_iconst C dL_law_875 ?_
  refine x_iadd C dL_law_876 ?_
  refine x_sld C hX (by omega) (by omega) dL_law_877 ?_
  refine x_runU (r_callV C ok_Model 42 (lt67 h671 rfl) rfl (ce_X12_met) hc2 rfl dL_law_878 q_42_17 q_42_18 q_42_19 rfl rfl ⟨Nat.le_of_ble_eq_true rfl, Nat.le_of_ble_eq_true rfl⟩ ⟨rfl, rfl⟩ ⟨(show cells + 0 + 0 ≤ 600000 from by omega), (show slots + 0 + 0 ≤ 7302250 from by omega)⟩ (Nat.le_of_ble_eq_true rfl)) (fun v2 u2 hv2 => ?_)
  obtain ⟨rfl, hR⟩ := hp2 v2 u2 hv2
  obtain ⟨n2, V2, R2⟩ := u2
  show Xw K G (cells + 0 + 0) (slots + 0 + 0) Q n2 V2 R2 881 [(0, .ref b), (1, .ref (aG G 0)), (2, .ref (aG G 42)), (3, .int (iI i))] [iM r, iM r]
  refine x_sameI C dL_law_881 (tgt := 1271) (by decide) ?_
  refine x_wid (cells' := cells + 64) (slots' := slots + 192) (by omega) (by omega) ?_
  exact kk _ _ _ hR
set_option maxRecDepth 100000 in
set_option maxHeartbeats 4000000 in
theorem cs_20 {K : XS} {G : GS} {cells slots : Nat} {Q : State → Prop} {n : Nat} {V : Nat → Int → Int} {R : Nat → Int → Option Nat} {ret0 : Option FieldType} {b L : Nat} {xs : Nat → Int32} (C : Cx K G cL_law RL 4 ret0 room_1) (hX : LawX K G b L xs) (hL : L ≤ 3584) {i : Int} (hi : 0 ≤ i ∧ i + 7 ≤ L) (h : Rel n V R) (hcs : cells + 64 ≤ 600000 ∧ slots + 192 ≤ 7302250) (kk : ∀ n2 V2 R2, Rel n2 V2 R2 → Xw K G (cells + 64) (slots + 192) Q n2 V2 R2 1271 [(0, .ref b), (1, .ref (aG G 0)), (2, .ref (aG G 42)), (3, .int (iI i))] []) : Xw K G cells slots Q n V R 886 [(0, .ref b), (1, .ref (aG G 0)), (2, .ref (aG G 42)), (3, .int (iI i))] [] := by
  refine x_aload_n C 1 dL_law_886 rfl rfl ?_
  obtain ⟨post1, hc1, hp1⟩ := pr_serve (G := G)  h 
  refine x_runU (r_callV C ok_Class 0 (lt67 h.h67 rfl) rfl (ce_X11_serve) hc1 rfl dL_law_887 q_43_17 q_43_18 q_43_19 rfl rfl ⟨Nat.le_of_ble_eq_true rfl, Nat.le_of_ble_eq_true rfl⟩ ⟨rfl, rfl⟩ ⟨(show cells + 0 ≤ 600000 from by omega), (show slots + 0 ≤ 7302250 from by omega)⟩ (Nat.le_of_ble_eq_true rfl)) (fun v1 u1 hv1 => ?_)
  obtain ⟨r, rfl, h671, post2, hc2, hp2⟩ := hp1 v1 u1 hv1
  obtain ⟨n1, V1, R1⟩ := u1
  show Xw K G (cells + 0) (slots + 0) Q n1 V1 R1 890 [(0, .ref b), (1, .ref (aG G 0)), (2, .ref (aG G 42)), (3, .int (iI i))] [iM r]
  refine x_aload_n C 2 dL_law_890 rfl rfl ?_
  refine x_runU (r_callV C ok_Model 42 (lt67 h671 rfl) rfl (ce_X12_serve) hc2 rfl dL_law_891 q_44_12 q_44_13 q_44_14 rfl rfl ⟨Nat.le_of_ble_eq_true rfl, Nat.le_of_ble_eq_true rfl⟩ ⟨rfl, rfl⟩ ⟨(show cells + 0 + 0 ≤ 600000 from by omega), (show slots + 0 + 0 ≤ 7302250 from by omega)⟩ (Nat.le_of_ble_eq_true rfl)) (fun v2 u2 hv2 => ?_)
  obtain ⟨rfl, hR⟩ := hp2 v2 u2 hv2
  obtain ⟨n2, V2, R2⟩ := u2
  show Xw K G (cells + 0 + 0) (slots + 0 + 0) Q n2 V2 R2 894 [(0, .ref b), (1, .ref (aG G 0)), (2, .ref (aG G 42)), (3, .int (iI i))] [iM r, iM r]
  refine x_sameI C dL_law_894 (tgt := 1271) (by decide) ?_
  refine x_wid (cells' := cells + 64) (slots' := slots + 192) (by omega) (by omega) ?_
  exact kk _ _ _ hR
set_option maxRecDepth 100000 in
set_option maxHeartbeats 4000000 in
theorem cs_21 {K : XS} {G : GS} {cells slots : Nat} {Q : State → Prop} {n : Nat} {V : Nat → Int → Int} {R : Nat → Int → Option Nat} {ret0 : Option FieldType} {b L : Nat} {xs : Nat → Int32} (C : Cx K G cL_law RL 4 ret0 room_1) (hX : LawX K G b L xs) (hL : L ≤ 3584) {i : Int} (hi : 0 ≤ i ∧ i + 7 ≤ L) (h : Rel n V R) (hcs : cells + 64 ≤ 600000 ∧ slots + 192 ≤ 7302250) (kk : ∀ n2 V2 R2, Rel n2 V2 R2 → Xw K G (cells + 64) (slots + 192) Q n2 V2 R2 1271 [(0, .ref b), (1, .ref (aG G 0)), (2, .ref (aG G 42)), (3, .int (iI i))] []) : Xw K G cells slots Q n V R 899 [(0, .ref b), (1, .ref (aG G 0)), (2, .ref (aG G 42)), (3, .int (iI i))] [] := by
  refine x_aload_n C 1 dL_law_899 rfl rfl ?_
  refine x_aload_n C 0 dL_law_900 rfl rfl ?_
  refine x_iload_n C 3 dL_law_901 rfl rfl ?_
  refine x_iconst C dL_law_902 ?_
  refine x_iadd C dL_law_903 ?_
  refine x_sld C hX (by omega) (by omega) dL_law_904 ?_
  obtain ⟨post1, hc1, hp1⟩ := pr_without (G := G) (f := scr xs (i + 1)) h (scr_rg _ _)
  refine x_runU (r_callV C ok_Class 0 (lt67 h.h67 rfl) rfl (ce_X11_without) hc1 rfl dL_law_905 q_45_0 q_45_1 q_45_2 rfl rfl ⟨Nat.le_of_ble_eq_true rfl, Nat.le_of_ble_eq_true rfl⟩ ⟨rfl, rfl⟩ ⟨(show cells + 0 ≤ 600000 from by omega), (show slots + 0 ≤ 7302250 from by omega)⟩ (Nat.le_of_ble_eq_true rfl)) (fun v1 u1 hv1 => ?_)
  obtain ⟨r, rfl, h671, post2, hc2, hp2⟩ := hp1 v1 u1 hv1
  obtain ⟨n1, V1, R1⟩ := u1
  show Xw K G (cells + 0) (slots + 0) Q n1 V1 R1 908 [(0, .ref b), (1, .ref (aG G 0)), (2, .ref (aG G 42)), (3, .int (iI i))] [lM r]
  refine x_aload_n C 2 dL_law_908 rfl rfl ?_
  refine x_aload_n C 0 dL_law_909 rfl rfl ?_
  refine x_iload_n C 3 dL_law_910 rfl rfl ?_
  refine x_iconst C dL_law_911 ?_
  refine x_iadd C dL_law_912 ?_
  refine x_sld C hX (by omega) (by omega) dL_law_913 ?_
  refine x_runU (r_callV C ok_Model 42 (lt67 h671 rfl) rfl (ce_X12_without) hc2 rfl dL_law_914 q_45_8 q_45_9 q_45_10 rfl rfl ⟨Nat.le_of_ble_eq_true rfl, Nat.le_of_ble_eq_true rfl⟩ ⟨rfl, rfl⟩ ⟨(show cells + 0 + 0 ≤ 600000 from by omega), (show slots + 0 + 0 ≤ 7302250 from by omega)⟩ (Nat.le_of_ble_eq_true rfl)) (fun v2 u2 hv2 => ?_)
  obtain ⟨rfl, hR⟩ := hp2 v2 u2 hv2
  obtain ⟨n2, V2, R2⟩ := u2
  show Xw K G (cells + 0 + 0) (slots + 0 + 0) Q n2 V2 R2 917 [(0, .ref b), (1, .ref (aG G 0)), (2, .ref (aG G 42)), (3, .int (iI i))] [lM r, lM r]
  refine x_sameL C dL_law_917 dL_law_918 (tgt := 1271) (by decide) ?_
  refine x_wid (cells' := cells + 64) (slots' := slots + 192) (by omega) (by omega) ?_
  exact kk _ _ _ hR
set_option maxRecDepth 100000 in
set_option maxHeartbeats 4000000 in
theorem cs_22 {K : XS} {G : GS} {cells slots : Nat} {Q : State → Prop} {n : Nat} {V : Nat → Int → Int} {R : Nat → Int → Option Nat} {ret0 : Option FieldType} {b L : Nat} {xs : Nat → Int32} (C : Cx K G cL_law RL 4 ret0 room_1) (hX : LawX K G b L xs) (hL : L ≤ 3584) {i : Int} (hi : 0 ≤ i ∧ i + 7 ≤ L) (h : Rel n V R) (hcs : cells + 64 ≤ 600000 ∧ slots + 192 ≤ 7302250) (kk : ∀ n2 V2 R2, Rel n2 V2 R2 → Xw K G (cells + 64) (slots + 192) Q n2 V2 R2 1271 [(0, .ref b), (1, .ref (aG G 0)), (2, .ref (aG G 42)), (3, .int (iI i))] []) : Xw K G cells slots Q n V R 923 [(0, .ref b), (1, .ref (aG G 0)), (2, .ref (aG G 42)), (3, .int (iI i))] [] := by
  refine x_aload_n C 1 dL_law_923 rfl rfl ?_
  refine x_aload_n C 0 dL_law_924 rfl rfl ?_
  refine x_iload_n C 3 dL_law_925 rfl rfl ?_
  refine x_iconst C dL_law_926 ?_
  refine x_iadd C dL_law_927 ?_
  refine x_sld C hX (by omega) (by omega) dL_law_928 ?_
  refine x_aload_n C 0 dL_law_929 rfl rfl ?_
  refine x_iload_n C 3 dL_law_930 rfl rfl ?_
  refine x_iconst C dL_law_931 ?_
  refine x_iadd C dL_law_932 ?_
  refine x_sld C hX (by omega) (by omega) dL_law_933 ?_
  obtain ⟨post1, hc1, hp1⟩ := pr_drawn (G := G) (seed := scr xs (i + 1)) (k := scr xs (i + 2)) h (scr_rg _ _) (scr_rg _ _)
  refine x_runU (r_callV C ok_Class 0 (lt67 h.h67 rfl) rfl (ce_X11_drawn) hc1 rfl dL_law_934 q_45_20 q_45_21 q_45_22 rfl rfl ⟨Nat.le_of_ble_eq_true rfl, Nat.le_of_ble_eq_true rfl⟩ ⟨rfl, rfl⟩ ⟨(show cells + 8 ≤ 600000 from by omega), (show slots + 24 ≤ 7302250 from by omega)⟩ (Nat.le_of_ble_eq_true rfl)) (fun v1 u1 hv1 => ?_)
  obtain ⟨r, rfl, h671, post2, hc2, hp2⟩ := hp1 v1 u1 hv1
  obtain ⟨n1, V1, R1⟩ := u1
  show Xw K G (cells + 8) (slots + 24) Q n1 V1 R1 937 [(0, .ref b), (1, .ref (aG G 0)), (2, .ref (aG G 42)), (3, .int (iI i))] [lM r]
  refine x_aload_n C 2 dL_law_937 rfl rfl ?_
  refine x_aload_n C 0 dL_law_938 rfl rfl ?_
  refine x_iload_n C 3 dL_law_939 rfl rfl ?_
  refine x_iconst C dL_law_940 ?_
  refine x_iadd C dL_law_941 ?_
  refine x_sld C hX (by omega) (by omega) dL_law_942 ?_
  refine x_aload_n C 0 dL_law_943 rfl rfl ?_
  refine x_iload_n C 3 dL_law_944 rfl rfl ?_
  refine x_iconst C dL_law_945 ?_
  refine x_iadd C dL_law_946 ?_
  refine x_sld C hX (by omega) (by omega) dL_law_947 ?_
  refine x_runU (r_callV C ok_Model 42 (lt67 h671 rfl) rfl (ce_X12_drawn) hc2 rfl dL_law_948 q_46_8 q_46_9 q_46_10 rfl rfl ⟨Nat.le_of_ble_eq_true rfl, Nat.le_of_ble_eq_true rfl⟩ ⟨rfl, rfl⟩ ⟨(show cells + 8 + 0 ≤ 600000 from by omega), (show slots + 24 + 0 ≤ 7302250 from by omega)⟩ (Nat.le_of_ble_eq_true rfl)) (fun v2 u2 hv2 => ?_)
  obtain ⟨rfl, hR⟩ := hp2 v2 u2 hv2
  obtain ⟨n2, V2, R2⟩ := u2
  show Xw K G (cells + 8 + 0) (slots + 24 + 0) Q n2 V2 R2 951 [(0, .ref b), (1, .ref (aG G 0)), (2, .ref (aG G 42)), (3, .int (iI i))] [lM r, lM r]
  refine x_sameL C dL_law_951 dL_law_952 (tgt := 1271) (by decide) ?_
  refine x_wid (cells' := cells + 64) (slots' := slots + 192) (by omega) (by omega) ?_
  exact kk _ _ _ hR
set_option maxRecDepth 100000 in
set_option maxHeartbeats 4000000 in
theorem cs_23 {K : XS} {G : GS} {cells slots : Nat} {Q : State → Prop} {n : Nat} {V : Nat → Int → Int} {R : Nat → Int → Option Nat} {ret0 : Option FieldType} {b L : Nat} {xs : Nat → Int32} (C : Cx K G cL_law RL 4 ret0 room_1) (hX : LawX K G b L xs) (hL : L ≤ 3584) {i : Int} (hi : 0 ≤ i ∧ i + 7 ≤ L) (h : Rel n V R) (hcs : cells + 64 ≤ 600000 ∧ slots + 192 ≤ 7302250) (kk : ∀ n2 V2 R2, Rel n2 V2 R2 → Xw K G (cells + 64) (slots + 192) Q n2 V2 R2 1271 [(0, .ref b), (1, .ref (aG G 0)), (2, .ref (aG G 42)), (3, .int (iI i))] []) : Xw K G cells slots Q n V R 957 [(0, .ref b), (1, .ref (aG G 0)), (2, .ref (aG G 42)), (3, .int (iI i))] [] := by
  refine x_aload_n C 1 dL_law_957 rfl rfl ?_
  refine x_aload_n C 0 dL_law_958 rfl rfl ?_
  refine x_iload_n C 3 dL_law_959 rfl rfl ?_
  refine x_iconst C dL_law_960 ?_
  refine x_iadd C dL_law_961 ?_
  refine x_sld C hX (by omega) (by omega) dL_law_962 ?_
  refine x_aload_n C 0 dL_law_963 rfl rfl ?_
  refine x_iload_n C 3 dL_law_964 rfl rfl ?_
  refine x_iconst C dL_law_965 ?_
  refine x_iadd C dL_law_966 ?_
  refine x_sld C hX (by omega) (by omega) dL_law_967 ?_
  refine x_aload_n C 0 dL_law_968 rfl rfl ?_
  refine x_iload_n C 3 dL_law_969 rfl rfl ?_
  refine x_iconst C dL_law_970 ?_
  refine x_iadd C dL_law_971 ?_
  refine x_sld C hX (by omega) (by omega) dL_law_972 ?_
  refine x_aload_n C 0 dL_law_973 rfl rfl ?_
  refine x_iload_n C 3 dL_law_974 rfl rfl ?_
  refine x_iconst C dL_law_975 ?_
  refine x_iadd C dL_law_976 ?_
  refine x_sld C hX (by omega) (by omega) dL_law_977 ?_
  obtain ⟨post1, hc1, hp1⟩ := pr_chance (G := G) (seed := scr xs (i + 1)) (m := scr xs (i + 2)) (w := scr xs (i + 3)) (p := scr xs (i + 4)) h (scr_rg _ _) (scr_rg _ _) (scr_rg _ _)
  refine x_runU (r_callV C ok_Class 0 (lt67 h.h67 rfl) rfl (ce_X11_chance) hc1 rfl dL_law_978 q_46_22 q_46_23 q_47_0 rfl rfl ⟨Nat.le_of_ble_eq_true rfl, Nat.le_of_ble_eq_true rfl⟩ ⟨rfl, rfl⟩ ⟨(show cells + 64 ≤ 600000 from by omega), (show slots + 192 ≤ 7302250 from by omega)⟩ (Nat.le_of_ble_eq_true rfl)) (fun v1 u1 hv1 => ?_)
  obtain ⟨r, rfl, h671, post2, hc2, hp2⟩ := hp1 v1 u1 hv1
  obtain ⟨n1, V1, R1⟩ := u1
  show Xw K G (cells + 64) (slots + 192) Q n1 V1 R1 981 [(0, .ref b), (1, .ref (aG G 0)), (2, .ref (aG G 42)), (3, .int (iI i))] [iM r]
  refine x_aload_n C 2 dL_law_981 rfl rfl ?_
  refine x_aload_n C 0 dL_law_982 rfl rfl ?_
  refine x_iload_n C 3 dL_law_983 rfl rfl ?_
  refine x_iconst C dL_law_984 ?_
  refine x_iadd C dL_law_985 ?_
  refine x_sld C hX (by omega) (by omega) dL_law_986 ?_
  refine x_aload_n C 0 dL_law_987 rfl rfl ?_
  refine x_iload_n C 3 dL_law_988 rfl rfl ?_
  refine x_iconst C dL_law_989 ?_
  refine x_iadd C dL_law_990 ?_
  refine x_sld C hX (by omega) (by omega) dL_law_991 ?_
  refine x_aload_n C 0 dL_law_992 rfl rfl ?_
  refine x_iload_n C 3 dL_law_993 rfl rfl ?_
  refine x_iconst C dL_law_994 ?_
  refine x_iadd C dL_law_995 ?_
  refine x_sld C hX (by omega) (by omega) dL_law_996 ?_
  refine x_aload_n C 0 dL_law_997 rfl rfl ?_
  refine x_iload_n C 3 dL_law_998 rfl rfl ?_
  refine x_iconst C dL_law_999 ?_
  refine x_iadd C dL_law_1000 ?_
  refine x_sld C hX (by omega) (by omega) dL_law_1001 ?_
  refine x_runU (r_callV C ok_Model 42 (lt67 h671 rfl) rfl (ce_X12_chance) hc2 rfl dL_law_1002 q_47_5 q_47_6 q_47_7 rfl rfl ⟨Nat.le_of_ble_eq_true rfl, Nat.le_of_ble_eq_true rfl⟩ ⟨rfl, rfl⟩ ⟨(show cells + 64 + 0 ≤ 600000 from by omega), (show slots + 192 + 0 ≤ 7302250 from by omega)⟩ (Nat.le_of_ble_eq_true rfl)) (fun v2 u2 hv2 => ?_)
  obtain ⟨rfl, hR⟩ := hp2 v2 u2 hv2
  obtain ⟨n2, V2, R2⟩ := u2
  show Xw K G (cells + 64 + 0) (slots + 192 + 0) Q n2 V2 R2 1005 [(0, .ref b), (1, .ref (aG G 0)), (2, .ref (aG G 42)), (3, .int (iI i))] [iM r, iM r]
  refine x_sameI C dL_law_1005 (tgt := 1271) (by decide) ?_
  refine x_wid (cells' := cells + 64) (slots' := slots + 192) (by omega) (by omega) ?_
  exact kk _ _ _ hR
