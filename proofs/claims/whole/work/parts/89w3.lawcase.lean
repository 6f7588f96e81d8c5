set_option maxRecDepth 100000 in
set_option maxHeartbeats 4000000 in
theorem cs_24 {K : XS} {G : GS} {cells slots : Nat} {Q : State → Prop} {n : Nat} {V : Nat → Int → Int} {R : Nat → Int → Option Nat} {ret0 : Option FieldType} {b L : Nat} {xs : Nat → Int32} (C : Cx K G cL_law RL 4 ret0 room_1) (hX : LawX K G b L xs) (hL : L ≤ 3584) {i : Int} (hi : 0 ≤ i ∧ i + 7 ≤ L) (h : Rel n V R) (hcs : cells + 64 ≤ 600000 ∧ slots + 192 ≤ 7302250) (kk : ∀ n2 V2 R2, Rel n2 V2 R2 → Xw K G (cells + 64) (slots + 192) Q n2 V2 R2 1271 [(0, .ref b), (1, .ref (aG G 0)), (2, .ref (aG G 42)), (3, .int (iI i))] []) : Xw K G cells slots Q n V R 1010 [(0, .ref b), (1, .ref (aG G 0)), (2, .ref (aG G 42)), (3, .int (iI i))] [] := by
  refine x_aload_n C 1 dL_law_1010 rfl rfl ?_
  refine x_aload_n C 0 dL_law_1011 rfl rfl ?_
  refine x_iload_n C 3 dL_law_1012 rfl rfl ?_
  refine x_iconst C dL_law_1013 ?_
  refine x_iadd C dL_law_1014 ?_
  refine x_sld C hX (by omega) (by omega) dL_law_1015 ?_
  refine x_aload_n C 0 dL_law_1016 rfl rfl ?_
  refine x_iload_n C 3 dL_law_1017 rfl rfl ?_
  refine x_iconst C dL_law_1018 ?_
  refine x_iadd C dL_law_1019 ?_
  refine x_sld C hX (by omega) (by omega) dL_law_1020 ?_
  obtain ⟨post1, hc1, hp1⟩ := pr_tells (G := G) (s := scr xs (i + 1)) (w := scr xs (i + 2)) h (scr_rg _ _) (scr_rg _ _)
  refine x_runU (r_callV C ok_Class 0 (lt67 h.h67 rfl) rfl (ce_X11_tells) hc1 rfl dL_law_1021 q_47_12 q_47_13 q_47_14 rfl rfl ⟨Nat.le_of_ble_eq_true rfl, Nat.le_of_ble_eq_true rfl⟩ ⟨rfl, rfl⟩ ⟨(show cells + 0 ≤ 600000 from by omega), (show slots + 0 ≤ 7302250 from by omega)⟩ (Nat.le_of_ble_eq_true rfl)) (fun v1 u1 hv1 => ?_)
  obtain ⟨r, rfl, h671, post2, hc2, hp2⟩ := hp1 v1 u1 hv1
  obtain ⟨n1, V1, R1⟩ := u1
  show Xw K G (cells + 0) (slots + 0) Q n1 V1 R1 1024 [(0, .ref b), (1, .ref (aG G 0)), (2, .ref (aG G 42)), (3, .int (iI i))] [iM r]
  refine x_aload_n C 2 dL_law_1024 rfl rfl ?_
  refine x_aload_n C 0 dL_law_1025 rfl rfl ?_
  refine x_iload_n C 3 dL_law_1026 rfl rfl ?_
  refine x_iconst C dL_law_1027 ?_
  refine x_iadd C dL_law_1028 ?_
  refine x_sld C hX (by omega) (by omega) dL_law_1029 ?_
  refine x_aload_n C 0 dL_law_1030 rfl rfl ?_
  refine x_iload_n C 3 dL_law_1031 rfl rfl ?_
  refine x_iconst C dL_law_1032 ?_
  refine x_iadd C dL_law_1033 ?_
  refine x_sld C hX (by omega) (by omega) dL_law_1034 ?_
  refine x_runU (r_callV C ok_Model 42 (lt67 h671 rfl) rfl (ce_X12_tells) hc2 rfl dL_law_1035 q_48_8 q_48_9 q_48_10 rfl rfl ⟨Nat.le_of_ble_eq_true rfl, Nat.le_of_ble_eq_true rfl⟩ ⟨rfl, rfl⟩ ⟨(show cells + 0 + 0 ≤ 600000 from by omega), (show slots + 0 + 0 ≤ 7302250 from by omega)⟩ (Nat.le_of_ble_eq_true rfl)) (fun v2 u2 hv2 => ?_)
  obtain ⟨rfl, hR⟩ := hp2 v2 u2 hv2
  obtain ⟨n2, V2, R2⟩ := u2
  show Xw K G (cells + 0 + 0) (slots + 0 + 0) Q n2 V2 R2 1038 [(0, .ref b), (1, .ref (aG G 0)), (2, .ref (aG G 42)), (3, .int (iI i))] [iM r, iM r]
  refine x_sameI C dL_law_1038 (tgt := 1271) (by decide) ?_
  refine x_wid (cells' := cells + 64) (slots' := slots + 192) (by omega) (by omega) ?_
  exact kk _ _ _ hR
set_option maxRecDepth 100000 in
set_option maxHeartbeats 4000000 in
theorem cs_25 {K : XS} {G : GS} {cells slots : Nat} {Q : State → Prop} {n : Nat} {V : Nat → Int → Int} {R : Nat → Int → Option Nat} {ret0 : Option FieldType} {b L : Nat} {xs : Nat → Int32} (C : Cx K G cL_law RL 4 ret0 room_1) (hX : LawX K G b L xs) (hL : L ≤ 3584) {i : Int} (hi : 0 ≤ i ∧ i + 7 ≤ L) (h : Rel n V R) (hE2 : ∀ z d, R 2 z = some d → d < n ∧ tb d = (99, 0)) (hcs : cells + 64 ≤ 600000 ∧ slots + 192 ≤ 7302250) (kk : ∀ n2 V2 R2, Rel n2 V2 R2 → Xw K G (cells + 64) (slots + 192) Q n2 V2 R2 1271 [(0, .ref b), (1, .ref (aG G 0)), (2, .ref (aG G 42)), (3, .int (iI i))] []) : Xw K G cells slots Q n V R 1043 [(0, .ref b), (1, .ref (aG G 0)), (2, .ref (aG G 42)), (3, .int (iI i))] [] := by
  refine x_aload_n C 1 dL_law_1043 rfl rfl ?_
  obtain ⟨post1, hc1, hp1⟩ := pr_image (G := G)  h hE2
  refine x_runU (r_callV C ok_Class 0 (lt67 h.h67 rfl) rfl (ce_X11_image) hc1 rfl dL_law_1044 q_48_23 q_49_0 q_49_1 rfl rfl ⟨Nat.le_of_ble_eq_true rfl, Nat.le_of_ble_eq_true rfl⟩ ⟨rfl, rfl⟩ ⟨(show cells + 0 ≤ 600000 from by omega), (show slots + 0 ≤ 7302250 from by omega)⟩ (Nat.le_of_ble_eq_true rfl)) (fun v1 u1 hv1 => ?_)
  obtain ⟨r, rfl, h671, post2, hc2, hp2⟩ := hp1 v1 u1 hv1
  obtain ⟨n1, V1, R1⟩ := u1
  show Xw K G (cells + 0) (slots + 0) Q n1 V1 R1 1047 [(0, .ref b), (1, .ref (aG G 0)), (2, .ref (aG G 42)), (3, .int (iI i))] [iM r]
  refine x_aload_n C 2 dL_law_1047 rfl rfl ?_
  refine x_runU (r_callV C ok_Model 42 (lt67 h671 rfl) rfl (ce_X12_image) hc2 rfl dL_law_1048 q_49_7 q_49_8 q_49_9 rfl rfl ⟨Nat.le_of_ble_eq_true rfl, Nat.le_of_ble_eq_true rfl⟩ ⟨rfl, rfl⟩ ⟨(show cells + 0 + 0 ≤ 600000 from by omega), (show slots + 0 + 0 ≤ 7302250 from by omega)⟩ (Nat.le_of_ble_eq_true rfl)) (fun v2 u2 hv2 => ?_)
  obtain ⟨rfl, hR⟩ := hp2 v2 u2 hv2
  obtain ⟨n2, V2, R2⟩ := u2
  show Xw K G (cells + 0 + 0) (slots + 0 + 0) Q n2 V2 R2 1051 [(0, .ref b), (1, .ref (aG G 0)), (2, .ref (aG G 42)), (3, .int (iI i))] [iM r, iM r]
  refine x_sameI C dL_law_1051 (tgt := 1271) (by decide) ?_
  refine x_wid (cells' := cells + 64) (slots' := slots + 192) (by omega) (by omega) ?_
  exact kk _ _ _ hR
set_option maxRecDepth 100000 in
set_option maxHeartbeats 4000000 in
theorem cs_26 {K : XS} {G : GS} {cells slots : Nat} {Q : State → Prop} {n : Nat} {V : Nat → Int → Int} {R : Nat → Int → Option Nat} {ret0 : Option FieldType} {b L : Nat} {xs : Nat → Int32} (C : Cx K G cL_law RL 4 ret0 room_1) (hX : LawX K G b L xs) (hL : L ≤ 3584) {i : Int} (hi : 0 ≤ i ∧ i + 7 ≤ L) (h : Rel n V R) (hE7 : ∀ z d, R 7 z = some d → d < n ∧ tb d = (99, 0)) (hcs : cells + 64 ≤ 600000 ∧ slots + 192 ≤ 7302250) (kk : ∀ n2 V2 R2, Rel n2 V2 R2 → Xw K G (cells + 64) (slots + 192) Q n2 V2 R2 1271 [(0, .ref b), (1, .ref (aG G 0)), (2, .ref (aG G 42)), (3, .int (iI i))] []) : Xw K G cells slots Q n V R 1056 [(0, .ref b), (1, .ref (aG G 0)), (2, .ref (aG G 42)), (3, .int (iI i))] [] := by
  refine x_aload_n C 1 dL_law_1056 rfl rfl ?_
  obtain ⟨post1, hc1, hp1⟩ := pr_back (G := G)  h hE7
  refine x_runU (r_callV C ok_Class 0 (lt67 h.h67 rfl) rfl (ce_X11_back) hc1 rfl dL_law_1057 q_50_2 q_50_3 q_50_4 rfl rfl ⟨Nat.le_of_ble_eq_true rfl, Nat.le_of_ble_eq_true rfl⟩ ⟨rfl, rfl⟩ ⟨(show cells + 0 ≤ 600000 from by omega), (show slots + 0 ≤ 7302250 from by omega)⟩ (Nat.le_of_ble_eq_true rfl)) (fun v1 u1 hv1 => ?_)
  obtain ⟨r, rfl, h671, post2, hc2, hp2⟩ := hp1 v1 u1 hv1
  obtain ⟨n1, V1, R1⟩ := u1
  show Xw K G (cells + 0) (slots + 0) Q n1 V1 R1 1060 [(0, .ref b), (1, .ref (aG G 0)), (2, .ref (aG G 42)), (3, .int (iI i))] [iM r]
  refine x_aload_n C 2 dL_law_1060 rfl rfl ?_
  refine x_runU (r_callV C ok_Model 42 (lt67 h671 rfl) rfl (ce_X12_back) hc2 rfl dL_law_1061 q_50_6 q_50_7 q_50_8 rfl rfl ⟨Nat.le_of_ble_eq_true rfl, Nat.le_of_ble_eq_true rfl⟩ ⟨rfl, rfl⟩ ⟨(show cells + 0 + 0 ≤ 600000 from by omega), (show slots + 0 + 0 ≤ 7302250 from by omega)⟩ (Nat.le_of_ble_eq_true rfl)) (fun v2 u2 hv2 => ?_)
  obtain ⟨rfl, hR⟩ := hp2 v2 u2 hv2
  obtain ⟨n2, V2, R2⟩ := u2
  show Xw K G (cells + 0 + 0) (slots + 0 + 0) Q n2 V2 R2 1064 [(0, .ref b), (1, .ref (aG G 0)), (2, .ref (aG G 42)), (3, .int (iI i))] [iM r, iM r]
  refine x_sameI C dL_law_1064 (tgt := 1271) (by decide) ?_
  refine x_wid (cells' := cells + 64) (slots' := slots + 192) (by omega) (by omega) ?_
  exact kk _ _ _ hR
set_option maxRecDepth 100000 in
set_option maxHeartbeats 4000000 in
theorem cs_27 {K : XS} {G : GS} {cells slots : Nat} {Q : State → Prop} {n : Nat} {V : Nat → Int → Int} {R : Nat → Int → Option Nat} {ret0 : Option FieldType} {b L : Nat} {xs : Nat → Int32} (C : Cx K G cL_law RL 4 ret0 room_1) (hX : LawX K G b L xs) (hL : L ≤ 3584) {i : Int} (hi : 0 ≤ i ∧ i + 7 ≤ L) (h : Rel n V R) (hcs : cells + 64 ≤ 600000 ∧ slots + 192 ≤ 7302250) (kk : ∀ n2 V2 R2, Rel n2 V2 R2 → Xw K G (cells + 64) (slots + 192) Q n2 V2 R2 1271 [(0, .ref b), (1, .ref (aG G 0)), (2, .ref (aG G 42)), (3, .int (iI i))] []) : Xw K G cells slots Q n V R 1069 [(0, .ref b), (1, .ref (aG G 0)), (2, .ref (aG G 42)), (3, .int (iI i))] [] := by
  refine x_aload_n C 1 dL_law_1069 rfl rfl ?_
  refine x_aload_n C 0 dL_law_1070 rfl rfl ?_
  refine x_iload_n C 3 dL_law_1071 rfl rfl ?_
  refine x_iconst C dL_law_1072 ?_
  refine x_iadd C dL_law_1073 ?_
  refine x_sld C hX (by omega) (by omega) dL_law_1074 ?_
  obtain ⟨post1, hc1, hp1⟩ := pr_count (G := G) (w := scr xs (i + 1)) h (scr_rg _ _)
  refine x_runU (r_callV C ok_Class 0 (lt67 h.h67 rfl) rfl (ce_X11_count) hc1 rfl dL_law_1075 q_50_10 q_50_11 q_50_12 rfl rfl ⟨Nat.le_of_ble_eq_true rfl, Nat.le_of_ble_eq_true rfl⟩ ⟨rfl, rfl⟩ ⟨(show cells + 0 ≤ 600000 from by omega), (show slots + 0 ≤ 7302250 from by omega)⟩ (Nat.le_of_ble_eq_true rfl)) (fun v1 u1 hv1 => ?_)
  obtain ⟨r, rfl, h671, post2, hc2, hp2⟩ := hp1 v1 u1 hv1
  obtain ⟨n1, V1, R1⟩ := u1
  show Xw K G (cells + 0) (slots + 0) Q n1 V1 R1 1078 [(0, .ref b), (1, .ref (aG G 0)), (2, .ref (aG G 42)), (3, .int (iI i))] [iM r]
  refine x_aload_n C 2 dL_law_1078 rfl rfl ?_
  refine x_aload_n C 0 dL_law_1079 rfl rfl ?_
  refine x_iload_n C 3 dL_law_1080 rfl rfl ?_
  refine x_iconst C dL_law_1081 ?_
  refine x_iadd C dL_law_1082 ?_
  refine x_sld C hX (by omega) (by omega) dL_law_1083 ?_
  refine x_runU (r_callV C ok_Model 42 (lt67 h671 rfl) rfl (ce_X12_count) hc2 rfl dL_law_1084 q_50_18 q_50_19 q_50_20 rfl rfl ⟨Nat.le_of_ble_eq_true rfl, Nat.le_of_ble_eq_true rfl⟩ ⟨rfl, rfl⟩ ⟨(show cells + 0 + 0 ≤ 600000 from by omega), (show slots + 0 + 0 ≤ 7302250 from by omega)⟩ (Nat.le_of_ble_eq_true rfl)) (fun v2 u2 hv2 => ?_)
  obtain ⟨rfl, hR⟩ := hp2 v2 u2 hv2
  obtain ⟨n2, V2, R2⟩ := u2
  show Xw K G (cells + 0 + 0) (slots + 0 + 0) Q n2 V2 R2 1087 [(0, .ref b), (1, .ref (aG G 0)), (2, .ref (aG G 42)), (3, .int (iI i))] [iM r, iM r]
  refine x_sameI C dL_law_1087 (tgt := 1271) (by decide) ?_
  refine x_wid (cells' := cells + 64) (slots' := slots + 192) (by omega) (by omega) ?_
  exact kk _ _ _ hR
set_option maxRecDepth 100000 in
set_option maxHeartbeats 4000000 in
theorem cs_28 {K : XS} {G : GS} {cells slots : Nat} {Q : State → Prop} {n : Nat} {V : Nat → Int → Int} {R : Nat → Int → Option Nat} {ret0 : Option FieldType} {b L : Nat} {xs : Nat → Int32} (C : Cx K G cL_law RL 4 ret0 room_1) (hX : LawX K G b L xs) (hL : L ≤ 3584) {i : Int} (hi : 0 ≤ i ∧ i + 7 ≤ L) (h : Rel n V R) (hcs : cells + 64 ≤ 600000 ∧ slots + 192 ≤ 7302250) (kk : ∀ n2 V2 R2, Rel n2 V2 R2 → Xw K G (cells + 64) (slots + 192) Q n2 V2 R2 1271 [(0, .ref b), (1, .ref (aG G 0)), (2, .ref (aG G 42)), (3, .int (iI i))] []) : Xw K G cells slots Q n V R 1092 [(0, .ref b), (1, .ref (aG G 0)), (2, .ref (aG G 42)), (3, .int (iI i))] [] := by
  refine x_aload_n C 1 dL_law_1092 rfl rfl ?_
  refine x_aload_n C 0 dL_law_1093 rfl rfl ?_
  refine x_iload_n C 3 dL_law_1094 rfl rfl ?_
  refine x_iconst C dL_law_1095 ?_
  refine x_iadd C dL_law_1096 ?_
  refine x_sld C hX (by omega) (by omega) dL_law_1097 ?_
  refine x_aload_n C 0 dL_law_1098 rfl rfl ?_
  refine x_iload_n C 3 dL_law_1099 rfl rfl ?_
  refine x_iconst C dL_law_1100 ?_
  refine x_iadd C dL_law_1101 ?_
  refine x_sld C hX (by omega) (by omega) dL_law_1102 ?_
  refine x_aload_n C 0 dL_law_1103 rfl rfl ?_
  refine x_iload_n C 3 dL_law_1104 rfl rfl ?_
  refine x_iconst C dL_law_1105 ?_
  refine x_iadd C dL_law_1106 ?_
  refine x_sld C hX (by omega) (by omega) dL_law_1107 ?_
  obtain ⟨post1, hc1, hp1⟩ := pr_sheet (G := G) (s := scr xs (i + 1)) (w := scr xs (i + 2)) (m := scr xs (i + 3)) h (scr_rg _ _) (scr_rg _ _) (scr_rg _ _)
  refine x_runU (r_callV C ok_Class 0 (lt67 h.h67 rfl) rfl (ce_X11_sheet) hc1 rfl dL_law_1108 q_51_2 q_51_3 q_51_4 rfl rfl ⟨Nat.le_of_ble_eq_true rfl, Nat.le_of_ble_eq_true rfl⟩ ⟨rfl, rfl⟩ ⟨(show cells + 0 ≤ 600000 from by omega), (show slots + 0 ≤ 7302250 from by omega)⟩ (Nat.le_of_ble_eq_true rfl)) (fun v1 u1 hv1 => ?_)
  obtain ⟨r, rfl, h671, post2, hc2, hp2⟩ := hp1 v1 u1 hv1
  obtain ⟨n1, V1, R1⟩ := u1
  show Xw K G (cells + 0) (slots + 0) Q n1 V1 R1 1111 [(0, .ref b), (1, .ref (aG G 0)), (2, .ref (aG G 42)), (3, .int (iI i))] [iM r]
  refine x_aload_n C 2 dL_law_1111 rfl rfl ?_
  refine x_aload_n C 0 dL_law_1112 rfl rfl ?_
  refine x_iload_n C 3 dL_law_1113 rfl rfl ?_
  refine x_iconst C dL_law_1114 ?_
  refine x_iadd C dL_law_1115 ?_
  refine x_sld C hX (by omega) (by omega) dL_law_1116 ?_
  refine x_aload_n C 0 dL_law_1117 rfl rfl ?_
  refine x_iload_n C 3 dL_law_1118 rfl rfl ?_
  refine x_iconst C dL_law_1119 ?_
  refine x_iadd C dL_law_1120 ?_
  refine x_sld C hX (by omega) (by omega) dL_law_1121 ?_
  refine x_aload_n C 0 dL_law_1122 rfl rfl ?_
  refine x_iload_n C 3 dL_law_1123 rfl rfl ?_
  refine x_iconst C dL_law_1124 ?_
  refine x_iadd C dL_law_1125 ?_
  refine x_sld C hX (by omega) (by omega) dL_law_1126 ?_
  refine x_runU (r_callV C ok_Model 42 (lt67 h671 rfl) rfl (ce_X12_sheet) hc2 rfl dL_law_1127 q_51_6 q_51_7 q_51_8 rfl rfl ⟨Nat.le_of_ble_eq_true rfl, Nat.le_of_ble_eq_true rfl⟩ ⟨rfl, rfl⟩ ⟨(show cells + 0 + 0 ≤ 600000 from by omega), (show slots + 0 + 0 ≤ 7302250 from by omega)⟩ (Nat.le_of_ble_eq_true rfl)) (fun v2 u2 hv2 => ?_)
  obtain ⟨rfl, hR⟩ := hp2 v2 u2 hv2
  obtain ⟨n2, V2, R2⟩ := u2
  show Xw K G (cells + 0 + 0) (slots + 0 + 0) Q n2 V2 R2 1130 [(0, .ref b), (1, .ref (aG G 0)), (2, .ref (aG G 42)), (3, .int (iI i))] [iM r, iM r]
  refine x_sameI C dL_law_1130 (tgt := 1271) (by decide) ?_
  refine x_wid (cells' := cells + 64) (slots' := slots + 192) (by omega) (by omega) ?_
  exact kk _ _ _ hR
set_option maxRecDepth 100000 in
set_option maxHeartbeats 4000000 in
theorem cs_29 {K : XS} {G : GS} {cells slots : Nat} {Q : State → Prop} {n : Nat} {V : Nat → Int → Int} {R : Nat → Int → Option Nat} {ret0 : Option FieldType} {b L : Nat} {xs : Nat → Int32} (C : Cx K G cL_law RL 4 ret0 room_1) (hX : LawX K G b L xs) (hL : L ≤ 3584) {i : Int} (hi : 0 ≤ i ∧ i + 7 ≤ L) (h : Rel n V R) (hcs : cells + 64 ≤ 600000 ∧ slots + 192 ≤ 7302250) (kk : ∀ n2 V2 R2, Rel n2 V2 R2 → Xw K G (cells + 64) (slots + 192) Q n2 V2 R2 1271 [(0, .ref b), (1, .ref (aG G 0)), (2, .ref (aG G 42)), (3, .int (iI i))] []) : Xw K G cells slots Q n V R 1135 [(0, .ref b), (1, .ref (aG G 0)), (2, .ref (aG G 42)), (3, .int (iI i))] [] := by
  refine x_aload_n C 1 dL_law_1135 rfl rfl ?_
  refine x_aload_n C 0 dL_law_1136 rfl rfl ?_
  refine x_iload_n C 3 dL_law_1137 rfl rfl ?_
  refine x_iconst C dL_law_1138 ?_
  refine x_iadd C dL_law_1139 ?_
  refine x_sld C hX (by omega) (by omega) dL_law_1140 ?_
  refine x_aload_n C 0 dL_law_1141 rfl rfl ?_
  refine x_iload_n C 3 dL_law_1142 rfl rfl ?_
  refine x_iconst C dL_law_1143 ?_
  refine x_iadd C dL_law_1144 ?_
  refine x_sld C hX (by omega) (by omega) dL_law_1145 ?_
  refine x_aload_n C 0 dL_law_1146 rfl rfl ?_
  refine x_iload_n C 3 dL_law_1147 rfl rfl ?_
  refine x_iconst C dL_law_1148 ?_
  refine x_iadd C dL_law_1149 ?_
  refine x_sld C hX (by omega) (by omega) dL_law_1150 ?_
  refine x_i2l C dL_law_1151 (scr_rg _ _) ?_
  refine x_bipush C dL_law_1152 (w := 32) (by decide) ?_
  refine x_lshl C dL_law_1154 ?_
  refine x_aload_n C 0 dL_law_1155 rfl rfl ?_
  refine x_iload_n C 3 dL_law_1156 rfl rfl ?_
  refine x_iconst C dL_law_1157 ?_
  refine x_iadd C dL_law_1158 ?_
  refine x_sld C hX (by omega) (by omega) dL_law_1159 ?_
  refine x_i2l C dL_law_1160 (scr_rg _ _) ?_
  refine x_ldc2 C dL_law_1161 q_0_6 (w := 4294967295) (by decide) ?_
  refine x_land C dL_law_1164 ?_
  refine x_lor C dL_law_1165 ?_
  obtain ⟨post1, hc1, hp1⟩ := pr_put (G := G) (s := scr xs (i + 1)) (j := scr xs (i + 2)) (v0 := lorV (lshlV (scr xs (i + 3)) 32) (landV (scr xs (i + 4)) 4294967295)) h (scr_rg _ _) (scr_rg _ _) (lorV_rl _ _)
  refine x_runU (r_callV C ok_Class 0 (lt67 h.h67 rfl) rfl (ce_X11_put) hc1 rfl dL_law_1166 q_51_10 q_51_11 q_51_12 rfl rfl ⟨Nat.le_of_ble_eq_true rfl, Nat.le_of_ble_eq_true rfl⟩ ⟨rfl, rfl⟩ ⟨(show cells + 0 ≤ 600000 from by omega), (show slots + 0 ≤ 7302250 from by omega)⟩ (Nat.le_of_ble_eq_true rfl)) (fun v1 u1 hv1 => ?_)
  obtain ⟨r, rfl, h671, post2, hc2, hp2⟩ := hp1 v1 u1 hv1
  obtain ⟨n1, V1, R1⟩ := u1
  show Xw K G (cells + 0) (slots + 0) Q n1 V1 R1 1169 [(0, .ref b), (1, .ref (aG G 0)), (2, .ref (aG G 42)), (3, .int (iI i))] [iM r]
  refine x_aload_n C 2 dL_law_1169 rfl rfl ?_
  refine x_aload_n C 0 dL_law_1170 rfl rfl ?_
  refine x_iload_n C 3 dL_law_1171 rfl rfl ?_
  refine x_iconst C dL_law_1172 ?_
  refine x_iadd C dL_law_1173 ?_
  refine x_sld C hX (by omega) (by omega) dL_law_1174 ?_
  refine x_aload_n C 0 dL_law_1175 rfl rfl ?_
  refine x_iload_n C 3 dL_law_1176 rfl rfl ?_
  refine x_iconst C dL_law_1177 ?_
  refine x_iadd C dL_law_1178 ?_
  refine x_sld C hX (by omega) (by omega) dL_law_1179 ?_
  refine x_aload_n C 0 dL_law_1180 rfl rfl ?_
  refine x_iload_n C 3 dL_law_1181 rfl rfl ?_
  refine x_iconst C dL_law_1182 ?_
  refine x_iadd C dL_law_1183 ?_
  refine x_sld C hX (by omega) (by omega) dL_law_1184 ?_
  refine x_i2l C dL_law_1185 (scr_rg _ _) ?_
  refine x_bipush C dL_law_1186 (w := 32) (by decide) ?_
  refine x_lshl C dL_law_1188 ?_
  refine x_aload_n C 0 dL_law_1189 rfl rfl ?_
  refine x_iload_n C 3 dL_law_1190 rfl rfl ?_
  refine x_iconst C dL_law_1191 ?_
  refine x_iadd C dL_law_1192 ?_
  refine x_sld C hX (by omega) (by omega) dL_law_1193 ?_
  refine x_i2l C dL_law_1194 (scr_rg _ _) ?_
  refine x_ldc2 C dL_law_1195 q_0_6 (w := 4294967295) (by decide) ?_
  refine x_land C dL_law_1198 ?_
  refine x_lor C dL_law_1199 ?_
  refine x_runU (r_callV C ok_Model 42 (lt67 h671 rfl) rfl (ce_X12_put) hc2 rfl dL_law_1200 q_51_14 q_51_15 q_51_16 rfl rfl ⟨Nat.le_of_ble_eq_true rfl, Nat.le_of_ble_eq_true rfl⟩ ⟨rfl, rfl⟩ ⟨(show cells + 0 + 0 ≤ 600000 from by omega), (show slots + 0 + 0 ≤ 7302250 from by omega)⟩ (Nat.le_of_ble_eq_true rfl)) (fun v2 u2 hv2 => ?_)
  obtain ⟨rfl, hR⟩ := hp2 v2 u2 hv2
  obtain ⟨n2, V2, R2⟩ := u2
  show Xw K G (cells + 0 + 0) (slots + 0 + 0) Q n2 V2 R2 1203 [(0, .ref b), (1, .ref (aG G 0)), (2, .ref (aG G 42)), (3, .int (iI i))] [iM r, iM r]
  refine x_sameI C dL_law_1203 (tgt := 1271) (by decide) ?_
  refine x_wid (cells' := cells + 64) (slots' := slots + 192) (by omega) (by omega) ?_
  exact kk _ _ _ hR
set_option maxRecDepth 100000 in
set_option maxHeartbeats 4000000 in
theorem cs_30 {K : XS} {G : GS} {cells slots : Nat} {Q : State → Prop} {n : Nat} {V : Nat → Int → Int} {R : Nat → Int → Option Nat} {ret0 : Option FieldType} {b L : Nat} {xs : Nat → Int32} (C : Cx K G cL_law RL 4 ret0 room_1) (hX : LawX K G b L xs) (hL : L ≤ 3584) {i : Int} (hi : 0 ≤ i ∧ i + 7 ≤ L) (h : Rel n V R) (hcs : cells + 64 ≤ 600000 ∧ slots + 192 ≤ 7302250) (kk : ∀ n2 V2 R2, Rel n2 V2 R2 → Xw K G (cells + 64) (slots + 192) Q n2 V2 R2 1271 [(0, .ref b), (1, .ref (aG G 0)), (2, .ref (aG G 42)), (3, .int (iI i))] []) : Xw K G cells slots Q n V R 1208 [(0, .ref b), (1, .ref (aG G 0)), (2, .ref (aG G 42)), (3, .int (iI i))] [] := by
  refine x_aload_n C 1 dL_law_1208 rfl rfl ?_
  refine x_aload_n C 0 dL_law_1209 rfl rfl ?_
  refine x_iload_n C 3 dL_law_1210 rfl rfl ?_
  refine x_iconst C dL_law_1211 ?_
  refine x_iadd C dL_law_1212 ?_
  refine x_sld C hX (by omega) (by omega) dL_law_1213 ?_
  refine x_aload_n C 0 dL_law_1214 rfl rfl ?_
  refine x_iload_n C 3 dL_law_1215 rfl rfl ?_
  refine x_iconst C dL_law_1216 ?_
  refine x_iadd C dL_law_1217 ?_
  refine x_sld C hX (by omega) (by omega) dL_law_1218 ?_
  refine x_aload_n C 0 dL_law_1219 rfl rfl ?_
  refine x_iload_n C 3 dL_law_1220 rfl rfl ?_
  refine x_iconst C dL_law_1221 ?_
  refine x_iadd C dL_law_1222 ?_
  refine x_sld C hX (by omega) (by omega) dL_law_1223 ?_
  refine x_aload_n C 0 dL_law_1224 rfl rfl ?_
  refine x_iload_n C 3 dL_law_1225 rfl rfl ?_
  refine x_iconst C dL_law_1226 ?_
  refine x_iadd C dL_law_1227 ?_
  refine x_sld C hX (by omega) (by omega) dL_law_1228 ?_
  refine x_aload_n C 0 dL_law_1229 rfl rfl ?_
  refine x_iload_n C 3 dL_law_1230 rfl rfl ?_
  refine x_iconst C dL_law_1231 ?_
  refine x_iadd C dL_law_1232 ?_
  refine x_sld C hX (by omega) (by omega) dL_law_1233 ?_
  obtain ⟨post1, hc1, hp1⟩ := pr_copy (G := G) (s := scr xs (i + 1)) (a := scr xs (i + 2)) (t := scr xs (i + 3)) (b := scr xs (i + 4)) (m := scr xs (i + 5)) h (scr_rg _ _) (scr_rg _ _) (scr_rg _ _) (scr_rg _ _) (scr_rg _ _)
  refine x_runU (r_callV C ok_Class 0 (lt67 h.h67 rfl) rfl (ce_X11_copy) hc1 rfl dL_law_1234 q_51_18 q_51_19 q_51_20 rfl rfl ⟨Nat.le_of_ble_eq_true rfl, Nat.le_of_ble_eq_true rfl⟩ ⟨rfl, rfl⟩ ⟨(show cells + 0 ≤ 600000 from by omega), (show slots + 0 ≤ 7302250 from by omega)⟩ (Nat.le_of_ble_eq_true rfl)) (fun v1 u1 hv1 => ?_)
  obtain ⟨r, rfl, h671, post2, hc2, hp2⟩ := hp1 v1 u1 hv1
  obtain ⟨n1, V1, R1⟩ := u1
  show Xw K G (cells + 0) (slots + 0) Q n1 V1 R1 1237 [(0, .ref b), (1, .ref (aG G 0)), (2, .ref (aG G 42)), (3, .int (iI i))] [iM r]
  refine x_aload_n C 2 dL_law_1237 rfl rfl ?_
  refine x_aload_n C 0 dL_law_1238 rfl rfl ?_
  refine x_iload_n C 3 dL_law_1239 rfl rfl ?_
  refine x_iconst C dL_law_1240 ?_
  refine x_iadd C dL_law_1241 ?_
  refine x_sld C hX (by omega) (by omega) dL_law_1242 ?_
  refine x_aload_n C 0 dL_law_1243 rfl rfl ?_
  refine x_iload_n C 3 dL_law_1244 rfl rfl ?_
  refine x_iconst C dL_law_1245 ?_
  refine x_iadd C dL_law_1246 ?_
  refine x_sld C hX (by omega) (by omega) dL_law_1247 ?_
  refine x_aload_n C 0 dL_law_1248 rfl rfl ?_
  refine x_iload_n C 3 dL_law_1249 rfl rfl ?_
  refine x_iconst C dL_law_1250 ?_
  refine x_iadd C dL_law_1251 ?_
  refine x_sld C hX (by omega) (by omega) dL_law_1252 ?_
  refine x_aload_n C 0 dL_law_1253 rfl rfl ?_
  refine x_iload_n C 3 dL_law_1254 rfl rfl ?_
  refine x_iconst C dL_law_1255 ?_
  refine x_iadd C dL_law_1256 ?_
  refine x_sld C hX (by omega) (by omega) dL_law_1257 ?_
  refine x_aload_n C 0 dL_law_1258 rfl rfl ?_
  refine x_iload_n C 3 dL_law_1259 rfl rfl ?_
  refine x_iconst C dL_law_1260 ?_
  refine x_iadd C dL_law_1261 ?_
  refine x_sld C hX (by omega) (by omega) dL_law_1262 ?_
  refine x_runU (r_callV C ok_Model 42 (lt67 h671 rfl) rfl (ce_X12_copy) hc2 rfl dL_law_1263 q_52_3 q_52_4 q_52_5 rfl rfl ⟨Nat.le_of_ble_eq_true rfl, Nat.le_of_ble_eq_true rfl⟩ ⟨rfl, rfl⟩ ⟨(show cells + 0 + 0 ≤ 600000 from by omega), (show slots + 0 + 0 ≤ 7302250 from by omega)⟩ (Nat.le_of_ble_eq_true rfl)) (fun v2 u2 hv2 => ?_)
  obtain ⟨rfl, hR⟩ := hp2 v2 u2 hv2
  obtain ⟨n2, V2, R2⟩ := u2
  show Xw K G (cells + 0 + 0) (slots + 0 + 0) Q n2 V2 R2 1266 [(0, .ref b), (1, .ref (aG G 0)), (2, .ref (aG G 42)), (3, .int (iI i))] [iM r, iM r]
  refine x_sameI C dL_law_1266 (tgt := 1271) (by decide) ?_
  refine x_wid (cells' := cells + 64) (slots' := slots + 192) (by omega) (by omega) ?_
  exact kk _ _ _ hR
