theorem tw_0 : ∀ w ∈ bw_0, w ∈ lw_tbl := fun w h => (goodIn_p bw_0 [94, 97] (by decide +kernel) (by decide +kernel) w h).1
theorem tw_1 : ∀ w ∈ bw_1, w ∈ lw_tbl := fun w h => (goodIn_p bw_1 [102] (by decide +kernel) (by decide +kernel) w h).1
theorem tw_2 : ∀ w ∈ bw_2, w ∈ lw_tbl := fun w h => (goodIn_p bw_2 [160] (by decide +kernel) (by decide +kernel) w h).1
theorem tw_3 : ∀ w ∈ bw_3, w ∈ lw_tbl := fun w h => (goodIn_p bw_3 [166, 268, 1085] (by decide +kernel) (by decide +kernel) w h).1
theorem tw_4 : ∀ w ∈ bw_4, w ∈ lw_tbl := fun w h => (goodIn_p bw_4 [] (by decide +kernel) (by decide +kernel) w h).1
theorem tw_5 : ∀ w ∈ bw_5, w ∈ lw_tbl := fun w h => (goodIn_p bw_5 [313, 316, 320, 324, 328, 334] (by decide +kernel) (by decide +kernel) w h).1
theorem tw_6 : ∀ w ∈ bw_6, w ∈ lw_tbl := fun w h => (goodIn_p bw_6 [331, 1240, 1245, 1251] (by decide +kernel) (by decide +kernel) w h).1
theorem tw_7 : ∀ w ∈ bw_7, w ∈ lw_tbl := fun w h => (goodIn_p bw_7 [1255, 1259, 338, 341, 345, 1264] (by decide +kernel) (by decide +kernel) w h).1
theorem tw_8 : ∀ w ∈ bw_8, w ∈ lw_tbl := fun w h => (goodIn_p bw_8 [349, 353, 357, 360, 363, 366] (by decide +kernel) (by decide +kernel) w h).1
theorem tw_9 : ∀ w ∈ bw_9, w ∈ lw_tbl := fun w h => (goodIn_p bw_9 [371, 375, 379, 385, 389] (by decide +kernel) (by decide +kernel) w h).1
theorem tw_10 : ∀ w ∈ bw_10, w ∈ lw_tbl := fun w h => (goodIn_p bw_10 [392, 399, 395, 402, 405, 411] (by decide +kernel) (by decide +kernel) w h).1
theorem tw_11 : ∀ w ∈ bw_11, w ∈ lw_tbl := fun w h => (goodIn_p bw_11 [414, 417, 420, 425, 428, 431] (by decide +kernel) (by decide +kernel) w h).1
theorem tw_12 : ∀ w ∈ bw_12, w ∈ lw_tbl := fun w h => (goodIn_p bw_12 [440, 443, 446, 450, 455, 459, 462] (by decide +kernel) (by decide +kernel) w h).1
theorem tw_13 : ∀ w ∈ bw_13, w ∈ lw_tbl := fun w h => (goodIn_p bw_13 [467] (by decide +kernel) (by decide +kernel) w h).1
theorem tw_14 : ∀ w ∈ bw_14, w ∈ lw_tbl := fun w h => (goodIn_p bw_14 [470, 502, 512, 522, 532] (by decide +kernel) (by decide +kernel) w h).1
theorem tw_15 : ∀ w ∈ bw_15, w ∈ lw_tbl := fun w h => (goodIn_p bw_15 [542, 552, 561, 1270, 1274] (by decide +kernel) (by decide +kernel) w h).1
theorem tw_16 : ∀ w ∈ bw_16, w ∈ lw_tbl := fun w h => (goodIn_p bw_16 [1278, 1282, 1285, 1289, 565, 1293] (by decide +kernel) (by decide +kernel) w h).1
theorem tw_17 : ∀ w ∈ bw_17, w ∈ lw_tbl := fun w h => (goodIn_p bw_17 [1298, 569, 573, 578, 1302, 1306] (by decide +kernel) (by decide +kernel) w h).1
theorem tw_18 : ∀ w ∈ bw_18, w ∈ lw_tbl := fun w h => (goodIn_p bw_18 [582, 588, 591, 594, 597, 600] (by decide +kernel) (by decide +kernel) w h).1
theorem tw_19 : ∀ w ∈ bw_19, w ∈ lw_tbl := fun w h => (goodIn_p bw_19 [603, 606, 610, 621, 627] (by decide +kernel) (by decide +kernel) w h).1
theorem tw_20 : ∀ w ∈ bw_20, w ∈ lw_tbl := fun w h => (goodIn_p bw_20 [631, 634, 638] (by decide +kernel) (by decide +kernel) w h).1
theorem tw_21 : ∀ w ∈ bw_21, w ∈ lw_tbl := fun w h => (goodIn_p bw_21 [651, 659, 671, 674, 684] (by decide +kernel) (by decide +kernel) w h).1
theorem tw_22 : ∀ w ∈ bw_22, w ∈ lw_tbl := fun w h => (goodIn_p bw_22 [681, 688, 691, 694] (by decide +kernel) (by decide +kernel) w h).1
theorem tw_23 : ∀ w ∈ bw_23, w ∈ lw_tbl := fun w h => (goodIn_p bw_23 [702, 713, 716] (by decide +kernel) (by decide +kernel) w h).1
theorem tw_24 : ∀ w ∈ bw_24, w ∈ lw_tbl := fun w h => (goodIn_p bw_24 [720, 723, 726, 731, 1310] (by decide +kernel) (by decide +kernel) w h).1
theorem tw_25 : ∀ w ∈ bw_25, w ∈ lw_tbl := fun w h => (goodIn_p bw_25 [1314, 1318, 1322, 1326, 1329, 1332, 1337] (by decide +kernel) (by decide +kernel) w h).1
theorem tw_26 : ∀ w ∈ bw_26, w ∈ lw_tbl := fun w h => (goodIn_p bw_26 [735, 738, 749] (by decide +kernel) (by decide +kernel) w h).1
theorem tw_27 : ∀ w ∈ bw_27, w ∈ lw_tbl := fun w h => (goodIn_p bw_27 [1341, 1344, 755, 1348, 759] (by decide +kernel) (by decide +kernel) w h).1
theorem tw_28 : ∀ w ∈ bw_28, w ∈ lw_tbl := fun w h => (goodIn_p bw_28 [1353, 1356, 765, 769, 773] (by decide +kernel) (by decide +kernel) w h).1
theorem tw_29 : ∀ w ∈ bw_29, w ∈ lw_tbl := fun w h => (goodIn_p bw_29 [780, 786, 791, 795] (by decide +kernel) (by decide +kernel) w h).1
theorem tw_30 : ∀ w ∈ bw_30, w ∈ lw_tbl := fun w h => (goodIn_p bw_30 [801, 805, 810, 822] (by decide +kernel) (by decide +kernel) w h).1
theorem tw_31 : ∀ w ∈ bw_31, w ∈ lw_tbl := fun w h => (goodIn_p bw_31 [1362, 1367, 1370, 1373, 827] (by decide +kernel) (by decide +kernel) w h).1
theorem tw_32 : ∀ w ∈ bw_32, w ∈ lw_tbl := fun w h => (goodIn_p bw_32 [830, 834, 838, 842] (by decide +kernel) (by decide +kernel) w h).1
theorem tw_33 : ∀ w ∈ bw_33, w ∈ lw_tbl := fun w h => (goodIn_p bw_33 [846, 849, 1377, 1380] (by decide +kernel) (by decide +kernel) w h).1
theorem tw_34 : ∀ w ∈ bw_34, w ∈ lw_tbl := fun w h => (goodIn_p bw_34 [1384, 1388, 1392, 1396, 1400, 1403] (by decide +kernel) (by decide +kernel) w h).1
theorem tw_35 : ∀ w ∈ bw_35, w ∈ lw_tbl := fun w h => (goodIn_p bw_35 [1407, 853, 857, 1411, 862] (by decide +kernel) (by decide +kernel) w h).1
theorem tw_36 : ∀ w ∈ bw_36, w ∈ lw_tbl := fun w h => (goodIn_p bw_36 [1416, 867, 871, 875, 878, 883] (by decide +kernel) (by decide +kernel) w h).1
theorem tw_37 : ∀ w ∈ bw_37, w ∈ lw_tbl := fun w h => (goodIn_p bw_37 [887, 892, 897, 1421, 1425] (by decide +kernel) (by decide +kernel) w h).1
theorem tw_38 : ∀ w ∈ bw_38, w ∈ lw_tbl := fun w h => (goodIn_p bw_38 [1429, 901, 905, 909, 1433, 1438] (by decide +kernel) (by decide +kernel) w h).1
theorem tw_39 : ∀ w ∈ bw_39, w ∈ lw_tbl := fun w h => (goodIn_p bw_39 [913, 1442, 917, 921, 926, 929] (by decide +kernel) (by decide +kernel) w h).1
theorem tw_40 : ∀ w ∈ bw_40, w ∈ lw_tbl := fun w h => (goodIn_p bw_40 [1446, 933, 1450, 937, 941] (by decide +kernel) (by decide +kernel) w h).1
theorem tw_41 : ∀ w ∈ bw_41, w ∈ lw_tbl := fun w h => (goodIn_p bw_41 [1454, 945, 949, 953, 957] (by decide +kernel) (by decide +kernel) w h).1
theorem tw_42 : ∀ w ∈ bw_42, w ∈ lw_tbl := fun w h => (goodIn_p bw_42 [961, 965, 969, 973, 1459] (by decide +kernel) (by decide +kernel) w h).1
theorem tw_43 : ∀ w ∈ bw_43, w ∈ lw_tbl := fun w h => (goodIn_p bw_43 [1463, 1467, 1471, 1475, 1479, 980] (by decide +kernel) (by decide +kernel) w h).1
theorem tw_44 : ∀ w ∈ bw_44, w ∈ lw_tbl := fun w h => (goodIn_p bw_44 [984, 988, 991, 996, 1483, 1487, 1491] (by decide +kernel) (by decide +kernel) w h).1
theorem tw_45 : ∀ w ∈ bw_45, w ∈ lw_tbl := fun w h => (goodIn_p bw_45 [1000, 1004, 1495, 1499, 1503, 1008] (by decide +kernel) (by decide +kernel) w h).1
theorem tw_46 : ∀ w ∈ bw_46, w ∈ lw_tbl := fun w h => (goodIn_p bw_46 [1012, 1015, 1507, 1511, 1515] (by decide +kernel) (by decide +kernel) w h).1
theorem tw_47 : ∀ w ∈ bw_47, w ∈ lw_tbl := fun w h => (goodIn_p bw_47 [1020, 1023, 1520, 1523, 1027, 1030, 1034] (by decide +kernel) (by decide +kernel) w h).1
theorem tw_48 : ∀ w ∈ bw_48, w ∈ lw_tbl := fun w h => (goodIn_p bw_48 [1039, 1043, 1527, 1530, 1534, 1538] (by decide +kernel) (by decide +kernel) w h).1
theorem tw_49 : ∀ w ∈ bw_49, w ∈ lw_tbl := fun w h => (goodIn_p bw_49 [1047, 1051, 1220, 1224, 1228] (by decide +kernel) (by decide +kernel) w h).1
theorem tw_50 : ∀ w ∈ bw_50, w ∈ lw_tbl := fun w h => (goodIn_p bw_50 [1232, 1055, 1236, 1059, 1063, 1542] (by decide +kernel) (by decide +kernel) w h).1
theorem tw_51 : ∀ w ∈ bw_51, w ∈ lw_tbl := fun w h => (goodIn_p bw_51 [1546, 1067, 1550, 1071, 1554, 1075] (by decide +kernel) (by decide +kernel) w h).1
theorem tw_52 : ∀ w ∈ bw_52, w ∈ lw_tbl := fun w h => (goodIn_p bw_52 [1079, 1558] (by decide +kernel) (by decide +kernel) w h).1
theorem tw_wsX110 : ∀ w ∈ wsX110, w ∈ lw_tbl := fun w h => (goodIn_p wsX110 [] (by decide +kernel) (by decide +kernel) w h).1
theorem tw_wsX120 : ∀ w ∈ wsX120, w ∈ lw_tbl := fun w h => (goodIn_p wsX120 [] (by decide +kernel) (by decide +kernel) w h).1
theorem tw_wsX100 : ∀ w ∈ wsX100, w ∈ lw_tbl := fun w h => (goodIn_p wsX100 [] (by decide +kernel) (by decide +kernel) w h).1
theorem tw_wsX60 : ∀ w ∈ wsX60, w ∈ lw_tbl := fun w h => (goodIn_p wsX60 [] (by decide +kernel) (by decide +kernel) w h).1
theorem tw_wsX30 : ∀ w ∈ wsX30, w ∈ lw_tbl := fun w h => (goodIn_p wsX30 [] (by decide +kernel) (by decide +kernel) w h).1
theorem tw_wsX10 : ∀ w ∈ wsX10, w ∈ lw_tbl := fun w h => (goodIn_p wsX10 [] (by decide +kernel) (by decide +kernel) w h).1
theorem tw_wsX20 : ∀ w ∈ wsX20, w ∈ lw_tbl := fun w h => (goodIn_p wsX20 [] (by decide +kernel) (by decide +kernel) w h).1
theorem tw_wsX80 : ∀ w ∈ wsX80, w ∈ lw_tbl := fun w h => (goodIn_p wsX80 [] (by decide +kernel) (by decide +kernel) w h).1
theorem tw_wsX70 : ∀ w ∈ wsX70, w ∈ lw_tbl := fun w h => (goodIn_p wsX70 [] (by decide +kernel) (by decide +kernel) w h).1
theorem tw_wsX40 : ∀ w ∈ wsX40, w ∈ lw_tbl := fun w h => (goodIn_p wsX40 [] (by decide +kernel) (by decide +kernel) w h).1
theorem tw_wsX50 : ∀ w ∈ wsX50, w ∈ lw_tbl := fun w h => (goodIn_p wsX50 [] (by decide +kernel) (by decide +kernel) w h).1
theorem tw_wsX90 : ∀ w ∈ wsX90, w ∈ lw_tbl := fun w h => (goodIn_p wsX90 [] (by decide +kernel) (by decide +kernel) w h).1
theorem twL : ∀ L ∈ bwL, ∀ w ∈ L, w ∈ lw_tbl := List.forall_mem_cons.mpr ⟨tw_0, List.forall_mem_cons.mpr ⟨tw_1, List.forall_mem_cons.mpr ⟨tw_2, List.forall_mem_cons.mpr ⟨tw_3, List.forall_mem_cons.mpr ⟨tw_4, List.forall_mem_cons.mpr ⟨tw_5, List.forall_mem_cons.mpr ⟨tw_6, List.forall_mem_cons.mpr ⟨tw_7, List.forall_mem_cons.mpr ⟨tw_8, List.forall_mem_cons.mpr ⟨tw_9, List.forall_mem_cons.mpr ⟨tw_10, List.forall_mem_cons.mpr ⟨tw_11, List.forall_mem_cons.mpr ⟨tw_12, List.forall_mem_cons.mpr ⟨tw_13, List.forall_mem_cons.mpr ⟨tw_14, List.forall_mem_cons.mpr ⟨tw_15, List.forall_mem_cons.mpr ⟨tw_16, List.forall_mem_cons.mpr ⟨tw_17, List.forall_mem_cons.mpr ⟨tw_18, List.forall_mem_cons.mpr ⟨tw_19, List.forall_mem_cons.mpr ⟨tw_20, List.forall_mem_cons.mpr ⟨tw_21, List.forall_mem_cons.mpr ⟨tw_22, List.forall_mem_cons.mpr ⟨tw_23, List.forall_mem_cons.mpr ⟨tw_24, List.forall_mem_cons.mpr ⟨tw_25, List.forall_mem_cons.mpr ⟨tw_26, List.forall_mem_cons.mpr ⟨tw_27, List.forall_mem_cons.mpr ⟨tw_28, List.forall_mem_cons.mpr ⟨tw_29, List.forall_mem_cons.mpr ⟨tw_30, List.forall_mem_cons.mpr ⟨tw_31, List.forall_mem_cons.mpr ⟨tw_32, List.forall_mem_cons.mpr ⟨tw_33, List.forall_mem_cons.mpr ⟨tw_34, List.forall_mem_cons.mpr ⟨tw_35, List.forall_mem_cons.mpr ⟨tw_36, List.forall_mem_cons.mpr ⟨tw_37, List.forall_mem_cons.mpr ⟨tw_38, List.forall_mem_cons.mpr ⟨tw_39, List.forall_mem_cons.mpr ⟨tw_40, List.forall_mem_cons.mpr ⟨tw_41, List.forall_mem_cons.mpr ⟨tw_42, List.forall_mem_cons.mpr ⟨tw_43, List.forall_mem_cons.mpr ⟨tw_44, List.forall_mem_cons.mpr ⟨tw_45, List.forall_mem_cons.mpr ⟨tw_46, List.forall_mem_cons.mpr ⟨tw_47, List.forall_mem_cons.mpr ⟨tw_48, List.forall_mem_cons.mpr ⟨tw_49, List.forall_mem_cons.mpr ⟨tw_50, List.forall_mem_cons.mpr ⟨tw_51, List.forall_mem_cons.mpr ⟨tw_52, List.forall_mem_cons.mpr ⟨tw_wsX110, List.forall_mem_cons.mpr ⟨tw_wsX120, List.forall_mem_cons.mpr ⟨tw_wsX100, List.forall_mem_cons.mpr ⟨tw_wsX60, List.forall_mem_cons.mpr ⟨tw_wsX30, List.forall_mem_cons.mpr ⟨tw_wsX10, List.forall_mem_cons.mpr ⟨tw_wsX20, List.forall_mem_cons.mpr ⟨tw_wsX80, List.forall_mem_cons.mpr ⟨tw_wsX70, List.forall_mem_cons.mpr ⟨tw_wsX40, List.forall_mem_cons.mpr ⟨tw_wsX50, List.forall_mem_cons.mpr ⟨tw_wsX90, fun _ h => absurd h List.not_mem_nil⟩⟩⟩⟩⟩⟩⟩⟩⟩⟩⟩⟩⟩⟩⟩⟩⟩⟩⟩⟩⟩⟩⟩⟩⟩⟩⟩⟩⟩⟩⟩⟩⟩⟩⟩⟩⟩⟩⟩⟩⟩⟩⟩⟩⟩⟩⟩⟩⟩⟩⟩⟩⟩⟩⟩⟩⟩⟩⟩⟩⟩⟩⟩⟩⟩
theorem BW_tbl : ∀ w ∈ BW, w ∈ lw_tbl := fun w h => by
  obtain ⟨L, h1, h2⟩ := List.mem_flatten.mp h
  exact twL L h1 w h2
