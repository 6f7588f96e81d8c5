theorem dX11_fault_13 : decode cX11_fault 13 = .ok (.iload_n 1, 1) := by decide +kernel
theorem dX11_fault_14 : decode cX11_fault 14 = .ok (.iconst 0, 1) := by decide +kernel
theorem dX11_fault_15 : decode cX11_fault 15 = .ok (.bipush 6, 2) := by decide +kernel
theorem dX11_fault_17 : decode cX11_fault 17 = .ok (.invokestatic 69, 3) := by decide +kernel
theorem dX11_fault_20 : decode cX11_fault 20 = .ok (.ifCond .eq 33, 3) := by decide +kernel
theorem dX11_fault_23 : decode cX11_fault 23 = .ok (.iload_n 2, 1) := by decide +kernel
theorem dX11_fault_24 : decode cX11_fault 24 = .ok (.iconst 0, 1) := by decide +kernel
theorem dX11_fault_25 : decode cX11_fault 25 = .ok (.bipush 7, 2) := by decide +kernel
theorem dX11_fault_27 : decode cX11_fault 27 = .ok (.invokestatic 69, 3) := by decide +kernel
theorem dX11_fault_30 : decode cX11_fault 30 = .ok (.ifCond .eq 23, 3) := by decide +kernel
theorem dX11_fault_33 : decode cX11_fault 33 = .ok (.iload_n 3, 1) := by decide +kernel
theorem dX11_fault_34 : decode cX11_fault 34 = .ok (.iconst 0, 1) := by decide +kernel
theorem dX11_fault_35 : decode cX11_fault 35 = .ok (.bipush 7, 2) := by decide +kernel
theorem dX11_fault_37 : decode cX11_fault 37 = .ok (.invokestatic 69, 3) := by decide +kernel
theorem dX11_fault_40 : decode cX11_fault 40 = .ok (.ifCond .eq 13, 3) := by decide +kernel
theorem dX11_fault_43 : decode cX11_fault 43 = .ok (.iload 4, 2) := by decide +kernel
theorem dX11_fault_45 : decode cX11_fault 45 = .ok (.iconst 1, 1) := by decide +kernel
theorem dX11_fault_46 : decode cX11_fault 46 = .ok (.iconst 4, 1) := by decide +kernel
theorem dX11_fault_47 : decode cX11_fault 47 = .ok (.invokestatic 69, 3) := by decide +kernel
theorem dX11_fault_50 : decode cX11_fault 50 = .ok (.ifCond .ne 6, 3) := by decide +kernel
theorem dX11_fault_53 : decode cX11_fault 53 = .ok (.bipush (-2), 2) := by decide +kernel
theorem dX11_fault_55 : decode cX11_fault 55 = .ok (.ireturn, 1) := by decide +kernel
theorem dX11_fault_56 : decode cX11_fault 56 = .ok (.aload_n 0, 1) := by decide +kernel
theorem dX11_fault_57 : decode cX11_fault 57 = .ok (.getfield 12, 3) := by decide +kernel
theorem dX11_fault_60 : decode cX11_fault 60 = .ok (.getfield 106, 3) := by decide +kernel
theorem dX11_fault_63 : decode cX11_fault 63 = .ok (.bipush 8, 2) := by decide +kernel
theorem dX11_fault_65 : decode cX11_fault 65 = .ok (.if_icmp .lt 6, 3) := by decide +kernel
theorem dX11_fault_68 : decode cX11_fault 68 = .ok (.bipush (-4), 2) := by decide +kernel
theorem dX11_fault_70 : decode cX11_fault 70 = .ok (.ireturn, 1) := by decide +kernel
theorem dX11_fault_71 : decode cX11_fault 71 = .ok (.aload_n 0, 1) := by decide +kernel
theorem dX11_fault_72 : decode cX11_fault 72 = .ok (.getfield 12, 3) := by decide +kernel
theorem dX11_fault_75 : decode cX11_fault 75 = .ok (.iload_n 1, 1) := by decide +kernel
theorem dX11_fault_76 : decode cX11_fault 76 = .ok (.iload_n 2, 1) := by decide +kernel
theorem dX11_fault_77 : decode cX11_fault 77 = .ok (.iload_n 3, 1) := by decide +kernel
theorem dX11_fault_78 : decode cX11_fault 78 = .ok (.iload 4, 2) := by decide +kernel
theorem dX11_fault_80 : decode cX11_fault 80 = .ok (.invokestatic 133, 3) := by decide +kernel
theorem dX11_fault_83 : decode cX11_fault 83 = .ok (.invokevirtual 137, 3) := by decide +kernel
theorem dX11_fault_86 : decode cX11_fault 86 = .ok (.aload_n 0, 1) := by decide +kernel
theorem dX11_fault_87 : decode cX11_fault 87 = .ok (.getfield 26, 3) := by decide +kernel
theorem dX11_fault_90 : decode cX11_fault 90 = .ok (.iconst 0, 1) := by decide +kernel
theorem dX11_fault_91 : decode cX11_fault 91 = .ok (.putfield 77, 3) := by decide +kernel
theorem dX11_fault_94 : decode cX11_fault 94 = .ok (.aload_n 0, 1) := by decide +kernel
theorem dX11_fault_95 : decode cX11_fault 95 = .ok (.getfield 12, 3) := by decide +kernel
theorem dX11_fault_98 : decode cX11_fault 98 = .ok (.getfield 106, 3) := by decide +kernel
theorem dX11_fault_101 : decode cX11_fault 101 = .ok (.iconst 1, 1) := by decide +kernel
theorem dX11_fault_102 : decode cX11_fault 102 = .ok (.isub, 1) := by decide +kernel
theorem dX11_fault_103 : decode cX11_fault 103 = .ok (.ireturn, 1) := by decide +kernel
theorem dX11_heal_0 : decode cX11_heal 0 = .ok (.aload_n 0, 1) := by decide +kernel
theorem dX11_heal_1 : decode cX11_heal 1 = .ok (.getfield 12, 3) := by decide +kernel
theorem dX11_heal_4 : decode cX11_heal 4 = .ok (.iload_n 1, 1) := by decide +kernel
theorem dX11_heal_5 : decode cX11_heal 5 = .ok (.invokevirtual 163, 3) := by decide +kernel
theorem dX11_heal_8 : decode cX11_heal 8 = .ok (.ifnonnull 6, 3) := by decide +kernel
theorem dX11_heal_11 : decode cX11_heal 11 = .ok (.bipush (-2), 2) := by decide +kernel
theorem dX11_heal_13 : decode cX11_heal 13 = .ok (.ireturn, 1) := by decide +kernel
theorem dX11_heal_14 : decode cX11_heal 14 = .ok (.aload_n 0, 1) := by decide +kernel
theorem dX11_heal_15 : decode cX11_heal 15 = .ok (.getfield 12, 3) := by decide +kernel
theorem dX11_heal_18 : decode cX11_heal 18 = .ok (.iload_n 1, 1) := by decide +kernel
theorem dX11_heal_19 : decode cX11_heal 19 = .ok (.invokevirtual 167, 3) := by decide +kernel
theorem dX11_heal_22 : decode cX11_heal 22 = .ok (.aload_n 0, 1) := by decide +kernel
theorem dX11_heal_23 : decode cX11_heal 23 = .ok (.getfield 26, 3) := by decide +kernel
theorem dX11_heal_26 : decode cX11_heal 26 = .ok (.iconst 0, 1) := by decide +kernel
theorem dX11_heal_27 : decode cX11_heal 27 = .ok (.putfield 77, 3) := by decide +kernel
theorem dX11_heal_30 : decode cX11_heal 30 = .ok (.aload_n 0, 1) := by decide +kernel
theorem dX11_heal_31 : decode cX11_heal 31 = .ok (.getfield 12, 3) := by decide +kernel
theorem dX11_heal_34 : decode cX11_heal 34 = .ok (.getfield 106, 3) := by decide +kernel
theorem dX11_heal_37 : decode cX11_heal 37 = .ok (.ireturn, 1) := by decide +kernel
theorem dX11_told_0 : decode cX11_told 0 = .ok (.aload_n 0, 1) := by decide +kernel
theorem dX11_told_1 : decode cX11_told 1 = .ok (.getfield 12, 3) := by decide +kernel
theorem dX11_told_4 : decode cX11_told 4 = .ok (.iload_n 1, 1) := by decide +kernel
theorem dX11_told_5 : decode cX11_told 5 = .ok (.invokevirtual 163, 3) := by decide +kernel
theorem dX11_told_8 : decode cX11_told 8 = .ok (.astore_n 3, 1) := by decide +kernel
theorem dX11_told_9 : decode cX11_told 9 = .ok (.aload_n 3, 1) := by decide +kernel
theorem dX11_told_10 : decode cX11_told 10 = .ok (.ifnonnull 6, 3) := by decide +kernel
theorem dX11_told_13 : decode cX11_told 13 = .ok (.bipush (-2), 2) := by decide +kernel
theorem dX11_told_15 : decode cX11_told 15 = .ok (.ireturn, 1) := by decide +kernel
theorem dX11_told_16 : decode cX11_told 16 = .ok (.iload_n 2, 1) := by decide +kernel
theorem dX11_told_17 : decode cX11_told 17 = .ok (.tableswitch 89 0 6 #[43, 48, 53, 58, 63, 72, 84], 43) := by decide +kernel
theorem dX11_told_60 : decode cX11_told 60 = .ok (.aload_n 3, 1) := by decide +kernel
theorem dX11_told_61 : decode cX11_told 61 = .ok (.invokevirtual 170, 3) := by decide +kernel
theorem dX11_told_64 : decode cX11_told 64 = .ok (.ireturn, 1) := by decide +kernel
theorem dX11_told_65 : decode cX11_told 65 = .ok (.aload_n 3, 1) := by decide +kernel
theorem dX11_told_66 : decode cX11_told 66 = .ok (.getfield 173, 3) := by decide +kernel
theorem dX11_told_69 : decode cX11_told 69 = .ok (.ireturn, 1) := by decide +kernel
theorem dX11_told_70 : decode cX11_told 70 = .ok (.aload_n 3, 1) := by decide +kernel
theorem dX11_told_71 : decode cX11_told 71 = .ok (.getfield 176, 3) := by decide +kernel
theorem dX11_told_74 : decode cX11_told 74 = .ok (.ireturn, 1) := by decide +kernel
theorem dX11_told_75 : decode cX11_told 75 = .ok (.aload_n 3, 1) := by decide +kernel
theorem dX11_told_76 : decode cX11_told 76 = .ok (.getfield 179, 3) := by decide +kernel
theorem dX11_told_79 : decode cX11_told 79 = .ok (.ireturn, 1) := by decide +kernel
theorem dX11_told_80 : decode cX11_told 80 = .ok (.aload_n 0, 1) := by decide +kernel
theorem dX11_told_81 : decode cX11_told 81 = .ok (.getfield 12, 3) := by decide +kernel
theorem dX11_told_84 : decode cX11_told 84 = .ok (.aload_n 3, 1) := by decide +kernel
theorem dX11_told_85 : decode cX11_told 85 = .ok (.invokevirtual 182, 3) := by decide +kernel
theorem dX11_told_88 : decode cX11_told 88 = .ok (.ireturn, 1) := by decide +kernel
theorem dX11_told_89 : decode cX11_told 89 = .ok (.aload_n 3, 1) := by decide +kernel
theorem dX11_told_90 : decode cX11_told 90 = .ok (.aload_n 0, 1) := by decide +kernel
theorem dX11_told_91 : decode cX11_told 91 = .ok (.getfield 12, 3) := by decide +kernel
theorem dX11_told_94 : decode cX11_told 94 = .ok (.getfield 84, 3) := by decide +kernel
theorem dX11_told_97 : decode cX11_told 97 = .ok (.invokevirtual 186, 3) := by decide +kernel
theorem dX11_told_100 : decode cX11_told 100 = .ok (.ireturn, 1) := by decide +kernel
theorem dX11_told_101 : decode cX11_told 101 = .ok (.aload_n 3, 1) := by decide +kernel
theorem dX11_told_102 : decode cX11_told 102 = .ok (.invokevirtual 189, 3) := by decide +kernel
theorem dX11_told_105 : decode cX11_told 105 = .ok (.ireturn, 1) := by decide +kernel
theorem dX11_told_106 : decode cX11_told 106 = .ok (.bipush (-2), 2) := by decide +kernel
theorem dX11_told_108 : decode cX11_told 108 = .ok (.ireturn, 1) := by decide +kernel
theorem dX11_taken_0 : decode cX11_taken 0 = .ok (.aload_n 0, 1) := by decide +kernel
theorem dX11_taken_1 : decode cX11_taken 1 = .ok (.getfield 12, 3) := by decide +kernel
theorem dX11_taken_4 : decode cX11_taken 4 = .ok (.iload_n 1, 1) := by decide +kernel
theorem dX11_taken_5 : decode cX11_taken 5 = .ok (.invokevirtual 163, 3) := by decide +kernel
theorem dX11_taken_8 : decode cX11_taken 8 = .ok (.astore_n 3, 1) := by decide +kernel
theorem dX11_taken_9 : decode cX11_taken 9 = .ok (.aload_n 3, 1) := by decide +kernel
theorem dX11_taken_10 : decode cX11_taken 10 = .ok (.ifnull 13, 3) := by decide +kernel
theorem dX11_taken_13 : decode cX11_taken 13 = .ok (.iload_n 2, 1) := by decide +kernel
theorem dX11_taken_14 : decode cX11_taken 14 = .ok (.iconst 0, 1) := by decide +kernel
theorem dX11_taken_15 : decode cX11_taken 15 = .ok (.bipush 6, 2) := by decide +kernel
theorem dX11_taken_17 : decode cX11_taken 17 = .ok (.invokestatic 69, 3) := by decide +kernel
theorem dX11_taken_20 : decode cX11_taken 20 = .ok (.ifCond .ne 6, 3) := by decide +kernel
theorem dX11_taken_23 : decode cX11_taken 23 = .ok (.bipush (-2), 2) := by decide +kernel
theorem dX11_taken_25 : decode cX11_taken 25 = .ok (.ireturn, 1) := by decide +kernel
theorem dX11_taken_26 : decode cX11_taken 26 = .ok (.aload_n 3, 1) := by decide +kernel
theorem dX11_taken_27 : decode cX11_taken 27 = .ok (.iload_n 2, 1) := by decide +kernel
theorem dX11_taken_28 : decode cX11_taken 28 = .ok (.invokestatic 192, 3) := by decide +kernel
theorem dX11_taken_31 : decode cX11_taken 31 = .ok (.ifCond .eq 10, 3) := by decide +kernel
theorem dX11_taken_34 : decode cX11_taken 34 = .ok (.aload_n 3, 1) := by decide +kernel
theorem dX11_taken_35 : decode cX11_taken 35 = .ok (.invokevirtual 196, 3) := by decide +kernel
theorem dX11_taken_38 : decode cX11_taken 38 = .ok (.goto 5, 3) := by decide +kernel
theorem dX11_taken_41 : decode cX11_taken 41 = .ok (.bipush (-13), 2) := by decide +kernel
theorem dX11_taken_43 : decode cX11_taken 43 = .ok (.ireturn, 1) := by decide +kernel
theorem dX11_isUnder_0 : decode cX11_isUnder 0 = .ok (.iload_n 1, 1) := by decide +kernel
theorem dX11_isUnder_1 : decode cX11_isUnder 1 = .ok (.tableswitch 69 0 5 #[39, 44, 49, 54, 59, 64], 39) := by decide +kernel
theorem dX11_isUnder_40 : decode cX11_isUnder 40 = .ok (.aload_n 0, 1) := by decide +kernel
theorem dX11_isUnder_41 : decode cX11_isUnder 41 = .ok (.instanceof 141, 3) := by decide +kernel
theorem dX11_isUnder_44 : decode cX11_isUnder 44 = .ok (.ireturn, 1) := by decide +kernel
theorem dX11_isUnder_45 : decode cX11_isUnder 45 = .ok (.aload_n 0, 1) := by decide +kernel
theorem dX11_isUnder_46 : decode cX11_isUnder 46 = .ok (.instanceof 145, 3) := by decide +kernel
theorem dX11_isUnder_49 : decode cX11_isUnder 49 = .ok (.ireturn, 1) := by decide +kernel
theorem dX11_isUnder_50 : decode cX11_isUnder 50 = .ok (.aload_n 0, 1) := by decide +kernel
theorem dX11_isUnder_51 : decode cX11_isUnder 51 = .ok (.instanceof 148, 3) := by decide +kernel
theorem dX11_isUnder_54 : decode cX11_isUnder 54 = .ok (.ireturn, 1) := by decide +kernel
theorem dX11_isUnder_55 : decode cX11_isUnder 55 = .ok (.aload_n 0, 1) := by decide +kernel
theorem dX11_isUnder_56 : decode cX11_isUnder 56 = .ok (.instanceof 151, 3) := by decide +kernel
theorem dX11_isUnder_59 : decode cX11_isUnder 59 = .ok (.ireturn, 1) := by decide +kernel
theorem dX11_isUnder_60 : decode cX11_isUnder 60 = .ok (.aload_n 0, 1) := by decide +kernel
theorem dX11_isUnder_61 : decode cX11_isUnder 61 = .ok (.instanceof 154, 3) := by decide +kernel
theorem dX11_isUnder_64 : decode cX11_isUnder 64 = .ok (.ireturn, 1) := by decide +kernel
theorem dX11_isUnder_65 : decode cX11_isUnder 65 = .ok (.aload_n 0, 1) := by decide +kernel
theorem dX11_isUnder_66 : decode cX11_isUnder 66 = .ok (.instanceof 157, 3) := by decide +kernel
theorem dX11_isUnder_69 : decode cX11_isUnder 69 = .ok (.ireturn, 1) := by decide +kernel
theorem dX11_isUnder_70 : decode cX11_isUnder 70 = .ok (.aload_n 0, 1) := by decide +kernel
theorem dX11_isUnder_71 : decode cX11_isUnder 71 = .ok (.instanceof 160, 3) := by decide +kernel
theorem dX11_isUnder_74 : decode cX11_isUnder 74 = .ok (.ireturn, 1) := by decide +kernel
theorem dX11_turn_0 : decode cX11_turn 0 = .ok (.aload_n 0, 1) := by decide +kernel
theorem dX11_turn_1 : decode cX11_turn 1 = .ok (.getfield 12, 3) := by decide +kernel
theorem dX11_turn_4 : decode cX11_turn 4 = .ok (.invokevirtual 98, 3) := by decide +kernel
theorem dX11_turn_7 : decode cX11_turn 7 = .ok (.ifCond .ne 6, 3) := by decide +kernel
theorem dX11_turn_10 : decode cX11_turn 10 = .ok (.bipush (-3), 2) := by decide +kernel
theorem dX11_turn_12 : decode cX11_turn 12 = .ok (.ireturn, 1) := by decide +kernel
theorem dX11_turn_13 : decode cX11_turn 13 = .ok (.iload_n 1, 1) := by decide +kernel
theorem dX11_turn_14 : decode cX11_turn 14 = .ok (.iconst 0, 1) := by decide +kernel
theorem dX11_turn_15 : decode cX11_turn 15 = .ok (.iconst 3, 1) := by decide +kernel
theorem dX11_turn_16 : decode cX11_turn 16 = .ok (.invokestatic 69, 3) := by decide +kernel
theorem dX11_turn_19 : decode cX11_turn 19 = .ok (.ifCond .ne 6, 3) := by decide +kernel
theorem dX11_turn_22 : decode cX11_turn 22 = .ok (.bipush (-2), 2) := by decide +kernel
theorem dX11_turn_24 : decode cX11_turn 24 = .ok (.ireturn, 1) := by decide +kernel
theorem dX11_turn_25 : decode cX11_turn 25 = .ok (.aload_n 0, 1) := by decide +kernel
theorem dX11_turn_26 : decode cX11_turn 26 = .ok (.getfield 12, 3) := by decide +kernel
theorem dX11_turn_29 : decode cX11_turn 29 = .ok (.getfield 199, 3) := by decide +kernel
theorem dX11_turn_32 : decode cX11_turn 32 = .ok (.istore_n 2, 1) := by decide +kernel
theorem dX11_turn_33 : decode cX11_turn 33 = .ok (.aload_n 0, 1) := by decide +kernel
theorem dX11_turn_34 : decode cX11_turn 34 = .ok (.getfield 12, 3) := by decide +kernel
theorem dX11_turn_37 : decode cX11_turn 37 = .ok (.iload_n 1, 1) := by decide +kernel
theorem dX11_turn_38 : decode cX11_turn 38 = .ok (.putfield 199, 3) := by decide +kernel
theorem dX11_turn_41 : decode cX11_turn 41 = .ok (.aload_n 0, 1) := by decide +kernel
theorem dX11_turn_42 : decode cX11_turn 42 = .ok (.getfield 26, 3) := by decide +kernel
theorem dX11_turn_45 : decode cX11_turn 45 = .ok (.iconst 0, 1) := by decide +kernel
theorem dX11_turn_46 : decode cX11_turn 46 = .ok (.putfield 77, 3) := by decide +kernel
theorem dX11_turn_49 : decode cX11_turn 49 = .ok (.iload_n 2, 1) := by decide +kernel
theorem dX11_turn_50 : decode cX11_turn 50 = .ok (.ireturn, 1) := by decide +kernel
theorem dX11_rule_0 : decode cX11_rule 0 = .ok (.iload_n 1, 1) := by decide +kernel
theorem dX11_rule_1 : decode cX11_rule 1 = .ok (.iconst 0, 1) := by decide +kernel
theorem dX11_rule_2 : decode cX11_rule 2 = .ok (.bipush 6, 2) := by decide +kernel
theorem dX11_rule_4 : decode cX11_rule 4 = .ok (.invokestatic 69, 3) := by decide +kernel
theorem dX11_rule_7 : decode cX11_rule 7 = .ok (.ifCond .eq 16, 3) := by decide +kernel
theorem dX11_rule_10 : decode cX11_rule 10 = .ok (.iload_n 2, 1) := by decide +kernel
theorem dX11_rule_11 : decode cX11_rule 11 = .ok (.iconst 0, 1) := by decide +kernel
theorem dX11_rule_12 : decode cX11_rule 12 = .ok (.getstatic 202, 3) := by decide +kernel
theorem dX11_rule_15 : decode cX11_rule 15 = .ok (.iload_n 1, 1) := by decide +kernel
theorem dX11_rule_16 : decode cX11_rule 16 = .ok (.iaload, 1) := by decide +kernel
theorem dX11_rule_17 : decode cX11_rule 17 = .ok (.invokestatic 69, 3) := by decide +kernel
theorem dX11_rule_20 : decode cX11_rule 20 = .ok (.ifCond .ne 6, 3) := by decide +kernel
theorem dX11_rule_23 : decode cX11_rule 23 = .ok (.bipush (-2), 2) := by decide +kernel
theorem dX11_rule_25 : decode cX11_rule 25 = .ok (.ireturn, 1) := by decide +kernel
theorem dX11_rule_26 : decode cX11_rule 26 = .ok (.iload_n 1, 1) := by decide +kernel
theorem dX11_rule_27 : decode cX11_rule 27 = .ok (.bipush 6, 2) := by decide +kernel
theorem dX11_rule_29 : decode cX11_rule 29 = .ok (.if_icmp .ne 12, 3) := by decide +kernel
theorem dX11_rule_32 : decode cX11_rule 32 = .ok (.iload_n 2, 1) := by decide +kernel
theorem dX11_rule_33 : decode cX11_rule 33 = .ok (.iconst 2, 1) := by decide +kernel
theorem dX11_rule_34 : decode cX11_rule 34 = .ok (.irem, 1) := by decide +kernel
theorem dX11_rule_35 : decode cX11_rule 35 = .ok (.ifCond .eq 6, 3) := by decide +kernel
theorem dX11_rule_38 : decode cX11_rule 38 = .ok (.bipush (-2), 2) := by decide +kernel
theorem dX11_rule_40 : decode cX11_rule 40 = .ok (.ireturn, 1) := by decide +kernel
theorem dX11_rule_41 : decode cX11_rule 41 = .ok (.aload_n 0, 1) := by decide +kernel
theorem dX11_rule_42 : decode cX11_rule 42 = .ok (.getfield 12, 3) := by decide +kernel
theorem dX11_rule_45 : decode cX11_rule 45 = .ok (.getfield 205, 3) := by decide +kernel
theorem dX11_rule_48 : decode cX11_rule 48 = .ok (.iload_n 1, 1) := by decide +kernel
theorem dX11_rule_49 : decode cX11_rule 49 = .ok (.iaload, 1) := by decide +kernel
theorem dX11_rule_50 : decode cX11_rule 50 = .ok (.istore_n 3, 1) := by decide +kernel
theorem dX11_rule_51 : decode cX11_rule 51 = .ok (.aload_n 0, 1) := by decide +kernel
theorem dX11_rule_52 : decode cX11_rule 52 = .ok (.getfield 12, 3) := by decide +kernel
theorem dX11_rule_55 : decode cX11_rule 55 = .ok (.getfield 205, 3) := by decide +kernel
theorem dX11_rule_58 : decode cX11_rule 58 = .ok (.iload_n 1, 1) := by decide +kernel
theorem dX11_rule_59 : decode cX11_rule 59 = .ok (.iload_n 2, 1) := by decide +kernel
theorem dX11_rule_60 : decode cX11_rule 60 = .ok (.iastore, 1) := by decide +kernel
theorem dX11_rule_61 : decode cX11_rule 61 = .ok (.aload_n 0, 1) := by decide +kernel
theorem dX11_rule_62 : decode cX11_rule 62 = .ok (.getfield 26, 3) := by decide +kernel
theorem dX11_rule_65 : decode cX11_rule 65 = .ok (.iconst 0, 1) := by decide +kernel
theorem dX11_rule_66 : decode cX11_rule 66 = .ok (.putfield 77, 3) := by decide +kernel
theorem dX11_rule_69 : decode cX11_rule 69 = .ok (.iload_n 3, 1) := by decide +kernel
theorem dX11_rule_70 : decode cX11_rule 70 = .ok (.ireturn, 1) := by decide +kernel
theorem dX11_cell_0 : decode cX11_cell 0 = .ok (.aload_n 0, 1) := by decide +kernel
theorem dX11_cell_1 : decode cX11_cell 1 = .ok (.getfield 12, 3) := by decide +kernel
theorem dX11_cell_4 : decode cX11_cell 4 = .ok (.invokevirtual 98, 3) := by decide +kernel
theorem dX11_cell_7 : decode cX11_cell 7 = .ok (.ifCond .ne 6, 3) := by decide +kernel
theorem dX11_cell_10 : decode cX11_cell 10 = .ok (.bipush (-3), 2) := by decide +kernel
theorem dX11_cell_12 : decode cX11_cell 12 = .ok (.ireturn, 1) := by decide +kernel
theorem dX11_cell_13 : decode cX11_cell 13 = .ok (.iload_n 1, 1) := by decide +kernel
theorem dX11_cell_14 : decode cX11_cell 14 = .ok (.iconst 0, 1) := by decide +kernel
theorem dX11_cell_15 : decode cX11_cell 15 = .ok (.bipush 11, 2) := by decide +kernel
theorem dX11_cell_17 : decode cX11_cell 17 = .ok (.invokestatic 69, 3) := by decide +kernel
theorem dX11_cell_20 : decode cX11_cell 20 = .ok (.ifCond .eq 30, 3) := by decide +kernel
theorem dX11_cell_23 : decode cX11_cell 23 = .ok (.iload_n 2, 1) := by decide +kernel
theorem dX11_cell_24 : decode cX11_cell 24 = .ok (.iconst 0, 1) := by decide +kernel
theorem dX11_cell_25 : decode cX11_cell 25 = .ok (.bipush 11, 2) := by decide +kernel
theorem dX11_cell_27 : decode cX11_cell 27 = .ok (.invokestatic 69, 3) := by decide +kernel
theorem dX11_cell_30 : decode cX11_cell 30 = .ok (.ifCond .eq 20, 3) := by decide +kernel
theorem dX11_cell_33 : decode cX11_cell 33 = .ok (.iload_n 3, 1) := by decide +kernel
theorem dX11_cell_34 : decode cX11_cell 34 = .ok (.iconst 0, 1) := by decide +kernel
theorem dX11_cell_35 : decode cX11_cell 35 = .ok (.aload_n 0, 1) := by decide +kernel
theorem dX11_cell_36 : decode cX11_cell 36 = .ok (.getfield 12, 3) := by decide +kernel
theorem dX11_cell_39 : decode cX11_cell 39 = .ok (.getfield 84, 3) := by decide +kernel
theorem dX11_cell_42 : decode cX11_cell 42 = .ok (.iconst 1, 1) := by decide +kernel
theorem dX11_cell_43 : decode cX11_cell 43 = .ok (.isub, 1) := by decide +kernel
theorem dX11_cell_44 : decode cX11_cell 44 = .ok (.invokestatic 69, 3) := by decide +kernel
theorem dX11_cell_47 : decode cX11_cell 47 = .ok (.ifCond .ne 6, 3) := by decide +kernel
theorem dX11_cell_50 : decode cX11_cell 50 = .ok (.bipush (-2), 2) := by decide +kernel
theorem dX11_cell_52 : decode cX11_cell 52 = .ok (.ireturn, 1) := by decide +kernel
theorem dX11_cell_53 : decode cX11_cell 53 = .ok (.iload 4, 2) := by decide +kernel
theorem dX11_cell_55 : decode cX11_cell 55 = .ok (.tableswitch 88 0 2 #[25, 44, 55], 25) := by decide +kernel
theorem dX11_cell_80 : decode cX11_cell 80 = .ok (.aload_n 0, 1) := by decide +kernel
theorem dX11_cell_81 : decode cX11_cell 81 = .ok (.getfield 12, 3) := by decide +kernel
theorem dX11_cell_84 : decode cX11_cell 84 = .ok (.iload_n 1, 1) := by decide +kernel
theorem dX11_cell_85 : decode cX11_cell 85 = .ok (.iload_n 2, 1) := by decide +kernel
theorem dX11_cell_86 : decode cX11_cell 86 = .ok (.iload_n 3, 1) := by decide +kernel
theorem dX11_cell_87 : decode cX11_cell 87 = .ok (.invokevirtual 87, 3) := by decide +kernel
theorem dX11_cell_90 : decode cX11_cell 90 = .ok (.ifCond .eq 7, 3) := by decide +kernel
theorem dX11_cell_93 : decode cX11_cell 93 = .ok (.iconst 1, 1) := by decide +kernel
theorem dX11_cell_94 : decode cX11_cell 94 = .ok (.goto 4, 3) := by decide +kernel
theorem dX11_cell_97 : decode cX11_cell 97 = .ok (.iconst 0, 1) := by decide +kernel
theorem dX11_cell_98 : decode cX11_cell 98 = .ok (.ireturn, 1) := by decide +kernel
theorem dX11_cell_99 : decode cX11_cell 99 = .ok (.aload_n 0, 1) := by decide +kernel
theorem dX11_cell_100 : decode cX11_cell 100 = .ok (.invokevirtual 208, 3) := by decide +kernel
theorem dX11_cell_103 : decode cX11_cell 103 = .ok (.iload_n 1, 1) := by decide +kernel
theorem dX11_cell_104 : decode cX11_cell 104 = .ok (.iload_n 2, 1) := by decide +kernel
theorem dX11_cell_105 : decode cX11_cell 105 = .ok (.iload_n 3, 1) := by decide +kernel
theorem dX11_cell_106 : decode cX11_cell 106 = .ok (.invokevirtual 212, 3) := by decide +kernel
theorem dX11_cell_109 : decode cX11_cell 109 = .ok (.ireturn, 1) := by decide +kernel
theorem dX11_cell_110 : decode cX11_cell 110 = .ok (.aload_n 0, 1) := by decide +kernel
theorem dX11_cell_111 : decode cX11_cell 111 = .ok (.getfield 12, 3) := by decide +kernel
theorem dX11_cell_114 : decode cX11_cell 114 = .ok (.aload_n 0, 1) := by decide +kernel
theorem dX11_cell_115 : decode cX11_cell 115 = .ok (.getfield 12, 3) := by decide +kernel
theorem dX11_cell_118 : decode cX11_cell 118 = .ok (.getfield 199, 3) := by decide +kernel
theorem dX11_cell_121 : decode cX11_cell 121 = .ok (.iload_n 1, 1) := by decide +kernel
theorem dX11_cell_122 : decode cX11_cell 122 = .ok (.iload_n 2, 1) := by decide +kernel
theorem dX11_cell_123 : decode cX11_cell 123 = .ok (.invokestatic 216, 3) := by decide +kernel
theorem dX11_cell_126 : decode cX11_cell 126 = .ok (.aload_n 0, 1) := by decide +kernel
theorem dX11_cell_127 : decode cX11_cell 127 = .ok (.getfield 12, 3) := by decide +kernel
theorem dX11_cell_130 : decode cX11_cell 130 = .ok (.getfield 199, 3) := by decide +kernel
theorem dX11_cell_133 : decode cX11_cell 133 = .ok (.iload_n 1, 1) := by decide +kernel
theorem dX11_cell_134 : decode cX11_cell 134 = .ok (.iload_n 2, 1) := by decide +kernel
theorem dX11_cell_135 : decode cX11_cell 135 = .ok (.invokestatic 219, 3) := by decide +kernel
theorem dX11_cell_138 : decode cX11_cell 138 = .ok (.iload_n 3, 1) := by decide +kernel
theorem dX11_cell_139 : decode cX11_cell 139 = .ok (.invokevirtual 222, 3) := by decide +kernel
theorem dX11_cell_142 : decode cX11_cell 142 = .ok (.ireturn, 1) := by decide +kernel
theorem dX11_cell_143 : decode cX11_cell 143 = .ok (.bipush (-2), 2) := by decide +kernel
theorem dX11_cell_145 : decode cX11_cell 145 = .ok (.ireturn, 1) := by decide +kernel
theorem dX11_ownX_0 : decode cX11_ownX 0 = .ok (.iload_n 0, 1) := by decide +kernel
theorem dX11_ownX_1 : decode cX11_ownX 1 = .ok (.tableswitch 39 1 3 #[27, 29, 34], 27) := by decide +kernel
theorem dX11_ownX_28 : decode cX11_ownX 28 = .ok (.iload_n 2, 1) := by decide +kernel
theorem dX11_ownX_29 : decode cX11_ownX 29 = .ok (.ireturn, 1) := by decide +kernel
theorem dX11_ownX_30 : decode cX11_ownX 30 = .ok (.bipush 11, 2) := by decide +kernel
theorem dX11_ownX_32 : decode cX11_ownX 32 = .ok (.iload_n 1, 1) := by decide +kernel
theorem dX11_ownX_33 : decode cX11_ownX 33 = .ok (.isub, 1) := by decide +kernel
theorem dX11_ownX_34 : decode cX11_ownX 34 = .ok (.ireturn, 1) := by decide +kernel
theorem dX11_ownX_35 : decode cX11_ownX 35 = .ok (.bipush 11, 2) := by decide +kernel
theorem dX11_ownX_37 : decode cX11_ownX 37 = .ok (.iload_n 2, 1) := by decide +kernel
theorem dX11_ownX_38 : decode cX11_ownX 38 = .ok (.isub, 1) := by decide +kernel
theorem dX11_ownX_39 : decode cX11_ownX 39 = .ok (.ireturn, 1) := by decide +kernel
theorem dX11_ownX_40 : decode cX11_ownX 40 = .ok (.iload_n 1, 1) := by decide +kernel
theorem dX11_ownX_41 : decode cX11_ownX 41 = .ok (.ireturn, 1) := by decide +kernel
theorem dX11_ownY_0 : decode cX11_ownY 0 = .ok (.iload_n 0, 1) := by decide +kernel
theorem dX11_ownY_1 : decode cX11_ownY 1 = .ok (.iconst 1, 1) := by decide +kernel
theorem dX11_ownY_2 : decode cX11_ownY 2 = .ok (.iadd, 1) := by decide +kernel
theorem dX11_ownY_3 : decode cX11_ownY 3 = .ok (.iconst 4, 1) := by decide +kernel
theorem dX11_ownY_4 : decode cX11_ownY 4 = .ok (.irem, 1) := by decide +kernel
theorem dX11_ownY_5 : decode cX11_ownY 5 = .ok (.iload_n 1, 1) := by decide +kernel
theorem dX11_ownY_6 : decode cX11_ownY 6 = .ok (.iload_n 2, 1) := by decide +kernel
theorem dX11_ownY_7 : decode cX11_ownY 7 = .ok (.invokestatic 216, 3) := by decide +kernel
theorem dX11_ownY_10 : decode cX11_ownY 10 = .ok (.ireturn, 1) := by decide +kernel
theorem dX11_fromMiddle_0 : decode cX11_fromMiddle 0 = .ok (.iconst 2, 1) := by decide +kernel
theorem dX11_fromMiddle_1 : decode cX11_fromMiddle 1 = .ok (.iload_n 0, 1) := by decide +kernel
theorem dX11_fromMiddle_2 : decode cX11_fromMiddle 2 = .ok (.imul, 1) := by decide +kernel
theorem dX11_fromMiddle_3 : decode cX11_fromMiddle 3 = .ok (.bipush 11, 2) := by decide +kernel
theorem dX11_fromMiddle_5 : decode cX11_fromMiddle 5 = .ok (.isub, 1) := by decide +kernel
theorem dX11_fromMiddle_6 : decode cX11_fromMiddle 6 = .ok (.ireturn, 1) := by decide +kernel
theorem dX11_within_0 : decode cX11_within 0 = .ok (.iload_n 0, 1) := by decide +kernel
theorem dX11_within_1 : decode cX11_within 1 = .ok (.iload_n 1, 1) := by decide +kernel
theorem dX11_within_2 : decode cX11_within 2 = .ok (.if_icmp .lt 12, 3) := by decide +kernel
theorem dX11_within_5 : decode cX11_within 5 = .ok (.iload_n 0, 1) := by decide +kernel
theorem dX11_within_6 : decode cX11_within 6 = .ok (.iload_n 2, 1) := by decide +kernel
theorem dX11_within_7 : decode cX11_within 7 = .ok (.if_icmp .gt 7, 3) := by decide +kernel
theorem dX11_within_10 : decode cX11_within 10 = .ok (.iconst 1, 1) := by decide +kernel
theorem dX11_within_11 : decode cX11_within 11 = .ok (.goto 4, 3) := by decide +kernel
theorem dX11_within_14 : decode cX11_within 14 = .ok (.iconst 0, 1) := by decide +kernel
theorem dX11_within_15 : decode cX11_within 15 = .ok (.ireturn, 1) := by decide +kernel
theorem dX11_isByte_0 : decode cX11_isByte 0 = .ok (.iload_n 0, 1) := by decide +kernel
theorem dX11_isByte_1 : decode cX11_isByte 1 = .ok (.iconst 0, 1) := by decide +kernel
theorem dX11_isByte_2 : decode cX11_isByte 2 = .ok (.sipush 255, 3) := by decide +kernel
theorem dX11_isByte_5 : decode cX11_isByte 5 = .ok (.invokestatic 69, 3) := by decide +kernel
theorem dX11_isByte_8 : decode cX11_isByte 8 = .ok (.ireturn, 1) := by decide +kernel
theorem dX11_board_0 : decode cX11_board 0 = .ok (.aload_n 0, 1) := by decide +kernel
theorem dX11_board_1 : decode cX11_board 1 = .ok (.getfield 12, 3) := by decide +kernel
theorem dX11_board_4 : decode cX11_board 4 = .ok (.invokevirtual 98, 3) := by decide +kernel
theorem dX11_board_7 : decode cX11_board 7 = .ok (.ifCond .ne 6, 3) := by decide +kernel
theorem dX11_board_10 : decode cX11_board 10 = .ok (.bipush (-3), 2) := by decide +kernel
theorem dX11_board_12 : decode cX11_board 12 = .ok (.ireturn, 1) := by decide +kernel
theorem dX11_board_13 : decode cX11_board 13 = .ok (.iload_n 1, 1) := by decide +kernel
theorem dX11_board_14 : decode cX11_board 14 = .ok (.iload_n 2, 1) := by decide +kernel
theorem dX11_board_15 : decode cX11_board 15 = .ok (.invokestatic 225, 3) := by decide +kernel
theorem dX11_board_18 : decode cX11_board 18 = .ok (.ifCond .eq 13, 3) := by decide +kernel
theorem dX11_board_21 : decode cX11_board 21 = .ok (.iload_n 3, 1) := by decide +kernel
theorem dX11_board_22 : decode cX11_board 22 = .ok (.iconst 0, 1) := by decide +kernel
theorem dX11_board_23 : decode cX11_board 23 = .ok (.bipush 6, 2) := by decide +kernel
theorem dX11_board_25 : decode cX11_board 25 = .ok (.invokestatic 69, 3) := by decide +kernel
theorem dX11_board_28 : decode cX11_board 28 = .ok (.ifCond .ne 6, 3) := by decide +kernel
theorem dX11_board_31 : decode cX11_board 31 = .ok (.bipush (-2), 2) := by decide +kernel
theorem dX11_board_33 : decode cX11_board 33 = .ok (.ireturn, 1) := by decide +kernel
theorem dX11_board_34 : decode cX11_board 34 = .ok (.aload_n 0, 1) := by decide +kernel
theorem dX11_board_35 : decode cX11_board 35 = .ok (.invokevirtual 208, 3) := by decide +kernel
theorem dX11_board_38 : decode cX11_board 38 = .ok (.iload_n 1, 1) := by decide +kernel
theorem dX11_board_39 : decode cX11_board 39 = .ok (.iload_n 2, 1) := by decide +kernel
theorem dX11_board_40 : decode cX11_board 40 = .ok (.invokevirtual 228, 3) := by decide +kernel
theorem dX11_board_43 : decode cX11_board 43 = .ok (.astore 4, 2) := by decide +kernel
theorem dX11_board_45 : decode cX11_board 45 = .ok (.aload 4, 2) := by decide +kernel
theorem dX11_board_47 : decode cX11_board 47 = .ok (.getfield 232, 3) := by decide +kernel
theorem dX11_board_50 : decode cX11_board 50 = .ok (.ifCond .ne 5, 3) := by decide +kernel
theorem dX11_board_53 : decode cX11_board 53 = .ok (.iconst (-1), 1) := by decide +kernel
theorem dX11_board_54 : decode cX11_board 54 = .ok (.ireturn, 1) := by decide +kernel
theorem dX11_board_55 : decode cX11_board 55 = .ok (.iload_n 3, 1) := by decide +kernel
theorem dX11_board_56 : decode cX11_board 56 = .ok (.tableswitch 76 0 5 #[40, 46, 52, 58, 64, 70], 40) := by decide +kernel
theorem dX11_board_96 : decode cX11_board 96 = .ok (.aload 4, 2) := by decide +kernel
theorem dX11_board_98 : decode cX11_board 98 = .ok (.getfield 237, 3) := by decide +kernel
theorem dX11_board_101 : decode cX11_board 101 = .ok (.ireturn, 1) := by decide +kernel
theorem dX11_board_102 : decode cX11_board 102 = .ok (.aload 4, 2) := by decide +kernel
theorem dX11_board_104 : decode cX11_board 104 = .ok (.getfield 240, 3) := by decide +kernel
theorem dX11_board_107 : decode cX11_board 107 = .ok (.ireturn, 1) := by decide +kernel
theorem dX11_board_108 : decode cX11_board 108 = .ok (.aload 4, 2) := by decide +kernel
theorem dX11_board_110 : decode cX11_board 110 = .ok (.getfield 243, 3) := by decide +kernel
theorem dX11_board_113 : decode cX11_board 113 = .ok (.ireturn, 1) := by decide +kernel
theorem dX11_board_114 : decode cX11_board 114 = .ok (.aload 4, 2) := by decide +kernel
theorem dX11_board_116 : decode cX11_board 116 = .ok (.getfield 246, 3) := by decide +kernel
theorem dX11_board_119 : decode cX11_board 119 = .ok (.ireturn, 1) := by decide +kernel
theorem dX11_board_120 : decode cX11_board 120 = .ok (.aload 4, 2) := by decide +kernel
theorem dX11_board_122 : decode cX11_board 122 = .ok (.getfield 249, 3) := by decide +kernel
theorem dX11_board_125 : decode cX11_board 125 = .ok (.ireturn, 1) := by decide +kernel
theorem dX11_board_126 : decode cX11_board 126 = .ok (.aload 4, 2) := by decide +kernel
theorem dX11_board_128 : decode cX11_board 128 = .ok (.getfield 252, 3) := by decide +kernel
theorem dX11_board_131 : decode cX11_board 131 = .ok (.ireturn, 1) := by decide +kernel
theorem dX11_board_132 : decode cX11_board 132 = .ok (.aload 4, 2) := by decide +kernel
theorem dX11_board_134 : decode cX11_board 134 = .ok (.getfield 255, 3) := by decide +kernel
theorem dX11_board_137 : decode cX11_board 137 = .ok (.ireturn, 1) := by decide +kernel
theorem dX11_isBoard_0 : decode cX11_isBoard 0 = .ok (.iload_n 1, 1) := by decide +kernel
theorem dX11_isBoard_1 : decode cX11_isBoard 1 = .ok (.iconst 1, 1) := by decide +kernel
theorem dX11_isBoard_2 : decode cX11_isBoard 2 = .ok (.iconst 4, 1) := by decide +kernel
theorem dX11_isBoard_3 : decode cX11_isBoard 3 = .ok (.invokestatic 69, 3) := by decide +kernel
theorem dX11_isBoard_6 : decode cX11_isBoard 6 = .ok (.ifCond .eq 19, 3) := by decide +kernel
theorem dX11_isBoard_9 : decode cX11_isBoard 9 = .ok (.iload_n 0, 1) := by decide +kernel
theorem dX11_isBoard_10 : decode cX11_isBoard 10 = .ok (.iconst 0, 1) := by decide +kernel
theorem dX11_isBoard_11 : decode cX11_isBoard 11 = .ok (.bipush 12, 2) := by decide +kernel
theorem dX11_isBoard_13 : decode cX11_isBoard 13 = .ok (.iload_n 1, 1) := by decide +kernel
theorem dX11_isBoard_14 : decode cX11_isBoard 14 = .ok (.isub, 1) := by decide +kernel
theorem dX11_isBoard_15 : decode cX11_isBoard 15 = .ok (.invokestatic 69, 3) := by decide +kernel
theorem dX11_isBoard_18 : decode cX11_isBoard 18 = .ok (.ifCond .eq 7, 3) := by decide +kernel
theorem dX11_isBoard_21 : decode cX11_isBoard 21 = .ok (.iconst 1, 1) := by decide +kernel
theorem dX11_isBoard_22 : decode cX11_isBoard 22 = .ok (.goto 4, 3) := by decide +kernel
theorem dX11_isBoard_25 : decode cX11_isBoard 25 = .ok (.iconst 0, 1) := by decide +kernel
theorem dX11_isBoard_26 : decode cX11_isBoard 26 = .ok (.ireturn, 1) := by decide +kernel
theorem dX11_graded_0 : decode cX11_graded 0 = .ok (.aload_n 0, 1) := by decide +kernel
theorem dX11_graded_1 : decode cX11_graded 1 = .ok (.getfield 12, 3) := by decide +kernel
theorem dX11_graded_4 : decode cX11_graded 4 = .ok (.invokevirtual 98, 3) := by decide +kernel
theorem dX11_graded_7 : decode cX11_graded 7 = .ok (.ifCond .ne 6, 3) := by decide +kernel
theorem dX11_graded_10 : decode cX11_graded 10 = .ok (.bipush (-3), 2) := by decide +kernel
theorem dX11_graded_12 : decode cX11_graded 12 = .ok (.ireturn, 1) := by decide +kernel
theorem dX11_graded_13 : decode cX11_graded 13 = .ok (.iload_n 1, 1) := by decide +kernel
theorem dX11_graded_14 : decode cX11_graded 14 = .ok (.iload_n 2, 1) := by decide +kernel
theorem dX11_graded_15 : decode cX11_graded 15 = .ok (.invokestatic 225, 3) := by decide +kernel
theorem dX11_graded_18 : decode cX11_graded 18 = .ok (.ifCond .eq 14, 3) := by decide +kernel
theorem dX11_graded_21 : decode cX11_graded 21 = .ok (.iload 5, 2) := by decide +kernel
theorem dX11_graded_23 : decode cX11_graded 23 = .ok (.iconst 0, 1) := by decide +kernel
theorem dX11_graded_24 : decode cX11_graded 24 = .ok (.bipush 63, 2) := by decide +kernel
theorem dX11_graded_26 : decode cX11_graded 26 = .ok (.invokestatic 69, 3) := by decide +kernel
theorem dX11_graded_29 : decode cX11_graded 29 = .ok (.ifCond .ne 6, 3) := by decide +kernel
theorem dX11_graded_32 : decode cX11_graded 32 = .ok (.bipush (-2), 2) := by decide +kernel
theorem dX11_graded_34 : decode cX11_graded 34 = .ok (.ireturn, 1) := by decide +kernel
theorem dX11_graded_35 : decode cX11_graded 35 = .ok (.iload 5, 2) := by decide +kernel
theorem dX11_graded_37 : decode cX11_graded 37 = .ok (.bipush 8, 2) := by decide +kernel
theorem dX11_graded_39 : decode cX11_graded 39 = .ok (.idiv, 1) := by decide +kernel
theorem dX11_graded_40 : decode cX11_graded 40 = .ok (.istore 6, 2) := by decide +kernel
theorem dX11_graded_42 : decode cX11_graded 42 = .ok (.iload 5, 2) := by decide +kernel
theorem dX11_graded_44 : decode cX11_graded 44 = .ok (.bipush 8, 2) := by decide +kernel
theorem dX11_graded_46 : decode cX11_graded 46 = .ok (.irem, 1) := by decide +kernel
theorem dX11_graded_47 : decode cX11_graded 47 = .ok (.istore 7, 2) := by decide +kernel
theorem dX11_graded_49 : decode cX11_graded 49 = .ok (.iload 4, 2) := by decide +kernel
theorem dX11_graded_51 : decode cX11_graded 51 = .ok (.iconst 0, 1) := by decide +kernel
theorem dX11_graded_52 : decode cX11_graded 52 = .ok (.bipush 11, 2) := by decide +kernel
theorem dX11_graded_54 : decode cX11_graded 54 = .ok (.invokestatic 69, 3) := by decide +kernel
theorem dX11_graded_57 : decode cX11_graded 57 = .ok (.ifCond .eq 32, 3) := by decide +kernel
theorem dX11_graded_60 : decode cX11_graded 60 = .ok (.iload_n 3, 1) := by decide +kernel
theorem dX11_graded_61 : decode cX11_graded 61 = .ok (.iconst 0, 1) := by decide +kernel
theorem dX11_graded_62 : decode cX11_graded 62 = .ok (.iload 4, 2) := by decide +kernel
theorem dX11_graded_64 : decode cX11_graded 64 = .ok (.invokestatic 69, 3) := by decide +kernel
theorem dX11_graded_67 : decode cX11_graded 67 = .ok (.ifCond .eq 22, 3) := by decide +kernel
theorem dX11_graded_70 : decode cX11_graded 70 = .ok (.iload 7, 2) := by decide +kernel
theorem dX11_graded_72 : decode cX11_graded 72 = .ok (.aload_n 0, 1) := by decide +kernel
theorem dX11_graded_73 : decode cX11_graded 73 = .ok (.getfield 12, 3) := by decide +kernel
theorem dX11_graded_76 : decode cX11_graded 76 = .ok (.getfield 84, 3) := by decide +kernel
theorem dX11_graded_79 : decode cX11_graded 79 = .ok (.if_icmp .ge 10, 3) := by decide +kernel
theorem dX11_graded_82 : decode cX11_graded 82 = .ok (.iload 6, 2) := by decide +kernel
theorem dX11_graded_84 : decode cX11_graded 84 = .ok (.iload 7, 2) := by decide +kernel
theorem dX11_graded_86 : decode cX11_graded 86 = .ok (.if_icmp .le 6, 3) := by decide +kernel
theorem dX11_graded_89 : decode cX11_graded 89 = .ok (.bipush (-2), 2) := by decide +kernel
theorem dX11_graded_91 : decode cX11_graded 91 = .ok (.ireturn, 1) := by decide +kernel
theorem dX11_graded_92 : decode cX11_graded 92 = .ok (.aload_n 0, 1) := by decide +kernel
theorem dX11_graded_93 : decode cX11_graded 93 = .ok (.invokevirtual 208, 3) := by decide +kernel
theorem dX11_graded_96 : decode cX11_graded 96 = .ok (.astore 8, 2) := by decide +kernel
theorem dX11_graded_98 : decode cX11_graded 98 = .ok (.aload 8, 2) := by decide +kernel
theorem dX11_graded_100 : decode cX11_graded 100 = .ok (.iload_n 1, 1) := by decide +kernel
theorem dX11_graded_101 : decode cX11_graded 101 = .ok (.iload_n 2, 1) := by decide +kernel
theorem dX11_graded_102 : decode cX11_graded 102 = .ok (.iload_n 3, 1) := by decide +kernel
theorem dX11_graded_103 : decode cX11_graded 103 = .ok (.iload 4, 2) := by decide +kernel
theorem dX11_graded_105 : decode cX11_graded 105 = .ok (.iload 7, 2) := by decide +kernel
theorem dX11_graded_107 : decode cX11_graded 107 = .ok (.invokevirtual 258, 3) := by decide +kernel
theorem dX11_graded_110 : decode cX11_graded 110 = .ok (.ifCond .eq 20, 3) := by decide +kernel
theorem dX11_graded_113 : decode cX11_graded 113 = .ok (.aload 8, 2) := by decide +kernel
theorem dX11_graded_115 : decode cX11_graded 115 = .ok (.iload_n 1, 1) := by decide +kernel
theorem dX11_graded_116 : decode cX11_graded 116 = .ok (.iload_n 2, 1) := by decide +kernel
theorem dX11_graded_117 : decode cX11_graded 117 = .ok (.iload_n 3, 1) := by decide +kernel
theorem dX11_graded_118 : decode cX11_graded 118 = .ok (.iload 4, 2) := by decide +kernel
theorem dX11_graded_120 : decode cX11_graded 120 = .ok (.iload 6, 2) := by decide +kernel
theorem dX11_graded_122 : decode cX11_graded 122 = .ok (.iload 7, 2) := by decide +kernel
theorem dX11_graded_124 : decode cX11_graded 124 = .ok (.invokevirtual 262, 3) := by decide +kernel
theorem dX11_graded_127 : decode cX11_graded 127 = .ok (.goto 4, 3) := by decide +kernel
theorem dX11_graded_130 : decode cX11_graded 130 = .ok (.iconst (-1), 1) := by decide +kernel
theorem dX11_graded_131 : decode cX11_graded 131 = .ok (.ireturn, 1) := by decide +kernel
theorem dX11_worth_0 : decode cX11_worth 0 = .ok (.aload_n 0, 1) := by decide +kernel
theorem dX11_worth_1 : decode cX11_worth 1 = .ok (.getfield 12, 3) := by decide +kernel
theorem dX11_worth_4 : decode cX11_worth 4 = .ok (.invokevirtual 98, 3) := by decide +kernel
theorem dX11_worth_7 : decode cX11_worth 7 = .ok (.ifCond .eq 11, 3) := by decide +kernel
theorem dX11_worth_10 : decode cX11_worth 10 = .ok (.iload_n 1, 1) := by decide +kernel
theorem dX11_worth_11 : decode cX11_worth 11 = .ok (.iload_n 2, 1) := by decide +kernel
theorem dX11_worth_12 : decode cX11_worth 12 = .ok (.invokestatic 225, 3) := by decide +kernel
theorem dX11_worth_15 : decode cX11_worth 15 = .ok (.ifCond .ne 7, 3) := by decide +kernel
theorem dX11_worth_18 : decode cX11_worth 18 = .ok (.ldc2_w 266, 3) := by decide +kernel
theorem dX11_worth_21 : decode cX11_worth 21 = .ok (.lreturn, 1) := by decide +kernel
theorem dX11_worth_22 : decode cX11_worth 22 = .ok (.aload_n 0, 1) := by decide +kernel
theorem dX11_worth_23 : decode cX11_worth 23 = .ok (.invokevirtual 208, 3) := by decide +kernel
theorem dX11_worth_26 : decode cX11_worth 26 = .ok (.iload_n 1, 1) := by decide +kernel
theorem dX11_worth_27 : decode cX11_worth 27 = .ok (.iload_n 2, 1) := by decide +kernel
theorem dX11_worth_28 : decode cX11_worth 28 = .ok (.invokevirtual 228, 3) := by decide +kernel
theorem dX11_worth_31 : decode cX11_worth 31 = .ok (.getfield 232, 3) := by decide +kernel
theorem dX11_worth_34 : decode cX11_worth 34 = .ok (.i2l, 1) := by decide +kernel
theorem dX11_worth_35 : decode cX11_worth 35 = .ok (.lreturn, 1) := by decide +kernel
theorem dX11_opening_0 : decode cX11_opening 0 = .ok (.aload_n 0, 1) := by decide +kernel
theorem dX11_opening_1 : decode cX11_opening 1 = .ok (.getfield 12, 3) := by decide +kernel
theorem dX11_opening_4 : decode cX11_opening 4 = .ok (.invokevirtual 98, 3) := by decide +kernel
theorem dX11_opening_7 : decode cX11_opening 7 = .ok (.ifCond .ne 6, 3) := by decide +kernel
theorem dX11_opening_10 : decode cX11_opening 10 = .ok (.bipush (-3), 2) := by decide +kernel
theorem dX11_opening_12 : decode cX11_opening 12 = .ok (.ireturn, 1) := by decide +kernel
theorem dX11_opening_13 : decode cX11_opening 13 = .ok (.iload_n 2, 1) := by decide +kernel
theorem dX11_opening_14 : decode cX11_opening 14 = .ok (.iconst 0, 1) := by decide +kernel
theorem dX11_opening_15 : decode cX11_opening 15 = .ok (.iconst 2, 1) := by decide +kernel
theorem dX11_opening_16 : decode cX11_opening 16 = .ok (.invokestatic 69, 3) := by decide +kernel
theorem dX11_opening_19 : decode cX11_opening 19 = .ok (.ifCond .ne 6, 3) := by decide +kernel
theorem dX11_opening_22 : decode cX11_opening 22 = .ok (.bipush (-2), 2) := by decide +kernel
theorem dX11_opening_24 : decode cX11_opening 24 = .ok (.ireturn, 1) := by decide +kernel
theorem dX11_opening_25 : decode cX11_opening 25 = .ok (.aload_n 0, 1) := by decide +kernel
theorem dX11_opening_26 : decode cX11_opening 26 = .ok (.invokevirtual 268, 3) := by decide +kernel
theorem dX11_opening_29 : decode cX11_opening 29 = .ok (.astore_n 3, 1) := by decide +kernel
theorem dX11_opening_30 : decode cX11_opening 30 = .ok (.iload_n 1, 1) := by decide +kernel
theorem dX11_opening_31 : decode cX11_opening 31 = .ok (.iconst (-1), 1) := by decide +kernel
theorem dX11_opening_32 : decode cX11_opening 32 = .ok (.if_icmp .ne 8, 3) := by decide +kernel
theorem dX11_opening_35 : decode cX11_opening 35 = .ok (.aload_n 3, 1) := by decide +kernel
theorem dX11_opening_36 : decode cX11_opening 36 = .ok (.getfield 271, 3) := by decide +kernel
theorem dX11_opening_39 : decode cX11_opening 39 = .ok (.ireturn, 1) := by decide +kernel
theorem dX11_opening_40 : decode cX11_opening 40 = .ok (.iload_n 1, 1) := by decide +kernel
theorem dX11_opening_41 : decode cX11_opening 41 = .ok (.iconst 0, 1) := by decide +kernel
theorem dX11_opening_42 : decode cX11_opening 42 = .ok (.aload_n 3, 1) := by decide +kernel
theorem dX11_opening_43 : decode cX11_opening 43 = .ok (.getfield 271, 3) := by decide +kernel
theorem dX11_opening_46 : decode cX11_opening 46 = .ok (.iconst 1, 1) := by decide +kernel
theorem dX11_opening_47 : decode cX11_opening 47 = .ok (.isub, 1) := by decide +kernel
theorem dX11_opening_48 : decode cX11_opening 48 = .ok (.invokestatic 69, 3) := by decide +kernel
theorem dX11_opening_51 : decode cX11_opening 51 = .ok (.ifCond .ne 6, 3) := by decide +kernel
theorem dX11_opening_54 : decode cX11_opening 54 = .ok (.bipush (-12), 2) := by decide +kernel
theorem dX11_opening_56 : decode cX11_opening 56 = .ok (.ireturn, 1) := by decide +kernel
theorem dX11_opening_57 : decode cX11_opening 57 = .ok (.iload_n 2, 1) := by decide +kernel
theorem dX11_opening_58 : decode cX11_opening 58 = .ok (.lookupswitch 38 #[(0, 26), (1, 32)], 26) := by decide +kernel
theorem dX11_opening_84 : decode cX11_opening 84 = .ok (.aload_n 3, 1) := by decide +kernel
theorem dX11_opening_85 : decode cX11_opening 85 = .ok (.iload_n 1, 1) := by decide +kernel
theorem dX11_opening_86 : decode cX11_opening 86 = .ok (.invokevirtual 274, 3) := by decide +kernel
theorem dX11_opening_89 : decode cX11_opening 89 = .ok (.ireturn, 1) := by decide +kernel
theorem dX11_opening_90 : decode cX11_opening 90 = .ok (.aload_n 3, 1) := by decide +kernel
theorem dX11_opening_91 : decode cX11_opening 91 = .ok (.iload_n 1, 1) := by decide +kernel
theorem dX11_opening_92 : decode cX11_opening 92 = .ok (.invokevirtual 277, 3) := by decide +kernel
theorem dX11_opening_95 : decode cX11_opening 95 = .ok (.ireturn, 1) := by decide +kernel
theorem dX11_opening_96 : decode cX11_opening 96 = .ok (.aload_n 3, 1) := by decide +kernel
theorem dX11_opening_97 : decode cX11_opening 97 = .ok (.iload_n 1, 1) := by decide +kernel
theorem dX11_opening_98 : decode cX11_opening 98 = .ok (.invokevirtual 280, 3) := by decide +kernel
theorem dX11_opening_101 : decode cX11_opening 101 = .ok (.ireturn, 1) := by decide +kernel
theorem dX11_best_0 : decode cX11_best 0 = .ok (.aload_n 0, 1) := by decide +kernel
theorem dX11_best_1 : decode cX11_best 1 = .ok (.getfield 12, 3) := by decide +kernel
theorem dX11_best_4 : decode cX11_best 4 = .ok (.invokevirtual 98, 3) := by decide +kernel
theorem dX11_best_7 : decode cX11_best 7 = .ok (.ifCond .eq 12, 3) := by decide +kernel
theorem dX11_best_10 : decode cX11_best 10 = .ok (.iload_n 1, 1) := by decide +kernel
theorem dX11_best_11 : decode cX11_best 11 = .ok (.iconst (-1), 1) := by decide +kernel
theorem dX11_best_12 : decode cX11_best 12 = .ok (.iconst 3, 1) := by decide +kernel
theorem dX11_best_13 : decode cX11_best 13 = .ok (.invokestatic 69, 3) := by decide +kernel
theorem dX11_best_16 : decode cX11_best 16 = .ok (.ifCond .ne 7, 3) := by decide +kernel
theorem dX11_best_19 : decode cX11_best 19 = .ok (.ldc2_w 266, 3) := by decide +kernel
theorem dX11_best_22 : decode cX11_best 22 = .ok (.lreturn, 1) := by decide +kernel
theorem dX11_best_23 : decode cX11_best 23 = .ok (.iload_n 1, 1) := by decide +kernel
theorem dX11_best_24 : decode cX11_best 24 = .ok (.iconst (-1), 1) := by decide +kernel
theorem dX11_best_25 : decode cX11_best 25 = .ok (.if_icmp .ne 16, 3) := by decide +kernel
theorem dX11_best_28 : decode cX11_best 28 = .ok (.aload_n 0, 1) := by decide +kernel
theorem dX11_best_29 : decode cX11_best 29 = .ok (.getfield 60, 3) := by decide +kernel
theorem dX11_best_32 : decode cX11_best 32 = .ok (.aload_n 0, 1) := by decide +kernel
theorem dX11_best_33 : decode cX11_best 33 = .ok (.invokevirtual 283, 3) := by decide +kernel
theorem dX11_best_36 : decode cX11_best 36 = .ok (.iaload, 1) := by decide +kernel
theorem dX11_best_37 : decode cX11_best 37 = .ok (.i2l, 1) := by decide +kernel
theorem dX11_best_38 : decode cX11_best 38 = .ok (.goto 9, 3) := by decide +kernel
theorem dX11_best_41 : decode cX11_best 41 = .ok (.aload_n 0, 1) := by decide +kernel
theorem dX11_best_42 : decode cX11_best 42 = .ok (.iload_n 1, 1) := by decide +kernel
theorem dX11_best_43 : decode cX11_best 43 = .ok (.invokevirtual 286, 3) := by decide +kernel
theorem dX11_best_46 : decode cX11_best 46 = .ok (.i2l, 1) := by decide +kernel
theorem dX11_best_47 : decode cX11_best 47 = .ok (.lreturn, 1) := by decide +kernel
theorem dX11_bestTurn_0 : decode cX11_bestTurn 0 = .ok (.aload_n 0, 1) := by decide +kernel
theorem dX11_bestTurn_1 : decode cX11_bestTurn 1 = .ok (.getfield 12, 3) := by decide +kernel
theorem dX11_bestTurn_4 : decode cX11_bestTurn 4 = .ok (.invokevirtual 98, 3) := by decide +kernel
theorem dX11_bestTurn_7 : decode cX11_bestTurn 7 = .ok (.ifCond .eq 10, 3) := by decide +kernel
theorem dX11_bestTurn_10 : decode cX11_bestTurn 10 = .ok (.aload_n 0, 1) := by decide +kernel
theorem dX11_bestTurn_11 : decode cX11_bestTurn 11 = .ok (.invokevirtual 283, 3) := by decide +kernel
theorem dX11_bestTurn_14 : decode cX11_bestTurn 14 = .ok (.goto 5, 3) := by decide +kernel
theorem dX11_bestTurn_17 : decode cX11_bestTurn 17 = .ok (.bipush (-3), 2) := by decide +kernel
theorem dX11_bestTurn_19 : decode cX11_bestTurn 19 = .ok (.ireturn, 1) := by decide +kernel
theorem dX11_turnOfMost_0 : decode cX11_turnOfMost 0 = .ok (.iconst 0, 1) := by decide +kernel
theorem dX11_turnOfMost_1 : decode cX11_turnOfMost 1 = .ok (.istore_n 1, 1) := by decide +kernel
theorem dX11_turnOfMost_2 : decode cX11_turnOfMost 2 = .ok (.iconst 0, 1) := by decide +kernel
theorem dX11_turnOfMost_3 : decode cX11_turnOfMost 3 = .ok (.istore_n 2, 1) := by decide +kernel
theorem dX11_turnOfMost_4 : decode cX11_turnOfMost 4 = .ok (.iload_n 2, 1) := by decide +kernel
theorem dX11_turnOfMost_5 : decode cX11_turnOfMost 5 = .ok (.iconst 4, 1) := by decide +kernel
theorem dX11_turnOfMost_6 : decode cX11_turnOfMost 6 = .ok (.if_icmp .ge 37, 3) := by decide +kernel
theorem dX11_turnOfMost_9 : decode cX11_turnOfMost 9 = .ok (.aload_n 0, 1) := by decide +kernel
theorem dX11_turnOfMost_10 : decode cX11_turnOfMost 10 = .ok (.getfield 60, 3) := by decide +kernel
theorem dX11_turnOfMost_13 : decode cX11_turnOfMost 13 = .ok (.iload_n 2, 1) := by decide +kernel
theorem dX11_turnOfMost_14 : decode cX11_turnOfMost 14 = .ok (.aload_n 0, 1) := by decide +kernel
theorem dX11_turnOfMost_15 : decode cX11_turnOfMost 15 = .ok (.iload_n 2, 1) := by decide +kernel
theorem dX11_turnOfMost_16 : decode cX11_turnOfMost 16 = .ok (.invokevirtual 286, 3) := by decide +kernel
theorem dX11_turnOfMost_19 : decode cX11_turnOfMost 19 = .ok (.iastore, 1) := by decide +kernel
theorem dX11_turnOfMost_20 : decode cX11_turnOfMost 20 = .ok (.aload_n 0, 1) := by decide +kernel
theorem dX11_turnOfMost_21 : decode cX11_turnOfMost 21 = .ok (.getfield 60, 3) := by decide +kernel
theorem dX11_turnOfMost_24 : decode cX11_turnOfMost 24 = .ok (.iload_n 2, 1) := by decide +kernel
theorem dX11_turnOfMost_25 : decode cX11_turnOfMost 25 = .ok (.iaload, 1) := by decide +kernel
theorem dX11_turnOfMost_26 : decode cX11_turnOfMost 26 = .ok (.aload_n 0, 1) := by decide +kernel
theorem dX11_turnOfMost_27 : decode cX11_turnOfMost 27 = .ok (.getfield 60, 3) := by decide +kernel
theorem dX11_turnOfMost_30 : decode cX11_turnOfMost 30 = .ok (.iload_n 1, 1) := by decide +kernel
theorem dX11_turnOfMost_31 : decode cX11_turnOfMost 31 = .ok (.iaload, 1) := by decide +kernel
theorem dX11_turnOfMost_32 : decode cX11_turnOfMost 32 = .ok (.if_icmp .le 5, 3) := by decide +kernel
theorem dX11_turnOfMost_35 : decode cX11_turnOfMost 35 = .ok (.iload_n 2, 1) := by decide +kernel
theorem dX11_turnOfMost_36 : decode cX11_turnOfMost 36 = .ok (.istore_n 1, 1) := by decide +kernel
theorem dX11_turnOfMost_37 : decode cX11_turnOfMost 37 = .ok (.iinc 2 1, 3) := by decide +kernel
theorem dX11_turnOfMost_40 : decode cX11_turnOfMost 40 = .ok (.goto (-36), 3) := by decide +kernel
theorem dX11_turnOfMost_43 : decode cX11_turnOfMost 43 = .ok (.iload_n 1, 1) := by decide +kernel
theorem dX11_turnOfMost_44 : decode cX11_turnOfMost 44 = .ok (.ireturn, 1) := by decide +kernel
theorem dX11_openByTurn_0 : decode cX11_openByTurn 0 = .ok (.aload_n 0, 1) := by decide +kernel
theorem dX11_openByTurn_1 : decode cX11_openByTurn 1 = .ok (.getfield 30, 3) := by decide +kernel
theorem dX11_openByTurn_4 : decode cX11_openByTurn 4 = .ok (.aload_n 0, 1) := by decide +kernel
theorem dX11_openByTurn_5 : decode cX11_openByTurn 5 = .ok (.getfield 12, 3) := by decide +kernel
theorem dX11_openByTurn_8 : decode cX11_openByTurn 8 = .ok (.iload_n 1, 1) := by decide +kernel
theorem dX11_openByTurn_9 : decode cX11_openByTurn 9 = .ok (.aload_n 0, 1) := by decide +kernel
theorem dX11_openByTurn_10 : decode cX11_openByTurn 10 = .ok (.getfield 12, 3) := by decide +kernel
theorem dX11_openByTurn_13 : decode cX11_openByTurn 13 = .ok (.getfield 289, 3) := by decide +kernel
theorem dX11_openByTurn_16 : decode cX11_openByTurn 16 = .ok (.aload_n 0, 1) := by decide +kernel
theorem dX11_openByTurn_17 : decode cX11_openByTurn 17 = .ok (.getfield 12, 3) := by decide +kernel
theorem dX11_openByTurn_20 : decode cX11_openByTurn 20 = .ok (.getfield 106, 3) := by decide +kernel
theorem dX11_openByTurn_23 : decode cX11_openByTurn 23 = .ok (.invokevirtual 292, 3) := by decide +kernel
theorem dX11_openByTurn_26 : decode cX11_openByTurn 26 = .ok (.aload_n 0, 1) := by decide +kernel
theorem dX11_openByTurn_27 : decode cX11_openByTurn 27 = .ok (.getfield 30, 3) := by decide +kernel
theorem dX11_openByTurn_30 : decode cX11_openByTurn 30 = .ok (.aload_n 0, 1) := by decide +kernel
theorem dX11_openByTurn_31 : decode cX11_openByTurn 31 = .ok (.getfield 12, 3) := by decide +kernel
theorem dX11_openByTurn_34 : decode cX11_openByTurn 34 = .ok (.getfield 205, 3) := by decide +kernel
theorem dX11_openByTurn_37 : decode cX11_openByTurn 37 = .ok (.iconst 0, 1) := by decide +kernel
theorem dX11_openByTurn_38 : decode cX11_openByTurn 38 = .ok (.iaload, 1) := by decide +kernel
theorem dX11_openByTurn_39 : decode cX11_openByTurn 39 = .ok (.invokevirtual 295, 3) := by decide +kernel
theorem dX11_openByTurn_42 : decode cX11_openByTurn 42 = .ok (.ireturn, 1) := by decide +kernel
theorem dX11_asItLies_0 : decode cX11_asItLies 0 = .ok (.aload_n 0, 1) := by decide +kernel
theorem dX11_asItLies_1 : decode cX11_asItLies 1 = .ok (.getfield 26, 3) := by decide +kernel
theorem dX11_asItLies_4 : decode cX11_asItLies 4 = .ok (.getfield 77, 3) := by decide +kernel
theorem dX11_asItLies_7 : decode cX11_asItLies 7 = .ok (.ifCond .ne 35, 3) := by decide +kernel
theorem dX11_asItLies_10 : decode cX11_asItLies 10 = .ok (.aload_n 0, 1) := by decide +kernel
theorem dX11_asItLies_11 : decode cX11_asItLies 11 = .ok (.getfield 26, 3) := by decide +kernel
theorem dX11_asItLies_14 : decode cX11_asItLies 14 = .ok (.aload_n 0, 1) := by decide +kernel
theorem dX11_asItLies_15 : decode cX11_asItLies 15 = .ok (.getfield 12, 3) := by decide +kernel
theorem dX11_asItLies_18 : decode cX11_asItLies 18 = .ok (.aload_n 0, 1) := by decide +kernel
theorem dX11_asItLies_19 : decode cX11_asItLies 19 = .ok (.getfield 12, 3) := by decide +kernel
theorem dX11_asItLies_22 : decode cX11_asItLies 22 = .ok (.getfield 199, 3) := by decide +kernel
theorem dX11_asItLies_25 : decode cX11_asItLies 25 = .ok (.aload_n 0, 1) := by decide +kernel
theorem dX11_asItLies_26 : decode cX11_asItLies 26 = .ok (.getfield 12, 3) := by decide +kernel
theorem dX11_asItLies_29 : decode cX11_asItLies 29 = .ok (.getfield 289, 3) := by decide +kernel
theorem dX11_asItLies_32 : decode cX11_asItLies 32 = .ok (.aload_n 0, 1) := by decide +kernel
theorem dX11_asItLies_33 : decode cX11_asItLies 33 = .ok (.getfield 12, 3) := by decide +kernel
theorem dX11_asItLies_36 : decode cX11_asItLies 36 = .ok (.getfield 106, 3) := by decide +kernel
theorem dX11_asItLies_39 : decode cX11_asItLies 39 = .ok (.invokevirtual 292, 3) := by decide +kernel
theorem dX11_asItLies_42 : decode cX11_asItLies 42 = .ok (.aload_n 0, 1) := by decide +kernel
theorem dX11_asItLies_43 : decode cX11_asItLies 43 = .ok (.getfield 26, 3) := by decide +kernel
theorem dX11_asItLies_46 : decode cX11_asItLies 46 = .ok (.areturn, 1) := by decide +kernel
theorem dX11_openedAsItLies_0 : decode cX11_openedAsItLies 0 = .ok (.aload_n 0, 1) := by decide +kernel
theorem dX11_openedAsItLies_1 : decode cX11_openedAsItLies 1 = .ok (.invokevirtual 208, 3) := by decide +kernel
theorem dX11_openedAsItLies_4 : decode cX11_openedAsItLies 4 = .ok (.astore_n 1, 1) := by decide +kernel
theorem dX11_openedAsItLies_5 : decode cX11_openedAsItLies 5 = .ok (.aload_n 1, 1) := by decide +kernel
theorem dX11_openedAsItLies_6 : decode cX11_openedAsItLies 6 = .ok (.getfield 298, 3) := by decide +kernel
theorem dX11_openedAsItLies_9 : decode cX11_openedAsItLies 9 = .ok (.ifCond .ne 17, 3) := by decide +kernel
theorem dX11_openedAsItLies_12 : decode cX11_openedAsItLies 12 = .ok (.aload_n 1, 1) := by decide +kernel
theorem dX11_openedAsItLies_13 : decode cX11_openedAsItLies 13 = .ok (.aload_n 0, 1) := by decide +kernel
theorem dX11_openedAsItLies_14 : decode cX11_openedAsItLies 14 = .ok (.getfield 12, 3) := by decide +kernel
theorem dX11_openedAsItLies_17 : decode cX11_openedAsItLies 17 = .ok (.getfield 205, 3) := by decide +kernel
theorem dX11_openedAsItLies_20 : decode cX11_openedAsItLies 20 = .ok (.iconst 0, 1) := by decide +kernel
theorem dX11_openedAsItLies_21 : decode cX11_openedAsItLies 21 = .ok (.iaload, 1) := by decide +kernel
theorem dX11_openedAsItLies_22 : decode cX11_openedAsItLies 22 = .ok (.invokevirtual 295, 3) := by decide +kernel
theorem dX11_openedAsItLies_25 : decode cX11_openedAsItLies 25 = .ok (.pop, 1) := by decide +kernel
theorem dX11_openedAsItLies_26 : decode cX11_openedAsItLies 26 = .ok (.aload_n 1, 1) := by decide +kernel
theorem dX11_openedAsItLies_27 : decode cX11_openedAsItLies 27 = .ok (.areturn, 1) := by decide +kernel
theorem dX11_saw_0 : decode cX11_saw 0 = .ok (.aload_n 0, 1) := by decide +kernel
theorem dX11_saw_1 : decode cX11_saw 1 = .ok (.getfield 12, 3) := by decide +kernel
theorem dX11_saw_4 : decode cX11_saw 4 = .ok (.invokevirtual 98, 3) := by decide +kernel
theorem dX11_saw_7 : decode cX11_saw 7 = .ok (.ifCond .ne 6, 3) := by decide +kernel
theorem dX11_saw_10 : decode cX11_saw 10 = .ok (.bipush (-3), 2) := by decide +kernel
theorem dX11_saw_12 : decode cX11_saw 12 = .ok (.ireturn, 1) := by decide +kernel
theorem dX11_saw_13 : decode cX11_saw 13 = .ok (.aload_n 0, 1) := by decide +kernel
theorem dX11_saw_14 : decode cX11_saw 14 = .ok (.invokevirtual 268, 3) := by decide +kernel
theorem dX11_saw_17 : decode cX11_saw 17 = .ok (.astore_n 1, 1) := by decide +kernel
theorem dX11_saw_18 : decode cX11_saw 18 = .ok (.aload_n 0, 1) := by decide +kernel
theorem dX11_saw_19 : decode cX11_saw 19 = .ok (.getfield 12, 3) := by decide +kernel
theorem dX11_saw_22 : decode cX11_saw 22 = .ok (.getfield 301, 3) := by decide +kernel
theorem dX11_saw_25 : decode cX11_saw 25 = .ok (.aload_n 1, 1) := by decide +kernel
theorem dX11_saw_26 : decode cX11_saw 26 = .ok (.getfield 271, 3) := by decide +kernel
theorem dX11_saw_29 : decode cX11_saw 29 = .ok (.iadd, 1) := by decide +kernel
theorem dX11_saw_30 : decode cX11_saw 30 = .ok (.bipush 16, 2) := by decide +kernel
theorem dX11_saw_32 : decode cX11_saw 32 = .ok (.if_icmp .le 6, 3) := by decide +kernel
theorem dX11_saw_35 : decode cX11_saw 35 = .ok (.bipush (-4), 2) := by decide +kernel
theorem dX11_saw_37 : decode cX11_saw 37 = .ok (.ireturn, 1) := by decide +kernel
theorem dX11_saw_38 : decode cX11_saw 38 = .ok (.iconst 0, 1) := by decide +kernel
theorem dX11_saw_39 : decode cX11_saw 39 = .ok (.istore_n 2, 1) := by decide +kernel
theorem dX11_saw_40 : decode cX11_saw 40 = .ok (.iload_n 2, 1) := by decide +kernel
theorem dX11_saw_41 : decode cX11_saw 41 = .ok (.aload_n 1, 1) := by decide +kernel
theorem dX11_saw_42 : decode cX11_saw 42 = .ok (.getfield 271, 3) := by decide +kernel
theorem dX11_saw_45 : decode cX11_saw 45 = .ok (.if_icmp .ge 53, 3) := by decide +kernel
theorem dX11_saw_48 : decode cX11_saw 48 = .ok (.aload_n 1, 1) := by decide +kernel
theorem dX11_saw_49 : decode cX11_saw 49 = .ok (.iload_n 2, 1) := by decide +kernel
theorem dX11_saw_50 : decode cX11_saw 50 = .ok (.invokevirtual 302, 3) := by decide +kernel
theorem dX11_saw_53 : decode cX11_saw 53 = .ok (.astore_n 3, 1) := by decide +kernel
theorem dX11_saw_54 : decode cX11_saw 54 = .ok (.aload_n 0, 1) := by decide +kernel
theorem dX11_saw_55 : decode cX11_saw 55 = .ok (.getfield 12, 3) := by decide +kernel
theorem dX11_saw_58 : decode cX11_saw 58 = .ok (.aload_n 1, 1) := by decide +kernel
theorem dX11_saw_59 : decode cX11_saw 59 = .ok (.iload_n 2, 1) := by decide +kernel
theorem dX11_saw_60 : decode cX11_saw 60 = .ok (.invokevirtual 277, 3) := by decide +kernel
theorem dX11_saw_63 : decode cX11_saw 63 = .ok (.aload_n 3, 1) := by decide +kernel
theorem dX11_saw_64 : decode cX11_saw 64 = .ok (.getfield 240, 3) := by decide +kernel
theorem dX11_saw_67 : decode cX11_saw 67 = .ok (.aload_n 3, 1) := by decide +kernel
theorem dX11_saw_68 : decode cX11_saw 68 = .ok (.getfield 237, 3) := by decide +kernel
theorem dX11_saw_71 : decode cX11_saw 71 = .ok (.isub, 1) := by decide +kernel
theorem dX11_saw_72 : decode cX11_saw 72 = .ok (.iconst 1, 1) := by decide +kernel
theorem dX11_saw_73 : decode cX11_saw 73 = .ok (.iadd, 1) := by decide +kernel
theorem dX11_saw_74 : decode cX11_saw 74 = .ok (.aload_n 3, 1) := by decide +kernel
theorem dX11_saw_75 : decode cX11_saw 75 = .ok (.getfield 246, 3) := by decide +kernel
theorem dX11_saw_78 : decode cX11_saw 78 = .ok (.aload_n 3, 1) := by decide +kernel
theorem dX11_saw_79 : decode cX11_saw 79 = .ok (.getfield 243, 3) := by decide +kernel
theorem dX11_saw_82 : decode cX11_saw 82 = .ok (.isub, 1) := by decide +kernel
theorem dX11_saw_83 : decode cX11_saw 83 = .ok (.iconst 1, 1) := by decide +kernel
theorem dX11_saw_84 : decode cX11_saw 84 = .ok (.iadd, 1) := by decide +kernel
theorem dX11_saw_85 : decode cX11_saw 85 = .ok (.aload_n 3, 1) := by decide +kernel
theorem dX11_saw_86 : decode cX11_saw 86 = .ok (.getfield 249, 3) := by decide +kernel
theorem dX11_saw_89 : decode cX11_saw 89 = .ok (.invokevirtual 306, 3) := by decide +kernel
theorem dX11_saw_92 : decode cX11_saw 92 = .ok (.iinc 2 1, 3) := by decide +kernel
theorem dX11_saw_95 : decode cX11_saw 95 = .ok (.goto (-55), 3) := by decide +kernel
theorem dX11_saw_98 : decode cX11_saw 98 = .ok (.aload_n 0, 1) := by decide +kernel
theorem dX11_saw_99 : decode cX11_saw 99 = .ok (.getfield 12, 3) := by decide +kernel
theorem dX11_saw_102 : decode cX11_saw 102 = .ok (.iconst 0, 1) := by decide +kernel
theorem dX11_saw_103 : decode cX11_saw 103 = .ok (.iconst 0, 1) := by decide +kernel
theorem dX11_saw_104 : decode cX11_saw 104 = .ok (.iconst 0, 1) := by decide +kernel
theorem dX11_saw_105 : decode cX11_saw 105 = .ok (.invokevirtual 73, 3) := by decide +kernel
theorem dX11_saw_108 : decode cX11_saw 108 = .ok (.aload_n 0, 1) := by decide +kernel
theorem dX11_saw_109 : decode cX11_saw 109 = .ok (.getfield 26, 3) := by decide +kernel
theorem dX11_saw_112 : decode cX11_saw 112 = .ok (.iconst 0, 1) := by decide +kernel
theorem dX11_saw_113 : decode cX11_saw 113 = .ok (.putfield 77, 3) := by decide +kernel
theorem dX11_saw_116 : decode cX11_saw 116 = .ok (.aload_n 1, 1) := by decide +kernel
theorem dX11_saw_117 : decode cX11_saw 117 = .ok (.getfield 271, 3) := by decide +kernel
theorem dX11_saw_120 : decode cX11_saw 120 = .ok (.ireturn, 1) := by decide +kernel
theorem dX11_stack_0 : decode cX11_stack 0 = .ok (.iload_n 2, 1) := by decide +kernel
theorem dX11_stack_1 : decode cX11_stack 1 = .ok (.iconst 0, 1) := by decide +kernel
theorem dX11_stack_2 : decode cX11_stack 2 = .ok (.iconst 3, 1) := by decide +kernel
theorem dX11_stack_3 : decode cX11_stack 3 = .ok (.invokestatic 69, 3) := by decide +kernel
theorem dX11_stack_6 : decode cX11_stack 6 = .ok (.ifCond .ne 6, 3) := by decide +kernel
theorem dX11_stack_9 : decode cX11_stack 9 = .ok (.bipush (-2), 2) := by decide +kernel
theorem dX11_stack_11 : decode cX11_stack 11 = .ok (.ireturn, 1) := by decide +kernel
theorem dX11_stack_12 : decode cX11_stack 12 = .ok (.iload_n 1, 1) := by decide +kernel
theorem dX11_stack_13 : decode cX11_stack 13 = .ok (.iconst (-1), 1) := by decide +kernel
theorem dX11_stack_14 : decode cX11_stack 14 = .ok (.if_icmp .ne 11, 3) := by decide +kernel
theorem dX11_stack_17 : decode cX11_stack 17 = .ok (.aload_n 0, 1) := by decide +kernel
theorem dX11_stack_18 : decode cX11_stack 18 = .ok (.getfield 12, 3) := by decide +kernel
theorem dX11_stack_21 : decode cX11_stack 21 = .ok (.getfield 301, 3) := by decide +kernel
theorem dX11_stack_24 : decode cX11_stack 24 = .ok (.ireturn, 1) := by decide +kernel
theorem dX11_stack_25 : decode cX11_stack 25 = .ok (.iload_n 1, 1) := by decide +kernel
theorem dX11_stack_26 : decode cX11_stack 26 = .ok (.iconst 0, 1) := by decide +kernel
theorem dX11_stack_27 : decode cX11_stack 27 = .ok (.aload_n 0, 1) := by decide +kernel
theorem dX11_stack_28 : decode cX11_stack 28 = .ok (.getfield 12, 3) := by decide +kernel
theorem dX11_stack_31 : decode cX11_stack 31 = .ok (.getfield 301, 3) := by decide +kernel
theorem dX11_stack_34 : decode cX11_stack 34 = .ok (.iconst 1, 1) := by decide +kernel
theorem dX11_stack_35 : decode cX11_stack 35 = .ok (.isub, 1) := by decide +kernel
theorem dX11_stack_36 : decode cX11_stack 36 = .ok (.invokestatic 69, 3) := by decide +kernel
theorem dX11_stack_39 : decode cX11_stack 39 = .ok (.ifCond .eq 19, 3) := by decide +kernel
theorem dX11_stack_42 : decode cX11_stack 42 = .ok (.aload_n 0, 1) := by decide +kernel
theorem dX11_stack_43 : decode cX11_stack 43 = .ok (.getfield 12, 3) := by decide +kernel
theorem dX11_stack_46 : decode cX11_stack 46 = .ok (.getfield 310, 3) := by decide +kernel
theorem dX11_stack_49 : decode cX11_stack 49 = .ok (.iconst 4, 1) := by decide +kernel
theorem dX11_stack_50 : decode cX11_stack 50 = .ok (.iload_n 1, 1) := by decide +kernel
theorem dX11_stack_51 : decode cX11_stack 51 = .ok (.imul, 1) := by decide +kernel
theorem dX11_stack_52 : decode cX11_stack 52 = .ok (.iload_n 2, 1) := by decide +kernel
theorem dX11_stack_53 : decode cX11_stack 53 = .ok (.iadd, 1) := by decide +kernel
theorem dX11_stack_54 : decode cX11_stack 54 = .ok (.iaload, 1) := by decide +kernel
theorem dX11_stack_55 : decode cX11_stack 55 = .ok (.goto 5, 3) := by decide +kernel
theorem dX11_stack_58 : decode cX11_stack 58 = .ok (.bipush (-12), 2) := by decide +kernel
theorem dX11_stack_60 : decode cX11_stack 60 = .ok (.ireturn, 1) := by decide +kernel
theorem dX11_order_0 : decode cX11_order 0 = .ok (.iload_n 1, 1) := by decide +kernel
theorem dX11_order_1 : decode cX11_order 1 = .ok (.iconst 1, 1) := by decide +kernel
theorem dX11_order_2 : decode cX11_order 2 = .ok (.iconst 4, 1) := by decide +kernel
theorem dX11_order_3 : decode cX11_order 3 = .ok (.invokestatic 69, 3) := by decide +kernel
theorem dX11_order_6 : decode cX11_order 6 = .ok (.ifCond .eq 33, 3) := by decide +kernel
theorem dX11_order_9 : decode cX11_order 9 = .ok (.iload_n 2, 1) := by decide +kernel
theorem dX11_order_10 : decode cX11_order 10 = .ok (.iconst 0, 1) := by decide +kernel
theorem dX11_order_11 : decode cX11_order 11 = .ok (.iconst 3, 1) := by decide +kernel
theorem dX11_order_12 : decode cX11_order 12 = .ok (.invokestatic 69, 3) := by decide +kernel
theorem dX11_order_15 : decode cX11_order 15 = .ok (.ifCond .eq 24, 3) := by decide +kernel
theorem dX11_order_18 : decode cX11_order 18 = .ok (.iload_n 3, 1) := by decide +kernel
theorem dX11_order_19 : decode cX11_order 19 = .ok (.iconst 1, 1) := by decide +kernel
theorem dX11_order_20 : decode cX11_order 20 = .ok (.bipush 12, 2) := by decide +kernel
theorem dX11_order_22 : decode cX11_order 22 = .ok (.invokestatic 69, 3) := by decide +kernel
theorem dX11_order_25 : decode cX11_order 25 = .ok (.ifCond .eq 14, 3) := by decide +kernel
theorem dX11_order_28 : decode cX11_order 28 = .ok (.iload 4, 2) := by decide +kernel
theorem dX11_order_30 : decode cX11_order 30 = .ok (.iconst 1, 1) := by decide +kernel
theorem dX11_order_31 : decode cX11_order 31 = .ok (.bipush 8, 2) := by decide +kernel
theorem dX11_order_33 : decode cX11_order 33 = .ok (.invokestatic 69, 3) := by decide +kernel
theorem dX11_order_36 : decode cX11_order 36 = .ok (.ifCond .ne 6, 3) := by decide +kernel
theorem dX11_order_39 : decode cX11_order 39 = .ok (.bipush (-2), 2) := by decide +kernel
theorem dX11_order_41 : decode cX11_order 41 = .ok (.ireturn, 1) := by decide +kernel
theorem dX11_order_42 : decode cX11_order 42 = .ok (.aload_n 0, 1) := by decide +kernel
theorem dX11_order_43 : decode cX11_order 43 = .ok (.getfield 12, 3) := by decide +kernel
theorem dX11_order_46 : decode cX11_order 46 = .ok (.getfield 313, 3) := by decide +kernel
theorem dX11_order_49 : decode cX11_order 49 = .ok (.bipush 6, 2) := by decide +kernel
theorem dX11_order_51 : decode cX11_order 51 = .ok (.if_icmp .lt 6, 3) := by decide +kernel
theorem dX11_order_54 : decode cX11_order 54 = .ok (.bipush (-4), 2) := by decide +kernel
theorem dX11_order_56 : decode cX11_order 56 = .ok (.ireturn, 1) := by decide +kernel
theorem dX11_order_57 : decode cX11_order 57 = .ok (.aload_n 0, 1) := by decide +kernel
theorem dX11_order_58 : decode cX11_order 58 = .ok (.getfield 12, 3) := by decide +kernel
theorem dX11_order_61 : decode cX11_order 61 = .ok (.iload_n 1, 1) := by decide +kernel
theorem dX11_order_62 : decode cX11_order 62 = .ok (.iload_n 3, 1) := by decide +kernel
theorem dX11_order_63 : decode cX11_order 63 = .ok (.iload 4, 2) := by decide +kernel
theorem dX11_order_65 : decode cX11_order 65 = .ok (.iload_n 2, 1) := by decide +kernel
theorem dX11_order_66 : decode cX11_order 66 = .ok (.invokevirtual 316, 3) := by decide +kernel
theorem dX11_order_69 : decode cX11_order 69 = .ok (.aload_n 0, 1) := by decide +kernel
theorem dX11_order_70 : decode cX11_order 70 = .ok (.getfield 12, 3) := by decide +kernel
theorem dX11_order_73 : decode cX11_order 73 = .ok (.getfield 313, 3) := by decide +kernel
theorem dX11_order_76 : decode cX11_order 76 = .ok (.iconst 1, 1) := by decide +kernel
theorem dX11_order_77 : decode cX11_order 77 = .ok (.isub, 1) := by decide +kernel
theorem dX11_order_78 : decode cX11_order 78 = .ok (.ireturn, 1) := by decide +kernel
theorem dX11_met_0 : decode cX11_met 0 = .ok (.iload_n 1, 1) := by decide +kernel
theorem dX11_met_1 : decode cX11_met 1 = .ok (.iconst 0, 1) := by decide +kernel
theorem dX11_met_2 : decode cX11_met 2 = .ok (.iconst 1, 1) := by decide +kernel
theorem dX11_met_3 : decode cX11_met 3 = .ok (.invokestatic 69, 3) := by decide +kernel
theorem dX11_met_6 : decode cX11_met 6 = .ok (.ifCond .ne 6, 3) := by decide +kernel
theorem dX11_met_9 : decode cX11_met 9 = .ok (.bipush (-2), 2) := by decide +kernel
theorem dX11_met_11 : decode cX11_met 11 = .ok (.ireturn, 1) := by decide +kernel
theorem dX11_met_12 : decode cX11_met 12 = .ok (.aload_n 0, 1) := by decide +kernel
theorem dX11_met_13 : decode cX11_met 13 = .ok (.invokevirtual 319, 3) := by decide +kernel
theorem dX11_met_16 : decode cX11_met 16 = .ok (.iload_n 1, 1) := by decide +kernel
theorem dX11_met_17 : decode cX11_met 17 = .ok (.ifCond .ne 10, 3) := by decide +kernel
theorem dX11_met_20 : decode cX11_met 20 = .ok (.aload_n 0, 1) := by decide +kernel
theorem dX11_met_21 : decode cX11_met 21 = .ok (.invokevirtual 322, 3) := by decide +kernel
theorem dX11_met_24 : decode cX11_met 24 = .ok (.goto 21, 3) := by decide +kernel
theorem dX11_met_27 : decode cX11_met 27 = .ok (.aload_n 0, 1) := by decide +kernel
theorem dX11_met_28 : decode cX11_met 28 = .ok (.iconst 1, 1) := by decide +kernel
theorem dX11_met_29 : decode cX11_met 29 = .ok (.aload_n 0, 1) := by decide +kernel
theorem dX11_met_30 : decode cX11_met 30 = .ok (.getfield 12, 3) := by decide +kernel
theorem dX11_met_33 : decode cX11_met 33 = .ok (.getfield 313, 3) := by decide +kernel
theorem dX11_met_36 : decode cX11_met 36 = .ok (.ishl, 1) := by decide +kernel
theorem dX11_met_37 : decode cX11_met 37 = .ok (.iconst 1, 1) := by decide +kernel
theorem dX11_met_38 : decode cX11_met 38 = .ok (.isub, 1) := by decide +kernel
theorem dX11_met_39 : decode cX11_met 39 = .ok (.invokevirtual 325, 3) := by decide +kernel
theorem dX11_met_42 : decode cX11_met 42 = .ok (.invokestatic 328, 3) := by decide +kernel
theorem dX11_met_45 : decode cX11_met 45 = .ok (.ireturn, 1) := by decide +kernel
theorem dX11_findMeeting_0 : decode cX11_findMeeting 0 = .ok (.iconst 0, 1) := by decide +kernel
theorem dX11_findMeeting_1 : decode cX11_findMeeting 1 = .ok (.istore_n 1, 1) := by decide +kernel
theorem dX11_findMeeting_2 : decode cX11_findMeeting 2 = .ok (.iload_n 1, 1) := by decide +kernel
theorem dX11_findMeeting_3 : decode cX11_findMeeting 3 = .ok (.aload_n 0, 1) := by decide +kernel
theorem dX11_findMeeting_4 : decode cX11_findMeeting 4 = .ok (.getfield 12, 3) := by decide +kernel
theorem dX11_findMeeting_7 : decode cX11_findMeeting 7 = .ok (.getfield 313, 3) := by decide +kernel
theorem dX11_findMeeting_10 : decode cX11_findMeeting 10 = .ok (.if_icmp .ge 29, 3) := by decide +kernel
theorem dX11_findMeeting_13 : decode cX11_findMeeting 13 = .ok (.iload_n 1, 1) := by decide +kernel
theorem dX11_findMeeting_14 : decode cX11_findMeeting 14 = .ok (.bipush 6, 2) := by decide +kernel
theorem dX11_findMeeting_16 : decode cX11_findMeeting 16 = .ok (.if_icmp .ge 23, 3) := by decide +kernel
theorem dX11_findMeeting_19 : decode cX11_findMeeting 19 = .ok (.aload_n 0, 1) := by decide +kernel
theorem dX11_findMeeting_20 : decode cX11_findMeeting 20 = .ok (.getfield 57, 3) := by decide +kernel
theorem dX11_findMeeting_23 : decode cX11_findMeeting 23 = .ok (.iload_n 1, 1) := by decide +kernel
theorem dX11_findMeeting_24 : decode cX11_findMeeting 24 = .ok (.aload_n 0, 1) := by decide +kernel
theorem dX11_findMeeting_25 : decode cX11_findMeeting 25 = .ok (.getfield 12, 3) := by decide +kernel
theorem dX11_findMeeting_28 : decode cX11_findMeeting 28 = .ok (.iload_n 1, 1) := by decide +kernel
theorem dX11_findMeeting_29 : decode cX11_findMeeting 29 = .ok (.invokevirtual 333, 3) := by decide +kernel
theorem dX11_findMeeting_32 : decode cX11_findMeeting 32 = .ok (.iastore, 1) := by decide +kernel
theorem dX11_findMeeting_33 : decode cX11_findMeeting 33 = .ok (.iinc 1 1, 3) := by decide +kernel
theorem dX11_findMeeting_36 : decode cX11_findMeeting 36 = .ok (.goto (-34), 3) := by decide +kernel
theorem dX11_findMeeting_39 : decode cX11_findMeeting 39 = .ok (.return_, 1) := by decide +kernel
theorem dX11_boardsMeeting_0 : decode cX11_boardsMeeting 0 = .ok (.iconst 0, 1) := by decide +kernel
theorem dX11_boardsMeeting_1 : decode cX11_boardsMeeting 1 = .ok (.istore_n 2, 1) := by decide +kernel
theorem dX11_boardsMeeting_2 : decode cX11_boardsMeeting 2 = .ok (.iconst 0, 1) := by decide +kernel
theorem dX11_boardsMeeting_3 : decode cX11_boardsMeeting 3 = .ok (.istore_n 3, 1) := by decide +kernel
theorem dX11_boardsMeeting_4 : decode cX11_boardsMeeting 4 = .ok (.iload_n 3, 1) := by decide +kernel
theorem dX11_boardsMeeting_5 : decode cX11_boardsMeeting 5 = .ok (.bipush 6, 2) := by decide +kernel
theorem dX11_boardsMeeting_7 : decode cX11_boardsMeeting 7 = .ok (.if_icmp .ge 26, 3) := by decide +kernel
theorem dX11_boardsMeeting_10 : decode cX11_boardsMeeting 10 = .ok (.iload_n 1, 1) := by decide +kernel
theorem dX11_boardsMeeting_11 : decode cX11_boardsMeeting 11 = .ok (.iload_n 3, 1) := by decide +kernel
theorem dX11_boardsMeeting_12 : decode cX11_boardsMeeting 12 = .ok (.invokestatic 336, 3) := by decide +kernel
theorem dX11_boardsMeeting_15 : decode cX11_boardsMeeting 15 = .ok (.ifCond .eq 12, 3) := by decide +kernel
theorem dX11_boardsMeeting_18 : decode cX11_boardsMeeting 18 = .ok (.iload_n 2, 1) := by decide +kernel
theorem dX11_boardsMeeting_19 : decode cX11_boardsMeeting 19 = .ok (.aload_n 0, 1) := by decide +kernel
theorem dX11_boardsMeeting_20 : decode cX11_boardsMeeting 20 = .ok (.getfield 57, 3) := by decide +kernel
theorem dX11_boardsMeeting_23 : decode cX11_boardsMeeting 23 = .ok (.iload_n 3, 1) := by decide +kernel
theorem dX11_boardsMeeting_24 : decode cX11_boardsMeeting 24 = .ok (.iaload, 1) := by decide +kernel
theorem dX11_boardsMeeting_25 : decode cX11_boardsMeeting 25 = .ok (.ior, 1) := by decide +kernel
theorem dX11_boardsMeeting_26 : decode cX11_boardsMeeting 26 = .ok (.istore_n 2, 1) := by decide +kernel
theorem dX11_boardsMeeting_27 : decode cX11_boardsMeeting 27 = .ok (.iinc 3 1, 3) := by decide +kernel
theorem dX11_boardsMeeting_30 : decode cX11_boardsMeeting 30 = .ok (.goto (-26), 3) := by decide +kernel
theorem dX11_boardsMeeting_33 : decode cX11_boardsMeeting 33 = .ok (.iload_n 2, 1) := by decide +kernel
theorem dX11_boardsMeeting_34 : decode cX11_boardsMeeting 34 = .ok (.ireturn, 1) := by decide +kernel
theorem dX11_canBeMet_0 : decode cX11_canBeMet 0 = .ok (.iconst 1, 1) := by decide +kernel
theorem dX11_canBeMet_1 : decode cX11_canBeMet 1 = .ok (.istore_n 3, 1) := by decide +kernel
theorem dX11_canBeMet_2 : decode cX11_canBeMet 2 = .ok (.iload_n 3, 1) := by decide +kernel
theorem dX11_canBeMet_3 : decode cX11_canBeMet 3 = .ok (.iload_n 1, 1) := by decide +kernel
theorem dX11_canBeMet_4 : decode cX11_canBeMet 4 = .ok (.if_icmp .gt 36, 3) := by decide +kernel
theorem dX11_canBeMet_7 : decode cX11_canBeMet 7 = .ok (.iload_n 3, 1) := by decide +kernel
theorem dX11_canBeMet_8 : decode cX11_canBeMet 8 = .ok (.iload_n 1, 1) := by decide +kernel
theorem dX11_canBeMet_9 : decode cX11_canBeMet 9 = .ok (.iconst (-1), 1) := by decide +kernel
theorem dX11_canBeMet_10 : decode cX11_canBeMet 10 = .ok (.ixor, 1) := by decide +kernel
theorem dX11_canBeMet_11 : decode cX11_canBeMet 11 = .ok (.iand, 1) := by decide +kernel
theorem dX11_canBeMet_12 : decode cX11_canBeMet 12 = .ok (.ifCond .ne 22, 3) := by decide +kernel
theorem dX11_canBeMet_15 : decode cX11_canBeMet 15 = .ok (.aload_n 0, 1) := by decide +kernel
theorem dX11_canBeMet_16 : decode cX11_canBeMet 16 = .ok (.iload_n 3, 1) := by decide +kernel
theorem dX11_canBeMet_17 : decode cX11_canBeMet 17 = .ok (.invokevirtual 325, 3) := by decide +kernel
theorem dX11_canBeMet_20 : decode cX11_canBeMet 20 = .ok (.iload_n 2, 1) := by decide +kernel
theorem dX11_canBeMet_21 : decode cX11_canBeMet 21 = .ok (.iand, 1) := by decide +kernel
theorem dX11_canBeMet_22 : decode cX11_canBeMet 22 = .ok (.invokestatic 328, 3) := by decide +kernel
theorem dX11_canBeMet_25 : decode cX11_canBeMet 25 = .ok (.iload_n 3, 1) := by decide +kernel
theorem dX11_canBeMet_26 : decode cX11_canBeMet 26 = .ok (.invokestatic 328, 3) := by decide +kernel
theorem dX11_canBeMet_29 : decode cX11_canBeMet 29 = .ok (.if_icmp .ge 5, 3) := by decide +kernel
theorem dX11_canBeMet_32 : decode cX11_canBeMet 32 = .ok (.iconst 0, 1) := by decide +kernel
theorem dX11_canBeMet_33 : decode cX11_canBeMet 33 = .ok (.ireturn, 1) := by decide +kernel
theorem dX11_canBeMet_34 : decode cX11_canBeMet 34 = .ok (.iinc 3 1, 3) := by decide +kernel
theorem dX11_canBeMet_37 : decode cX11_canBeMet 37 = .ok (.goto (-35), 3) := by decide +kernel
theorem dX11_canBeMet_40 : decode cX11_canBeMet 40 = .ok (.iconst 1, 1) := by decide +kernel
theorem dX11_canBeMet_41 : decode cX11_canBeMet 41 = .ok (.ireturn, 1) := by decide +kernel
theorem dX11_ordersMet_0 : decode cX11_ordersMet 0 = .ok (.iconst 1, 1) := by decide +kernel
theorem dX11_ordersMet_1 : decode cX11_ordersMet 1 = .ok (.aload_n 0, 1) := by decide +kernel
theorem dX11_ordersMet_2 : decode cX11_ordersMet 2 = .ok (.getfield 12, 3) := by decide +kernel
theorem dX11_ordersMet_5 : decode cX11_ordersMet 5 = .ok (.getfield 301, 3) := by decide +kernel
theorem dX11_ordersMet_8 : decode cX11_ordersMet 8 = .ok (.ishl, 1) := by decide +kernel
theorem dX11_ordersMet_9 : decode cX11_ordersMet 9 = .ok (.iconst 1, 1) := by decide +kernel
theorem dX11_ordersMet_10 : decode cX11_ordersMet 10 = .ok (.isub, 1) := by decide +kernel
theorem dX11_ordersMet_11 : decode cX11_ordersMet 11 = .ok (.istore_n 1, 1) := by decide +kernel
theorem dX11_ordersMet_12 : decode cX11_ordersMet 12 = .ok (.iconst 0, 1) := by decide +kernel
theorem dX11_ordersMet_13 : decode cX11_ordersMet 13 = .ok (.istore_n 2, 1) := by decide +kernel
theorem dX11_ordersMet_14 : decode cX11_ordersMet 14 = .ok (.iconst 0, 1) := by decide +kernel
theorem dX11_ordersMet_15 : decode cX11_ordersMet 15 = .ok (.istore_n 3, 1) := by decide +kernel
theorem dX11_ordersMet_16 : decode cX11_ordersMet 16 = .ok (.iload_n 3, 1) := by decide +kernel
theorem dX11_ordersMet_17 : decode cX11_ordersMet 17 = .ok (.aload_n 0, 1) := by decide +kernel
theorem dX11_ordersMet_18 : decode cX11_ordersMet 18 = .ok (.getfield 12, 3) := by decide +kernel
theorem dX11_ordersMet_21 : decode cX11_ordersMet 21 = .ok (.getfield 313, 3) := by decide +kernel
theorem dX11_ordersMet_24 : decode cX11_ordersMet 24 = .ok (.if_icmp .ge 28, 3) := by decide +kernel
theorem dX11_ordersMet_27 : decode cX11_ordersMet 27 = .ok (.aload_n 0, 1) := by decide +kernel
theorem dX11_ordersMet_28 : decode cX11_ordersMet 28 = .ok (.iload_n 2, 1) := by decide +kernel
theorem dX11_ordersMet_29 : decode cX11_ordersMet 29 = .ok (.iconst 1, 1) := by decide +kernel
theorem dX11_ordersMet_30 : decode cX11_ordersMet 30 = .ok (.iload_n 3, 1) := by decide +kernel
theorem dX11_ordersMet_31 : decode cX11_ordersMet 31 = .ok (.ishl, 1) := by decide +kernel
theorem dX11_ordersMet_32 : decode cX11_ordersMet 32 = .ok (.ior, 1) := by decide +kernel
theorem dX11_ordersMet_33 : decode cX11_ordersMet 33 = .ok (.iload_n 1, 1) := by decide +kernel
theorem dX11_ordersMet_34 : decode cX11_ordersMet 34 = .ok (.invokevirtual 339, 3) := by decide +kernel
theorem dX11_ordersMet_37 : decode cX11_ordersMet 37 = .ok (.ifCond .eq 9, 3) := by decide +kernel
theorem dX11_ordersMet_40 : decode cX11_ordersMet 40 = .ok (.iload_n 2, 1) := by decide +kernel
theorem dX11_ordersMet_41 : decode cX11_ordersMet 41 = .ok (.iconst 1, 1) := by decide +kernel
theorem dX11_ordersMet_42 : decode cX11_ordersMet 42 = .ok (.iload_n 3, 1) := by decide +kernel
theorem dX11_ordersMet_43 : decode cX11_ordersMet 43 = .ok (.ishl, 1) := by decide +kernel
theorem dX11_ordersMet_44 : decode cX11_ordersMet 44 = .ok (.ior, 1) := by decide +kernel
theorem dX11_ordersMet_45 : decode cX11_ordersMet 45 = .ok (.istore_n 2, 1) := by decide +kernel
theorem dX11_ordersMet_46 : decode cX11_ordersMet 46 = .ok (.iinc 3 1, 3) := by decide +kernel
theorem dX11_ordersMet_49 : decode cX11_ordersMet 49 = .ok (.goto (-33), 3) := by decide +kernel
theorem dX11_ordersMet_52 : decode cX11_ordersMet 52 = .ok (.iload_n 2, 1) := by decide +kernel
theorem dX11_ordersMet_53 : decode cX11_ordersMet 53 = .ok (.ireturn, 1) := by decide +kernel
theorem dX11_has_0 : decode cX11_has 0 = .ok (.iload_n 0, 1) := by decide +kernel
theorem dX11_has_1 : decode cX11_has 1 = .ok (.iload_n 1, 1) := by decide +kernel
theorem dX11_has_2 : decode cX11_has 2 = .ok (.ishr, 1) := by decide +kernel
theorem dX11_has_3 : decode cX11_has 3 = .ok (.iconst 1, 1) := by decide +kernel
theorem dX11_has_4 : decode cX11_has 4 = .ok (.iand, 1) := by decide +kernel
theorem dX11_has_5 : decode cX11_has 5 = .ok (.iconst 1, 1) := by decide +kernel
theorem dX11_has_6 : decode cX11_has 6 = .ok (.if_icmp .ne 7, 3) := by decide +kernel
theorem dX11_has_9 : decode cX11_has 9 = .ok (.iconst 1, 1) := by decide +kernel
theorem dX11_has_10 : decode cX11_has 10 = .ok (.goto 4, 3) := by decide +kernel
theorem dX11_has_13 : decode cX11_has 13 = .ok (.iconst 0, 1) := by decide +kernel
theorem dX11_has_14 : decode cX11_has 14 = .ok (.ireturn, 1) := by decide +kernel
theorem dX11_serve_0 : decode cX11_serve 0 = .ok (.aload_n 0, 1) := by decide +kernel
theorem dX11_serve_1 : decode cX11_serve 1 = .ok (.invokevirtual 319, 3) := by decide +kernel
theorem dX11_serve_4 : decode cX11_serve 4 = .ok (.aload_n 0, 1) := by decide +kernel
theorem dX11_serve_5 : decode cX11_serve 5 = .ok (.invokevirtual 322, 3) := by decide +kernel
theorem dX11_serve_8 : decode cX11_serve 8 = .ok (.istore_n 1, 1) := by decide +kernel
theorem dX11_serve_9 : decode cX11_serve 9 = .ok (.iconst 1, 1) := by decide +kernel
theorem dX11_serve_10 : decode cX11_serve 10 = .ok (.aload_n 0, 1) := by decide +kernel
theorem dX11_serve_11 : decode cX11_serve 11 = .ok (.getfield 12, 3) := by decide +kernel
theorem dX11_serve_14 : decode cX11_serve 14 = .ok (.getfield 301, 3) := by decide +kernel
theorem dX11_serve_17 : decode cX11_serve 17 = .ok (.ishl, 1) := by decide +kernel
theorem dX11_serve_18 : decode cX11_serve 18 = .ok (.iconst 1, 1) := by decide +kernel
theorem dX11_serve_19 : decode cX11_serve 19 = .ok (.isub, 1) := by decide +kernel
theorem dX11_serve_20 : decode cX11_serve 20 = .ok (.istore_n 2, 1) := by decide +kernel
theorem dX11_serve_21 : decode cX11_serve 21 = .ok (.iload_n 1, 1) := by decide +kernel
theorem dX11_serve_22 : decode cX11_serve 22 = .ok (.istore_n 3, 1) := by decide +kernel
theorem dX11_serve_23 : decode cX11_serve 23 = .ok (.iconst 0, 1) := by decide +kernel
theorem dX11_serve_24 : decode cX11_serve 24 = .ok (.istore 4, 2) := by decide +kernel
theorem dX11_serve_26 : decode cX11_serve 26 = .ok (.iload 4, 2) := by decide +kernel
theorem dX11_serve_28 : decode cX11_serve 28 = .ok (.bipush 6, 2) := by decide +kernel
theorem dX11_serve_30 : decode cX11_serve 30 = .ok (.if_icmp .ge 40, 3) := by decide +kernel
theorem dX11_serve_33 : decode cX11_serve 33 = .ok (.iload_n 1, 1) := by decide +kernel
theorem dX11_serve_34 : decode cX11_serve 34 = .ok (.iload 4, 2) := by decide +kernel
theorem dX11_serve_36 : decode cX11_serve 36 = .ok (.invokestatic 336, 3) := by decide +kernel
theorem dX11_serve_39 : decode cX11_serve 39 = .ok (.ifCond .eq 25, 3) := by decide +kernel
theorem dX11_serve_42 : decode cX11_serve 42 = .ok (.iload_n 3, 1) := by decide +kernel
theorem dX11_serve_43 : decode cX11_serve 43 = .ok (.iconst 1, 1) := by decide +kernel
theorem dX11_serve_44 : decode cX11_serve 44 = .ok (.iload 4, 2) := by decide +kernel
theorem dX11_serve_46 : decode cX11_serve 46 = .ok (.ishl, 1) := by decide +kernel
theorem dX11_serve_47 : decode cX11_serve 47 = .ok (.iconst (-1), 1) := by decide +kernel
theorem dX11_serve_48 : decode cX11_serve 48 = .ok (.ixor, 1) := by decide +kernel
theorem dX11_serve_49 : decode cX11_serve 49 = .ok (.iand, 1) := by decide +kernel
theorem dX11_serve_50 : decode cX11_serve 50 = .ok (.istore_n 3, 1) := by decide +kernel
theorem dX11_serve_51 : decode cX11_serve 51 = .ok (.iload_n 2, 1) := by decide +kernel
theorem dX11_serve_52 : decode cX11_serve 52 = .ok (.aload_n 0, 1) := by decide +kernel
theorem dX11_serve_53 : decode cX11_serve 53 = .ok (.iload 4, 2) := by decide +kernel
theorem dX11_serve_55 : decode cX11_serve 55 = .ok (.iload_n 3, 1) := by decide +kernel
theorem dX11_serve_56 : decode cX11_serve 56 = .ok (.iload_n 2, 1) := by decide +kernel
theorem dX11_serve_57 : decode cX11_serve 57 = .ok (.invokevirtual 342, 3) := by decide +kernel
theorem dX11_serve_60 : decode cX11_serve 60 = .ok (.iconst (-1), 1) := by decide +kernel
theorem dX11_serve_61 : decode cX11_serve 61 = .ok (.ixor, 1) := by decide +kernel
theorem dX11_serve_62 : decode cX11_serve 62 = .ok (.iand, 1) := by decide +kernel
theorem dX11_serve_63 : decode cX11_serve 63 = .ok (.istore_n 2, 1) := by decide +kernel
theorem dX11_serve_64 : decode cX11_serve 64 = .ok (.iinc 4 1, 3) := by decide +kernel
theorem dX11_serve_67 : decode cX11_serve 67 = .ok (.goto (-41), 3) := by decide +kernel
theorem dX11_serve_70 : decode cX11_serve 70 = .ok (.aload_n 0, 1) := by decide +kernel
theorem dX11_serve_71 : decode cX11_serve 71 = .ok (.getfield 12, 3) := by decide +kernel
theorem dX11_serve_74 : decode cX11_serve 74 = .ok (.iload_n 2, 1) := by decide +kernel
theorem dX11_serve_75 : decode cX11_serve 75 = .ok (.invokevirtual 345, 3) := by decide +kernel
theorem dX11_serve_78 : decode cX11_serve 78 = .ok (.aload_n 0, 1) := by decide +kernel
theorem dX11_serve_79 : decode cX11_serve 79 = .ok (.getfield 12, 3) := by decide +kernel
theorem dX11_serve_82 : decode cX11_serve 82 = .ok (.iload_n 1, 1) := by decide +kernel
theorem dX11_serve_83 : decode cX11_serve 83 = .ok (.iconst (-1), 1) := by decide +kernel
theorem dX11_serve_84 : decode cX11_serve 84 = .ok (.ixor, 1) := by decide +kernel
theorem dX11_serve_85 : decode cX11_serve 85 = .ok (.invokevirtual 348, 3) := by decide +kernel
theorem dX11_serve_88 : decode cX11_serve 88 = .ok (.iload_n 1, 1) := by decide +kernel
theorem dX11_serve_89 : decode cX11_serve 89 = .ok (.invokestatic 328, 3) := by decide +kernel
theorem dX11_serve_92 : decode cX11_serve 92 = .ok (.ireturn, 1) := by decide +kernel
theorem dX11_boardFor_0 : decode cX11_boardFor 0 = .ok (.iconst 0, 1) := by decide +kernel
theorem dX11_boardFor_1 : decode cX11_boardFor 1 = .ok (.istore 4, 2) := by decide +kernel
theorem dX11_boardFor_3 : decode cX11_boardFor 3 = .ok (.iload 4, 2) := by decide +kernel
theorem dX11_boardFor_5 : decode cX11_boardFor 5 = .ok (.bipush 16, 2) := by decide +kernel
theorem dX11_boardFor_7 : decode cX11_boardFor 7 = .ok (.if_icmp .ge 46, 3) := by decide +kernel
theorem dX11_boardFor_10 : decode cX11_boardFor 10 = .ok (.iconst 1, 1) := by decide +kernel
theorem dX11_boardFor_11 : decode cX11_boardFor 11 = .ok (.iload 4, 2) := by decide +kernel
theorem dX11_boardFor_13 : decode cX11_boardFor 13 = .ok (.ishl, 1) := by decide +kernel
theorem dX11_boardFor_14 : decode cX11_boardFor 14 = .ok (.istore 5, 2) := by decide +kernel
theorem dX11_boardFor_16 : decode cX11_boardFor 16 = .ok (.aload_n 0, 1) := by decide +kernel
theorem dX11_boardFor_17 : decode cX11_boardFor 17 = .ok (.getfield 57, 3) := by decide +kernel
theorem dX11_boardFor_20 : decode cX11_boardFor 20 = .ok (.iload_n 1, 1) := by decide +kernel
theorem dX11_boardFor_21 : decode cX11_boardFor 21 = .ok (.iaload, 1) := by decide +kernel
theorem dX11_boardFor_22 : decode cX11_boardFor 22 = .ok (.iload_n 3, 1) := by decide +kernel
theorem dX11_boardFor_23 : decode cX11_boardFor 23 = .ok (.iand, 1) := by decide +kernel
theorem dX11_boardFor_24 : decode cX11_boardFor 24 = .ok (.iload 5, 2) := by decide +kernel
theorem dX11_boardFor_26 : decode cX11_boardFor 26 = .ok (.iand, 1) := by decide +kernel
theorem dX11_boardFor_27 : decode cX11_boardFor 27 = .ok (.ifCond .eq 20, 3) := by decide +kernel
theorem dX11_boardFor_30 : decode cX11_boardFor 30 = .ok (.aload_n 0, 1) := by decide +kernel
theorem dX11_boardFor_31 : decode cX11_boardFor 31 = .ok (.iload_n 2, 1) := by decide +kernel
theorem dX11_boardFor_32 : decode cX11_boardFor 32 = .ok (.iload_n 3, 1) := by decide +kernel
theorem dX11_boardFor_33 : decode cX11_boardFor 33 = .ok (.iload 5, 2) := by decide +kernel
theorem dX11_boardFor_35 : decode cX11_boardFor 35 = .ok (.iconst (-1), 1) := by decide +kernel
theorem dX11_boardFor_36 : decode cX11_boardFor 36 = .ok (.ixor, 1) := by decide +kernel
theorem dX11_boardFor_37 : decode cX11_boardFor 37 = .ok (.iand, 1) := by decide +kernel
theorem dX11_boardFor_38 : decode cX11_boardFor 38 = .ok (.invokevirtual 339, 3) := by decide +kernel
theorem dX11_boardFor_41 : decode cX11_boardFor 41 = .ok (.ifCond .eq 6, 3) := by decide +kernel
theorem dX11_boardFor_44 : decode cX11_boardFor 44 = .ok (.iload 5, 2) := by decide +kernel
theorem dX11_boardFor_46 : decode cX11_boardFor 46 = .ok (.ireturn, 1) := by decide +kernel
theorem dX11_boardFor_47 : decode cX11_boardFor 47 = .ok (.iinc 4 1, 3) := by decide +kernel
theorem dX11_boardFor_50 : decode cX11_boardFor 50 = .ok (.goto (-47), 3) := by decide +kernel
theorem dX11_boardFor_53 : decode cX11_boardFor 53 = .ok (.iconst 0, 1) := by decide +kernel
theorem dX11_boardFor_54 : decode cX11_boardFor 54 = .ok (.ireturn, 1) := by decide +kernel
theorem dX11_without_0 : decode cX11_without 0 = .ok (.aload_n 0, 1) := by decide +kernel
theorem dX11_without_1 : decode cX11_without 1 = .ok (.getfield 12, 3) := by decide +kernel
theorem dX11_without_4 : decode cX11_without 4 = .ok (.iload_n 1, 1) := by decide +kernel
theorem dX11_without_5 : decode cX11_without 5 = .ok (.invokevirtual 163, 3) := by decide +kernel
theorem dX11_without_8 : decode cX11_without 8 = .ok (.ifnonnull 7, 3) := by decide +kernel
theorem dX11_without_11 : decode cX11_without 11 = .ok (.ldc2_w 266, 3) := by decide +kernel
theorem dX11_without_14 : decode cX11_without 14 = .ok (.lreturn, 1) := by decide +kernel
theorem dX11_without_15 : decode cX11_without 15 = .ok (.iconst 0, 1) := by decide +kernel
theorem dX11_without_16 : decode cX11_without 16 = .ok (.istore_n 2, 1) := by decide +kernel
theorem dX11_without_17 : decode cX11_without 17 = .ok (.iconst 0, 1) := by decide +kernel
theorem dX11_without_18 : decode cX11_without 18 = .ok (.istore_n 3, 1) := by decide +kernel
theorem dX11_without_19 : decode cX11_without 19 = .ok (.iload_n 3, 1) := by decide +kernel
theorem dX11_without_20 : decode cX11_without 20 = .ok (.aload_n 0, 1) := by decide +kernel
theorem dX11_without_21 : decode cX11_without 21 = .ok (.getfield 12, 3) := by decide +kernel
theorem dX11_without_24 : decode cX11_without 24 = .ok (.getfield 106, 3) := by decide +kernel
theorem dX11_without_27 : decode cX11_without 27 = .ok (.if_icmp .ge 31, 3) := by decide +kernel
theorem dX11_without_30 : decode cX11_without 30 = .ok (.iload_n 3, 1) := by decide +kernel
theorem dX11_without_31 : decode cX11_without 31 = .ok (.iload_n 1, 1) := by decide +kernel
theorem dX11_without_32 : decode cX11_without 32 = .ok (.if_icmp .eq 20, 3) := by decide +kernel
theorem dX11_without_35 : decode cX11_without 35 = .ok (.aload_n 0, 1) := by decide +kernel
theorem dX11_without_36 : decode cX11_without 36 = .ok (.getfield 35, 3) := by decide +kernel
theorem dX11_without_39 : decode cX11_without 39 = .ok (.iload_n 2, 1) := by decide +kernel
theorem dX11_without_40 : decode cX11_without 40 = .ok (.aload_n 0, 1) := by decide +kernel
theorem dX11_without_41 : decode cX11_without 41 = .ok (.getfield 12, 3) := by decide +kernel
theorem dX11_without_44 : decode cX11_without 44 = .ok (.iload_n 3, 1) := by decide +kernel
theorem dX11_without_45 : decode cX11_without 45 = .ok (.invokevirtual 163, 3) := by decide +kernel
theorem dX11_without_48 : decode cX11_without 48 = .ok (.aastore, 1) := by decide +kernel
theorem dX11_without_49 : decode cX11_without 49 = .ok (.iinc 2 1, 3) := by decide +kernel
theorem dX11_without_52 : decode cX11_without 52 = .ok (.iinc 3 1, 3) := by decide +kernel
theorem dX11_without_55 : decode cX11_without 55 = .ok (.goto (-36), 3) := by decide +kernel
theorem dX11_without_58 : decode cX11_without 58 = .ok (.aload_n 0, 1) := by decide +kernel
theorem dX11_without_59 : decode cX11_without 59 = .ok (.iload_n 2, 1) := by decide +kernel
theorem dX11_without_60 : decode cX11_without 60 = .ok (.invokevirtual 351, 3) := by decide +kernel
theorem dX11_without_63 : decode cX11_without 63 = .ok (.i2l, 1) := by decide +kernel
theorem dX11_without_64 : decode cX11_without 64 = .ok (.lreturn, 1) := by decide +kernel
theorem dX11_worthInThought_0 : decode cX11_worthInThought 0 = .ok (.aload_n 0, 1) := by decide +kernel
theorem dX11_worthInThought_1 : decode cX11_worthInThought 1 = .ok (.getfield 30, 3) := by decide +kernel
theorem dX11_worthInThought_4 : decode cX11_worthInThought 4 = .ok (.aload_n 0, 1) := by decide +kernel
theorem dX11_worthInThought_5 : decode cX11_worthInThought 5 = .ok (.getfield 12, 3) := by decide +kernel
theorem dX11_worthInThought_8 : decode cX11_worthInThought 8 = .ok (.aload_n 0, 1) := by decide +kernel
theorem dX11_worthInThought_9 : decode cX11_worthInThought 9 = .ok (.getfield 12, 3) := by decide +kernel
theorem dX11_worthInThought_12 : decode cX11_worthInThought 12 = .ok (.getfield 199, 3) := by decide +kernel
theorem dX11_worthInThought_15 : decode cX11_worthInThought 15 = .ok (.aload_n 0, 1) := by decide +kernel
theorem dX11_worthInThought_16 : decode cX11_worthInThought 16 = .ok (.getfield 35, 3) := by decide +kernel
theorem dX11_worthInThought_19 : decode cX11_worthInThought 19 = .ok (.iload_n 1, 1) := by decide +kernel
theorem dX11_worthInThought_20 : decode cX11_worthInThought 20 = .ok (.invokevirtual 292, 3) := by decide +kernel
theorem dX11_worthInThought_23 : decode cX11_worthInThought 23 = .ok (.aload_n 0, 1) := by decide +kernel
theorem dX11_worthInThought_24 : decode cX11_worthInThought 24 = .ok (.getfield 30, 3) := by decide +kernel
theorem dX11_worthInThought_27 : decode cX11_worthInThought 27 = .ok (.aload_n 0, 1) := by decide +kernel
theorem dX11_worthInThought_28 : decode cX11_worthInThought 28 = .ok (.getfield 12, 3) := by decide +kernel
theorem dX11_worthInThought_31 : decode cX11_worthInThought 31 = .ok (.getfield 205, 3) := by decide +kernel
theorem dX11_worthInThought_34 : decode cX11_worthInThought 34 = .ok (.iconst 0, 1) := by decide +kernel
theorem dX11_worthInThought_35 : decode cX11_worthInThought 35 = .ok (.iaload, 1) := by decide +kernel
theorem dX11_worthInThought_36 : decode cX11_worthInThought 36 = .ok (.invokevirtual 295, 3) := by decide +kernel
theorem dX11_worthInThought_39 : decode cX11_worthInThought 39 = .ok (.ireturn, 1) := by decide +kernel
theorem dX11_drawn_0 : decode cX11_drawn 0 = .ok (.aload_n 0, 1) := by decide +kernel
theorem dX11_drawn_1 : decode cX11_drawn 1 = .ok (.getfield 12, 3) := by decide +kernel
theorem dX11_drawn_4 : decode cX11_drawn 4 = .ok (.invokevirtual 98, 3) := by decide +kernel
theorem dX11_drawn_7 : decode cX11_drawn 7 = .ok (.ifCond .eq 13, 3) := by decide +kernel
theorem dX11_drawn_10 : decode cX11_drawn 10 = .ok (.iload_n 2, 1) := by decide +kernel
theorem dX11_drawn_11 : decode cX11_drawn 11 = .ok (.iconst 0, 1) := by decide +kernel
theorem dX11_drawn_12 : decode cX11_drawn 12 = .ok (.bipush 8, 2) := by decide +kernel
theorem dX11_drawn_14 : decode cX11_drawn 14 = .ok (.invokestatic 69, 3) := by decide +kernel
theorem dX11_drawn_17 : decode cX11_drawn 17 = .ok (.ifCond .ne 7, 3) := by decide +kernel
theorem dX11_drawn_20 : decode cX11_drawn 20 = .ok (.ldc2_w 266, 3) := by decide +kernel
theorem dX11_drawn_23 : decode cX11_drawn 23 = .ok (.lreturn, 1) := by decide +kernel
theorem dX11_drawn_24 : decode cX11_drawn 24 = .ok (.aload_n 0, 1) := by decide +kernel
theorem dX11_drawn_25 : decode cX11_drawn 25 = .ok (.aload_n 0, 1) := by decide +kernel
theorem dX11_drawn_26 : decode cX11_drawn 26 = .ok (.iload_n 1, 1) := by decide +kernel
theorem dX11_drawn_27 : decode cX11_drawn 27 = .ok (.iload_n 2, 1) := by decide +kernel
theorem dX11_drawn_28 : decode cX11_drawn 28 = .ok (.invokevirtual 354, 3) := by decide +kernel
theorem dX11_drawn_31 : decode cX11_drawn 31 = .ok (.invokevirtual 351, 3) := by decide +kernel
theorem dX11_drawn_34 : decode cX11_drawn 34 = .ok (.i2l, 1) := by decide +kernel
theorem dX11_drawn_35 : decode cX11_drawn 35 = .ok (.lreturn, 1) := by decide +kernel
theorem dX11_drawFaults_0 : decode cX11_drawFaults 0 = .ok (.aload_n 0, 1) := by decide +kernel
theorem dX11_drawFaults_1 : decode cX11_drawFaults 1 = .ok (.getfield 12, 3) := by decide +kernel
theorem dX11_drawFaults_4 : decode cX11_drawFaults 4 = .ok (.getfield 106, 3) := by decide +kernel
theorem dX11_drawFaults_7 : decode cX11_drawFaults 7 = .ok (.istore_n 3, 1) := by decide +kernel
theorem dX11_drawFaults_8 : decode cX11_drawFaults 8 = .ok (.iconst 0, 1) := by decide +kernel
theorem dX11_drawFaults_9 : decode cX11_drawFaults 9 = .ok (.istore 4, 2) := by decide +kernel
theorem dX11_drawFaults_11 : decode cX11_drawFaults 11 = .ok (.iload 4, 2) := by decide +kernel
theorem dX11_drawFaults_13 : decode cX11_drawFaults 13 = .ok (.iload_n 3, 1) := by decide +kernel
theorem dX11_drawFaults_14 : decode cX11_drawFaults 14 = .ok (.if_icmp .ge 25, 3) := by decide +kernel
theorem dX11_drawFaults_17 : decode cX11_drawFaults 17 = .ok (.aload_n 0, 1) := by decide +kernel
theorem dX11_drawFaults_18 : decode cX11_drawFaults 18 = .ok (.getfield 35, 3) := by decide +kernel
theorem dX11_drawFaults_21 : decode cX11_drawFaults 21 = .ok (.iload 4, 2) := by decide +kernel
theorem dX11_drawFaults_23 : decode cX11_drawFaults 23 = .ok (.aload_n 0, 1) := by decide +kernel
theorem dX11_drawFaults_24 : decode cX11_drawFaults 24 = .ok (.getfield 12, 3) := by decide +kernel
theorem dX11_drawFaults_27 : decode cX11_drawFaults 27 = .ok (.iload 4, 2) := by decide +kernel
theorem dX11_drawFaults_29 : decode cX11_drawFaults 29 = .ok (.invokevirtual 163, 3) := by decide +kernel
theorem dX11_drawFaults_32 : decode cX11_drawFaults 32 = .ok (.aastore, 1) := by decide +kernel
theorem dX11_drawFaults_33 : decode cX11_drawFaults 33 = .ok (.iinc 4 1, 3) := by decide +kernel
theorem dX11_drawFaults_36 : decode cX11_drawFaults 36 = .ok (.goto (-25), 3) := by decide +kernel
theorem dX11_drawFaults_39 : decode cX11_drawFaults 39 = .ok (.iload_n 1, 1) := by decide +kernel
theorem dX11_drawFaults_40 : decode cX11_drawFaults 40 = .ok (.istore 4, 2) := by decide +kernel
theorem dX11_drawFaults_42 : decode cX11_drawFaults 42 = .ok (.iconst 0, 1) := by decide +kernel
theorem dX11_drawFaults_43 : decode cX11_drawFaults 43 = .ok (.istore 5, 2) := by decide +kernel
theorem dX11_drawFaults_45 : decode cX11_drawFaults 45 = .ok (.iload 5, 2) := by decide +kernel
theorem dX11_drawFaults_47 : decode cX11_drawFaults 47 = .ok (.iload_n 2, 1) := by decide +kernel
theorem dX11_drawFaults_48 : decode cX11_drawFaults 48 = .ok (.if_icmp .ge 88, 3) := by decide +kernel
theorem dX11_drawFaults_51 : decode cX11_drawFaults 51 = .ok (.iload_n 3, 1) := by decide +kernel
theorem dX11_drawFaults_52 : decode cX11_drawFaults 52 = .ok (.bipush 8, 2) := by decide +kernel
theorem dX11_drawFaults_54 : decode cX11_drawFaults 54 = .ok (.if_icmp .ge 82, 3) := by decide +kernel
theorem dX11_drawFaults_57 : decode cX11_drawFaults 57 = .ok (.iload 4, 2) := by decide +kernel
theorem dX11_drawFaults_59 : decode cX11_drawFaults 59 = .ok (.invokestatic 358, 3) := by decide +kernel
theorem dX11_drawFaults_62 : decode cX11_drawFaults 62 = .ok (.istore 6, 2) := by decide +kernel
theorem dX11_drawFaults_64 : decode cX11_drawFaults 64 = .ok (.iload 6, 2) := by decide +kernel
theorem dX11_drawFaults_66 : decode cX11_drawFaults 66 = .ok (.invokestatic 358, 3) := by decide +kernel
theorem dX11_drawFaults_69 : decode cX11_drawFaults 69 = .ok (.istore 7, 2) := by decide +kernel
theorem dX11_drawFaults_71 : decode cX11_drawFaults 71 = .ok (.iload 7, 2) := by decide +kernel
theorem dX11_drawFaults_73 : decode cX11_drawFaults 73 = .ok (.invokestatic 358, 3) := by decide +kernel
theorem dX11_drawFaults_76 : decode cX11_drawFaults 76 = .ok (.istore 8, 2) := by decide +kernel
theorem dX11_drawFaults_78 : decode cX11_drawFaults 78 = .ok (.iload 8, 2) := by decide +kernel
theorem dX11_drawFaults_80 : decode cX11_drawFaults 80 = .ok (.invokestatic 358, 3) := by decide +kernel
theorem dX11_drawFaults_83 : decode cX11_drawFaults 83 = .ok (.istore 4, 2) := by decide +kernel
theorem dX11_drawFaults_85 : decode cX11_drawFaults 85 = .ok (.aload_n 0, 1) := by decide +kernel
theorem dX11_drawFaults_86 : decode cX11_drawFaults 86 = .ok (.getfield 35, 3) := by decide +kernel
theorem dX11_drawFaults_89 : decode cX11_drawFaults 89 = .ok (.iload_n 3, 1) := by decide +kernel
theorem dX11_drawFaults_90 : decode cX11_drawFaults 90 = .ok (.iload 6, 2) := by decide +kernel
theorem dX11_drawFaults_92 : decode cX11_drawFaults 92 = .ok (.bipush 9, 2) := by decide +kernel
theorem dX11_drawFaults_94 : decode cX11_drawFaults 94 = .ok (.iushr, 1) := by decide +kernel
theorem dX11_drawFaults_95 : decode cX11_drawFaults 95 = .ok (.bipush 7, 2) := by decide +kernel
theorem dX11_drawFaults_97 : decode cX11_drawFaults 97 = .ok (.irem, 1) := by decide +kernel
theorem dX11_drawFaults_98 : decode cX11_drawFaults 98 = .ok (.iload 7, 2) := by decide +kernel
theorem dX11_drawFaults_100 : decode cX11_drawFaults 100 = .ok (.bipush 9, 2) := by decide +kernel
theorem dX11_drawFaults_102 : decode cX11_drawFaults 102 = .ok (.iushr, 1) := by decide +kernel
theorem dX11_drawFaults_103 : decode cX11_drawFaults 103 = .ok (.bipush 8, 2) := by decide +kernel
theorem dX11_drawFaults_105 : decode cX11_drawFaults 105 = .ok (.irem, 1) := by decide +kernel
theorem dX11_drawFaults_106 : decode cX11_drawFaults 106 = .ok (.iload 8, 2) := by decide +kernel
theorem dX11_drawFaults_108 : decode cX11_drawFaults 108 = .ok (.bipush 9, 2) := by decide +kernel
theorem dX11_drawFaults_110 : decode cX11_drawFaults 110 = .ok (.iushr, 1) := by decide +kernel
theorem dX11_drawFaults_111 : decode cX11_drawFaults 111 = .ok (.bipush 8, 2) := by decide +kernel
theorem dX11_drawFaults_113 : decode cX11_drawFaults 113 = .ok (.irem, 1) := by decide +kernel
theorem dX11_drawFaults_114 : decode cX11_drawFaults 114 = .ok (.iload 4, 2) := by decide +kernel
theorem dX11_drawFaults_116 : decode cX11_drawFaults 116 = .ok (.bipush 9, 2) := by decide +kernel
theorem dX11_drawFaults_118 : decode cX11_drawFaults 118 = .ok (.iushr, 1) := by decide +kernel
theorem dX11_drawFaults_119 : decode cX11_drawFaults 119 = .ok (.iconst 4, 1) := by decide +kernel
theorem dX11_drawFaults_120 : decode cX11_drawFaults 120 = .ok (.irem, 1) := by decide +kernel
theorem dX11_drawFaults_121 : decode cX11_drawFaults 121 = .ok (.iconst 1, 1) := by decide +kernel
theorem dX11_drawFaults_122 : decode cX11_drawFaults 122 = .ok (.iadd, 1) := by decide +kernel
theorem dX11_drawFaults_123 : decode cX11_drawFaults 123 = .ok (.invokestatic 133, 3) := by decide +kernel
theorem dX11_drawFaults_126 : decode cX11_drawFaults 126 = .ok (.aastore, 1) := by decide +kernel
theorem dX11_drawFaults_127 : decode cX11_drawFaults 127 = .ok (.iinc 3 1, 3) := by decide +kernel
theorem dX11_drawFaults_130 : decode cX11_drawFaults 130 = .ok (.iinc 5 1, 3) := by decide +kernel
theorem dX11_drawFaults_133 : decode cX11_drawFaults 133 = .ok (.goto (-88), 3) := by decide +kernel
theorem dX11_drawFaults_136 : decode cX11_drawFaults 136 = .ok (.iload_n 3, 1) := by decide +kernel
theorem dX11_drawFaults_137 : decode cX11_drawFaults 137 = .ok (.ireturn, 1) := by decide +kernel
theorem dX11_next_0 : decode cX11_next 0 = .ok (.iload_n 0, 1) := by decide +kernel
theorem dX11_next_1 : decode cX11_next 1 = .ok (.ldc_w 361, 3) := by decide +kernel
theorem dX11_next_4 : decode cX11_next 4 = .ok (.imul, 1) := by decide +kernel
theorem dX11_next_5 : decode cX11_next 5 = .ok (.sipush 12345, 3) := by decide +kernel
theorem dX11_next_8 : decode cX11_next 8 = .ok (.iadd, 1) := by decide +kernel
theorem dX11_next_9 : decode cX11_next 9 = .ok (.ireturn, 1) := by decide +kernel
theorem dX11_chance_0 : decode cX11_chance 0 = .ok (.aload_n 0, 1) := by decide +kernel
theorem dX11_chance_1 : decode cX11_chance 1 = .ok (.getfield 12, 3) := by decide +kernel
theorem dX11_chance_4 : decode cX11_chance 4 = .ok (.invokevirtual 98, 3) := by decide +kernel
theorem dX11_chance_7 : decode cX11_chance 7 = .ok (.ifCond .ne 6, 3) := by decide +kernel
theorem dX11_chance_10 : decode cX11_chance 10 = .ok (.bipush (-3), 2) := by decide +kernel
theorem dX11_chance_12 : decode cX11_chance 12 = .ok (.ireturn, 1) := by decide +kernel
theorem dX11_chance_13 : decode cX11_chance 13 = .ok (.iload_n 2, 1) := by decide +kernel
theorem dX11_chance_14 : decode cX11_chance 14 = .ok (.iconst 1, 1) := by decide +kernel
theorem dX11_chance_15 : decode cX11_chance 15 = .ok (.bipush 8, 2) := by decide +kernel
theorem dX11_chance_17 : decode cX11_chance 17 = .ok (.invokestatic 69, 3) := by decide +kernel
theorem dX11_chance_20 : decode cX11_chance 20 = .ok (.ifCond .eq 17, 3) := by decide +kernel
theorem dX11_chance_23 : decode cX11_chance 23 = .ok (.iload_n 3, 1) := by decide +kernel
theorem dX11_chance_24 : decode cX11_chance 24 = .ok (.ifCond .lt 13, 3) := by decide +kernel
theorem dX11_chance_27 : decode cX11_chance 27 = .ok (.iload 4, 2) := by decide +kernel
theorem dX11_chance_29 : decode cX11_chance 29 = .ok (.iconst 0, 1) := by decide +kernel
theorem dX11_chance_30 : decode cX11_chance 30 = .ok (.iconst 1, 1) := by decide +kernel
theorem dX11_chance_31 : decode cX11_chance 31 = .ok (.invokestatic 69, 3) := by decide +kernel
theorem dX11_chance_34 : decode cX11_chance 34 = .ok (.ifCond .ne 6, 3) := by decide +kernel
theorem dX11_chance_37 : decode cX11_chance 37 = .ok (.bipush (-2), 2) := by decide +kernel
theorem dX11_chance_39 : decode cX11_chance 39 = .ok (.ireturn, 1) := by decide +kernel
theorem dX11_chance_40 : decode cX11_chance 40 = .ok (.iconst 0, 1) := by decide +kernel
theorem dX11_chance_41 : decode cX11_chance 41 = .ok (.istore 5, 2) := by decide +kernel
theorem dX11_chance_43 : decode cX11_chance 43 = .ok (.iconst 0, 1) := by decide +kernel
theorem dX11_chance_44 : decode cX11_chance 44 = .ok (.istore 6, 2) := by decide +kernel
theorem dX11_chance_46 : decode cX11_chance 46 = .ok (.iload 6, 2) := by decide +kernel
theorem dX11_chance_48 : decode cX11_chance 48 = .ok (.iload_n 2, 1) := by decide +kernel
theorem dX11_chance_49 : decode cX11_chance 49 = .ok (.if_icmp .ge 29, 3) := by decide +kernel
theorem dX11_chance_52 : decode cX11_chance 52 = .ok (.aload_n 0, 1) := by decide +kernel
theorem dX11_chance_53 : decode cX11_chance 53 = .ok (.aload_n 0, 1) := by decide +kernel
theorem dX11_chance_54 : decode cX11_chance 54 = .ok (.iload_n 1, 1) := by decide +kernel
theorem dX11_chance_55 : decode cX11_chance 55 = .ok (.iload 6, 2) := by decide +kernel
theorem dX11_chance_57 : decode cX11_chance 57 = .ok (.iadd, 1) := by decide +kernel
theorem dX11_chance_58 : decode cX11_chance 58 = .ok (.iconst 2, 1) := by decide +kernel
theorem dX11_chance_59 : decode cX11_chance 59 = .ok (.invokevirtual 354, 3) := by decide +kernel
theorem dX11_chance_62 : decode cX11_chance 62 = .ok (.invokevirtual 351, 3) := by decide +kernel
theorem dX11_chance_65 : decode cX11_chance 65 = .ok (.iload_n 3, 1) := by decide +kernel
theorem dX11_chance_66 : decode cX11_chance 66 = .ok (.if_icmp .lt 6, 3) := by decide +kernel
theorem dX11_chance_69 : decode cX11_chance 69 = .ok (.iinc 5 1, 3) := by decide +kernel
theorem dX11_chance_72 : decode cX11_chance 72 = .ok (.iinc 6 1, 3) := by decide +kernel
theorem dX11_chance_75 : decode cX11_chance 75 = .ok (.goto (-29), 3) := by decide +kernel
theorem dX11_chance_78 : decode cX11_chance 78 = .ok (.iload 5, 2) := by decide +kernel
theorem dX11_chance_80 : decode cX11_chance 80 = .ok (.iload_n 2, 1) := by decide +kernel
theorem dX11_chance_81 : decode cX11_chance 81 = .ok (.invokestatic 362, 3) := by decide +kernel
theorem dX11_chance_84 : decode cX11_chance 84 = .ok (.istore 6, 2) := by decide +kernel
theorem dX11_chance_86 : decode cX11_chance 86 = .ok (.iload 4, 2) := by decide +kernel
theorem dX11_chance_88 : decode cX11_chance 88 = .ok (.ifCond .ne 11, 3) := by decide +kernel
theorem dX11_chance_91 : decode cX11_chance 91 = .ok (.iload 5, 2) := by decide +kernel
theorem dX11_chance_93 : decode cX11_chance 93 = .ok (.iload 6, 2) := by decide +kernel
theorem dX11_chance_95 : decode cX11_chance 95 = .ok (.idiv, 1) := by decide +kernel
theorem dX11_chance_96 : decode cX11_chance 96 = .ok (.goto 7, 3) := by decide +kernel
theorem dX11_chance_99 : decode cX11_chance 99 = .ok (.iload_n 2, 1) := by decide +kernel
theorem dX11_chance_100 : decode cX11_chance 100 = .ok (.iload 6, 2) := by decide +kernel
theorem dX11_chance_102 : decode cX11_chance 102 = .ok (.idiv, 1) := by decide +kernel
theorem dX11_chance_103 : decode cX11_chance 103 = .ok (.ireturn, 1) := by decide +kernel
theorem dX11_commonDivisor_0 : decode cX11_commonDivisor 0 = .ok (.iload_n 1, 1) := by decide +kernel
theorem dX11_commonDivisor_1 : decode cX11_commonDivisor 1 = .ok (.istore_n 2, 1) := by decide +kernel
theorem dX11_commonDivisor_2 : decode cX11_commonDivisor 2 = .ok (.iload_n 2, 1) := by decide +kernel
theorem dX11_commonDivisor_3 : decode cX11_commonDivisor 3 = .ok (.iconst 1, 1) := by decide +kernel
theorem dX11_commonDivisor_4 : decode cX11_commonDivisor 4 = .ok (.if_icmp .le 23, 3) := by decide +kernel
theorem dX11_commonDivisor_7 : decode cX11_commonDivisor 7 = .ok (.iload_n 0, 1) := by decide +kernel
theorem dX11_commonDivisor_8 : decode cX11_commonDivisor 8 = .ok (.iload_n 2, 1) := by decide +kernel
theorem dX11_commonDivisor_9 : decode cX11_commonDivisor 9 = .ok (.irem, 1) := by decide +kernel
theorem dX11_commonDivisor_10 : decode cX11_commonDivisor 10 = .ok (.ifCond .ne 11, 3) := by decide +kernel
theorem dX11_commonDivisor_13 : decode cX11_commonDivisor 13 = .ok (.iload_n 1, 1) := by decide +kernel
theorem dX11_commonDivisor_14 : decode cX11_commonDivisor 14 = .ok (.iload_n 2, 1) := by decide +kernel
theorem dX11_commonDivisor_15 : decode cX11_commonDivisor 15 = .ok (.irem, 1) := by decide +kernel
theorem dX11_commonDivisor_16 : decode cX11_commonDivisor 16 = .ok (.ifCond .ne 5, 3) := by decide +kernel
theorem dX11_commonDivisor_19 : decode cX11_commonDivisor 19 = .ok (.iload_n 2, 1) := by decide +kernel
theorem dX11_commonDivisor_20 : decode cX11_commonDivisor 20 = .ok (.ireturn, 1) := by decide +kernel
theorem dX11_commonDivisor_21 : decode cX11_commonDivisor 21 = .ok (.iinc 2 (-1), 3) := by decide +kernel
theorem dX11_commonDivisor_24 : decode cX11_commonDivisor 24 = .ok (.goto (-22), 3) := by decide +kernel
theorem dX11_commonDivisor_27 : decode cX11_commonDivisor 27 = .ok (.iconst 1, 1) := by decide +kernel
theorem dX11_commonDivisor_28 : decode cX11_commonDivisor 28 = .ok (.ireturn, 1) := by decide +kernel
theorem dX11_tells_0 : decode cX11_tells 0 = .ok (.aload_n 0, 1) := by decide +kernel
theorem dX11_tells_1 : decode cX11_tells 1 = .ok (.getfield 12, 3) := by decide +kernel
theorem dX11_tells_4 : decode cX11_tells 4 = .ok (.invokevirtual 98, 3) := by decide +kernel
theorem dX11_tells_7 : decode cX11_tells 7 = .ok (.ifCond .ne 6, 3) := by decide +kernel
theorem dX11_tells_10 : decode cX11_tells 10 = .ok (.bipush (-3), 2) := by decide +kernel
theorem dX11_tells_12 : decode cX11_tells 12 = .ok (.ireturn, 1) := by decide +kernel
theorem dX11_tells_13 : decode cX11_tells 13 = .ok (.iload_n 1, 1) := by decide +kernel
theorem dX11_tells_14 : decode cX11_tells 14 = .ok (.invokestatic 365, 3) := by decide +kernel
theorem dX11_tells_17 : decode cX11_tells 17 = .ok (.ifCond .eq 12, 3) := by decide +kernel
theorem dX11_tells_20 : decode cX11_tells 20 = .ok (.iload_n 2, 1) := by decide +kernel
theorem dX11_tells_21 : decode cX11_tells 21 = .ok (.iconst 0, 1) := by decide +kernel
theorem dX11_tells_22 : decode cX11_tells 22 = .ok (.iconst 2, 1) := by decide +kernel
theorem dX11_tells_23 : decode cX11_tells 23 = .ok (.invokestatic 69, 3) := by decide +kernel
theorem dX11_tells_26 : decode cX11_tells 26 = .ok (.ifCond .ne 6, 3) := by decide +kernel
theorem dX11_tells_29 : decode cX11_tells 29 = .ok (.bipush (-2), 2) := by decide +kernel
theorem dX11_tells_31 : decode cX11_tells 31 = .ok (.ireturn, 1) := by decide +kernel
theorem dX11_tells_32 : decode cX11_tells 32 = .ok (.aload_n 0, 1) := by decide +kernel
theorem dX11_tells_33 : decode cX11_tells 33 = .ok (.getfield 47, 3) := by decide +kernel
theorem dX11_tells_36 : decode cX11_tells 36 = .ok (.iload_n 1, 1) := by decide +kernel
theorem dX11_tells_37 : decode cX11_tells 37 = .ok (.iaload, 1) := by decide +kernel
theorem dX11_tells_38 : decode cX11_tells 38 = .ok (.iconst (-1), 1) := by decide +kernel
theorem dX11_tells_39 : decode cX11_tells 39 = .ok (.if_icmp .ne 6, 3) := by decide +kernel
theorem dX11_tells_42 : decode cX11_tells 42 = .ok (.bipush (-11), 2) := by decide +kernel
theorem dX11_tells_44 : decode cX11_tells 44 = .ok (.ireturn, 1) := by decide +kernel
theorem dX11_tells_45 : decode cX11_tells 45 = .ok (.aload_n 0, 1) := by decide +kernel
theorem dX11_tells_46 : decode cX11_tells 46 = .ok (.getfield 50, 3) := by decide +kernel
theorem dX11_tells_49 : decode cX11_tells 49 = .ok (.iload_n 1, 1) := by decide +kernel
theorem dX11_tells_50 : decode cX11_tells 50 = .ok (.iaload, 1) := by decide +kernel
theorem dX11_tells_51 : decode cX11_tells 51 = .ok (.bipush 12, 2) := by decide +kernel
theorem dX11_tells_53 : decode cX11_tells 53 = .ok (.if_icmp .le 6, 3) := by decide +kernel
theorem dX11_tells_56 : decode cX11_tells 56 = .ok (.bipush (-2), 2) := by decide +kernel
theorem dX11_tells_58 : decode cX11_tells 58 = .ok (.ireturn, 1) := by decide +kernel
theorem dX11_tells_59 : decode cX11_tells 59 = .ok (.iload_n 2, 1) := by decide +kernel
theorem dX11_tells_60 : decode cX11_tells 60 = .ok (.lookupswitch 44 #[(0, 28), (1, 38)], 28) := by decide +kernel
theorem dX11_tells_88 : decode cX11_tells 88 = .ok (.aload_n 0, 1) := by decide +kernel
theorem dX11_tells_89 : decode cX11_tells 89 = .ok (.iload_n 1, 1) := by decide +kernel
theorem dX11_tells_90 : decode cX11_tells 90 = .ok (.aload_n 0, 1) := by decide +kernel
theorem dX11_tells_91 : decode cX11_tells 91 = .ok (.invokevirtual 268, 3) := by decide +kernel
theorem dX11_tells_94 : decode cX11_tells 94 = .ok (.invokevirtual 368, 3) := by decide +kernel
theorem dX11_tells_97 : decode cX11_tells 97 = .ok (.ireturn, 1) := by decide +kernel
theorem dX11_tells_98 : decode cX11_tells 98 = .ok (.aload_n 0, 1) := by decide +kernel
theorem dX11_tells_99 : decode cX11_tells 99 = .ok (.iload_n 1, 1) := by decide +kernel
theorem dX11_tells_100 : decode cX11_tells 100 = .ok (.invokevirtual 372, 3) := by decide +kernel
theorem dX11_tells_103 : decode cX11_tells 103 = .ok (.ireturn, 1) := by decide +kernel
theorem dX11_tells_104 : decode cX11_tells 104 = .ok (.aload_n 0, 1) := by decide +kernel
theorem dX11_tells_105 : decode cX11_tells 105 = .ok (.iload_n 1, 1) := by decide +kernel
theorem dX11_tells_106 : decode cX11_tells 106 = .ok (.invokevirtual 375, 3) := by decide +kernel
theorem dX11_tells_109 : decode cX11_tells 109 = .ok (.ireturn, 1) := by decide +kernel
theorem dX11_firstOtherwise_0 : decode cX11_firstOtherwise 0 = .ok (.aload_n 0, 1) := by decide +kernel
theorem dX11_firstOtherwise_1 : decode cX11_firstOtherwise 1 = .ok (.getfield 50, 3) := by decide +kernel
theorem dX11_firstOtherwise_4 : decode cX11_firstOtherwise 4 = .ok (.iload_n 1, 1) := by decide +kernel
theorem dX11_firstOtherwise_5 : decode cX11_firstOtherwise 5 = .ok (.iaload, 1) := by decide +kernel
theorem dX11_firstOtherwise_6 : decode cX11_firstOtherwise 6 = .ok (.istore_n 3, 1) := by decide +kernel
theorem dX11_firstOtherwise_7 : decode cX11_firstOtherwise 7 = .ok (.iload_n 3, 1) := by decide +kernel
theorem dX11_firstOtherwise_8 : decode cX11_firstOtherwise 8 = .ok (.aload_n 2, 1) := by decide +kernel
theorem dX11_firstOtherwise_9 : decode cX11_firstOtherwise 9 = .ok (.getfield 271, 3) := by decide +kernel
theorem dX11_firstOtherwise_12 : decode cX11_firstOtherwise 12 = .ok (.invokestatic 378, 3) := by decide +kernel
theorem dX11_firstOtherwise_15 : decode cX11_firstOtherwise 15 = .ok (.istore 4, 2) := by decide +kernel
theorem dX11_firstOtherwise_17 : decode cX11_firstOtherwise 17 = .ok (.iconst 0, 1) := by decide +kernel
theorem dX11_firstOtherwise_18 : decode cX11_firstOtherwise 18 = .ok (.istore 5, 2) := by decide +kernel
theorem dX11_firstOtherwise_20 : decode cX11_firstOtherwise 20 = .ok (.iload 5, 2) := by decide +kernel
theorem dX11_firstOtherwise_22 : decode cX11_firstOtherwise 22 = .ok (.iload 4, 2) := by decide +kernel
theorem dX11_firstOtherwise_24 : decode cX11_firstOtherwise 24 = .ok (.if_icmp .ge 35, 3) := by decide +kernel
theorem dX11_firstOtherwise_27 : decode cX11_firstOtherwise 27 = .ok (.aload_n 0, 1) := by decide +kernel
theorem dX11_firstOtherwise_28 : decode cX11_firstOtherwise 28 = .ok (.getfield 53, 3) := by decide +kernel
theorem dX11_firstOtherwise_31 : decode cX11_firstOtherwise 31 = .ok (.bipush 40, 2) := by decide +kernel
theorem dX11_firstOtherwise_33 : decode cX11_firstOtherwise 33 = .ok (.iload_n 1, 1) := by decide +kernel
theorem dX11_firstOtherwise_34 : decode cX11_firstOtherwise 34 = .ok (.imul, 1) := by decide +kernel
theorem dX11_firstOtherwise_35 : decode cX11_firstOtherwise 35 = .ok (.iload 5, 2) := by decide +kernel
theorem dX11_firstOtherwise_37 : decode cX11_firstOtherwise 37 = .ok (.iadd, 1) := by decide +kernel
theorem dX11_firstOtherwise_38 : decode cX11_firstOtherwise 38 = .ok (.laload, 1) := by decide +kernel
theorem dX11_firstOtherwise_39 : decode cX11_firstOtherwise 39 = .ok (.aload_n 2, 1) := by decide +kernel
theorem dX11_firstOtherwise_40 : decode cX11_firstOtherwise 40 = .ok (.iload 5, 2) := by decide +kernel
theorem dX11_firstOtherwise_42 : decode cX11_firstOtherwise 42 = .ok (.invokevirtual 280, 3) := by decide +kernel
theorem dX11_firstOtherwise_45 : decode cX11_firstOtherwise 45 = .ok (.i2l, 1) := by decide +kernel
theorem dX11_firstOtherwise_46 : decode cX11_firstOtherwise 46 = .ok (.lcmp, 1) := by decide +kernel
theorem dX11_firstOtherwise_47 : decode cX11_firstOtherwise 47 = .ok (.ifCond .eq 6, 3) := by decide +kernel
theorem dX11_firstOtherwise_50 : decode cX11_firstOtherwise 50 = .ok (.iload 5, 2) := by decide +kernel
theorem dX11_firstOtherwise_52 : decode cX11_firstOtherwise 52 = .ok (.ireturn, 1) := by decide +kernel
theorem dX11_firstOtherwise_53 : decode cX11_firstOtherwise 53 = .ok (.iinc 5 1, 3) := by decide +kernel
theorem dX11_firstOtherwise_56 : decode cX11_firstOtherwise 56 = .ok (.goto (-36), 3) := by decide +kernel
theorem dX11_firstOtherwise_59 : decode cX11_firstOtherwise 59 = .ok (.iload_n 3, 1) := by decide +kernel
theorem dX11_firstOtherwise_60 : decode cX11_firstOtherwise 60 = .ok (.aload_n 2, 1) := by decide +kernel
theorem dX11_firstOtherwise_61 : decode cX11_firstOtherwise 61 = .ok (.getfield 271, 3) := by decide +kernel
theorem dX11_firstOtherwise_64 : decode cX11_firstOtherwise 64 = .ok (.if_icmp .ne 7, 3) := by decide +kernel
theorem dX11_firstOtherwise_67 : decode cX11_firstOtherwise 67 = .ok (.iconst (-1), 1) := by decide +kernel
theorem dX11_firstOtherwise_68 : decode cX11_firstOtherwise 68 = .ok (.goto 5, 3) := by decide +kernel
theorem dX11_firstOtherwise_71 : decode cX11_firstOtherwise 71 = .ok (.iload 4, 2) := by decide +kernel
theorem dX11_firstOtherwise_73 : decode cX11_firstOtherwise 73 = .ok (.ireturn, 1) := by decide +kernel
theorem dX11_turnsTold_0 : decode cX11_turnsTold 0 = .ok (.iconst 0, 1) := by decide +kernel
theorem dX11_turnsTold_1 : decode cX11_turnsTold 1 = .ok (.istore_n 2, 1) := by decide +kernel
theorem dX11_turnsTold_2 : decode cX11_turnsTold 2 = .ok (.iconst 0, 1) := by decide +kernel
theorem dX11_turnsTold_3 : decode cX11_turnsTold 3 = .ok (.istore_n 3, 1) := by decide +kernel
theorem dX11_turnsTold_4 : decode cX11_turnsTold 4 = .ok (.iload_n 3, 1) := by decide +kernel
theorem dX11_turnsTold_5 : decode cX11_turnsTold 5 = .ok (.iconst 4, 1) := by decide +kernel
theorem dX11_turnsTold_6 : decode cX11_turnsTold 6 = .ok (.if_icmp .ge 34, 3) := by decide +kernel
theorem dX11_turnsTold_9 : decode cX11_turnsTold 9 = .ok (.aload_n 0, 1) := by decide +kernel
theorem dX11_turnsTold_10 : decode cX11_turnsTold 10 = .ok (.iload_n 3, 1) := by decide +kernel
theorem dX11_turnsTold_11 : decode cX11_turnsTold 11 = .ok (.invokevirtual 286, 3) := by decide +kernel
theorem dX11_turnsTold_14 : decode cX11_turnsTold 14 = .ok (.pop, 1) := by decide +kernel
theorem dX11_turnsTold_15 : decode cX11_turnsTold 15 = .ok (.aload_n 0, 1) := by decide +kernel
theorem dX11_turnsTold_16 : decode cX11_turnsTold 16 = .ok (.iload_n 1, 1) := by decide +kernel
theorem dX11_turnsTold_17 : decode cX11_turnsTold 17 = .ok (.aload_n 0, 1) := by decide +kernel
theorem dX11_turnsTold_18 : decode cX11_turnsTold 18 = .ok (.getfield 30, 3) := by decide +kernel
theorem dX11_turnsTold_21 : decode cX11_turnsTold 21 = .ok (.invokevirtual 368, 3) := by decide +kernel
theorem dX11_turnsTold_24 : decode cX11_turnsTold 24 = .ok (.iconst (-1), 1) := by decide +kernel
theorem dX11_turnsTold_25 : decode cX11_turnsTold 25 = .ok (.if_icmp .ne 9, 3) := by decide +kernel
theorem dX11_turnsTold_28 : decode cX11_turnsTold 28 = .ok (.iload_n 2, 1) := by decide +kernel
theorem dX11_turnsTold_29 : decode cX11_turnsTold 29 = .ok (.iconst 1, 1) := by decide +kernel
theorem dX11_turnsTold_30 : decode cX11_turnsTold 30 = .ok (.iload_n 3, 1) := by decide +kernel
theorem dX11_turnsTold_31 : decode cX11_turnsTold 31 = .ok (.ishl, 1) := by decide +kernel
theorem dX11_turnsTold_32 : decode cX11_turnsTold 32 = .ok (.ior, 1) := by decide +kernel
theorem dX11_turnsTold_33 : decode cX11_turnsTold 33 = .ok (.istore_n 2, 1) := by decide +kernel
theorem dX11_turnsTold_34 : decode cX11_turnsTold 34 = .ok (.iinc 3 1, 3) := by decide +kernel
theorem dX11_turnsTold_37 : decode cX11_turnsTold 37 = .ok (.goto (-33), 3) := by decide +kernel
theorem dX11_turnsTold_40 : decode cX11_turnsTold 40 = .ok (.iload_n 2, 1) := by decide +kernel
theorem dX11_turnsTold_41 : decode cX11_turnsTold 41 = .ok (.ireturn, 1) := by decide +kernel
theorem dX11_kerfsTold_0 : decode cX11_kerfsTold 0 = .ok (.iconst 0, 1) := by decide +kernel
theorem dX11_kerfsTold_1 : decode cX11_kerfsTold 1 = .ok (.istore_n 2, 1) := by decide +kernel
theorem dX11_kerfsTold_2 : decode cX11_kerfsTold 2 = .ok (.aload_n 0, 1) := by decide +kernel
theorem dX11_kerfsTold_3 : decode cX11_kerfsTold 3 = .ok (.getfield 30, 3) := by decide +kernel
theorem dX11_kerfsTold_6 : decode cX11_kerfsTold 6 = .ok (.aload_n 0, 1) := by decide +kernel
theorem dX11_kerfsTold_7 : decode cX11_kerfsTold 7 = .ok (.getfield 12, 3) := by decide +kernel
theorem dX11_kerfsTold_10 : decode cX11_kerfsTold 10 = .ok (.aload_n 0, 1) := by decide +kernel
theorem dX11_kerfsTold_11 : decode cX11_kerfsTold 11 = .ok (.getfield 12, 3) := by decide +kernel
theorem dX11_kerfsTold_14 : decode cX11_kerfsTold 14 = .ok (.getfield 199, 3) := by decide +kernel
theorem dX11_kerfsTold_17 : decode cX11_kerfsTold 17 = .ok (.aload_n 0, 1) := by decide +kernel
theorem dX11_kerfsTold_18 : decode cX11_kerfsTold 18 = .ok (.getfield 12, 3) := by decide +kernel
theorem dX11_kerfsTold_21 : decode cX11_kerfsTold 21 = .ok (.getfield 289, 3) := by decide +kernel
theorem dX11_kerfsTold_24 : decode cX11_kerfsTold 24 = .ok (.aload_n 0, 1) := by decide +kernel
theorem dX11_kerfsTold_25 : decode cX11_kerfsTold 25 = .ok (.getfield 12, 3) := by decide +kernel
theorem dX11_kerfsTold_28 : decode cX11_kerfsTold 28 = .ok (.getfield 106, 3) := by decide +kernel
theorem dX11_kerfsTold_31 : decode cX11_kerfsTold 31 = .ok (.invokevirtual 292, 3) := by decide +kernel
theorem dX11_kerfsTold_34 : decode cX11_kerfsTold 34 = .ok (.iconst 0, 1) := by decide +kernel
theorem dX11_kerfsTold_35 : decode cX11_kerfsTold 35 = .ok (.istore_n 3, 1) := by decide +kernel
theorem dX11_kerfsTold_36 : decode cX11_kerfsTold 36 = .ok (.iload_n 3, 1) := by decide +kernel
theorem dX11_kerfsTold_37 : decode cX11_kerfsTold 37 = .ok (.iconst 2, 1) := by decide +kernel
theorem dX11_kerfsTold_38 : decode cX11_kerfsTold 38 = .ok (.if_icmp .gt 37, 3) := by decide +kernel
theorem dX11_kerfsTold_41 : decode cX11_kerfsTold 41 = .ok (.aload_n 0, 1) := by decide +kernel
theorem dX11_kerfsTold_42 : decode cX11_kerfsTold 42 = .ok (.getfield 30, 3) := by decide +kernel
theorem dX11_kerfsTold_45 : decode cX11_kerfsTold 45 = .ok (.iload_n 3, 1) := by decide +kernel
theorem dX11_kerfsTold_46 : decode cX11_kerfsTold 46 = .ok (.invokevirtual 295, 3) := by decide +kernel
theorem dX11_kerfsTold_49 : decode cX11_kerfsTold 49 = .ok (.pop, 1) := by decide +kernel
theorem dX11_kerfsTold_50 : decode cX11_kerfsTold 50 = .ok (.aload_n 0, 1) := by decide +kernel
theorem dX11_kerfsTold_51 : decode cX11_kerfsTold 51 = .ok (.iload_n 1, 1) := by decide +kernel
theorem dX11_kerfsTold_52 : decode cX11_kerfsTold 52 = .ok (.aload_n 0, 1) := by decide +kernel
theorem dX11_kerfsTold_53 : decode cX11_kerfsTold 53 = .ok (.getfield 30, 3) := by decide +kernel
theorem dX11_kerfsTold_56 : decode cX11_kerfsTold 56 = .ok (.invokevirtual 368, 3) := by decide +kernel
theorem dX11_kerfsTold_59 : decode cX11_kerfsTold 59 = .ok (.iconst (-1), 1) := by decide +kernel
theorem dX11_kerfsTold_60 : decode cX11_kerfsTold 60 = .ok (.if_icmp .ne 9, 3) := by decide +kernel
theorem dX11_kerfsTold_63 : decode cX11_kerfsTold 63 = .ok (.iload_n 2, 1) := by decide +kernel
theorem dX11_kerfsTold_64 : decode cX11_kerfsTold 64 = .ok (.iconst 1, 1) := by decide +kernel
theorem dX11_kerfsTold_65 : decode cX11_kerfsTold 65 = .ok (.iload_n 3, 1) := by decide +kernel
theorem dX11_kerfsTold_66 : decode cX11_kerfsTold 66 = .ok (.ishl, 1) := by decide +kernel
theorem dX11_kerfsTold_67 : decode cX11_kerfsTold 67 = .ok (.ior, 1) := by decide +kernel
theorem dX11_kerfsTold_68 : decode cX11_kerfsTold 68 = .ok (.istore_n 2, 1) := by decide +kernel
theorem dX11_kerfsTold_69 : decode cX11_kerfsTold 69 = .ok (.iinc 3 1, 3) := by decide +kernel
theorem dX11_kerfsTold_72 : decode cX11_kerfsTold 72 = .ok (.goto (-36), 3) := by decide +kernel
theorem dX11_kerfsTold_75 : decode cX11_kerfsTold 75 = .ok (.iload_n 2, 1) := by decide +kernel
theorem dX11_kerfsTold_76 : decode cX11_kerfsTold 76 = .ok (.ireturn, 1) := by decide +kernel
theorem dX11_image_0 : decode cX11_image 0 = .ok (.aload_n 0, 1) := by decide +kernel
theorem dX11_image_1 : decode cX11_image 1 = .ok (.getfield 16, 3) := by decide +kernel
theorem dX11_image_4 : decode cX11_image 4 = .ok (.aload_n 0, 1) := by decide +kernel
theorem dX11_image_5 : decode cX11_image 5 = .ok (.getfield 12, 3) := by decide +kernel
theorem dX11_image_8 : decode cX11_image 8 = .ok (.invokevirtual 383, 3) := by decide +kernel
theorem dX11_image_11 : decode cX11_image 11 = .ok (.aload_n 0, 1) := by decide +kernel
theorem dX11_image_12 : decode cX11_image 12 = .ok (.iconst 1, 1) := by decide +kernel
theorem dX11_image_13 : decode cX11_image 13 = .ok (.putfield 19, 3) := by decide +kernel
theorem dX11_image_16 : decode cX11_image 16 = .ok (.aload_n 0, 1) := by decide +kernel
theorem dX11_image_17 : decode cX11_image 17 = .ok (.getfield 16, 3) := by decide +kernel
theorem dX11_image_20 : decode cX11_image 20 = .ok (.getfield 106, 3) := by decide +kernel
theorem dX11_image_23 : decode cX11_image 23 = .ok (.ireturn, 1) := by decide +kernel
theorem dX11_back_0 : decode cX11_back 0 = .ok (.aload_n 0, 1) := by decide +kernel
theorem dX11_back_1 : decode cX11_back 1 = .ok (.getfield 19, 3) := by decide +kernel
theorem dX11_back_4 : decode cX11_back 4 = .ok (.ifCond .ne 6, 3) := by decide +kernel
theorem dX11_back_7 : decode cX11_back 7 = .ok (.bipush (-3), 2) := by decide +kernel
theorem dX11_back_9 : decode cX11_back 9 = .ok (.ireturn, 1) := by decide +kernel
theorem dX11_back_10 : decode cX11_back 10 = .ok (.aload_n 0, 1) := by decide +kernel
theorem dX11_back_11 : decode cX11_back 11 = .ok (.getfield 12, 3) := by decide +kernel
theorem dX11_back_14 : decode cX11_back 14 = .ok (.aload_n 0, 1) := by decide +kernel
theorem dX11_back_15 : decode cX11_back 15 = .ok (.getfield 16, 3) := by decide +kernel
theorem dX11_back_18 : decode cX11_back 18 = .ok (.invokevirtual 383, 3) := by decide +kernel
theorem dX11_back_21 : decode cX11_back 21 = .ok (.aload_n 0, 1) := by decide +kernel
theorem dX11_back_22 : decode cX11_back 22 = .ok (.getfield 26, 3) := by decide +kernel
theorem dX11_back_25 : decode cX11_back 25 = .ok (.iconst 0, 1) := by decide +kernel
theorem dX11_back_26 : decode cX11_back 26 = .ok (.putfield 77, 3) := by decide +kernel
theorem dX11_back_29 : decode cX11_back 29 = .ok (.aload_n 0, 1) := by decide +kernel
theorem dX11_back_30 : decode cX11_back 30 = .ok (.getfield 12, 3) := by decide +kernel
theorem dX11_back_33 : decode cX11_back 33 = .ok (.getfield 106, 3) := by decide +kernel
theorem dX11_back_36 : decode cX11_back 36 = .ok (.ireturn, 1) := by decide +kernel
theorem dX11_count_0 : decode cX11_count 0 = .ok (.iload_n 1, 1) := by decide +kernel
theorem dX11_count_1 : decode cX11_count 1 = .ok (.tableswitch 107 0 6 #[43, 51, 59, 67, 75, 83, 88], 43) := by decide +kernel
theorem dX11_count_44 : decode cX11_count 44 = .ok (.aload_n 0, 1) := by decide +kernel
theorem dX11_count_45 : decode cX11_count 45 = .ok (.getfield 12, 3) := by decide +kernel
theorem dX11_count_48 : decode cX11_count 48 = .ok (.getfield 106, 3) := by decide +kernel
theorem dX11_count_51 : decode cX11_count 51 = .ok (.ireturn, 1) := by decide +kernel
theorem dX11_count_52 : decode cX11_count 52 = .ok (.aload_n 0, 1) := by decide +kernel
theorem dX11_count_53 : decode cX11_count 53 = .ok (.getfield 12, 3) := by decide +kernel
theorem dX11_count_56 : decode cX11_count 56 = .ok (.getfield 301, 3) := by decide +kernel
theorem dX11_count_59 : decode cX11_count 59 = .ok (.ireturn, 1) := by decide +kernel
theorem dX11_count_60 : decode cX11_count 60 = .ok (.aload_n 0, 1) := by decide +kernel
theorem dX11_count_61 : decode cX11_count 61 = .ok (.getfield 12, 3) := by decide +kernel
theorem dX11_count_64 : decode cX11_count 64 = .ok (.getfield 313, 3) := by decide +kernel
theorem dX11_count_67 : decode cX11_count 67 = .ok (.ireturn, 1) := by decide +kernel
theorem dX11_count_68 : decode cX11_count 68 = .ok (.aload_n 0, 1) := by decide +kernel
theorem dX11_count_69 : decode cX11_count 69 = .ok (.getfield 12, 3) := by decide +kernel
theorem dX11_count_72 : decode cX11_count 72 = .ok (.getfield 84, 3) := by decide +kernel
theorem dX11_count_75 : decode cX11_count 75 = .ok (.ireturn, 1) := by decide +kernel
theorem dX11_count_76 : decode cX11_count 76 = .ok (.aload_n 0, 1) := by decide +kernel
theorem dX11_count_77 : decode cX11_count 77 = .ok (.getfield 12, 3) := by decide +kernel
theorem dX11_count_80 : decode cX11_count 80 = .ok (.getfield 199, 3) := by decide +kernel
theorem dX11_count_83 : decode cX11_count 83 = .ok (.ireturn, 1) := by decide +kernel
theorem dX11_count_84 : decode cX11_count 84 = .ok (.aload_n 0, 1) := by decide +kernel
theorem dX11_count_85 : decode cX11_count 85 = .ok (.getfield 43, 3) := by decide +kernel
theorem dX11_count_88 : decode cX11_count 88 = .ok (.ireturn, 1) := by decide +kernel
theorem dX11_count_89 : decode cX11_count 89 = .ok (.aload_n 0, 1) := by decide +kernel
theorem dX11_count_90 : decode cX11_count 90 = .ok (.getfield 12, 3) := by decide +kernel
theorem dX11_count_93 : decode cX11_count 93 = .ok (.invokevirtual 98, 3) := by decide +kernel
theorem dX11_count_96 : decode cX11_count 96 = .ok (.ifCond .eq 10, 3) := by decide +kernel
theorem dX11_count_99 : decode cX11_count 99 = .ok (.aload_n 0, 1) := by decide +kernel
theorem dX11_count_100 : decode cX11_count 100 = .ok (.invokevirtual 387, 3) := by decide +kernel
theorem dX11_count_103 : decode cX11_count 103 = .ok (.goto 4, 3) := by decide +kernel
theorem dX11_count_106 : decode cX11_count 106 = .ok (.iconst 0, 1) := by decide +kernel
theorem dX11_count_107 : decode cX11_count 107 = .ok (.ireturn, 1) := by decide +kernel
theorem dX11_count_108 : decode cX11_count 108 = .ok (.bipush (-2), 2) := by decide +kernel
theorem dX11_count_110 : decode cX11_count 110 = .ok (.ireturn, 1) := by decide +kernel
theorem dX11_woodWithFault_0 : decode cX11_woodWithFault 0 = .ok (.aload_n 0, 1) := by decide +kernel
theorem dX11_woodWithFault_1 : decode cX11_woodWithFault 1 = .ok (.invokevirtual 208, 3) := by decide +kernel
theorem dX11_woodWithFault_4 : decode cX11_woodWithFault 4 = .ok (.astore_n 1, 1) := by decide +kernel
theorem dX11_woodWithFault_5 : decode cX11_woodWithFault 5 = .ok (.iconst 0, 1) := by decide +kernel
theorem dX11_woodWithFault_6 : decode cX11_woodWithFault 6 = .ok (.istore_n 2, 1) := by decide +kernel
theorem dX11_woodWithFault_7 : decode cX11_woodWithFault 7 = .ok (.iconst 0, 1) := by decide +kernel
theorem dX11_woodWithFault_8 : decode cX11_woodWithFault 8 = .ok (.istore_n 3, 1) := by decide +kernel
theorem dX11_woodWithFault_9 : decode cX11_woodWithFault 9 = .ok (.iload_n 3, 1) := by decide +kernel
theorem dX11_woodWithFault_10 : decode cX11_woodWithFault 10 = .ok (.aload_n 0, 1) := by decide +kernel
theorem dX11_woodWithFault_11 : decode cX11_woodWithFault 11 = .ok (.getfield 12, 3) := by decide +kernel
theorem dX11_woodWithFault_14 : decode cX11_woodWithFault 14 = .ok (.getfield 84, 3) := by decide +kernel
theorem dX11_woodWithFault_17 : decode cX11_woodWithFault 17 = .ok (.if_icmp .ge 70, 3) := by decide +kernel
theorem dX11_woodWithFault_20 : decode cX11_woodWithFault 20 = .ok (.iconst 0, 1) := by decide +kernel
theorem dX11_woodWithFault_21 : decode cX11_woodWithFault 21 = .ok (.istore 4, 2) := by decide +kernel
theorem dX11_woodWithFault_23 : decode cX11_woodWithFault 23 = .ok (.iload 4, 2) := by decide +kernel
theorem dX11_woodWithFault_25 : decode cX11_woodWithFault 25 = .ok (.sipush 144, 3) := by decide +kernel
theorem dX11_woodWithFault_28 : decode cX11_woodWithFault 28 = .ok (.if_icmp .ge 53, 3) := by decide +kernel
theorem dX11_woodWithFault_31 : decode cX11_woodWithFault 31 = .ok (.iload 4, 2) := by decide +kernel
theorem dX11_woodWithFault_33 : decode cX11_woodWithFault 33 = .ok (.bipush 12, 2) := by decide +kernel
theorem dX11_woodWithFault_35 : decode cX11_woodWithFault 35 = .ok (.irem, 1) := by decide +kernel
theorem dX11_woodWithFault_36 : decode cX11_woodWithFault 36 = .ok (.istore 5, 2) := by decide +kernel
theorem dX11_woodWithFault_38 : decode cX11_woodWithFault 38 = .ok (.iload 4, 2) := by decide +kernel
theorem dX11_woodWithFault_40 : decode cX11_woodWithFault 40 = .ok (.bipush 12, 2) := by decide +kernel
theorem dX11_woodWithFault_42 : decode cX11_woodWithFault 42 = .ok (.idiv, 1) := by decide +kernel
theorem dX11_woodWithFault_43 : decode cX11_woodWithFault 43 = .ok (.istore 6, 2) := by decide +kernel
theorem dX11_woodWithFault_45 : decode cX11_woodWithFault 45 = .ok (.aload_n 1, 1) := by decide +kernel
theorem dX11_woodWithFault_46 : decode cX11_woodWithFault 46 = .ok (.iload 5, 2) := by decide +kernel
theorem dX11_woodWithFault_48 : decode cX11_woodWithFault 48 = .ok (.iload 6, 2) := by decide +kernel
theorem dX11_woodWithFault_50 : decode cX11_woodWithFault 50 = .ok (.iload_n 3, 1) := by decide +kernel
theorem dX11_woodWithFault_51 : decode cX11_woodWithFault 51 = .ok (.invokevirtual 212, 3) := by decide +kernel
theorem dX11_woodWithFault_54 : decode cX11_woodWithFault 54 = .ok (.ifCond .le 21, 3) := by decide +kernel
theorem dX11_woodWithFault_57 : decode cX11_woodWithFault 57 = .ok (.aload_n 0, 1) := by decide +kernel
theorem dX11_woodWithFault_58 : decode cX11_woodWithFault 58 = .ok (.getfield 12, 3) := by decide +kernel
theorem dX11_woodWithFault_61 : decode cX11_woodWithFault 61 = .ok (.iload 5, 2) := by decide +kernel
theorem dX11_woodWithFault_63 : decode cX11_woodWithFault 63 = .ok (.iload 6, 2) := by decide +kernel
theorem dX11_woodWithFault_65 : decode cX11_woodWithFault 65 = .ok (.iload_n 3, 1) := by decide +kernel
theorem dX11_woodWithFault_66 : decode cX11_woodWithFault 66 = .ok (.invokevirtual 87, 3) := by decide +kernel
theorem dX11_woodWithFault_69 : decode cX11_woodWithFault 69 = .ok (.ifCond .eq 6, 3) := by decide +kernel
theorem dX11_woodWithFault_72 : decode cX11_woodWithFault 72 = .ok (.iinc 2 1, 3) := by decide +kernel
theorem dX11_woodWithFault_75 : decode cX11_woodWithFault 75 = .ok (.iinc 4 1, 3) := by decide +kernel
theorem dX11_woodWithFault_78 : decode cX11_woodWithFault 78 = .ok (.goto (-55), 3) := by decide +kernel
theorem dX11_woodWithFault_81 : decode cX11_woodWithFault 81 = .ok (.iinc 3 1, 3) := by decide +kernel
theorem dX11_woodWithFault_84 : decode cX11_woodWithFault 84 = .ok (.goto (-75), 3) := by decide +kernel
theorem dX11_woodWithFault_87 : decode cX11_woodWithFault 87 = .ok (.iload_n 2, 1) := by decide +kernel
theorem dX11_woodWithFault_88 : decode cX11_woodWithFault 88 = .ok (.ireturn, 1) := by decide +kernel
theorem dX11_sheet_0 : decode cX11_sheet 0 = .ok (.iload_n 1, 1) := by decide +kernel
theorem dX11_sheet_1 : decode cX11_sheet 1 = .ok (.invokestatic 365, 3) := by decide +kernel
theorem dX11_sheet_4 : decode cX11_sheet 4 = .ok (.ifCond .eq 12, 3) := by decide +kernel
theorem dX11_sheet_7 : decode cX11_sheet 7 = .ok (.iload_n 2, 1) := by decide +kernel
theorem dX11_sheet_8 : decode cX11_sheet 8 = .ok (.iconst (-1), 1) := by decide +kernel
theorem dX11_sheet_9 : decode cX11_sheet 9 = .ok (.iconst 1, 1) := by decide +kernel
theorem dX11_sheet_10 : decode cX11_sheet 10 = .ok (.invokestatic 69, 3) := by decide +kernel
theorem dX11_sheet_13 : decode cX11_sheet 13 = .ok (.ifCond .ne 6, 3) := by decide +kernel
theorem dX11_sheet_16 : decode cX11_sheet 16 = .ok (.bipush (-2), 2) := by decide +kernel
theorem dX11_sheet_18 : decode cX11_sheet 18 = .ok (.ireturn, 1) := by decide +kernel
theorem dX11_sheet_19 : decode cX11_sheet 19 = .ok (.iload_n 2, 1) := by decide +kernel
theorem dX11_sheet_20 : decode cX11_sheet 20 = .ok (.iconst (-1), 1) := by decide +kernel
theorem dX11_sheet_21 : decode cX11_sheet 21 = .ok (.if_icmp .ne 12, 3) := by decide +kernel
theorem dX11_sheet_24 : decode cX11_sheet 24 = .ok (.aload_n 0, 1) := by decide +kernel
theorem dX11_sheet_25 : decode cX11_sheet 25 = .ok (.getfield 47, 3) := by decide +kernel
theorem dX11_sheet_28 : decode cX11_sheet 28 = .ok (.iload_n 1, 1) := by decide +kernel
theorem dX11_sheet_29 : decode cX11_sheet 29 = .ok (.iconst (-1), 1) := by decide +kernel
theorem dX11_sheet_30 : decode cX11_sheet 30 = .ok (.iastore, 1) := by decide +kernel
theorem dX11_sheet_31 : decode cX11_sheet 31 = .ok (.iconst 1, 1) := by decide +kernel
theorem dX11_sheet_32 : decode cX11_sheet 32 = .ok (.ireturn, 1) := by decide +kernel
theorem dX11_sheet_33 : decode cX11_sheet 33 = .ok (.iload_n 3, 1) := by decide +kernel
theorem dX11_sheet_34 : decode cX11_sheet 34 = .ok (.bipush 40, 2) := by decide +kernel
theorem dX11_sheet_36 : decode cX11_sheet 36 = .ok (.if_icmp .le 6, 3) := by decide +kernel
theorem dX11_sheet_39 : decode cX11_sheet 39 = .ok (.bipush (-2), 2) := by decide +kernel
theorem dX11_sheet_41 : decode cX11_sheet 41 = .ok (.ireturn, 1) := by decide +kernel
theorem dX11_sheet_42 : decode cX11_sheet 42 = .ok (.iload_n 3, 1) := by decide +kernel
theorem dX11_sheet_43 : decode cX11_sheet 43 = .ok (.ifCond .ge 6, 3) := by decide +kernel
theorem dX11_sheet_46 : decode cX11_sheet 46 = .ok (.bipush (-14), 2) := by decide +kernel
theorem dX11_sheet_48 : decode cX11_sheet 48 = .ok (.ireturn, 1) := by decide +kernel
theorem dX11_sheet_49 : decode cX11_sheet 49 = .ok (.aload_n 0, 1) := by decide +kernel
theorem dX11_sheet_50 : decode cX11_sheet 50 = .ok (.getfield 47, 3) := by decide +kernel
theorem dX11_sheet_53 : decode cX11_sheet 53 = .ok (.iload_n 1, 1) := by decide +kernel
theorem dX11_sheet_54 : decode cX11_sheet 54 = .ok (.iload_n 2, 1) := by decide +kernel
theorem dX11_sheet_55 : decode cX11_sheet 55 = .ok (.iastore, 1) := by decide +kernel
theorem dX11_sheet_56 : decode cX11_sheet 56 = .ok (.aload_n 0, 1) := by decide +kernel
theorem dX11_sheet_57 : decode cX11_sheet 57 = .ok (.getfield 50, 3) := by decide +kernel
theorem dX11_sheet_60 : decode cX11_sheet 60 = .ok (.iload_n 1, 1) := by decide +kernel
theorem dX11_sheet_61 : decode cX11_sheet 61 = .ok (.iload_n 3, 1) := by decide +kernel
theorem dX11_sheet_62 : decode cX11_sheet 62 = .ok (.iastore, 1) := by decide +kernel
theorem dX11_sheet_63 : decode cX11_sheet 63 = .ok (.iconst 0, 1) := by decide +kernel
theorem dX11_sheet_64 : decode cX11_sheet 64 = .ok (.istore 4, 2) := by decide +kernel
theorem dX11_sheet_66 : decode cX11_sheet 66 = .ok (.iload 4, 2) := by decide +kernel
theorem dX11_sheet_68 : decode cX11_sheet 68 = .ok (.iload_n 3, 1) := by decide +kernel
theorem dX11_sheet_69 : decode cX11_sheet 69 = .ok (.if_icmp .ge 22, 3) := by decide +kernel
theorem dX11_sheet_72 : decode cX11_sheet 72 = .ok (.aload_n 0, 1) := by decide +kernel
theorem dX11_sheet_73 : decode cX11_sheet 73 = .ok (.getfield 53, 3) := by decide +kernel
theorem dX11_sheet_76 : decode cX11_sheet 76 = .ok (.bipush 40, 2) := by decide +kernel
theorem dX11_sheet_78 : decode cX11_sheet 78 = .ok (.iload_n 1, 1) := by decide +kernel
theorem dX11_sheet_79 : decode cX11_sheet 79 = .ok (.imul, 1) := by decide +kernel
theorem dX11_sheet_80 : decode cX11_sheet 80 = .ok (.iload 4, 2) := by decide +kernel
theorem dX11_sheet_82 : decode cX11_sheet 82 = .ok (.iadd, 1) := by decide +kernel
theorem dX11_sheet_83 : decode cX11_sheet 83 = .ok (.lconst 0, 1) := by decide +kernel
theorem dX11_sheet_84 : decode cX11_sheet 84 = .ok (.lastore, 1) := by decide +kernel
theorem dX11_sheet_85 : decode cX11_sheet 85 = .ok (.iinc 4 1, 3) := by decide +kernel
theorem dX11_sheet_88 : decode cX11_sheet 88 = .ok (.goto (-22), 3) := by decide +kernel
theorem dX11_sheet_91 : decode cX11_sheet 91 = .ok (.iconst 1, 1) := by decide +kernel
theorem dX11_sheet_92 : decode cX11_sheet 92 = .ok (.ireturn, 1) := by decide +kernel
theorem dX11_isSheet_0 : decode cX11_isSheet 0 = .ok (.iload_n 0, 1) := by decide +kernel
theorem dX11_isSheet_1 : decode cX11_isSheet 1 = .ok (.iconst 0, 1) := by decide +kernel
theorem dX11_isSheet_2 : decode cX11_isSheet 2 = .ok (.iconst 3, 1) := by decide +kernel
theorem dX11_isSheet_3 : decode cX11_isSheet 3 = .ok (.invokestatic 69, 3) := by decide +kernel
theorem dX11_isSheet_6 : decode cX11_isSheet 6 = .ok (.ireturn, 1) := by decide +kernel
theorem dX11_put_0 : decode cX11_put 0 = .ok (.iload_n 1, 1) := by decide +kernel
theorem dX11_put_1 : decode cX11_put 1 = .ok (.invokestatic 365, 3) := by decide +kernel
theorem dX11_put_4 : decode cX11_put 4 = .ok (.ifCond .ne 6, 3) := by decide +kernel
theorem dX11_put_7 : decode cX11_put 7 = .ok (.bipush (-2), 2) := by decide +kernel
theorem dX11_put_9 : decode cX11_put 9 = .ok (.ireturn, 1) := by decide +kernel
theorem dX11_put_10 : decode cX11_put 10 = .ok (.aload_n 0, 1) := by decide +kernel
theorem dX11_put_11 : decode cX11_put 11 = .ok (.getfield 47, 3) := by decide +kernel
theorem dX11_put_14 : decode cX11_put 14 = .ok (.iload_n 1, 1) := by decide +kernel
theorem dX11_put_15 : decode cX11_put 15 = .ok (.iaload, 1) := by decide +kernel
theorem dX11_put_16 : decode cX11_put 16 = .ok (.iconst (-1), 1) := by decide +kernel
theorem dX11_put_17 : decode cX11_put 17 = .ok (.if_icmp .ne 6, 3) := by decide +kernel
theorem dX11_put_20 : decode cX11_put 20 = .ok (.bipush (-11), 2) := by decide +kernel
theorem dX11_put_22 : decode cX11_put 22 = .ok (.ireturn, 1) := by decide +kernel
theorem dX11_put_23 : decode cX11_put 23 = .ok (.iload_n 2, 1) := by decide +kernel
theorem dX11_put_24 : decode cX11_put 24 = .ok (.iconst 0, 1) := by decide +kernel
theorem dX11_put_25 : decode cX11_put 25 = .ok (.aload_n 0, 1) := by decide +kernel
theorem dX11_put_26 : decode cX11_put 26 = .ok (.getfield 50, 3) := by decide +kernel
theorem dX11_put_29 : decode cX11_put 29 = .ok (.iload_n 1, 1) := by decide +kernel
theorem dX11_put_30 : decode cX11_put 30 = .ok (.iaload, 1) := by decide +kernel
theorem dX11_put_31 : decode cX11_put 31 = .ok (.iconst 1, 1) := by decide +kernel
theorem dX11_put_32 : decode cX11_put 32 = .ok (.isub, 1) := by decide +kernel
theorem dX11_put_33 : decode cX11_put 33 = .ok (.invokestatic 69, 3) := by decide +kernel
theorem dX11_put_36 : decode cX11_put 36 = .ok (.ifCond .ne 6, 3) := by decide +kernel
theorem dX11_put_39 : decode cX11_put 39 = .ok (.bipush (-12), 2) := by decide +kernel
theorem dX11_put_41 : decode cX11_put 41 = .ok (.ireturn, 1) := by decide +kernel
theorem dX11_put_42 : decode cX11_put 42 = .ok (.aload_n 0, 1) := by decide +kernel
theorem dX11_put_43 : decode cX11_put 43 = .ok (.getfield 53, 3) := by decide +kernel
theorem dX11_put_46 : decode cX11_put 46 = .ok (.bipush 40, 2) := by decide +kernel
theorem dX11_put_48 : decode cX11_put 48 = .ok (.iload_n 1, 1) := by decide +kernel
theorem dX11_put_49 : decode cX11_put 49 = .ok (.imul, 1) := by decide +kernel
theorem dX11_put_50 : decode cX11_put 50 = .ok (.iload_n 2, 1) := by decide +kernel
theorem dX11_put_51 : decode cX11_put 51 = .ok (.iadd, 1) := by decide +kernel
theorem dX11_put_52 : decode cX11_put 52 = .ok (.aload_n 0, 1) := by decide +kernel
theorem dX11_put_53 : decode cX11_put 53 = .ok (.getfield 47, 3) := by decide +kernel
theorem dX11_put_56 : decode cX11_put 56 = .ok (.iload_n 1, 1) := by decide +kernel
theorem dX11_put_57 : decode cX11_put 57 = .ok (.iaload, 1) := by decide +kernel
theorem dX11_put_58 : decode cX11_put 58 = .ok (.ifCond .ne 7, 3) := by decide +kernel
theorem dX11_put_61 : decode cX11_put 61 = .ok (.lload_n 3, 1) := by decide +kernel
theorem dX11_put_62 : decode cX11_put 62 = .ok (.goto 6, 3) := by decide +kernel
theorem dX11_put_65 : decode cX11_put 65 = .ok (.lload_n 3, 1) := by decide +kernel
theorem dX11_put_66 : decode cX11_put 66 = .ok (.l2i, 1) := by decide +kernel
theorem dX11_put_67 : decode cX11_put 67 = .ok (.i2l, 1) := by decide +kernel
theorem dX11_put_68 : decode cX11_put 68 = .ok (.lastore, 1) := by decide +kernel
theorem dX11_put_69 : decode cX11_put 69 = .ok (.iconst 1, 1) := by decide +kernel
theorem dX11_put_70 : decode cX11_put 70 = .ok (.ireturn, 1) := by decide +kernel
theorem dX11_copy_0 : decode cX11_copy 0 = .ok (.iload_n 1, 1) := by decide +kernel
theorem dX11_copy_1 : decode cX11_copy 1 = .ok (.invokestatic 365, 3) := by decide +kernel
theorem dX11_copy_4 : decode cX11_copy 4 = .ok (.ifCond .eq 10, 3) := by decide +kernel
theorem dX11_copy_7 : decode cX11_copy 7 = .ok (.iload_n 3, 1) := by decide +kernel
theorem dX11_copy_8 : decode cX11_copy 8 = .ok (.invokestatic 365, 3) := by decide +kernel
theorem dX11_copy_11 : decode cX11_copy 11 = .ok (.ifCond .ne 6, 3) := by decide +kernel
theorem dX11_copy_14 : decode cX11_copy 14 = .ok (.bipush (-2), 2) := by decide +kernel
theorem dX11_copy_16 : decode cX11_copy 16 = .ok (.ireturn, 1) := by decide +kernel
theorem dX11_copy_17 : decode cX11_copy 17 = .ok (.aload_n 0, 1) := by decide +kernel
theorem dX11_copy_18 : decode cX11_copy 18 = .ok (.getfield 47, 3) := by decide +kernel
theorem dX11_copy_21 : decode cX11_copy 21 = .ok (.iload_n 1, 1) := by decide +kernel
theorem dX11_copy_22 : decode cX11_copy 22 = .ok (.iaload, 1) := by decide +kernel
theorem dX11_copy_23 : decode cX11_copy 23 = .ok (.iconst (-1), 1) := by decide +kernel
theorem dX11_copy_24 : decode cX11_copy 24 = .ok (.if_icmp .eq 13, 3) := by decide +kernel
theorem dX11_copy_27 : decode cX11_copy 27 = .ok (.aload_n 0, 1) := by decide +kernel
theorem dX11_copy_28 : decode cX11_copy 28 = .ok (.getfield 47, 3) := by decide +kernel
theorem dX11_copy_31 : decode cX11_copy 31 = .ok (.iload_n 3, 1) := by decide +kernel
theorem dX11_copy_32 : decode cX11_copy 32 = .ok (.iaload, 1) := by decide +kernel
theorem dX11_copy_33 : decode cX11_copy 33 = .ok (.iconst (-1), 1) := by decide +kernel
theorem dX11_copy_34 : decode cX11_copy 34 = .ok (.if_icmp .ne 6, 3) := by decide +kernel
theorem dX11_copy_37 : decode cX11_copy 37 = .ok (.bipush (-11), 2) := by decide +kernel
theorem dX11_copy_39 : decode cX11_copy 39 = .ok (.ireturn, 1) := by decide +kernel
theorem dX11_copy_40 : decode cX11_copy 40 = .ok (.aload_n 0, 1) := by decide +kernel
theorem dX11_copy_41 : decode cX11_copy 41 = .ok (.getfield 47, 3) := by decide +kernel
theorem dX11_copy_44 : decode cX11_copy 44 = .ok (.iload_n 1, 1) := by decide +kernel
theorem dX11_copy_45 : decode cX11_copy 45 = .ok (.iaload, 1) := by decide +kernel
theorem dX11_copy_46 : decode cX11_copy 46 = .ok (.aload_n 0, 1) := by decide +kernel
theorem dX11_copy_47 : decode cX11_copy 47 = .ok (.getfield 47, 3) := by decide +kernel
theorem dX11_copy_50 : decode cX11_copy 50 = .ok (.iload_n 3, 1) := by decide +kernel
theorem dX11_copy_51 : decode cX11_copy 51 = .ok (.iaload, 1) := by decide +kernel
theorem dX11_copy_52 : decode cX11_copy 52 = .ok (.if_icmp .eq 6, 3) := by decide +kernel
theorem dX11_copy_55 : decode cX11_copy 55 = .ok (.bipush (-13), 2) := by decide +kernel
theorem dX11_copy_57 : decode cX11_copy 57 = .ok (.ireturn, 1) := by decide +kernel
theorem dX11_copy_58 : decode cX11_copy 58 = .ok (.aload_n 0, 1) := by decide +kernel
theorem dX11_copy_59 : decode cX11_copy 59 = .ok (.iload_n 1, 1) := by decide +kernel
theorem dX11_copy_60 : decode cX11_copy 60 = .ok (.iload_n 2, 1) := by decide +kernel
theorem dX11_copy_61 : decode cX11_copy 61 = .ok (.iload 5, 2) := by decide +kernel
theorem dX11_copy_63 : decode cX11_copy 63 = .ok (.invokevirtual 390, 3) := by decide +kernel
theorem dX11_copy_66 : decode cX11_copy 66 = .ok (.ifCond .eq 15, 3) := by decide +kernel
theorem dX11_copy_69 : decode cX11_copy 69 = .ok (.aload_n 0, 1) := by decide +kernel
theorem dX11_copy_70 : decode cX11_copy 70 = .ok (.iload_n 3, 1) := by decide +kernel
theorem dX11_copy_71 : decode cX11_copy 71 = .ok (.iload 4, 2) := by decide +kernel
theorem dX11_copy_73 : decode cX11_copy 73 = .ok (.iload 5, 2) := by decide +kernel
theorem dX11_copy_75 : decode cX11_copy 75 = .ok (.invokevirtual 390, 3) := by decide +kernel
theorem dX11_copy_78 : decode cX11_copy 78 = .ok (.ifCond .ne 6, 3) := by decide +kernel
theorem dX11_copy_81 : decode cX11_copy 81 = .ok (.bipush (-12), 2) := by decide +kernel
theorem dX11_copy_83 : decode cX11_copy 83 = .ok (.ireturn, 1) := by decide +kernel
theorem dX11_copy_84 : decode cX11_copy 84 = .ok (.aload_n 0, 1) := by decide +kernel
theorem dX11_copy_85 : decode cX11_copy 85 = .ok (.getfield 53, 3) := by decide +kernel
theorem dX11_copy_88 : decode cX11_copy 88 = .ok (.bipush 40, 2) := by decide +kernel
theorem dX11_copy_90 : decode cX11_copy 90 = .ok (.iload_n 1, 1) := by decide +kernel
theorem dX11_copy_91 : decode cX11_copy 91 = .ok (.imul, 1) := by decide +kernel
theorem dX11_copy_92 : decode cX11_copy 92 = .ok (.iload_n 2, 1) := by decide +kernel
theorem dX11_copy_93 : decode cX11_copy 93 = .ok (.iadd, 1) := by decide +kernel
theorem dX11_copy_94 : decode cX11_copy 94 = .ok (.aload_n 0, 1) := by decide +kernel
theorem dX11_copy_95 : decode cX11_copy 95 = .ok (.getfield 53, 3) := by decide +kernel
theorem dX11_copy_98 : decode cX11_copy 98 = .ok (.bipush 40, 2) := by decide +kernel
theorem dX11_copy_100 : decode cX11_copy 100 = .ok (.iload_n 3, 1) := by decide +kernel
theorem dX11_copy_101 : decode cX11_copy 101 = .ok (.imul, 1) := by decide +kernel
theorem dX11_copy_102 : decode cX11_copy 102 = .ok (.iload 4, 2) := by decide +kernel
theorem dX11_copy_104 : decode cX11_copy 104 = .ok (.iadd, 1) := by decide +kernel
theorem dX11_copy_105 : decode cX11_copy 105 = .ok (.iload 5, 2) := by decide +kernel
theorem dX11_copy_107 : decode cX11_copy 107 = .ok (.invokestatic 393, 3) := by decide +kernel
theorem dX11_copy_110 : decode cX11_copy 110 = .ok (.iload 5, 2) := by decide +kernel
theorem dX11_copy_112 : decode cX11_copy 112 = .ok (.ireturn, 1) := by decide +kernel
theorem dX11_hasItems_0 : decode cX11_hasItems 0 = .ok (.iload_n 3, 1) := by decide +kernel
theorem dX11_hasItems_1 : decode cX11_hasItems 1 = .ok (.iconst 0, 1) := by decide +kernel
theorem dX11_hasItems_2 : decode cX11_hasItems 2 = .ok (.aload_n 0, 1) := by decide +kernel
theorem dX11_hasItems_3 : decode cX11_hasItems 3 = .ok (.getfield 50, 3) := by decide +kernel
theorem dX11_hasItems_6 : decode cX11_hasItems 6 = .ok (.iload_n 1, 1) := by decide +kernel
theorem dX11_hasItems_7 : decode cX11_hasItems 7 = .ok (.iaload, 1) := by decide +kernel
theorem dX11_hasItems_8 : decode cX11_hasItems 8 = .ok (.invokestatic 69, 3) := by decide +kernel
theorem dX11_hasItems_11 : decode cX11_hasItems 11 = .ok (.ifCond .eq 23, 3) := by decide +kernel
theorem dX11_hasItems_14 : decode cX11_hasItems 14 = .ok (.iload_n 2, 1) := by decide +kernel
theorem dX11_hasItems_15 : decode cX11_hasItems 15 = .ok (.iconst 0, 1) := by decide +kernel
theorem dX11_hasItems_16 : decode cX11_hasItems 16 = .ok (.aload_n 0, 1) := by decide +kernel
theorem dX11_hasItems_17 : decode cX11_hasItems 17 = .ok (.getfield 50, 3) := by decide +kernel
theorem dX11_hasItems_20 : decode cX11_hasItems 20 = .ok (.iload_n 1, 1) := by decide +kernel
theorem dX11_hasItems_21 : decode cX11_hasItems 21 = .ok (.iaload, 1) := by decide +kernel
theorem dX11_hasItems_22 : decode cX11_hasItems 22 = .ok (.iload_n 3, 1) := by decide +kernel
theorem dX11_hasItems_23 : decode cX11_hasItems 23 = .ok (.isub, 1) := by decide +kernel
theorem dX11_hasItems_24 : decode cX11_hasItems 24 = .ok (.invokestatic 69, 3) := by decide +kernel
theorem dX11_hasItems_27 : decode cX11_hasItems 27 = .ok (.ifCond .eq 7, 3) := by decide +kernel
theorem dX11_hasItems_30 : decode cX11_hasItems 30 = .ok (.iconst 1, 1) := by decide +kernel
theorem dX11_hasItems_31 : decode cX11_hasItems 31 = .ok (.goto 4, 3) := by decide +kernel
theorem dX11_hasItems_34 : decode cX11_hasItems 34 = .ok (.iconst 0, 1) := by decide +kernel
theorem dX11_hasItems_35 : decode cX11_hasItems 35 = .ok (.ireturn, 1) := by decide +kernel
theorem dX12_init_0 : decode cX12_init 0 = .ok (.aload_n 0, 1) := by decide +kernel
theorem dX12_init_1 : decode cX12_init 1 = .ok (.invokespecial 1, 3) := by decide +kernel
theorem dX12_init_4 : decode cX12_init 4 = .ok (.aload_n 0, 1) := by decide +kernel
theorem dX12_init_5 : decode cX12_init 5 = .ok (.bipush 32, 2) := by decide +kernel
theorem dX12_init_7 : decode cX12_init 7 = .ok (.newarray .int, 2) := by decide +kernel
theorem dX12_init_9 : decode cX12_init 9 = .ok (.putfield 9, 3) := by decide +kernel
theorem dX12_init_12 : decode cX12_init 12 = .ok (.aload_n 0, 1) := by decide +kernel
theorem dX12_init_13 : decode cX12_init 13 = .ok (.bipush 7, 2) := by decide +kernel
theorem dX12_init_15 : decode cX12_init 15 = .ok (.newarray .int, 2) := by decide +kernel
theorem dX12_init_17 : decode cX12_init 17 = .ok (.dup, 1) := by decide +kernel
theorem dX12_init_18 : decode cX12_init 18 = .ok (.iconst 0, 1) := by decide +kernel
theorem dX12_init_19 : decode cX12_init 19 = .ok (.iconst 1, 1) := by decide +kernel
theorem dX12_init_20 : decode cX12_init 20 = .ok (.iastore, 1) := by decide +kernel
theorem dX12_init_21 : decode cX12_init 21 = .ok (.dup, 1) := by decide +kernel
theorem dX12_init_22 : decode cX12_init 22 = .ok (.iconst 1, 1) := by decide +kernel
theorem dX12_init_23 : decode cX12_init 23 = .ok (.iconst 1, 1) := by decide +kernel
theorem dX12_init_24 : decode cX12_init 24 = .ok (.iastore, 1) := by decide +kernel
theorem dX12_init_25 : decode cX12_init 25 = .ok (.dup, 1) := by decide +kernel
theorem dX12_init_26 : decode cX12_init 26 = .ok (.iconst 2, 1) := by decide +kernel
theorem dX12_init_27 : decode cX12_init 27 = .ok (.bipush 9, 2) := by decide +kernel
theorem dX12_init_29 : decode cX12_init 29 = .ok (.iastore, 1) := by decide +kernel
theorem dX12_init_30 : decode cX12_init 30 = .ok (.dup, 1) := by decide +kernel
theorem dX12_init_31 : decode cX12_init 31 = .ok (.iconst 3, 1) := by decide +kernel
theorem dX12_init_32 : decode cX12_init 32 = .ok (.bipush 6, 2) := by decide +kernel
theorem dX12_init_34 : decode cX12_init 34 = .ok (.iastore, 1) := by decide +kernel
theorem dX12_init_35 : decode cX12_init 35 = .ok (.dup, 1) := by decide +kernel
theorem dX12_init_36 : decode cX12_init 36 = .ok (.iconst 4, 1) := by decide +kernel
theorem dX12_init_37 : decode cX12_init 37 = .ok (.iconst 3, 1) := by decide +kernel
theorem dX12_init_38 : decode cX12_init 38 = .ok (.iastore, 1) := by decide +kernel
theorem dX12_init_39 : decode cX12_init 39 = .ok (.dup, 1) := by decide +kernel
theorem dX12_init_40 : decode cX12_init 40 = .ok (.iconst 5, 1) := by decide +kernel
theorem dX12_init_41 : decode cX12_init 41 = .ok (.iconst 1, 1) := by decide +kernel
theorem dX12_init_42 : decode cX12_init 42 = .ok (.iastore, 1) := by decide +kernel
theorem dX12_init_43 : decode cX12_init 43 = .ok (.dup, 1) := by decide +kernel
theorem dX12_init_44 : decode cX12_init 44 = .ok (.bipush 6, 2) := by decide +kernel
theorem dX12_init_46 : decode cX12_init 46 = .ok (.bipush 12, 2) := by decide +kernel
theorem dX12_init_48 : decode cX12_init 48 = .ok (.iastore, 1) := by decide +kernel
theorem dX12_init_49 : decode cX12_init 49 = .ok (.putfield 13, 3) := by decide +kernel
theorem dX12_init_52 : decode cX12_init 52 = .ok (.aload_n 0, 1) := by decide +kernel
theorem dX12_init_53 : decode cX12_init 53 = .ok (.bipush 64, 2) := by decide +kernel
theorem dX12_init_55 : decode cX12_init 55 = .ok (.newarray .int, 2) := by decide +kernel
theorem dX12_init_57 : decode cX12_init 57 = .ok (.putfield 16, 3) := by decide +kernel
theorem dX12_init_60 : decode cX12_init 60 = .ok (.aload_n 0, 1) := by decide +kernel
theorem dX12_init_61 : decode cX12_init 61 = .ok (.bipush 24, 2) := by decide +kernel
theorem dX12_init_63 : decode cX12_init 63 = .ok (.newarray .int, 2) := by decide +kernel
theorem dX12_init_65 : decode cX12_init 65 = .ok (.putfield 19, 3) := by decide +kernel
theorem dX12_init_68 : decode cX12_init 68 = .ok (.aload_n 0, 1) := by decide +kernel
theorem dX12_init_69 : decode cX12_init 69 = .ok (.bipush 40, 2) := by decide +kernel
theorem dX12_init_71 : decode cX12_init 71 = .ok (.newarray .int, 2) := by decide +kernel
theorem dX12_init_73 : decode cX12_init 73 = .ok (.putfield 22, 3) := by decide +kernel
theorem dX12_init_76 : decode cX12_init 76 = .ok (.aload_n 0, 1) := by decide +kernel
theorem dX12_init_77 : decode cX12_init 77 = .ok (.sipush 180, 3) := by decide +kernel
theorem dX12_init_80 : decode cX12_init 80 = .ok (.newarray .int, 2) := by decide +kernel
theorem dX12_init_82 : decode cX12_init 82 = .ok (.putfield 25, 3) := by decide +kernel
theorem dX12_init_85 : decode cX12_init 85 = .ok (.aload_n 0, 1) := by decide +kernel
theorem dX12_init_86 : decode cX12_init 86 = .ok (.sipush 160, 3) := by decide +kernel
theorem dX12_init_89 : decode cX12_init 89 = .ok (.newarray .int, 2) := by decide +kernel
theorem dX12_init_91 : decode cX12_init 91 = .ok (.putfield 28, 3) := by decide +kernel
theorem dX12_init_94 : decode cX12_init 94 = .ok (.aload_n 0, 1) := by decide +kernel
theorem dX12_init_95 : decode cX12_init 95 = .ok (.sipush 1248, 3) := by decide +kernel
theorem dX12_init_98 : decode cX12_init 98 = .ok (.newarray .int, 2) := by decide +kernel
theorem dX12_init_100 : decode cX12_init 100 = .ok (.putfield 31, 3) := by decide +kernel
theorem dX12_init_103 : decode cX12_init 103 = .ok (.aload_n 0, 1) := by decide +kernel
theorem dX12_init_104 : decode cX12_init 104 = .ok (.sipush 1248, 3) := by decide +kernel
theorem dX12_init_107 : decode cX12_init 107 = .ok (.newarray .int, 2) := by decide +kernel
theorem dX12_init_109 : decode cX12_init 109 = .ok (.putfield 34, 3) := by decide +kernel
theorem dX12_init_112 : decode cX12_init 112 = .ok (.aload_n 0, 1) := by decide +kernel
theorem dX12_init_113 : decode cX12_init 113 = .ok (.bipush 19, 2) := by decide +kernel
theorem dX12_init_115 : decode cX12_init 115 = .ok (.newarray .int, 2) := by decide +kernel
theorem dX12_init_117 : decode cX12_init 117 = .ok (.putfield 37, 3) := by decide +kernel
theorem dX12_init_120 : decode cX12_init 120 = .ok (.aload_n 0, 1) := by decide +kernel
theorem dX12_init_121 : decode cX12_init 121 = .ok (.bipush 12, 2) := by decide +kernel
theorem dX12_init_123 : decode cX12_init 123 = .ok (.newarray .int, 2) := by decide +kernel
theorem dX12_init_125 : decode cX12_init 125 = .ok (.putfield 40, 3) := by decide +kernel
theorem dX12_init_128 : decode cX12_init 128 = .ok (.aload_n 0, 1) := by decide +kernel
theorem dX12_init_129 : decode cX12_init 129 = .ok (.bipush 12, 2) := by decide +kernel
theorem dX12_init_131 : decode cX12_init 131 = .ok (.newarray .int, 2) := by decide +kernel
theorem dX12_init_133 : decode cX12_init 133 = .ok (.putfield 43, 3) := by decide +kernel
theorem dX12_init_136 : decode cX12_init 136 = .ok (.aload_n 0, 1) := by decide +kernel
theorem dX12_init_137 : decode cX12_init 137 = .ok (.bipush 12, 2) := by decide +kernel
theorem dX12_init_139 : decode cX12_init 139 = .ok (.newarray .int, 2) := by decide +kernel
theorem dX12_init_141 : decode cX12_init 141 = .ok (.putfield 46, 3) := by decide +kernel
theorem dX12_init_144 : decode cX12_init 144 = .ok (.aload_n 0, 1) := by decide +kernel
theorem dX12_init_145 : decode cX12_init 145 = .ok (.bipush 16, 2) := by decide +kernel
theorem dX12_init_147 : decode cX12_init 147 = .ok (.newarray .int, 2) := by decide +kernel
theorem dX12_init_149 : decode cX12_init 149 = .ok (.putfield 49, 3) := by decide +kernel
theorem dX12_init_152 : decode cX12_init 152 = .ok (.aload_n 0, 1) := by decide +kernel
theorem dX12_init_153 : decode cX12_init 153 = .ok (.bipush 16, 2) := by decide +kernel
theorem dX12_init_155 : decode cX12_init 155 = .ok (.newarray .boolean, 2) := by decide +kernel
theorem dX12_init_157 : decode cX12_init 157 = .ok (.putfield 52, 3) := by decide +kernel
theorem dX12_init_160 : decode cX12_init 160 = .ok (.aload_n 0, 1) := by decide +kernel
theorem dX12_init_161 : decode cX12_init 161 = .ok (.bipush 32, 2) := by decide +kernel
theorem dX12_init_163 : decode cX12_init 163 = .ok (.newarray .int, 2) := by decide +kernel
theorem dX12_init_165 : decode cX12_init 165 = .ok (.putfield 56, 3) := by decide +kernel
theorem dX12_init_168 : decode cX12_init 168 = .ok (.aload_n 0, 1) := by decide +kernel
theorem dX12_init_169 : decode cX12_init 169 = .ok (.iconst 4, 1) := by decide +kernel
theorem dX12_init_170 : decode cX12_init 170 = .ok (.bipush 40, 2) := by decide +kernel
theorem dX12_init_172 : decode cX12_init 172 = .ok (.multianewarray 59 2, 4) := by decide +kernel
theorem dX12_init_176 : decode cX12_init 176 = .ok (.putfield 61, 3) := by decide +kernel
theorem dX12_init_179 : decode cX12_init 179 = .ok (.aload_n 0, 1) := by decide +kernel
theorem dX12_init_180 : decode cX12_init 180 = .ok (.iconst 4, 1) := by decide +kernel
theorem dX12_init_181 : decode cX12_init 181 = .ok (.newarray .int, 2) := by decide +kernel
theorem dX12_init_183 : decode cX12_init 183 = .ok (.dup, 1) := by decide +kernel
theorem dX12_init_184 : decode cX12_init 184 = .ok (.iconst 0, 1) := by decide +kernel
theorem dX12_init_185 : decode cX12_init 185 = .ok (.iconst (-1), 1) := by decide +kernel
theorem dX12_init_186 : decode cX12_init 186 = .ok (.iastore, 1) := by decide +kernel
theorem dX12_init_187 : decode cX12_init 187 = .ok (.dup, 1) := by decide +kernel
theorem dX12_init_188 : decode cX12_init 188 = .ok (.iconst 1, 1) := by decide +kernel
theorem dX12_init_189 : decode cX12_init 189 = .ok (.iconst (-1), 1) := by decide +kernel
theorem dX12_init_190 : decode cX12_init 190 = .ok (.iastore, 1) := by decide +kernel
theorem dX12_init_191 : decode cX12_init 191 = .ok (.dup, 1) := by decide +kernel
theorem dX12_init_192 : decode cX12_init 192 = .ok (.iconst 2, 1) := by decide +kernel
theorem dX12_init_193 : decode cX12_init 193 = .ok (.iconst (-1), 1) := by decide +kernel
theorem dX12_init_194 : decode cX12_init 194 = .ok (.iastore, 1) := by decide +kernel
theorem dX12_init_195 : decode cX12_init 195 = .ok (.dup, 1) := by decide +kernel
theorem dX12_init_196 : decode cX12_init 196 = .ok (.iconst 3, 1) := by decide +kernel
theorem dX12_init_197 : decode cX12_init 197 = .ok (.iconst (-1), 1) := by decide +kernel
theorem dX12_init_198 : decode cX12_init 198 = .ok (.iastore, 1) := by decide +kernel
theorem dX12_init_199 : decode cX12_init 199 = .ok (.putfield 64, 3) := by decide +kernel
theorem dX12_init_202 : decode cX12_init 202 = .ok (.aload_n 0, 1) := by decide +kernel
theorem dX12_init_203 : decode cX12_init 203 = .ok (.iconst 4, 1) := by decide +kernel
theorem dX12_init_204 : decode cX12_init 204 = .ok (.newarray .int, 2) := by decide +kernel
theorem dX12_init_206 : decode cX12_init 206 = .ok (.putfield 67, 3) := by decide +kernel
theorem dX12_init_209 : decode cX12_init 209 = .ok (.aload_n 0, 1) := by decide +kernel
theorem dX12_init_210 : decode cX12_init 210 = .ok (.bipush 40, 2) := by decide +kernel
theorem dX12_init_212 : decode cX12_init 212 = .ok (.newarray .long, 2) := by decide +kernel
theorem dX12_init_214 : decode cX12_init 214 = .ok (.putfield 70, 3) := by decide +kernel
theorem dX12_init_217 : decode cX12_init 217 = .ok (.return_, 1) := by decide +kernel
theorem dX12_in_0 : decode cX12_in 0 = .ok (.lload_n 0, 1) := by decide +kernel
theorem dX12_in_1 : decode cX12_in 1 = .ok (.lload_n 2, 1) := by decide +kernel
theorem dX12_in_2 : decode cX12_in 2 = .ok (.lcmp, 1) := by decide +kernel
theorem dX12_in_3 : decode cX12_in 3 = .ok (.ifCond .lt 14, 3) := by decide +kernel
theorem dX12_in_6 : decode cX12_in 6 = .ok (.lload_n 0, 1) := by decide +kernel
theorem dX12_in_7 : decode cX12_in 7 = .ok (.lload 4, 2) := by decide +kernel
theorem dX12_in_9 : decode cX12_in 9 = .ok (.lcmp, 1) := by decide +kernel
theorem dX12_in_10 : decode cX12_in 10 = .ok (.ifCond .gt 7, 3) := by decide +kernel
theorem dX12_in_13 : decode cX12_in 13 = .ok (.iconst 1, 1) := by decide +kernel
theorem dX12_in_14 : decode cX12_in 14 = .ok (.goto 4, 3) := by decide +kernel
theorem dX12_in_17 : decode cX12_in 17 = .ok (.iconst 0, 1) := by decide +kernel
theorem dX12_in_18 : decode cX12_in 18 = .ok (.ireturn, 1) := by decide +kernel
theorem dX12_passes_0 : decode cX12_passes 0 = .ok (.aload_n 0, 1) := by decide +kernel
theorem dX12_passes_1 : decode cX12_passes 1 = .ok (.getfield 74, 3) := by decide +kernel
theorem dX12_passes_4 : decode cX12_passes 4 = .ok (.ifCond .eq 7, 3) := by decide +kernel
theorem dX12_passes_7 : decode cX12_passes 7 = .ok (.iload_n 1, 1) := by decide +kernel
theorem dX12_passes_8 : decode cX12_passes 8 = .ok (.goto 12, 3) := by decide +kernel
theorem dX12_passes_11 : decode cX12_passes 11 = .ok (.aload_n 0, 1) := by decide +kernel
theorem dX12_passes_12 : decode cX12_passes 12 = .ok (.getfield 25, 3) := by decide +kernel
theorem dX12_passes_15 : decode cX12_passes 15 = .ok (.aload_n 0, 1) := by decide +kernel
theorem dX12_passes_16 : decode cX12_passes 16 = .ok (.getfield 78, 3) := by decide +kernel
theorem dX12_passes_19 : decode cX12_passes 19 = .ok (.iaload, 1) := by decide +kernel
theorem dX12_passes_20 : decode cX12_passes 20 = .ok (.istore_n 2, 1) := by decide +kernel
theorem dX12_passes_21 : decode cX12_passes 21 = .ok (.aload_n 0, 1) := by decide +kernel
theorem dX12_passes_22 : decode cX12_passes 22 = .ok (.getfield 25, 3) := by decide +kernel
theorem dX12_passes_25 : decode cX12_passes 25 = .ok (.aload_n 0, 1) := by decide +kernel
theorem dX12_passes_26 : decode cX12_passes 26 = .ok (.getfield 78, 3) := by decide +kernel
theorem dX12_passes_29 : decode cX12_passes 29 = .ok (.iload_n 2, 1) := by decide +kernel
theorem dX12_passes_30 : decode cX12_passes 30 = .ok (.iastore, 1) := by decide +kernel
theorem dX12_passes_31 : decode cX12_passes 31 = .ok (.aload_n 0, 1) := by decide +kernel
theorem dX12_passes_32 : decode cX12_passes 32 = .ok (.dup, 1) := by decide +kernel
theorem dX12_passes_33 : decode cX12_passes 33 = .ok (.getfield 78, 3) := by decide +kernel
theorem dX12_passes_36 : decode cX12_passes 36 = .ok (.iconst 1, 1) := by decide +kernel
theorem dX12_passes_37 : decode cX12_passes 37 = .ok (.iadd, 1) := by decide +kernel
theorem dX12_passes_38 : decode cX12_passes 38 = .ok (.putfield 78, 3) := by decide +kernel
theorem dX12_passes_41 : decode cX12_passes 41 = .ok (.iload_n 2, 1) := by decide +kernel
theorem dX12_passes_42 : decode cX12_passes 42 = .ok (.ireturn, 1) := by decide +kernel
theorem dX12_passesRow_0 : decode cX12_passesRow 0 = .ok (.iconst 0, 1) := by decide +kernel
theorem dX12_passesRow_1 : decode cX12_passesRow 1 = .ok (.istore_n 2, 1) := by decide +kernel
theorem dX12_passesRow_2 : decode cX12_passesRow 2 = .ok (.iload_n 2, 1) := by decide +kernel
theorem dX12_passesRow_3 : decode cX12_passesRow 3 = .ok (.aload_n 1, 1) := by decide +kernel
theorem dX12_passesRow_4 : decode cX12_passesRow 4 = .ok (.arraylength, 1) := by decide +kernel
theorem dX12_passesRow_5 : decode cX12_passesRow 5 = .ok (.if_icmp .ge 19, 3) := by decide +kernel
theorem dX12_passesRow_8 : decode cX12_passesRow 8 = .ok (.aload_n 1, 1) := by decide +kernel
theorem dX12_passesRow_9 : decode cX12_passesRow 9 = .ok (.iload_n 2, 1) := by decide +kernel
theorem dX12_passesRow_10 : decode cX12_passesRow 10 = .ok (.aload_n 0, 1) := by decide +kernel
theorem dX12_passesRow_11 : decode cX12_passesRow 11 = .ok (.aload_n 1, 1) := by decide +kernel
theorem dX12_passesRow_12 : decode cX12_passesRow 12 = .ok (.iload_n 2, 1) := by decide +kernel
theorem dX12_passesRow_13 : decode cX12_passesRow 13 = .ok (.iaload, 1) := by decide +kernel
theorem dX12_passesRow_14 : decode cX12_passesRow 14 = .ok (.invokevirtual 82, 3) := by decide +kernel
theorem dX12_passesRow_17 : decode cX12_passesRow 17 = .ok (.iastore, 1) := by decide +kernel
theorem dX12_passesRow_18 : decode cX12_passesRow 18 = .ok (.iinc 2 1, 3) := by decide +kernel
theorem dX12_passesRow_21 : decode cX12_passesRow 21 = .ok (.goto (-19), 3) := by decide +kernel
theorem dX12_passesRow_24 : decode cX12_passesRow 24 = .ok (.return_, 1) := by decide +kernel
theorem dX12_passesAll_0 : decode cX12_passesAll 0 = .ok (.aload_n 0, 1) := by decide +kernel
theorem dX12_passesAll_1 : decode cX12_passesAll 1 = .ok (.iload_n 1, 1) := by decide +kernel
theorem dX12_passesAll_2 : decode cX12_passesAll 2 = .ok (.putfield 74, 3) := by decide +kernel
theorem dX12_passesAll_5 : decode cX12_passesAll 5 = .ok (.aload_n 0, 1) := by decide +kernel
theorem dX12_passesAll_6 : decode cX12_passesAll 6 = .ok (.iconst 0, 1) := by decide +kernel
theorem dX12_passesAll_7 : decode cX12_passesAll 7 = .ok (.putfield 78, 3) := by decide +kernel
theorem dX12_passesAll_10 : decode cX12_passesAll 10 = .ok (.aload_n 0, 1) := by decide +kernel
theorem dX12_passesAll_11 : decode cX12_passesAll 11 = .ok (.aload_n 0, 1) := by decide +kernel
theorem dX12_passesAll_12 : decode cX12_passesAll 12 = .ok (.aload_n 0, 1) := by decide +kernel
theorem dX12_passesAll_13 : decode cX12_passesAll 13 = .ok (.getfield 86, 3) := by decide +kernel
theorem dX12_passesAll_16 : decode cX12_passesAll 16 = .ok (.invokevirtual 82, 3) := by decide +kernel
theorem dX12_passesAll_19 : decode cX12_passesAll 19 = .ok (.putfield 86, 3) := by decide +kernel
theorem dX12_passesAll_22 : decode cX12_passesAll 22 = .ok (.aload_n 0, 1) := by decide +kernel
theorem dX12_passesAll_23 : decode cX12_passesAll 23 = .ok (.aload_n 0, 1) := by decide +kernel
theorem dX12_passesAll_24 : decode cX12_passesAll 24 = .ok (.aload_n 0, 1) := by decide +kernel
theorem dX12_passesAll_25 : decode cX12_passesAll 25 = .ok (.getfield 89, 3) := by decide +kernel
theorem dX12_passesAll_28 : decode cX12_passesAll 28 = .ok (.invokevirtual 82, 3) := by decide +kernel
theorem dX12_passesAll_31 : decode cX12_passesAll 31 = .ok (.putfield 89, 3) := by decide +kernel
theorem dX12_passesAll_34 : decode cX12_passesAll 34 = .ok (.aload_n 0, 1) := by decide +kernel
theorem dX12_passesAll_35 : decode cX12_passesAll 35 = .ok (.aload_n 0, 1) := by decide +kernel
theorem dX12_passesAll_36 : decode cX12_passesAll 36 = .ok (.aload_n 0, 1) := by decide +kernel
theorem dX12_passesAll_37 : decode cX12_passesAll 37 = .ok (.getfield 92, 3) := by decide +kernel
theorem dX12_passesAll_40 : decode cX12_passesAll 40 = .ok (.invokevirtual 82, 3) := by decide +kernel
theorem dX12_passesAll_43 : decode cX12_passesAll 43 = .ok (.putfield 92, 3) := by decide +kernel
theorem dX12_passesAll_46 : decode cX12_passesAll 46 = .ok (.aload_n 0, 1) := by decide +kernel
theorem dX12_passesAll_47 : decode cX12_passesAll 47 = .ok (.aload_n 0, 1) := by decide +kernel
theorem dX12_passesAll_48 : decode cX12_passesAll 48 = .ok (.aload_n 0, 1) := by decide +kernel
theorem dX12_passesAll_49 : decode cX12_passesAll 49 = .ok (.getfield 95, 3) := by decide +kernel
theorem dX12_passesAll_52 : decode cX12_passesAll 52 = .ok (.invokevirtual 82, 3) := by decide +kernel
theorem dX12_passesAll_55 : decode cX12_passesAll 55 = .ok (.putfield 95, 3) := by decide +kernel
theorem dX12_passesAll_58 : decode cX12_passesAll 58 = .ok (.aload_n 0, 1) := by decide +kernel
theorem dX12_passesAll_59 : decode cX12_passesAll 59 = .ok (.aload_n 0, 1) := by decide +kernel
theorem dX12_passesAll_60 : decode cX12_passesAll 60 = .ok (.aload_n 0, 1) := by decide +kernel
theorem dX12_passesAll_61 : decode cX12_passesAll 61 = .ok (.getfield 98, 3) := by decide +kernel
theorem dX12_passesAll_64 : decode cX12_passesAll 64 = .ok (.invokevirtual 82, 3) := by decide +kernel
theorem dX12_passesAll_67 : decode cX12_passesAll 67 = .ok (.putfield 98, 3) := by decide +kernel
theorem dX12_passesAll_70 : decode cX12_passesAll 70 = .ok (.aload_n 0, 1) := by decide +kernel
theorem dX12_passesAll_71 : decode cX12_passesAll 71 = .ok (.aload_n 0, 1) := by decide +kernel
theorem dX12_passesAll_72 : decode cX12_passesAll 72 = .ok (.aload_n 0, 1) := by decide +kernel
theorem dX12_passesAll_73 : decode cX12_passesAll 73 = .ok (.getfield 101, 3) := by decide +kernel
theorem dX12_passesAll_76 : decode cX12_passesAll 76 = .ok (.invokevirtual 82, 3) := by decide +kernel
theorem dX12_passesAll_79 : decode cX12_passesAll 79 = .ok (.putfield 101, 3) := by decide +kernel
theorem dX12_passesAll_82 : decode cX12_passesAll 82 = .ok (.aload_n 0, 1) := by decide +kernel
theorem dX12_passesAll_83 : decode cX12_passesAll 83 = .ok (.aload_n 0, 1) := by decide +kernel
theorem dX12_passesAll_84 : decode cX12_passesAll 84 = .ok (.aload_n 0, 1) := by decide +kernel
theorem dX12_passesAll_85 : decode cX12_passesAll 85 = .ok (.getfield 104, 3) := by decide +kernel
theorem dX12_passesAll_88 : decode cX12_passesAll 88 = .ok (.invokevirtual 82, 3) := by decide +kernel
theorem dX12_passesAll_91 : decode cX12_passesAll 91 = .ok (.putfield 104, 3) := by decide +kernel
theorem dX12_passesAll_94 : decode cX12_passesAll 94 = .ok (.aload_n 0, 1) := by decide +kernel
theorem dX12_passesAll_95 : decode cX12_passesAll 95 = .ok (.aload_n 0, 1) := by decide +kernel
theorem dX12_passesAll_96 : decode cX12_passesAll 96 = .ok (.getfield 9, 3) := by decide +kernel
theorem dX12_passesAll_99 : decode cX12_passesAll 99 = .ok (.invokevirtual 107, 3) := by decide +kernel
theorem dX12_passesAll_102 : decode cX12_passesAll 102 = .ok (.aload_n 0, 1) := by decide +kernel
theorem dX12_passesAll_103 : decode cX12_passesAll 103 = .ok (.aload_n 0, 1) := by decide +kernel
theorem dX12_passesAll_104 : decode cX12_passesAll 104 = .ok (.getfield 13, 3) := by decide +kernel
theorem dX12_passesAll_107 : decode cX12_passesAll 107 = .ok (.invokevirtual 107, 3) := by decide +kernel
theorem dX12_passesAll_110 : decode cX12_passesAll 110 = .ok (.aload_n 0, 1) := by decide +kernel
theorem dX12_passesAll_111 : decode cX12_passesAll 111 = .ok (.aload_n 0, 1) := by decide +kernel
theorem dX12_passesAll_112 : decode cX12_passesAll 112 = .ok (.getfield 16, 3) := by decide +kernel
theorem dX12_passesAll_115 : decode cX12_passesAll 115 = .ok (.invokevirtual 107, 3) := by decide +kernel
theorem dX12_passesAll_118 : decode cX12_passesAll 118 = .ok (.aload_n 0, 1) := by decide +kernel
theorem dX12_passesAll_119 : decode cX12_passesAll 119 = .ok (.aload_n 0, 1) := by decide +kernel
theorem dX12_passesAll_120 : decode cX12_passesAll 120 = .ok (.getfield 19, 3) := by decide +kernel
theorem dX12_passesAll_123 : decode cX12_passesAll 123 = .ok (.invokevirtual 107, 3) := by decide +kernel
theorem dX12_passesAll_126 : decode cX12_passesAll 126 = .ok (.aload_n 0, 1) := by decide +kernel
theorem dX12_passesAll_127 : decode cX12_passesAll 127 = .ok (.getfield 98, 3) := by decide +kernel
theorem dX12_passesAll_130 : decode cX12_passesAll 130 = .ok (.ireturn, 1) := by decide +kernel
theorem dX12_image_0 : decode cX12_image 0 = .ok (.aload_n 0, 1) := by decide +kernel
theorem dX12_image_1 : decode cX12_image 1 = .ok (.iconst 1, 1) := by decide +kernel
theorem dX12_image_2 : decode cX12_image 2 = .ok (.putfield 111, 3) := by decide +kernel
theorem dX12_image_5 : decode cX12_image 5 = .ok (.aload_n 0, 1) := by decide +kernel
theorem dX12_image_6 : decode cX12_image 6 = .ok (.iconst 1, 1) := by decide +kernel
theorem dX12_image_7 : decode cX12_image 7 = .ok (.invokevirtual 114, 3) := by decide +kernel
theorem dX12_image_10 : decode cX12_image 10 = .ok (.ireturn, 1) := by decide +kernel
theorem dX12_back_0 : decode cX12_back 0 = .ok (.aload_n 0, 1) := by decide +kernel
theorem dX12_back_1 : decode cX12_back 1 = .ok (.getfield 111, 3) := by decide +kernel
theorem dX12_back_4 : decode cX12_back 4 = .ok (.ifCond .eq 11, 3) := by decide +kernel
theorem dX12_back_7 : decode cX12_back 7 = .ok (.aload_n 0, 1) := by decide +kernel
theorem dX12_back_8 : decode cX12_back 8 = .ok (.iconst 0, 1) := by decide +kernel
theorem dX12_back_9 : decode cX12_back 9 = .ok (.invokevirtual 114, 3) := by decide +kernel
theorem dX12_back_12 : decode cX12_back 12 = .ok (.goto 5, 3) := by decide +kernel
theorem dX12_back_15 : decode cX12_back 15 = .ok (.bipush (-3), 2) := by decide +kernel
theorem dX12_back_17 : decode cX12_back 17 = .ok (.ireturn, 1) := by decide +kernel
theorem dX12_thick_0 : decode cX12_thick 0 = .ok (.iconst 1, 1) := by decide +kernel
theorem dX12_thick_1 : decode cX12_thick 1 = .ok (.aload_n 0, 1) := by decide +kernel
theorem dX12_thick_2 : decode cX12_thick 2 = .ok (.getfield 86, 3) := by decide +kernel
theorem dX12_thick_5 : decode cX12_thick 5 = .ok (.aload_n 0, 1) := by decide +kernel
theorem dX12_thick_6 : decode cX12_thick 6 = .ok (.getfield 89, 3) := by decide +kernel
theorem dX12_thick_9 : decode cX12_thick 9 = .ok (.iload_n 1, 1) := by decide +kernel
theorem dX12_thick_10 : decode cX12_thick 10 = .ok (.imul, 1) := by decide +kernel
theorem dX12_thick_11 : decode cX12_thick 11 = .ok (.iconst 4, 1) := by decide +kernel
theorem dX12_thick_12 : decode cX12_thick 12 = .ok (.idiv, 1) := by decide +kernel
theorem dX12_thick_13 : decode cX12_thick 13 = .ok (.isub, 1) := by decide +kernel
theorem dX12_thick_14 : decode cX12_thick 14 = .ok (.invokestatic 118, 3) := by decide +kernel
theorem dX12_thick_17 : decode cX12_thick 17 = .ok (.ireturn, 1) := by decide +kernel
theorem dX12_isWood_0 : decode cX12_isWood 0 = .ok (.iconst 2, 1) := by decide +kernel
theorem dX12_isWood_1 : decode cX12_isWood 1 = .ok (.iload_n 1, 1) := by decide +kernel
theorem dX12_isWood_2 : decode cX12_isWood 2 = .ok (.imul, 1) := by decide +kernel
theorem dX12_isWood_3 : decode cX12_isWood 3 = .ok (.bipush 11, 2) := by decide +kernel
theorem dX12_isWood_5 : decode cX12_isWood 5 = .ok (.isub, 1) := by decide +kernel
theorem dX12_isWood_6 : decode cX12_isWood 6 = .ok (.istore 4, 2) := by decide +kernel
theorem dX12_isWood_8 : decode cX12_isWood 8 = .ok (.iconst 2, 1) := by decide +kernel
theorem dX12_isWood_9 : decode cX12_isWood 9 = .ok (.iload_n 2, 1) := by decide +kernel
theorem dX12_isWood_10 : decode cX12_isWood 10 = .ok (.imul, 1) := by decide +kernel
theorem dX12_isWood_11 : decode cX12_isWood 11 = .ok (.bipush 11, 2) := by decide +kernel
theorem dX12_isWood_13 : decode cX12_isWood 13 = .ok (.isub, 1) := by decide +kernel
theorem dX12_isWood_14 : decode cX12_isWood 14 = .ok (.istore 5, 2) := by decide +kernel
theorem dX12_isWood_16 : decode cX12_isWood 16 = .ok (.iconst 2, 1) := by decide +kernel
theorem dX12_isWood_17 : decode cX12_isWood 17 = .ok (.aload_n 0, 1) := by decide +kernel
theorem dX12_isWood_18 : decode cX12_isWood 18 = .ok (.iload_n 3, 1) := by decide +kernel
theorem dX12_isWood_19 : decode cX12_isWood 19 = .ok (.invokevirtual 124, 3) := by decide +kernel
theorem dX12_isWood_22 : decode cX12_isWood 22 = .ok (.imul, 1) := by decide +kernel
theorem dX12_isWood_23 : decode cX12_isWood 23 = .ok (.istore 6, 2) := by decide +kernel
theorem dX12_isWood_25 : decode cX12_isWood 25 = .ok (.iload 4, 2) := by decide +kernel
theorem dX12_isWood_27 : decode cX12_isWood 27 = .ok (.iload 4, 2) := by decide +kernel
theorem dX12_isWood_29 : decode cX12_isWood 29 = .ok (.imul, 1) := by decide +kernel
theorem dX12_isWood_30 : decode cX12_isWood 30 = .ok (.iload 5, 2) := by decide +kernel
theorem dX12_isWood_32 : decode cX12_isWood 32 = .ok (.iload 5, 2) := by decide +kernel
theorem dX12_isWood_34 : decode cX12_isWood 34 = .ok (.imul, 1) := by decide +kernel
theorem dX12_isWood_35 : decode cX12_isWood 35 = .ok (.iadd, 1) := by decide +kernel
theorem dX12_isWood_36 : decode cX12_isWood 36 = .ok (.iload 6, 2) := by decide +kernel
theorem dX12_isWood_38 : decode cX12_isWood 38 = .ok (.iload 6, 2) := by decide +kernel
theorem dX12_isWood_40 : decode cX12_isWood 40 = .ok (.imul, 1) := by decide +kernel
theorem dX12_isWood_41 : decode cX12_isWood 41 = .ok (.if_icmp .gt 7, 3) := by decide +kernel
theorem dX12_isWood_44 : decode cX12_isWood 44 = .ok (.iconst 1, 1) := by decide +kernel
theorem dX12_isWood_45 : decode cX12_isWood 45 = .ok (.goto 4, 3) := by decide +kernel
theorem dX12_isWood_48 : decode cX12_isWood 48 = .ok (.iconst 0, 1) := by decide +kernel
theorem dX12_isWood_49 : decode cX12_isWood 49 = .ok (.ireturn, 1) := by decide +kernel
theorem dX12_wood_0 : decode cX12_wood 0 = .ok (.iconst 0, 1) := by decide +kernel
theorem dX12_wood_1 : decode cX12_wood 1 = .ok (.istore_n 1, 1) := by decide +kernel
theorem dX12_wood_2 : decode cX12_wood 2 = .ok (.iconst 0, 1) := by decide +kernel
theorem dX12_wood_3 : decode cX12_wood 3 = .ok (.istore_n 2, 1) := by decide +kernel
theorem dX12_wood_4 : decode cX12_wood 4 = .ok (.iload_n 2, 1) := by decide +kernel
theorem dX12_wood_5 : decode cX12_wood 5 = .ok (.sipush 144, 3) := by decide +kernel
theorem dX12_wood_8 : decode cX12_wood 8 = .ok (.aload_n 0, 1) := by decide +kernel
theorem dX12_wood_9 : decode cX12_wood 9 = .ok (.getfield 92, 3) := by decide +kernel
theorem dX12_wood_12 : decode cX12_wood 12 = .ok (.imul, 1) := by decide +kernel
theorem dX12_wood_13 : decode cX12_wood 13 = .ok (.if_icmp .ge 40, 3) := by decide +kernel
theorem dX12_wood_16 : decode cX12_wood 16 = .ok (.iload_n 1, 1) := by decide +kernel
theorem dX12_wood_17 : decode cX12_wood 17 = .ok (.aload_n 0, 1) := by decide +kernel
theorem dX12_wood_18 : decode cX12_wood 18 = .ok (.iload_n 2, 1) := by decide +kernel
theorem dX12_wood_19 : decode cX12_wood 19 = .ok (.bipush 12, 2) := by decide +kernel
theorem dX12_wood_21 : decode cX12_wood 21 = .ok (.irem, 1) := by decide +kernel
theorem dX12_wood_22 : decode cX12_wood 22 = .ok (.iload_n 2, 1) := by decide +kernel
theorem dX12_wood_23 : decode cX12_wood 23 = .ok (.bipush 12, 2) := by decide +kernel
theorem dX12_wood_25 : decode cX12_wood 25 = .ok (.idiv, 1) := by decide +kernel
theorem dX12_wood_26 : decode cX12_wood 26 = .ok (.bipush 12, 2) := by decide +kernel
theorem dX12_wood_28 : decode cX12_wood 28 = .ok (.irem, 1) := by decide +kernel
theorem dX12_wood_29 : decode cX12_wood 29 = .ok (.iload_n 2, 1) := by decide +kernel
theorem dX12_wood_30 : decode cX12_wood 30 = .ok (.sipush 144, 3) := by decide +kernel
theorem dX12_wood_33 : decode cX12_wood 33 = .ok (.idiv, 1) := by decide +kernel
theorem dX12_wood_34 : decode cX12_wood 34 = .ok (.invokevirtual 127, 3) := by decide +kernel
theorem dX12_wood_37 : decode cX12_wood 37 = .ok (.ifCond .eq 7, 3) := by decide +kernel
theorem dX12_wood_40 : decode cX12_wood 40 = .ok (.iconst 1, 1) := by decide +kernel
theorem dX12_wood_41 : decode cX12_wood 41 = .ok (.goto 4, 3) := by decide +kernel
theorem dX12_wood_44 : decode cX12_wood 44 = .ok (.iconst 0, 1) := by decide +kernel
theorem dX12_wood_45 : decode cX12_wood 45 = .ok (.iadd, 1) := by decide +kernel
theorem dX12_wood_46 : decode cX12_wood 46 = .ok (.istore_n 1, 1) := by decide +kernel
theorem dX12_wood_47 : decode cX12_wood 47 = .ok (.iinc 2 1, 3) := by decide +kernel
theorem dX12_wood_50 : decode cX12_wood 50 = .ok (.goto (-46), 3) := by decide +kernel
theorem dX12_wood_53 : decode cX12_wood 53 = .ok (.iload_n 1, 1) := by decide +kernel
theorem dX12_wood_54 : decode cX12_wood 54 = .ok (.ireturn, 1) := by decide +kernel
theorem dX12_log_0 : decode cX12_log 0 = .ok (.iload_n 1, 1) := by decide +kernel
theorem dX12_log_1 : decode cX12_log 1 = .ok (.i2l, 1) := by decide +kernel
theorem dX12_log_2 : decode cX12_log 2 = .ok (.ldc2_w 131, 3) := by decide +kernel
theorem dX12_log_5 : decode cX12_log 5 = .ok (.ldc2_w 133, 3) := by decide +kernel
theorem dX12_log_8 : decode cX12_log 8 = .ok (.invokestatic 135, 3) := by decide +kernel
theorem dX12_log_11 : decode cX12_log 11 = .ok (.ifCond .eq 27, 3) := by decide +kernel
theorem dX12_log_14 : decode cX12_log 14 = .ok (.iload_n 2, 1) := by decide +kernel
theorem dX12_log_15 : decode cX12_log 15 = .ok (.i2l, 1) := by decide +kernel
theorem dX12_log_16 : decode cX12_log 16 = .ok (.lconst 0, 1) := by decide +kernel
theorem dX12_log_17 : decode cX12_log 17 = .ok (.ldc2_w 139, 3) := by decide +kernel
theorem dX12_log_20 : decode cX12_log 20 = .ok (.invokestatic 135, 3) := by decide +kernel
theorem dX12_log_23 : decode cX12_log 23 = .ok (.ifCond .eq 15, 3) := by decide +kernel
theorem dX12_log_26 : decode cX12_log 26 = .ok (.iload_n 3, 1) := by decide +kernel
theorem dX12_log_27 : decode cX12_log 27 = .ok (.i2l, 1) := by decide +kernel
theorem dX12_log_28 : decode cX12_log 28 = .ok (.lconst 1, 1) := by decide +kernel
theorem dX12_log_29 : decode cX12_log 29 = .ok (.ldc2_w 141, 3) := by decide +kernel
theorem dX12_log_32 : decode cX12_log 32 = .ok (.invokestatic 135, 3) := by decide +kernel
theorem dX12_log_35 : decode cX12_log 35 = .ok (.ifCond .ne 6, 3) := by decide +kernel
theorem dX12_log_38 : decode cX12_log 38 = .ok (.bipush (-2), 2) := by decide +kernel
theorem dX12_log_40 : decode cX12_log 40 = .ok (.ireturn, 1) := by decide +kernel
theorem dX12_log_41 : decode cX12_log 41 = .ok (.aload_n 0, 1) := by decide +kernel
theorem dX12_log_42 : decode cX12_log 42 = .ok (.iload_n 1, 1) := by decide +kernel
theorem dX12_log_43 : decode cX12_log 43 = .ok (.putfield 86, 3) := by decide +kernel
theorem dX12_log_46 : decode cX12_log 46 = .ok (.aload_n 0, 1) := by decide +kernel
theorem dX12_log_47 : decode cX12_log 47 = .ok (.iload_n 2, 1) := by decide +kernel
theorem dX12_log_48 : decode cX12_log 48 = .ok (.putfield 89, 3) := by decide +kernel
theorem dX12_log_51 : decode cX12_log 51 = .ok (.aload_n 0, 1) := by decide +kernel
theorem dX12_log_52 : decode cX12_log 52 = .ok (.iload_n 3, 1) := by decide +kernel
theorem dX12_log_53 : decode cX12_log 53 = .ok (.putfield 92, 3) := by decide +kernel
theorem dX12_log_56 : decode cX12_log 56 = .ok (.aload_n 0, 1) := by decide +kernel
theorem dX12_log_57 : decode cX12_log 57 = .ok (.iconst 0, 1) := by decide +kernel
theorem dX12_log_58 : decode cX12_log 58 = .ok (.putfield 95, 3) := by decide +kernel
theorem dX12_log_61 : decode cX12_log 61 = .ok (.aload_n 0, 1) := by decide +kernel
theorem dX12_log_62 : decode cX12_log 62 = .ok (.iconst 0, 1) := by decide +kernel
theorem dX12_log_63 : decode cX12_log 63 = .ok (.putfield 98, 3) := by decide +kernel
theorem dX12_log_66 : decode cX12_log 66 = .ok (.aload_n 0, 1) := by decide +kernel
theorem dX12_log_67 : decode cX12_log 67 = .ok (.invokevirtual 143, 3) := by decide +kernel
theorem dX12_log_70 : decode cX12_log 70 = .ok (.ireturn, 1) := by decide +kernel
theorem dX12_feed_0 : decode cX12_feed 0 = .ok (.iload_n 1, 1) := by decide +kernel
theorem dX12_feed_1 : decode cX12_feed 1 = .ok (.i2l, 1) := by decide +kernel
theorem dX12_feed_2 : decode cX12_feed 2 = .ok (.lconst 1, 1) := by decide +kernel
theorem dX12_feed_3 : decode cX12_feed 3 = .ok (.ldc2_w 147, 3) := by decide +kernel
theorem dX12_feed_6 : decode cX12_feed 6 = .ok (.invokestatic 135, 3) := by decide +kernel
theorem dX12_feed_9 : decode cX12_feed 9 = .ok (.ifCond .eq 66, 3) := by decide +kernel
theorem dX12_feed_12 : decode cX12_feed 12 = .ok (.iload_n 2, 1) := by decide +kernel
theorem dX12_feed_13 : decode cX12_feed 13 = .ok (.i2l, 1) := by decide +kernel
theorem dX12_feed_14 : decode cX12_feed 14 = .ok (.lconst 0, 1) := by decide +kernel
theorem dX12_feed_15 : decode cX12_feed 15 = .ok (.ldc2_w 149, 3) := by decide +kernel
theorem dX12_feed_18 : decode cX12_feed 18 = .ok (.invokestatic 135, 3) := by decide +kernel
theorem dX12_feed_21 : decode cX12_feed 21 = .ok (.ifCond .eq 54, 3) := by decide +kernel
theorem dX12_feed_24 : decode cX12_feed 24 = .ok (.iload_n 3, 1) := by decide +kernel
theorem dX12_feed_25 : decode cX12_feed 25 = .ok (.i2l, 1) := by decide +kernel
theorem dX12_feed_26 : decode cX12_feed 26 = .ok (.lconst 0, 1) := by decide +kernel
theorem dX12_feed_27 : decode cX12_feed 27 = .ok (.ldc2_w 149, 3) := by decide +kernel
theorem dX12_feed_30 : decode cX12_feed 30 = .ok (.invokestatic 135, 3) := by decide +kernel
theorem dX12_feed_33 : decode cX12_feed 33 = .ok (.ifCond .eq 42, 3) := by decide +kernel
theorem dX12_feed_36 : decode cX12_feed 36 = .ok (.iload 4, 2) := by decide +kernel
theorem dX12_feed_38 : decode cX12_feed 38 = .ok (.i2l, 1) := by decide +kernel
theorem dX12_feed_39 : decode cX12_feed 39 = .ok (.lconst 0, 1) := by decide +kernel
theorem dX12_feed_40 : decode cX12_feed 40 = .ok (.ldc2_w 149, 3) := by decide +kernel
theorem dX12_feed_43 : decode cX12_feed 43 = .ok (.invokestatic 135, 3) := by decide +kernel
theorem dX12_feed_46 : decode cX12_feed 46 = .ok (.ifCond .eq 29, 3) := by decide +kernel
theorem dX12_feed_49 : decode cX12_feed 49 = .ok (.iload 5, 2) := by decide +kernel
theorem dX12_feed_51 : decode cX12_feed 51 = .ok (.i2l, 1) := by decide +kernel
theorem dX12_feed_52 : decode cX12_feed 52 = .ok (.lconst 0, 1) := by decide +kernel
theorem dX12_feed_53 : decode cX12_feed 53 = .ok (.ldc2_w 149, 3) := by decide +kernel
theorem dX12_feed_56 : decode cX12_feed 56 = .ok (.invokestatic 135, 3) := by decide +kernel
theorem dX12_feed_59 : decode cX12_feed 59 = .ok (.ifCond .eq 16, 3) := by decide +kernel
theorem dX12_feed_62 : decode cX12_feed 62 = .ok (.iload 6, 2) := by decide +kernel
theorem dX12_feed_64 : decode cX12_feed 64 = .ok (.i2l, 1) := by decide +kernel
theorem dX12_feed_65 : decode cX12_feed 65 = .ok (.lconst 0, 1) := by decide +kernel
theorem dX12_feed_66 : decode cX12_feed 66 = .ok (.ldc2_w 149, 3) := by decide +kernel
theorem dX12_feed_69 : decode cX12_feed 69 = .ok (.invokestatic 135, 3) := by decide +kernel
theorem dX12_feed_72 : decode cX12_feed 72 = .ok (.ifCond .ne 6, 3) := by decide +kernel
theorem dX12_feed_75 : decode cX12_feed 75 = .ok (.bipush (-2), 2) := by decide +kernel
theorem dX12_feed_77 : decode cX12_feed 77 = .ok (.ireturn, 1) := by decide +kernel
theorem dX12_feed_78 : decode cX12_feed 78 = .ok (.aload_n 0, 1) := by decide +kernel
theorem dX12_feed_79 : decode cX12_feed 79 = .ok (.getfield 151, 3) := by decide +kernel
theorem dX12_feed_82 : decode cX12_feed 82 = .ok (.iload_n 1, 1) := by decide +kernel
theorem dX12_feed_83 : decode cX12_feed 83 = .ok (.iadd, 1) := by decide +kernel
theorem dX12_feed_84 : decode cX12_feed 84 = .ok (.bipush 40, 2) := by decide +kernel
theorem dX12_feed_86 : decode cX12_feed 86 = .ok (.if_icmp .le 6, 3) := by decide +kernel
theorem dX12_feed_89 : decode cX12_feed 89 = .ok (.bipush (-4), 2) := by decide +kernel
theorem dX12_feed_91 : decode cX12_feed 91 = .ok (.ireturn, 1) := by decide +kernel
theorem dX12_feed_92 : decode cX12_feed 92 = .ok (.iconst 0, 1) := by decide +kernel
theorem dX12_feed_93 : decode cX12_feed 93 = .ok (.istore 7, 2) := by decide +kernel
theorem dX12_feed_95 : decode cX12_feed 95 = .ok (.iload 7, 2) := by decide +kernel
theorem dX12_feed_97 : decode cX12_feed 97 = .ok (.iload_n 1, 1) := by decide +kernel
theorem dX12_feed_98 : decode cX12_feed 98 = .ok (.if_icmp .ge 71, 3) := by decide +kernel
theorem dX12_feed_101 : decode cX12_feed 101 = .ok (.aload_n 0, 1) := by decide +kernel
theorem dX12_feed_102 : decode cX12_feed 102 = .ok (.getfield 22, 3) := by decide +kernel
theorem dX12_feed_105 : decode cX12_feed 105 = .ok (.aload_n 0, 1) := by decide +kernel
theorem dX12_feed_106 : decode cX12_feed 106 = .ok (.getfield 151, 3) := by decide +kernel
theorem dX12_feed_109 : decode cX12_feed 109 = .ok (.iload 7, 2) := by decide +kernel
theorem dX12_feed_111 : decode cX12_feed 111 = .ok (.ifCond .ne 7, 3) := by decide +kernel
theorem dX12_feed_114 : decode cX12_feed 114 = .ok (.iload_n 2, 1) := by decide +kernel
theorem dX12_feed_115 : decode cX12_feed 115 = .ok (.goto 37, 3) := by decide +kernel
theorem dX12_feed_118 : decode cX12_feed 118 = .ok (.iload 7, 2) := by decide +kernel
theorem dX12_feed_120 : decode cX12_feed 120 = .ok (.iconst 1, 1) := by decide +kernel
theorem dX12_feed_121 : decode cX12_feed 121 = .ok (.if_icmp .ne 7, 3) := by decide +kernel
theorem dX12_feed_124 : decode cX12_feed 124 = .ok (.iload_n 3, 1) := by decide +kernel
theorem dX12_feed_125 : decode cX12_feed 125 = .ok (.goto 27, 3) := by decide +kernel
theorem dX12_feed_128 : decode cX12_feed 128 = .ok (.iload 7, 2) := by decide +kernel
theorem dX12_feed_130 : decode cX12_feed 130 = .ok (.iconst 2, 1) := by decide +kernel
theorem dX12_feed_131 : decode cX12_feed 131 = .ok (.if_icmp .ne 8, 3) := by decide +kernel
theorem dX12_feed_134 : decode cX12_feed 134 = .ok (.iload 4, 2) := by decide +kernel
theorem dX12_feed_136 : decode cX12_feed 136 = .ok (.goto 16, 3) := by decide +kernel
theorem dX12_feed_139 : decode cX12_feed 139 = .ok (.iload 7, 2) := by decide +kernel
theorem dX12_feed_141 : decode cX12_feed 141 = .ok (.iconst 3, 1) := by decide +kernel
theorem dX12_feed_142 : decode cX12_feed 142 = .ok (.if_icmp .ne 8, 3) := by decide +kernel
theorem dX12_feed_145 : decode cX12_feed 145 = .ok (.iload 5, 2) := by decide +kernel
theorem dX12_feed_147 : decode cX12_feed 147 = .ok (.goto 5, 3) := by decide +kernel
theorem dX12_feed_150 : decode cX12_feed 150 = .ok (.iload 6, 2) := by decide +kernel
theorem dX12_feed_152 : decode cX12_feed 152 = .ok (.iastore, 1) := by decide +kernel
theorem dX12_feed_153 : decode cX12_feed 153 = .ok (.aload_n 0, 1) := by decide +kernel
theorem dX12_feed_154 : decode cX12_feed 154 = .ok (.dup, 1) := by decide +kernel
theorem dX12_feed_155 : decode cX12_feed 155 = .ok (.getfield 151, 3) := by decide +kernel
theorem dX12_feed_158 : decode cX12_feed 158 = .ok (.iconst 1, 1) := by decide +kernel
theorem dX12_feed_159 : decode cX12_feed 159 = .ok (.iadd, 1) := by decide +kernel
theorem dX12_feed_160 : decode cX12_feed 160 = .ok (.putfield 151, 3) := by decide +kernel
theorem dX12_feed_163 : decode cX12_feed 163 = .ok (.iinc 7 1, 3) := by decide +kernel
theorem dX12_feed_166 : decode cX12_feed 166 = .ok (.goto (-71), 3) := by decide +kernel
theorem dX12_feed_169 : decode cX12_feed 169 = .ok (.aload_n 0, 1) := by decide +kernel
theorem dX12_feed_170 : decode cX12_feed 170 = .ok (.getfield 151, 3) := by decide +kernel
theorem dX12_feed_173 : decode cX12_feed 173 = .ok (.ireturn, 1) := by decide +kernel
theorem dX12_here_0 : decode cX12_here 0 = .ok (.aload_n 0, 1) := by decide +kernel
theorem dX12_here_1 : decode cX12_here 1 = .ok (.getfield 154, 3) := by decide +kernel
theorem dX12_here_4 : decode cX12_here 4 = .ok (.aload_n 0, 1) := by decide +kernel
theorem dX12_here_5 : decode cX12_here 5 = .ok (.getfield 151, 3) := by decide +kernel
theorem dX12_here_8 : decode cX12_here 8 = .ok (.if_icmp .ge 15, 3) := by decide +kernel
theorem dX12_here_11 : decode cX12_here 11 = .ok (.aload_n 0, 1) := by decide +kernel
theorem dX12_here_12 : decode cX12_here 12 = .ok (.getfield 22, 3) := by decide +kernel
theorem dX12_here_15 : decode cX12_here 15 = .ok (.aload_n 0, 1) := by decide +kernel
theorem dX12_here_16 : decode cX12_here 16 = .ok (.getfield 154, 3) := by decide +kernel
theorem dX12_here_19 : decode cX12_here 19 = .ok (.iaload, 1) := by decide +kernel
theorem dX12_here_20 : decode cX12_here 20 = .ok (.goto 4, 3) := by decide +kernel
theorem dX12_here_23 : decode cX12_here 23 = .ok (.iconst (-1), 1) := by decide +kernel
theorem dX12_here_24 : decode cX12_here 24 = .ok (.ireturn, 1) := by decide +kernel
theorem dX12_skips_0 : decode cX12_skips 0 = .ok (.aload_n 0, 1) := by decide +kernel
theorem dX12_skips_1 : decode cX12_skips 1 = .ok (.invokevirtual 157, 3) := by decide +kernel
theorem dX12_skips_4 : decode cX12_skips 4 = .ok (.bipush 32, 2) := by decide +kernel
theorem dX12_skips_6 : decode cX12_skips 6 = .ok (.if_icmp .eq 12, 3) := by decide +kernel
theorem dX12_skips_9 : decode cX12_skips 9 = .ok (.aload_n 0, 1) := by decide +kernel
theorem dX12_skips_10 : decode cX12_skips 10 = .ok (.invokevirtual 157, 3) := by decide +kernel
theorem dX12_skips_13 : decode cX12_skips 13 = .ok (.bipush 10, 2) := by decide +kernel
theorem dX12_skips_15 : decode cX12_skips 15 = .ok (.if_icmp .ne 16, 3) := by decide +kernel
theorem dX12_skips_18 : decode cX12_skips 18 = .ok (.aload_n 0, 1) := by decide +kernel
theorem dX12_skips_19 : decode cX12_skips 19 = .ok (.dup, 1) := by decide +kernel
theorem dX12_skips_20 : decode cX12_skips 20 = .ok (.getfield 154, 3) := by decide +kernel
theorem dX12_skips_23 : decode cX12_skips 23 = .ok (.iconst 1, 1) := by decide +kernel
theorem dX12_skips_24 : decode cX12_skips 24 = .ok (.iadd, 1) := by decide +kernel
theorem dX12_skips_25 : decode cX12_skips 25 = .ok (.putfield 154, 3) := by decide +kernel
theorem dX12_skips_28 : decode cX12_skips 28 = .ok (.goto (-28), 3) := by decide +kernel
theorem dX12_skips_31 : decode cX12_skips 31 = .ok (.return_, 1) := by decide +kernel
theorem dX12_kindOf_0 : decode cX12_kindOf 0 = .ok (.iload_n 0, 1) := by decide +kernel
theorem dX12_kindOf_1 : decode cX12_kindOf 1 = .ok (.tableswitch 82 104 116 #[73, 82, 82, 67, 69, 82, 82, 77, 82, 82, 75, 71, 79], 67) := by decide +kernel
theorem dX12_kindOf_68 : decode cX12_kindOf 68 = .ok (.iconst 0, 1) := by decide +kernel
theorem dX12_kindOf_69 : decode cX12_kindOf 69 = .ok (.ireturn, 1) := by decide +kernel
theorem dX12_kindOf_70 : decode cX12_kindOf 70 = .ok (.iconst 1, 1) := by decide +kernel
theorem dX12_kindOf_71 : decode cX12_kindOf 71 = .ok (.ireturn, 1) := by decide +kernel
theorem dX12_kindOf_72 : decode cX12_kindOf 72 = .ok (.iconst 2, 1) := by decide +kernel
theorem dX12_kindOf_73 : decode cX12_kindOf 73 = .ok (.ireturn, 1) := by decide +kernel
theorem dX12_kindOf_74 : decode cX12_kindOf 74 = .ok (.iconst 3, 1) := by decide +kernel
theorem dX12_kindOf_75 : decode cX12_kindOf 75 = .ok (.ireturn, 1) := by decide +kernel
theorem dX12_kindOf_76 : decode cX12_kindOf 76 = .ok (.iconst 4, 1) := by decide +kernel
theorem dX12_kindOf_77 : decode cX12_kindOf 77 = .ok (.ireturn, 1) := by decide +kernel
theorem dX12_kindOf_78 : decode cX12_kindOf 78 = .ok (.iconst 5, 1) := by decide +kernel
theorem dX12_kindOf_79 : decode cX12_kindOf 79 = .ok (.ireturn, 1) := by decide +kernel
theorem dX12_kindOf_80 : decode cX12_kindOf 80 = .ok (.bipush 6, 2) := by decide +kernel
theorem dX12_kindOf_82 : decode cX12_kindOf 82 = .ok (.ireturn, 1) := by decide +kernel
theorem dX12_kindOf_83 : decode cX12_kindOf 83 = .ok (.iconst (-1), 1) := by decide +kernel
theorem dX12_kindOf_84 : decode cX12_kindOf 84 = .ok (.ireturn, 1) := by decide +kernel
theorem dX12_digit_0 : decode cX12_digit 0 = .ok (.aload_n 0, 1) := by decide +kernel
theorem dX12_digit_1 : decode cX12_digit 1 = .ok (.dup, 1) := by decide +kernel
theorem dX12_digit_2 : decode cX12_digit 2 = .ok (.getfield 160, 3) := by decide +kernel
theorem dX12_digit_5 : decode cX12_digit 5 = .ok (.aload_n 0, 1) := by decide +kernel
theorem dX12_digit_6 : decode cX12_digit 6 = .ok (.invokevirtual 157, 3) := by decide +kernel
theorem dX12_digit_9 : decode cX12_digit 9 = .ok (.i2l, 1) := by decide +kernel
theorem dX12_digit_10 : decode cX12_digit 10 = .ok (.iload_n 1, 1) := by decide +kernel
theorem dX12_digit_11 : decode cX12_digit 11 = .ok (.i2l, 1) := by decide +kernel
theorem dX12_digit_12 : decode cX12_digit 12 = .ok (.iload_n 2, 1) := by decide +kernel
theorem dX12_digit_13 : decode cX12_digit 13 = .ok (.i2l, 1) := by decide +kernel
theorem dX12_digit_14 : decode cX12_digit 14 = .ok (.invokestatic 135, 3) := by decide +kernel
theorem dX12_digit_17 : decode cX12_digit 17 = .ok (.ifCond .ne 7, 3) := by decide +kernel
theorem dX12_digit_20 : decode cX12_digit 20 = .ok (.iconst 1, 1) := by decide +kernel
theorem dX12_digit_21 : decode cX12_digit 21 = .ok (.goto 4, 3) := by decide +kernel
theorem dX12_digit_24 : decode cX12_digit 24 = .ok (.iconst 0, 1) := by decide +kernel
theorem dX12_digit_25 : decode cX12_digit 25 = .ok (.ior, 1) := by decide +kernel
theorem dX12_digit_26 : decode cX12_digit 26 = .ok (.putfield 160, 3) := by decide +kernel
theorem dX12_digit_29 : decode cX12_digit 29 = .ok (.aload_n 0, 1) := by decide +kernel
theorem dX12_digit_30 : decode cX12_digit 30 = .ok (.invokevirtual 157, 3) := by decide +kernel
theorem dX12_digit_33 : decode cX12_digit 33 = .ok (.bipush 48, 2) := by decide +kernel
theorem dX12_digit_35 : decode cX12_digit 35 = .ok (.isub, 1) := by decide +kernel
theorem dX12_digit_36 : decode cX12_digit 36 = .ok (.istore_n 3, 1) := by decide +kernel
theorem dX12_digit_37 : decode cX12_digit 37 = .ok (.aload_n 0, 1) := by decide +kernel
theorem dX12_digit_38 : decode cX12_digit 38 = .ok (.dup, 1) := by decide +kernel
theorem dX12_digit_39 : decode cX12_digit 39 = .ok (.getfield 154, 3) := by decide +kernel
theorem dX12_digit_42 : decode cX12_digit 42 = .ok (.aload_n 0, 1) := by decide +kernel
theorem dX12_digit_43 : decode cX12_digit 43 = .ok (.getfield 160, 3) := by decide +kernel
theorem dX12_digit_46 : decode cX12_digit 46 = .ok (.ifCond .eq 7, 3) := by decide +kernel
theorem dX12_digit_49 : decode cX12_digit 49 = .ok (.iconst 0, 1) := by decide +kernel
theorem dX12_digit_50 : decode cX12_digit 50 = .ok (.goto 4, 3) := by decide +kernel
theorem dX12_digit_53 : decode cX12_digit 53 = .ok (.iconst 1, 1) := by decide +kernel
theorem dX12_digit_54 : decode cX12_digit 54 = .ok (.iadd, 1) := by decide +kernel
theorem dX12_digit_55 : decode cX12_digit 55 = .ok (.putfield 154, 3) := by decide +kernel
