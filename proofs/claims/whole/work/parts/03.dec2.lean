theorem dX12_digit_58 : decode cX12_digit 58 = .ok (.iload_n 3, 1) := by decide +kernel
theorem dX12_digit_59 : decode cX12_digit 59 = .ok (.ireturn, 1) := by decide +kernel
theorem dX12_reads_0 : decode cX12_reads 0 = .ok (.iconst 0, 1) := by decide +kernel
theorem dX12_reads_1 : decode cX12_reads 1 = .ok (.istore_n 1, 1) := by decide +kernel
theorem dX12_reads_2 : decode cX12_reads 2 = .ok (.aload_n 0, 1) := by decide +kernel
theorem dX12_reads_3 : decode cX12_reads 3 = .ok (.iconst 0, 1) := by decide +kernel
theorem dX12_reads_4 : decode cX12_reads 4 = .ok (.putfield 154, 3) := by decide +kernel
theorem dX12_reads_7 : decode cX12_reads 7 = .ok (.aload_n 0, 1) := by decide +kernel
theorem dX12_reads_8 : decode cX12_reads 8 = .ok (.iconst 0, 1) := by decide +kernel
theorem dX12_reads_9 : decode cX12_reads 9 = .ok (.putfield 160, 3) := by decide +kernel
theorem dX12_reads_12 : decode cX12_reads 12 = .ok (.aload_n 0, 1) := by decide +kernel
theorem dX12_reads_13 : decode cX12_reads 13 = .ok (.invokevirtual 163, 3) := by decide +kernel
theorem dX12_reads_16 : decode cX12_reads 16 = .ok (.aload_n 0, 1) := by decide +kernel
theorem dX12_reads_17 : decode cX12_reads 17 = .ok (.getfield 160, 3) := by decide +kernel
theorem dX12_reads_20 : decode cX12_reads 20 = .ok (.ifCond .ne 173, 3) := by decide +kernel
theorem dX12_reads_23 : decode cX12_reads 23 = .ok (.iload_n 1, 1) := by decide +kernel
theorem dX12_reads_24 : decode cX12_reads 24 = .ok (.ifCond .eq 14, 3) := by decide +kernel
theorem dX12_reads_27 : decode cX12_reads 27 = .ok (.aload_n 0, 1) := by decide +kernel
theorem dX12_reads_28 : decode cX12_reads 28 = .ok (.getfield 154, 3) := by decide +kernel
theorem dX12_reads_31 : decode cX12_reads 31 = .ok (.aload_n 0, 1) := by decide +kernel
theorem dX12_reads_32 : decode cX12_reads 32 = .ok (.getfield 151, 3) := by decide +kernel
theorem dX12_reads_35 : decode cX12_reads 35 = .ok (.if_icmp .ge 158, 3) := by decide +kernel
theorem dX12_reads_38 : decode cX12_reads 38 = .ok (.aload_n 0, 1) := by decide +kernel
theorem dX12_reads_39 : decode cX12_reads 39 = .ok (.invokevirtual 157, 3) := by decide +kernel
theorem dX12_reads_42 : decode cX12_reads 42 = .ok (.invokestatic 166, 3) := by decide +kernel
theorem dX12_reads_45 : decode cX12_reads 45 = .ok (.istore_n 2, 1) := by decide +kernel
theorem dX12_reads_46 : decode cX12_reads 46 = .ok (.aload_n 0, 1) := by decide +kernel
theorem dX12_reads_47 : decode cX12_reads 47 = .ok (.iload_n 2, 1) := by decide +kernel
theorem dX12_reads_48 : decode cX12_reads 48 = .ok (.ifCond .ge 7, 3) := by decide +kernel
theorem dX12_reads_51 : decode cX12_reads 51 = .ok (.iconst 1, 1) := by decide +kernel
theorem dX12_reads_52 : decode cX12_reads 52 = .ok (.goto 4, 3) := by decide +kernel
theorem dX12_reads_55 : decode cX12_reads 55 = .ok (.iconst 0, 1) := by decide +kernel
theorem dX12_reads_56 : decode cX12_reads 56 = .ok (.putfield 160, 3) := by decide +kernel
theorem dX12_reads_59 : decode cX12_reads 59 = .ok (.aload_n 0, 1) := by decide +kernel
theorem dX12_reads_60 : decode cX12_reads 60 = .ok (.dup, 1) := by decide +kernel
theorem dX12_reads_61 : decode cX12_reads 61 = .ok (.getfield 154, 3) := by decide +kernel
theorem dX12_reads_64 : decode cX12_reads 64 = .ok (.aload_n 0, 1) := by decide +kernel
theorem dX12_reads_65 : decode cX12_reads 65 = .ok (.getfield 160, 3) := by decide +kernel
theorem dX12_reads_68 : decode cX12_reads 68 = .ok (.ifCond .eq 7, 3) := by decide +kernel
theorem dX12_reads_71 : decode cX12_reads 71 = .ok (.iconst 0, 1) := by decide +kernel
theorem dX12_reads_72 : decode cX12_reads 72 = .ok (.goto 4, 3) := by decide +kernel
theorem dX12_reads_75 : decode cX12_reads 75 = .ok (.iconst 1, 1) := by decide +kernel
theorem dX12_reads_76 : decode cX12_reads 76 = .ok (.iadd, 1) := by decide +kernel
theorem dX12_reads_77 : decode cX12_reads 77 = .ok (.putfield 154, 3) := by decide +kernel
theorem dX12_reads_80 : decode cX12_reads 80 = .ok (.aload_n 0, 1) := by decide +kernel
theorem dX12_reads_81 : decode cX12_reads 81 = .ok (.getfield 28, 3) := by decide +kernel
theorem dX12_reads_84 : decode cX12_reads 84 = .ok (.iconst 4, 1) := by decide +kernel
theorem dX12_reads_85 : decode cX12_reads 85 = .ok (.iload_n 1, 1) := by decide +kernel
theorem dX12_reads_86 : decode cX12_reads 86 = .ok (.imul, 1) := by decide +kernel
theorem dX12_reads_87 : decode cX12_reads 87 = .ok (.iload_n 2, 1) := by decide +kernel
theorem dX12_reads_88 : decode cX12_reads 88 = .ok (.iastore, 1) := by decide +kernel
theorem dX12_reads_89 : decode cX12_reads 89 = .ok (.aload_n 0, 1) := by decide +kernel
theorem dX12_reads_90 : decode cX12_reads 90 = .ok (.getfield 28, 3) := by decide +kernel
theorem dX12_reads_93 : decode cX12_reads 93 = .ok (.iconst 4, 1) := by decide +kernel
theorem dX12_reads_94 : decode cX12_reads 94 = .ok (.iload_n 1, 1) := by decide +kernel
theorem dX12_reads_95 : decode cX12_reads 95 = .ok (.imul, 1) := by decide +kernel
theorem dX12_reads_96 : decode cX12_reads 96 = .ok (.iconst 1, 1) := by decide +kernel
theorem dX12_reads_97 : decode cX12_reads 97 = .ok (.iadd, 1) := by decide +kernel
theorem dX12_reads_98 : decode cX12_reads 98 = .ok (.aload_n 0, 1) := by decide +kernel
theorem dX12_reads_99 : decode cX12_reads 99 = .ok (.getfield 160, 3) := by decide +kernel
theorem dX12_reads_102 : decode cX12_reads 102 = .ok (.ifCond .eq 7, 3) := by decide +kernel
theorem dX12_reads_105 : decode cX12_reads 105 = .ok (.iconst 0, 1) := by decide +kernel
theorem dX12_reads_106 : decode cX12_reads 106 = .ok (.goto 11, 3) := by decide +kernel
theorem dX12_reads_109 : decode cX12_reads 109 = .ok (.aload_n 0, 1) := by decide +kernel
theorem dX12_reads_110 : decode cX12_reads 110 = .ok (.bipush 48, 2) := by decide +kernel
theorem dX12_reads_112 : decode cX12_reads 112 = .ok (.bipush 55, 2) := by decide +kernel
theorem dX12_reads_114 : decode cX12_reads 114 = .ok (.invokevirtual 169, 3) := by decide +kernel
theorem dX12_reads_117 : decode cX12_reads 117 = .ok (.iastore, 1) := by decide +kernel
theorem dX12_reads_118 : decode cX12_reads 118 = .ok (.aload_n 0, 1) := by decide +kernel
theorem dX12_reads_119 : decode cX12_reads 119 = .ok (.getfield 28, 3) := by decide +kernel
theorem dX12_reads_122 : decode cX12_reads 122 = .ok (.iconst 4, 1) := by decide +kernel
theorem dX12_reads_123 : decode cX12_reads 123 = .ok (.iload_n 1, 1) := by decide +kernel
theorem dX12_reads_124 : decode cX12_reads 124 = .ok (.imul, 1) := by decide +kernel
theorem dX12_reads_125 : decode cX12_reads 125 = .ok (.iconst 2, 1) := by decide +kernel
theorem dX12_reads_126 : decode cX12_reads 126 = .ok (.iadd, 1) := by decide +kernel
theorem dX12_reads_127 : decode cX12_reads 127 = .ok (.aload_n 0, 1) := by decide +kernel
theorem dX12_reads_128 : decode cX12_reads 128 = .ok (.getfield 160, 3) := by decide +kernel
theorem dX12_reads_131 : decode cX12_reads 131 = .ok (.ifCond .eq 7, 3) := by decide +kernel
theorem dX12_reads_134 : decode cX12_reads 134 = .ok (.iconst 0, 1) := by decide +kernel
theorem dX12_reads_135 : decode cX12_reads 135 = .ok (.goto 11, 3) := by decide +kernel
theorem dX12_reads_138 : decode cX12_reads 138 = .ok (.aload_n 0, 1) := by decide +kernel
theorem dX12_reads_139 : decode cX12_reads 139 = .ok (.bipush 48, 2) := by decide +kernel
theorem dX12_reads_141 : decode cX12_reads 141 = .ok (.bipush 55, 2) := by decide +kernel
theorem dX12_reads_143 : decode cX12_reads 143 = .ok (.invokevirtual 169, 3) := by decide +kernel
theorem dX12_reads_146 : decode cX12_reads 146 = .ok (.iastore, 1) := by decide +kernel
theorem dX12_reads_147 : decode cX12_reads 147 = .ok (.aload_n 0, 1) := by decide +kernel
theorem dX12_reads_148 : decode cX12_reads 148 = .ok (.getfield 28, 3) := by decide +kernel
theorem dX12_reads_151 : decode cX12_reads 151 = .ok (.iconst 4, 1) := by decide +kernel
theorem dX12_reads_152 : decode cX12_reads 152 = .ok (.iload_n 1, 1) := by decide +kernel
theorem dX12_reads_153 : decode cX12_reads 153 = .ok (.imul, 1) := by decide +kernel
theorem dX12_reads_154 : decode cX12_reads 154 = .ok (.iconst 3, 1) := by decide +kernel
theorem dX12_reads_155 : decode cX12_reads 155 = .ok (.iadd, 1) := by decide +kernel
theorem dX12_reads_156 : decode cX12_reads 156 = .ok (.aload_n 0, 1) := by decide +kernel
theorem dX12_reads_157 : decode cX12_reads 157 = .ok (.getfield 160, 3) := by decide +kernel
theorem dX12_reads_160 : decode cX12_reads 160 = .ok (.ifCond .eq 7, 3) := by decide +kernel
theorem dX12_reads_163 : decode cX12_reads 163 = .ok (.iconst 0, 1) := by decide +kernel
theorem dX12_reads_164 : decode cX12_reads 164 = .ok (.goto 11, 3) := by decide +kernel
theorem dX12_reads_167 : decode cX12_reads 167 = .ok (.aload_n 0, 1) := by decide +kernel
theorem dX12_reads_168 : decode cX12_reads 168 = .ok (.bipush 49, 2) := by decide +kernel
theorem dX12_reads_170 : decode cX12_reads 170 = .ok (.bipush 52, 2) := by decide +kernel
theorem dX12_reads_172 : decode cX12_reads 172 = .ok (.invokevirtual 169, 3) := by decide +kernel
theorem dX12_reads_175 : decode cX12_reads 175 = .ok (.iastore, 1) := by decide +kernel
theorem dX12_reads_176 : decode cX12_reads 176 = .ok (.iinc 1 1, 3) := by decide +kernel
theorem dX12_reads_179 : decode cX12_reads 179 = .ok (.aload_n 0, 1) := by decide +kernel
theorem dX12_reads_180 : decode cX12_reads 180 = .ok (.getfield 160, 3) := by decide +kernel
theorem dX12_reads_183 : decode cX12_reads 183 = .ok (.ifCond .ne 7, 3) := by decide +kernel
theorem dX12_reads_186 : decode cX12_reads 186 = .ok (.aload_n 0, 1) := by decide +kernel
theorem dX12_reads_187 : decode cX12_reads 187 = .ok (.invokevirtual 163, 3) := by decide +kernel
theorem dX12_reads_190 : decode cX12_reads 190 = .ok (.goto (-174), 3) := by decide +kernel
theorem dX12_reads_193 : decode cX12_reads 193 = .ok (.iload_n 1, 1) := by decide +kernel
theorem dX12_reads_194 : decode cX12_reads 194 = .ok (.ireturn, 1) := by decide +kernel
theorem dX12_text_0 : decode cX12_text 0 = .ok (.aload_n 0, 1) := by decide +kernel
theorem dX12_text_1 : decode cX12_text 1 = .ok (.getfield 92, 3) := by decide +kernel
theorem dX12_text_4 : decode cX12_text 4 = .ok (.ifCond .ne 6, 3) := by decide +kernel
theorem dX12_text_7 : decode cX12_text 7 = .ok (.bipush (-3), 2) := by decide +kernel
theorem dX12_text_9 : decode cX12_text 9 = .ok (.ireturn, 1) := by decide +kernel
theorem dX12_text_10 : decode cX12_text 10 = .ok (.aload_n 0, 1) := by decide +kernel
theorem dX12_text_11 : decode cX12_text 11 = .ok (.invokevirtual 172, 3) := by decide +kernel
theorem dX12_text_14 : decode cX12_text 14 = .ok (.istore_n 1, 1) := by decide +kernel
theorem dX12_text_15 : decode cX12_text 15 = .ok (.aload_n 0, 1) := by decide +kernel
theorem dX12_text_16 : decode cX12_text 16 = .ok (.iconst 0, 1) := by decide +kernel
theorem dX12_text_17 : decode cX12_text 17 = .ok (.putfield 151, 3) := by decide +kernel
theorem dX12_text_20 : decode cX12_text 20 = .ok (.aload_n 0, 1) := by decide +kernel
theorem dX12_text_21 : decode cX12_text 21 = .ok (.getfield 160, 3) := by decide +kernel
theorem dX12_text_24 : decode cX12_text 24 = .ok (.ifCond .eq 11, 3) := by decide +kernel
theorem dX12_text_27 : decode cX12_text 27 = .ok (.bipush (-100), 2) := by decide +kernel
theorem dX12_text_29 : decode cX12_text 29 = .ok (.aload_n 0, 1) := by decide +kernel
theorem dX12_text_30 : decode cX12_text 30 = .ok (.getfield 154, 3) := by decide +kernel
theorem dX12_text_33 : decode cX12_text 33 = .ok (.isub, 1) := by decide +kernel
theorem dX12_text_34 : decode cX12_text 34 = .ok (.ireturn, 1) := by decide +kernel
theorem dX12_text_35 : decode cX12_text 35 = .ok (.aload_n 0, 1) := by decide +kernel
theorem dX12_text_36 : decode cX12_text 36 = .ok (.getfield 98, 3) := by decide +kernel
theorem dX12_text_39 : decode cX12_text 39 = .ok (.iload_n 1, 1) := by decide +kernel
theorem dX12_text_40 : decode cX12_text 40 = .ok (.iadd, 1) := by decide +kernel
theorem dX12_text_41 : decode cX12_text 41 = .ok (.bipush 8, 2) := by decide +kernel
theorem dX12_text_43 : decode cX12_text 43 = .ok (.if_icmp .le 6, 3) := by decide +kernel
theorem dX12_text_46 : decode cX12_text 46 = .ok (.bipush (-4), 2) := by decide +kernel
theorem dX12_text_48 : decode cX12_text 48 = .ok (.ireturn, 1) := by decide +kernel
theorem dX12_text_49 : decode cX12_text 49 = .ok (.iconst 0, 1) := by decide +kernel
theorem dX12_text_50 : decode cX12_text 50 = .ok (.istore_n 2, 1) := by decide +kernel
theorem dX12_text_51 : decode cX12_text 51 = .ok (.iload_n 2, 1) := by decide +kernel
theorem dX12_text_52 : decode cX12_text 52 = .ok (.iconst 4, 1) := by decide +kernel
theorem dX12_text_53 : decode cX12_text 53 = .ok (.iload_n 1, 1) := by decide +kernel
theorem dX12_text_54 : decode cX12_text 54 = .ok (.imul, 1) := by decide +kernel
theorem dX12_text_55 : decode cX12_text 55 = .ok (.if_icmp .ge 28, 3) := by decide +kernel
theorem dX12_text_58 : decode cX12_text 58 = .ok (.aload_n 0, 1) := by decide +kernel
theorem dX12_text_59 : decode cX12_text 59 = .ok (.getfield 9, 3) := by decide +kernel
theorem dX12_text_62 : decode cX12_text 62 = .ok (.iconst 4, 1) := by decide +kernel
theorem dX12_text_63 : decode cX12_text 63 = .ok (.aload_n 0, 1) := by decide +kernel
theorem dX12_text_64 : decode cX12_text 64 = .ok (.getfield 98, 3) := by decide +kernel
theorem dX12_text_67 : decode cX12_text 67 = .ok (.imul, 1) := by decide +kernel
theorem dX12_text_68 : decode cX12_text 68 = .ok (.iload_n 2, 1) := by decide +kernel
theorem dX12_text_69 : decode cX12_text 69 = .ok (.iadd, 1) := by decide +kernel
theorem dX12_text_70 : decode cX12_text 70 = .ok (.aload_n 0, 1) := by decide +kernel
theorem dX12_text_71 : decode cX12_text 71 = .ok (.getfield 28, 3) := by decide +kernel
theorem dX12_text_74 : decode cX12_text 74 = .ok (.iload_n 2, 1) := by decide +kernel
theorem dX12_text_75 : decode cX12_text 75 = .ok (.iaload, 1) := by decide +kernel
theorem dX12_text_76 : decode cX12_text 76 = .ok (.iastore, 1) := by decide +kernel
theorem dX12_text_77 : decode cX12_text 77 = .ok (.iinc 2 1, 3) := by decide +kernel
theorem dX12_text_80 : decode cX12_text 80 = .ok (.goto (-29), 3) := by decide +kernel
theorem dX12_text_83 : decode cX12_text 83 = .ok (.aload_n 0, 1) := by decide +kernel
theorem dX12_text_84 : decode cX12_text 84 = .ok (.dup, 1) := by decide +kernel
theorem dX12_text_85 : decode cX12_text 85 = .ok (.getfield 98, 3) := by decide +kernel
theorem dX12_text_88 : decode cX12_text 88 = .ok (.iload_n 1, 1) := by decide +kernel
theorem dX12_text_89 : decode cX12_text 89 = .ok (.iadd, 1) := by decide +kernel
theorem dX12_text_90 : decode cX12_text 90 = .ok (.putfield 98, 3) := by decide +kernel
theorem dX12_text_93 : decode cX12_text 93 = .ok (.aload_n 0, 1) := by decide +kernel
theorem dX12_text_94 : decode cX12_text 94 = .ok (.getfield 98, 3) := by decide +kernel
theorem dX12_text_97 : decode cX12_text 97 = .ok (.ireturn, 1) := by decide +kernel
theorem dX12_adds_0 : decode cX12_adds 0 = .ok (.aload_n 0, 1) := by decide +kernel
theorem dX12_adds_1 : decode cX12_adds 1 = .ok (.getfield 9, 3) := by decide +kernel
theorem dX12_adds_4 : decode cX12_adds 4 = .ok (.iconst 4, 1) := by decide +kernel
theorem dX12_adds_5 : decode cX12_adds 5 = .ok (.aload_n 0, 1) := by decide +kernel
theorem dX12_adds_6 : decode cX12_adds 6 = .ok (.getfield 98, 3) := by decide +kernel
theorem dX12_adds_9 : decode cX12_adds 9 = .ok (.imul, 1) := by decide +kernel
theorem dX12_adds_10 : decode cX12_adds 10 = .ok (.iload_n 1, 1) := by decide +kernel
theorem dX12_adds_11 : decode cX12_adds 11 = .ok (.iastore, 1) := by decide +kernel
theorem dX12_adds_12 : decode cX12_adds 12 = .ok (.aload_n 0, 1) := by decide +kernel
theorem dX12_adds_13 : decode cX12_adds 13 = .ok (.getfield 9, 3) := by decide +kernel
theorem dX12_adds_16 : decode cX12_adds 16 = .ok (.iconst 4, 1) := by decide +kernel
theorem dX12_adds_17 : decode cX12_adds 17 = .ok (.aload_n 0, 1) := by decide +kernel
theorem dX12_adds_18 : decode cX12_adds 18 = .ok (.getfield 98, 3) := by decide +kernel
theorem dX12_adds_21 : decode cX12_adds 21 = .ok (.imul, 1) := by decide +kernel
theorem dX12_adds_22 : decode cX12_adds 22 = .ok (.iconst 1, 1) := by decide +kernel
theorem dX12_adds_23 : decode cX12_adds 23 = .ok (.iadd, 1) := by decide +kernel
theorem dX12_adds_24 : decode cX12_adds 24 = .ok (.iload_n 2, 1) := by decide +kernel
theorem dX12_adds_25 : decode cX12_adds 25 = .ok (.iastore, 1) := by decide +kernel
theorem dX12_adds_26 : decode cX12_adds 26 = .ok (.aload_n 0, 1) := by decide +kernel
theorem dX12_adds_27 : decode cX12_adds 27 = .ok (.getfield 9, 3) := by decide +kernel
theorem dX12_adds_30 : decode cX12_adds 30 = .ok (.iconst 4, 1) := by decide +kernel
theorem dX12_adds_31 : decode cX12_adds 31 = .ok (.aload_n 0, 1) := by decide +kernel
theorem dX12_adds_32 : decode cX12_adds 32 = .ok (.getfield 98, 3) := by decide +kernel
theorem dX12_adds_35 : decode cX12_adds 35 = .ok (.imul, 1) := by decide +kernel
theorem dX12_adds_36 : decode cX12_adds 36 = .ok (.iconst 2, 1) := by decide +kernel
theorem dX12_adds_37 : decode cX12_adds 37 = .ok (.iadd, 1) := by decide +kernel
theorem dX12_adds_38 : decode cX12_adds 38 = .ok (.iload_n 3, 1) := by decide +kernel
theorem dX12_adds_39 : decode cX12_adds 39 = .ok (.iastore, 1) := by decide +kernel
theorem dX12_adds_40 : decode cX12_adds 40 = .ok (.aload_n 0, 1) := by decide +kernel
theorem dX12_adds_41 : decode cX12_adds 41 = .ok (.getfield 9, 3) := by decide +kernel
theorem dX12_adds_44 : decode cX12_adds 44 = .ok (.iconst 4, 1) := by decide +kernel
theorem dX12_adds_45 : decode cX12_adds 45 = .ok (.aload_n 0, 1) := by decide +kernel
theorem dX12_adds_46 : decode cX12_adds 46 = .ok (.getfield 98, 3) := by decide +kernel
theorem dX12_adds_49 : decode cX12_adds 49 = .ok (.imul, 1) := by decide +kernel
theorem dX12_adds_50 : decode cX12_adds 50 = .ok (.iconst 3, 1) := by decide +kernel
theorem dX12_adds_51 : decode cX12_adds 51 = .ok (.iadd, 1) := by decide +kernel
theorem dX12_adds_52 : decode cX12_adds 52 = .ok (.iload 4, 2) := by decide +kernel
theorem dX12_adds_54 : decode cX12_adds 54 = .ok (.iastore, 1) := by decide +kernel
theorem dX12_adds_55 : decode cX12_adds 55 = .ok (.aload_n 0, 1) := by decide +kernel
theorem dX12_adds_56 : decode cX12_adds 56 = .ok (.dup, 1) := by decide +kernel
theorem dX12_adds_57 : decode cX12_adds 57 = .ok (.getfield 98, 3) := by decide +kernel
theorem dX12_adds_60 : decode cX12_adds 60 = .ok (.iconst 1, 1) := by decide +kernel
theorem dX12_adds_61 : decode cX12_adds 61 = .ok (.iadd, 1) := by decide +kernel
theorem dX12_adds_62 : decode cX12_adds 62 = .ok (.putfield 98, 3) := by decide +kernel
theorem dX12_adds_65 : decode cX12_adds 65 = .ok (.return_, 1) := by decide +kernel
theorem dX12_fault_0 : decode cX12_fault 0 = .ok (.aload_n 0, 1) := by decide +kernel
theorem dX12_fault_1 : decode cX12_fault 1 = .ok (.getfield 92, 3) := by decide +kernel
theorem dX12_fault_4 : decode cX12_fault 4 = .ok (.ifCond .ne 6, 3) := by decide +kernel
theorem dX12_fault_7 : decode cX12_fault 7 = .ok (.bipush (-3), 2) := by decide +kernel
theorem dX12_fault_9 : decode cX12_fault 9 = .ok (.ireturn, 1) := by decide +kernel
theorem dX12_fault_10 : decode cX12_fault 10 = .ok (.iload_n 1, 1) := by decide +kernel
theorem dX12_fault_11 : decode cX12_fault 11 = .ok (.i2l, 1) := by decide +kernel
theorem dX12_fault_12 : decode cX12_fault 12 = .ok (.lconst 0, 1) := by decide +kernel
theorem dX12_fault_13 : decode cX12_fault 13 = .ok (.ldc2_w 133, 3) := by decide +kernel
theorem dX12_fault_16 : decode cX12_fault 16 = .ok (.invokestatic 135, 3) := by decide +kernel
theorem dX12_fault_19 : decode cX12_fault 19 = .ok (.ifCond .eq 40, 3) := by decide +kernel
theorem dX12_fault_22 : decode cX12_fault 22 = .ok (.iload_n 2, 1) := by decide +kernel
theorem dX12_fault_23 : decode cX12_fault 23 = .ok (.i2l, 1) := by decide +kernel
theorem dX12_fault_24 : decode cX12_fault 24 = .ok (.lconst 0, 1) := by decide +kernel
theorem dX12_fault_25 : decode cX12_fault 25 = .ok (.ldc2_w 175, 3) := by decide +kernel
theorem dX12_fault_28 : decode cX12_fault 28 = .ok (.invokestatic 135, 3) := by decide +kernel
theorem dX12_fault_31 : decode cX12_fault 31 = .ok (.ifCond .eq 28, 3) := by decide +kernel
theorem dX12_fault_34 : decode cX12_fault 34 = .ok (.iload_n 3, 1) := by decide +kernel
theorem dX12_fault_35 : decode cX12_fault 35 = .ok (.i2l, 1) := by decide +kernel
theorem dX12_fault_36 : decode cX12_fault 36 = .ok (.lconst 0, 1) := by decide +kernel
theorem dX12_fault_37 : decode cX12_fault 37 = .ok (.ldc2_w 175, 3) := by decide +kernel
theorem dX12_fault_40 : decode cX12_fault 40 = .ok (.invokestatic 135, 3) := by decide +kernel
theorem dX12_fault_43 : decode cX12_fault 43 = .ok (.ifCond .eq 16, 3) := by decide +kernel
theorem dX12_fault_46 : decode cX12_fault 46 = .ok (.iload 4, 2) := by decide +kernel
theorem dX12_fault_48 : decode cX12_fault 48 = .ok (.i2l, 1) := by decide +kernel
theorem dX12_fault_49 : decode cX12_fault 49 = .ok (.lconst 1, 1) := by decide +kernel
theorem dX12_fault_50 : decode cX12_fault 50 = .ok (.ldc2_w 139, 3) := by decide +kernel
theorem dX12_fault_53 : decode cX12_fault 53 = .ok (.invokestatic 135, 3) := by decide +kernel
theorem dX12_fault_56 : decode cX12_fault 56 = .ok (.ifCond .ne 6, 3) := by decide +kernel
theorem dX12_fault_59 : decode cX12_fault 59 = .ok (.bipush (-2), 2) := by decide +kernel
theorem dX12_fault_61 : decode cX12_fault 61 = .ok (.ireturn, 1) := by decide +kernel
theorem dX12_fault_62 : decode cX12_fault 62 = .ok (.aload_n 0, 1) := by decide +kernel
theorem dX12_fault_63 : decode cX12_fault 63 = .ok (.getfield 98, 3) := by decide +kernel
theorem dX12_fault_66 : decode cX12_fault 66 = .ok (.bipush 8, 2) := by decide +kernel
theorem dX12_fault_68 : decode cX12_fault 68 = .ok (.if_icmp .ne 6, 3) := by decide +kernel
theorem dX12_fault_71 : decode cX12_fault 71 = .ok (.bipush (-4), 2) := by decide +kernel
theorem dX12_fault_73 : decode cX12_fault 73 = .ok (.ireturn, 1) := by decide +kernel
theorem dX12_fault_74 : decode cX12_fault 74 = .ok (.aload_n 0, 1) := by decide +kernel
theorem dX12_fault_75 : decode cX12_fault 75 = .ok (.iload_n 1, 1) := by decide +kernel
theorem dX12_fault_76 : decode cX12_fault 76 = .ok (.iload_n 2, 1) := by decide +kernel
theorem dX12_fault_77 : decode cX12_fault 77 = .ok (.iload_n 3, 1) := by decide +kernel
theorem dX12_fault_78 : decode cX12_fault 78 = .ok (.iload 4, 2) := by decide +kernel
theorem dX12_fault_80 : decode cX12_fault 80 = .ok (.invokevirtual 177, 3) := by decide +kernel
theorem dX12_fault_83 : decode cX12_fault 83 = .ok (.aload_n 0, 1) := by decide +kernel
theorem dX12_fault_84 : decode cX12_fault 84 = .ok (.getfield 98, 3) := by decide +kernel
theorem dX12_fault_87 : decode cX12_fault 87 = .ok (.iconst 1, 1) := by decide +kernel
theorem dX12_fault_88 : decode cX12_fault 88 = .ok (.isub, 1) := by decide +kernel
theorem dX12_fault_89 : decode cX12_fault 89 = .ok (.ireturn, 1) := by decide +kernel
theorem dX12_goes_0 : decode cX12_goes 0 = .ok (.iconst 4, 1) := by decide +kernel
theorem dX12_goes_1 : decode cX12_goes 1 = .ok (.iload_n 1, 1) := by decide +kernel
theorem dX12_goes_2 : decode cX12_goes 2 = .ok (.imul, 1) := by decide +kernel
theorem dX12_goes_3 : decode cX12_goes 3 = .ok (.istore_n 2, 1) := by decide +kernel
theorem dX12_goes_4 : decode cX12_goes 4 = .ok (.iload_n 2, 1) := by decide +kernel
theorem dX12_goes_5 : decode cX12_goes 5 = .ok (.iconst 4, 1) := by decide +kernel
theorem dX12_goes_6 : decode cX12_goes 6 = .ok (.iadd, 1) := by decide +kernel
theorem dX12_goes_7 : decode cX12_goes 7 = .ok (.iconst 4, 1) := by decide +kernel
theorem dX12_goes_8 : decode cX12_goes 8 = .ok (.aload_n 0, 1) := by decide +kernel
theorem dX12_goes_9 : decode cX12_goes 9 = .ok (.getfield 98, 3) := by decide +kernel
theorem dX12_goes_12 : decode cX12_goes 12 = .ok (.imul, 1) := by decide +kernel
theorem dX12_goes_13 : decode cX12_goes 13 = .ok (.if_icmp .ge 23, 3) := by decide +kernel
theorem dX12_goes_16 : decode cX12_goes 16 = .ok (.aload_n 0, 1) := by decide +kernel
theorem dX12_goes_17 : decode cX12_goes 17 = .ok (.getfield 9, 3) := by decide +kernel
theorem dX12_goes_20 : decode cX12_goes 20 = .ok (.iload_n 2, 1) := by decide +kernel
theorem dX12_goes_21 : decode cX12_goes 21 = .ok (.aload_n 0, 1) := by decide +kernel
theorem dX12_goes_22 : decode cX12_goes 22 = .ok (.getfield 9, 3) := by decide +kernel
theorem dX12_goes_25 : decode cX12_goes 25 = .ok (.iload_n 2, 1) := by decide +kernel
theorem dX12_goes_26 : decode cX12_goes 26 = .ok (.iconst 4, 1) := by decide +kernel
theorem dX12_goes_27 : decode cX12_goes 27 = .ok (.iadd, 1) := by decide +kernel
theorem dX12_goes_28 : decode cX12_goes 28 = .ok (.iaload, 1) := by decide +kernel
theorem dX12_goes_29 : decode cX12_goes 29 = .ok (.iastore, 1) := by decide +kernel
theorem dX12_goes_30 : decode cX12_goes 30 = .ok (.iinc 2 1, 3) := by decide +kernel
theorem dX12_goes_33 : decode cX12_goes 33 = .ok (.goto (-29), 3) := by decide +kernel
theorem dX12_goes_36 : decode cX12_goes 36 = .ok (.aload_n 0, 1) := by decide +kernel
theorem dX12_goes_37 : decode cX12_goes 37 = .ok (.dup, 1) := by decide +kernel
theorem dX12_goes_38 : decode cX12_goes 38 = .ok (.getfield 98, 3) := by decide +kernel
theorem dX12_goes_41 : decode cX12_goes 41 = .ok (.iconst 1, 1) := by decide +kernel
theorem dX12_goes_42 : decode cX12_goes 42 = .ok (.isub, 1) := by decide +kernel
theorem dX12_goes_43 : decode cX12_goes 43 = .ok (.putfield 98, 3) := by decide +kernel
theorem dX12_goes_46 : decode cX12_goes 46 = .ok (.return_, 1) := by decide +kernel
theorem dX12_heal_0 : decode cX12_heal 0 = .ok (.iload_n 1, 1) := by decide +kernel
theorem dX12_heal_1 : decode cX12_heal 1 = .ok (.i2l, 1) := by decide +kernel
theorem dX12_heal_2 : decode cX12_heal 2 = .ok (.lconst 0, 1) := by decide +kernel
theorem dX12_heal_3 : decode cX12_heal 3 = .ok (.aload_n 0, 1) := by decide +kernel
theorem dX12_heal_4 : decode cX12_heal 4 = .ok (.getfield 98, 3) := by decide +kernel
theorem dX12_heal_7 : decode cX12_heal 7 = .ok (.iconst 1, 1) := by decide +kernel
theorem dX12_heal_8 : decode cX12_heal 8 = .ok (.isub, 1) := by decide +kernel
theorem dX12_heal_9 : decode cX12_heal 9 = .ok (.i2l, 1) := by decide +kernel
theorem dX12_heal_10 : decode cX12_heal 10 = .ok (.invokestatic 135, 3) := by decide +kernel
theorem dX12_heal_13 : decode cX12_heal 13 = .ok (.ifCond .ne 6, 3) := by decide +kernel
theorem dX12_heal_16 : decode cX12_heal 16 = .ok (.bipush (-2), 2) := by decide +kernel
theorem dX12_heal_18 : decode cX12_heal 18 = .ok (.ireturn, 1) := by decide +kernel
theorem dX12_heal_19 : decode cX12_heal 19 = .ok (.aload_n 0, 1) := by decide +kernel
theorem dX12_heal_20 : decode cX12_heal 20 = .ok (.iload_n 1, 1) := by decide +kernel
theorem dX12_heal_21 : decode cX12_heal 21 = .ok (.invokevirtual 181, 3) := by decide +kernel
theorem dX12_heal_24 : decode cX12_heal 24 = .ok (.aload_n 0, 1) := by decide +kernel
theorem dX12_heal_25 : decode cX12_heal 25 = .ok (.getfield 98, 3) := by decide +kernel
theorem dX12_heal_28 : decode cX12_heal 28 = .ok (.ireturn, 1) := by decide +kernel
theorem dX12_across_0 : decode cX12_across 0 = .ok (.iload_n 0, 1) := by decide +kernel
theorem dX12_across_1 : decode cX12_across 1 = .ok (.iconst 4, 1) := by decide +kernel
theorem dX12_across_2 : decode cX12_across 2 = .ok (.irem, 1) := by decide +kernel
theorem dX12_across_3 : decode cX12_across 3 = .ok (.iconst 2, 1) := by decide +kernel
theorem dX12_across_4 : decode cX12_across 4 = .ok (.if_icmp .ne 7, 3) := by decide +kernel
theorem dX12_across_7 : decode cX12_across 7 = .ok (.iconst 0, 1) := by decide +kernel
theorem dX12_across_8 : decode cX12_across 8 = .ok (.goto 23, 3) := by decide +kernel
theorem dX12_across_11 : decode cX12_across 11 = .ok (.iload_n 0, 1) := by decide +kernel
theorem dX12_across_12 : decode cX12_across 12 = .ok (.ifCond .eq 14, 3) := by decide +kernel
theorem dX12_across_15 : decode cX12_across 15 = .ok (.iload_n 0, 1) := by decide +kernel
theorem dX12_across_16 : decode cX12_across 16 = .ok (.iconst 1, 1) := by decide +kernel
theorem dX12_across_17 : decode cX12_across 17 = .ok (.if_icmp .eq 9, 3) := by decide +kernel
theorem dX12_across_20 : decode cX12_across 20 = .ok (.iload_n 0, 1) := by decide +kernel
theorem dX12_across_21 : decode cX12_across 21 = .ok (.bipush 7, 2) := by decide +kernel
theorem dX12_across_23 : decode cX12_across 23 = .ok (.if_icmp .ne 7, 3) := by decide +kernel
theorem dX12_across_26 : decode cX12_across 26 = .ok (.iconst 1, 1) := by decide +kernel
theorem dX12_across_27 : decode cX12_across 27 = .ok (.goto 4, 3) := by decide +kernel
theorem dX12_across_30 : decode cX12_across 30 = .ok (.iconst (-1), 1) := by decide +kernel
theorem dX12_across_31 : decode cX12_across 31 = .ok (.ireturn, 1) := by decide +kernel
theorem dX12_up_0 : decode cX12_up 0 = .ok (.iload_n 0, 1) := by decide +kernel
theorem dX12_up_1 : decode cX12_up 1 = .ok (.iconst 4, 1) := by decide +kernel
theorem dX12_up_2 : decode cX12_up 2 = .ok (.irem, 1) := by decide +kernel
theorem dX12_up_3 : decode cX12_up 3 = .ok (.ifCond .ne 7, 3) := by decide +kernel
theorem dX12_up_6 : decode cX12_up 6 = .ok (.iconst 0, 1) := by decide +kernel
theorem dX12_up_7 : decode cX12_up 7 = .ok (.goto 13, 3) := by decide +kernel
theorem dX12_up_10 : decode cX12_up 10 = .ok (.iload_n 0, 1) := by decide +kernel
theorem dX12_up_11 : decode cX12_up 11 = .ok (.iconst 4, 1) := by decide +kernel
theorem dX12_up_12 : decode cX12_up 12 = .ok (.if_icmp .ge 7, 3) := by decide +kernel
theorem dX12_up_15 : decode cX12_up 15 = .ok (.iconst 1, 1) := by decide +kernel
theorem dX12_up_16 : decode cX12_up 16 = .ok (.goto 4, 3) := by decide +kernel
theorem dX12_up_19 : decode cX12_up 19 = .ok (.iconst (-1), 1) := by decide +kernel
theorem dX12_up_20 : decode cX12_up 20 = .ok (.ireturn, 1) := by decide +kernel
theorem dX12_isIn_0 : decode cX12_isIn 0 = .ok (.iconst 2, 1) := by decide +kernel
theorem dX12_isIn_1 : decode cX12_isIn 1 = .ok (.iload_n 2, 1) := by decide +kernel
theorem dX12_isIn_2 : decode cX12_isIn 2 = .ok (.imul, 1) := by decide +kernel
theorem dX12_isIn_3 : decode cX12_isIn 3 = .ok (.bipush 11, 2) := by decide +kernel
theorem dX12_isIn_5 : decode cX12_isIn 5 = .ok (.isub, 1) := by decide +kernel
theorem dX12_isIn_6 : decode cX12_isIn 6 = .ok (.istore 4, 2) := by decide +kernel
theorem dX12_isIn_8 : decode cX12_isIn 8 = .ok (.iconst 2, 1) := by decide +kernel
theorem dX12_isIn_9 : decode cX12_isIn 9 = .ok (.iload_n 3, 1) := by decide +kernel
theorem dX12_isIn_10 : decode cX12_isIn 10 = .ok (.imul, 1) := by decide +kernel
theorem dX12_isIn_11 : decode cX12_isIn 11 = .ok (.bipush 11, 2) := by decide +kernel
theorem dX12_isIn_13 : decode cX12_isIn 13 = .ok (.isub, 1) := by decide +kernel
theorem dX12_isIn_14 : decode cX12_isIn 14 = .ok (.istore 5, 2) := by decide +kernel
theorem dX12_isIn_16 : decode cX12_isIn 16 = .ok (.aload_n 0, 1) := by decide +kernel
theorem dX12_isIn_17 : decode cX12_isIn 17 = .ok (.getfield 9, 3) := by decide +kernel
theorem dX12_isIn_20 : decode cX12_isIn 20 = .ok (.iconst 4, 1) := by decide +kernel
theorem dX12_isIn_21 : decode cX12_isIn 21 = .ok (.iload_n 1, 1) := by decide +kernel
theorem dX12_isIn_22 : decode cX12_isIn 22 = .ok (.imul, 1) := by decide +kernel
theorem dX12_isIn_23 : decode cX12_isIn 23 = .ok (.iconst 1, 1) := by decide +kernel
theorem dX12_isIn_24 : decode cX12_isIn 24 = .ok (.iadd, 1) := by decide +kernel
theorem dX12_isIn_25 : decode cX12_isIn 25 = .ok (.iaload, 1) := by decide +kernel
theorem dX12_isIn_26 : decode cX12_isIn 26 = .ok (.invokestatic 185, 3) := by decide +kernel
theorem dX12_isIn_29 : decode cX12_isIn 29 = .ok (.istore 6, 2) := by decide +kernel
theorem dX12_isIn_31 : decode cX12_isIn 31 = .ok (.aload_n 0, 1) := by decide +kernel
theorem dX12_isIn_32 : decode cX12_isIn 32 = .ok (.getfield 9, 3) := by decide +kernel
theorem dX12_isIn_35 : decode cX12_isIn 35 = .ok (.iconst 4, 1) := by decide +kernel
theorem dX12_isIn_36 : decode cX12_isIn 36 = .ok (.iload_n 1, 1) := by decide +kernel
theorem dX12_isIn_37 : decode cX12_isIn 37 = .ok (.imul, 1) := by decide +kernel
theorem dX12_isIn_38 : decode cX12_isIn 38 = .ok (.iconst 1, 1) := by decide +kernel
theorem dX12_isIn_39 : decode cX12_isIn 39 = .ok (.iadd, 1) := by decide +kernel
theorem dX12_isIn_40 : decode cX12_isIn 40 = .ok (.iaload, 1) := by decide +kernel
theorem dX12_isIn_41 : decode cX12_isIn 41 = .ok (.invokestatic 188, 3) := by decide +kernel
theorem dX12_isIn_44 : decode cX12_isIn 44 = .ok (.istore 7, 2) := by decide +kernel
theorem dX12_isIn_46 : decode cX12_isIn 46 = .ok (.iload 6, 2) := by decide +kernel
theorem dX12_isIn_48 : decode cX12_isIn 48 = .ok (.iload 4, 2) := by decide +kernel
theorem dX12_isIn_50 : decode cX12_isIn 50 = .ok (.imul, 1) := by decide +kernel
theorem dX12_isIn_51 : decode cX12_isIn 51 = .ok (.iload 7, 2) := by decide +kernel
theorem dX12_isIn_53 : decode cX12_isIn 53 = .ok (.iload 5, 2) := by decide +kernel
theorem dX12_isIn_55 : decode cX12_isIn 55 = .ok (.imul, 1) := by decide +kernel
theorem dX12_isIn_56 : decode cX12_isIn 56 = .ok (.iadd, 1) := by decide +kernel
theorem dX12_isIn_57 : decode cX12_isIn 57 = .ok (.istore 8, 2) := by decide +kernel
theorem dX12_isIn_59 : decode cX12_isIn 59 = .ok (.iload 6, 2) := by decide +kernel
theorem dX12_isIn_61 : decode cX12_isIn 61 = .ok (.iload 5, 2) := by decide +kernel
theorem dX12_isIn_63 : decode cX12_isIn 63 = .ok (.imul, 1) := by decide +kernel
theorem dX12_isIn_64 : decode cX12_isIn 64 = .ok (.iload 7, 2) := by decide +kernel
theorem dX12_isIn_66 : decode cX12_isIn 66 = .ok (.iload 4, 2) := by decide +kernel
theorem dX12_isIn_68 : decode cX12_isIn 68 = .ok (.imul, 1) := by decide +kernel
theorem dX12_isIn_69 : decode cX12_isIn 69 = .ok (.isub, 1) := by decide +kernel
theorem dX12_isIn_70 : decode cX12_isIn 70 = .ok (.invokestatic 191, 3) := by decide +kernel
theorem dX12_isIn_73 : decode cX12_isIn 73 = .ok (.istore 9, 2) := by decide +kernel
theorem dX12_isIn_75 : decode cX12_isIn 75 = .ok (.aload_n 0, 1) := by decide +kernel
theorem dX12_isIn_76 : decode cX12_isIn 76 = .ok (.getfield 9, 3) := by decide +kernel
theorem dX12_isIn_79 : decode cX12_isIn 79 = .ok (.iconst 4, 1) := by decide +kernel
theorem dX12_isIn_80 : decode cX12_isIn 80 = .ok (.iload_n 1, 1) := by decide +kernel
theorem dX12_isIn_81 : decode cX12_isIn 81 = .ok (.imul, 1) := by decide +kernel
theorem dX12_isIn_82 : decode cX12_isIn 82 = .ok (.iconst 3, 1) := by decide +kernel
theorem dX12_isIn_83 : decode cX12_isIn 83 = .ok (.iadd, 1) := by decide +kernel
theorem dX12_isIn_84 : decode cX12_isIn 84 = .ok (.iaload, 1) := by decide +kernel
theorem dX12_isIn_85 : decode cX12_isIn 85 = .ok (.istore 10, 2) := by decide +kernel
theorem dX12_isIn_87 : decode cX12_isIn 87 = .ok (.iload 4, 2) := by decide +kernel
theorem dX12_isIn_89 : decode cX12_isIn 89 = .ok (.iload 4, 2) := by decide +kernel
theorem dX12_isIn_91 : decode cX12_isIn 91 = .ok (.imul, 1) := by decide +kernel
theorem dX12_isIn_92 : decode cX12_isIn 92 = .ok (.iload 5, 2) := by decide +kernel
theorem dX12_isIn_94 : decode cX12_isIn 94 = .ok (.iload 5, 2) := by decide +kernel
theorem dX12_isIn_96 : decode cX12_isIn 96 = .ok (.imul, 1) := by decide +kernel
theorem dX12_isIn_97 : decode cX12_isIn 97 = .ok (.iadd, 1) := by decide +kernel
theorem dX12_isIn_98 : decode cX12_isIn 98 = .ok (.istore 11, 2) := by decide +kernel
theorem dX12_isIn_100 : decode cX12_isIn 100 = .ok (.aload_n 0, 1) := by decide +kernel
theorem dX12_isIn_101 : decode cX12_isIn 101 = .ok (.getfield 9, 3) := by decide +kernel
theorem dX12_isIn_104 : decode cX12_isIn 104 = .ok (.iconst 4, 1) := by decide +kernel
theorem dX12_isIn_105 : decode cX12_isIn 105 = .ok (.iload_n 1, 1) := by decide +kernel
theorem dX12_isIn_106 : decode cX12_isIn 106 = .ok (.imul, 1) := by decide +kernel
theorem dX12_isIn_107 : decode cX12_isIn 107 = .ok (.iaload, 1) := by decide +kernel
theorem dX12_isIn_108 : decode cX12_isIn 108 = .ok (.tableswitch 150 0 5 #[40, 58, 58, 78, 90, 132], 40) := by decide +kernel
theorem dX12_isIn_148 : decode cX12_isIn 148 = .ok (.iload 8, 2) := by decide +kernel
theorem dX12_isIn_150 : decode cX12_isIn 150 = .ok (.ifCond .le 14, 3) := by decide +kernel
theorem dX12_isIn_153 : decode cX12_isIn 153 = .ok (.iload 9, 2) := by decide +kernel
theorem dX12_isIn_155 : decode cX12_isIn 155 = .ok (.iload 10, 2) := by decide +kernel
theorem dX12_isIn_157 : decode cX12_isIn 157 = .ok (.if_icmp .gt 7, 3) := by decide +kernel
theorem dX12_isIn_160 : decode cX12_isIn 160 = .ok (.iconst 1, 1) := by decide +kernel
theorem dX12_isIn_161 : decode cX12_isIn 161 = .ok (.goto 4, 3) := by decide +kernel
theorem dX12_isIn_164 : decode cX12_isIn 164 = .ok (.iconst 0, 1) := by decide +kernel
theorem dX12_isIn_165 : decode cX12_isIn 165 = .ok (.ireturn, 1) := by decide +kernel
theorem dX12_isIn_166 : decode cX12_isIn 166 = .ok (.iload 8, 2) := by decide +kernel
theorem dX12_isIn_168 : decode cX12_isIn 168 = .ok (.ifCond .le 16, 3) := by decide +kernel
theorem dX12_isIn_171 : decode cX12_isIn 171 = .ok (.iload 9, 2) := by decide +kernel
theorem dX12_isIn_173 : decode cX12_isIn 173 = .ok (.iload 10, 2) := by decide +kernel
theorem dX12_isIn_175 : decode cX12_isIn 175 = .ok (.iconst 2, 1) := by decide +kernel
theorem dX12_isIn_176 : decode cX12_isIn 176 = .ok (.iadd, 1) := by decide +kernel
theorem dX12_isIn_177 : decode cX12_isIn 177 = .ok (.if_icmp .gt 7, 3) := by decide +kernel
theorem dX12_isIn_180 : decode cX12_isIn 180 = .ok (.iconst 1, 1) := by decide +kernel
theorem dX12_isIn_181 : decode cX12_isIn 181 = .ok (.goto 4, 3) := by decide +kernel
theorem dX12_isIn_184 : decode cX12_isIn 184 = .ok (.iconst 0, 1) := by decide +kernel
theorem dX12_isIn_185 : decode cX12_isIn 185 = .ok (.ireturn, 1) := by decide +kernel
theorem dX12_isIn_186 : decode cX12_isIn 186 = .ok (.iload 9, 2) := by decide +kernel
theorem dX12_isIn_188 : decode cX12_isIn 188 = .ok (.iconst 1, 1) := by decide +kernel
theorem dX12_isIn_189 : decode cX12_isIn 189 = .ok (.if_icmp .gt 7, 3) := by decide +kernel
theorem dX12_isIn_192 : decode cX12_isIn 192 = .ok (.iconst 1, 1) := by decide +kernel
theorem dX12_isIn_193 : decode cX12_isIn 193 = .ok (.goto 4, 3) := by decide +kernel
theorem dX12_isIn_196 : decode cX12_isIn 196 = .ok (.iconst 0, 1) := by decide +kernel
theorem dX12_isIn_197 : decode cX12_isIn 197 = .ok (.ireturn, 1) := by decide +kernel
theorem dX12_isIn_198 : decode cX12_isIn 198 = .ok (.iload 11, 2) := by decide +kernel
theorem dX12_isIn_200 : decode cX12_isIn 200 = .ok (.iconst 2, 1) := by decide +kernel
theorem dX12_isIn_201 : decode cX12_isIn 201 = .ok (.iload 10, 2) := by decide +kernel
theorem dX12_isIn_203 : decode cX12_isIn 203 = .ok (.imul, 1) := by decide +kernel
theorem dX12_isIn_204 : decode cX12_isIn 204 = .ok (.iconst 1, 1) := by decide +kernel
theorem dX12_isIn_205 : decode cX12_isIn 205 = .ok (.isub, 1) := by decide +kernel
theorem dX12_isIn_206 : decode cX12_isIn 206 = .ok (.iconst 2, 1) := by decide +kernel
theorem dX12_isIn_207 : decode cX12_isIn 207 = .ok (.iload 10, 2) := by decide +kernel
theorem dX12_isIn_209 : decode cX12_isIn 209 = .ok (.imul, 1) := by decide +kernel
theorem dX12_isIn_210 : decode cX12_isIn 210 = .ok (.iconst 1, 1) := by decide +kernel
theorem dX12_isIn_211 : decode cX12_isIn 211 = .ok (.isub, 1) := by decide +kernel
theorem dX12_isIn_212 : decode cX12_isIn 212 = .ok (.imul, 1) := by decide +kernel
theorem dX12_isIn_213 : decode cX12_isIn 213 = .ok (.if_icmp .lt 25, 3) := by decide +kernel
theorem dX12_isIn_216 : decode cX12_isIn 216 = .ok (.iload 11, 2) := by decide +kernel
theorem dX12_isIn_218 : decode cX12_isIn 218 = .ok (.iconst 2, 1) := by decide +kernel
theorem dX12_isIn_219 : decode cX12_isIn 219 = .ok (.iload 10, 2) := by decide +kernel
theorem dX12_isIn_221 : decode cX12_isIn 221 = .ok (.imul, 1) := by decide +kernel
theorem dX12_isIn_222 : decode cX12_isIn 222 = .ok (.iconst 1, 1) := by decide +kernel
theorem dX12_isIn_223 : decode cX12_isIn 223 = .ok (.iadd, 1) := by decide +kernel
theorem dX12_isIn_224 : decode cX12_isIn 224 = .ok (.iconst 2, 1) := by decide +kernel
theorem dX12_isIn_225 : decode cX12_isIn 225 = .ok (.iload 10, 2) := by decide +kernel
theorem dX12_isIn_227 : decode cX12_isIn 227 = .ok (.imul, 1) := by decide +kernel
theorem dX12_isIn_228 : decode cX12_isIn 228 = .ok (.iconst 1, 1) := by decide +kernel
theorem dX12_isIn_229 : decode cX12_isIn 229 = .ok (.iadd, 1) := by decide +kernel
theorem dX12_isIn_230 : decode cX12_isIn 230 = .ok (.imul, 1) := by decide +kernel
theorem dX12_isIn_231 : decode cX12_isIn 231 = .ok (.if_icmp .gt 7, 3) := by decide +kernel
theorem dX12_isIn_234 : decode cX12_isIn 234 = .ok (.iconst 1, 1) := by decide +kernel
theorem dX12_isIn_235 : decode cX12_isIn 235 = .ok (.goto 4, 3) := by decide +kernel
theorem dX12_isIn_238 : decode cX12_isIn 238 = .ok (.iconst 0, 1) := by decide +kernel
theorem dX12_isIn_239 : decode cX12_isIn 239 = .ok (.ireturn, 1) := by decide +kernel
theorem dX12_isIn_240 : decode cX12_isIn 240 = .ok (.iload 11, 2) := by decide +kernel
theorem dX12_isIn_242 : decode cX12_isIn 242 = .ok (.iconst 4, 1) := by decide +kernel
theorem dX12_isIn_243 : decode cX12_isIn 243 = .ok (.iload 10, 2) := by decide +kernel
theorem dX12_isIn_245 : decode cX12_isIn 245 = .ok (.imul, 1) := by decide +kernel
theorem dX12_isIn_246 : decode cX12_isIn 246 = .ok (.iload 10, 2) := by decide +kernel
theorem dX12_isIn_248 : decode cX12_isIn 248 = .ok (.imul, 1) := by decide +kernel
theorem dX12_isIn_249 : decode cX12_isIn 249 = .ok (.if_icmp .gt 7, 3) := by decide +kernel
theorem dX12_isIn_252 : decode cX12_isIn 252 = .ok (.iconst 1, 1) := by decide +kernel
theorem dX12_isIn_253 : decode cX12_isIn 253 = .ok (.goto 4, 3) := by decide +kernel
theorem dX12_isIn_256 : decode cX12_isIn 256 = .ok (.iconst 0, 1) := by decide +kernel
theorem dX12_isIn_257 : decode cX12_isIn 257 = .ok (.ireturn, 1) := by decide +kernel
theorem dX12_isIn_258 : decode cX12_isIn 258 = .ok (.iload 11, 2) := by decide +kernel
theorem dX12_isIn_260 : decode cX12_isIn 260 = .ok (.iconst 4, 1) := by decide +kernel
theorem dX12_isIn_261 : decode cX12_isIn 261 = .ok (.iload 10, 2) := by decide +kernel
theorem dX12_isIn_263 : decode cX12_isIn 263 = .ok (.imul, 1) := by decide +kernel
theorem dX12_isIn_264 : decode cX12_isIn 264 = .ok (.iload 10, 2) := by decide +kernel
theorem dX12_isIn_266 : decode cX12_isIn 266 = .ok (.imul, 1) := by decide +kernel
theorem dX12_isIn_267 : decode cX12_isIn 267 = .ok (.if_icmp .gt 12, 3) := by decide +kernel
theorem dX12_isIn_270 : decode cX12_isIn 270 = .ok (.iload 8, 2) := by decide +kernel
theorem dX12_isIn_272 : decode cX12_isIn 272 = .ok (.ifCond .le 7, 3) := by decide +kernel
theorem dX12_isIn_275 : decode cX12_isIn 275 = .ok (.iconst 1, 1) := by decide +kernel
theorem dX12_isIn_276 : decode cX12_isIn 276 = .ok (.goto 4, 3) := by decide +kernel
theorem dX12_isIn_279 : decode cX12_isIn 279 = .ok (.iconst 0, 1) := by decide +kernel
theorem dX12_isIn_280 : decode cX12_isIn 280 = .ok (.ireturn, 1) := by decide +kernel
theorem dX12_lasts_0 : decode cX12_lasts 0 = .ok (.aload_n 0, 1) := by decide +kernel
theorem dX12_lasts_1 : decode cX12_lasts 1 = .ok (.getfield 9, 3) := by decide +kernel
theorem dX12_lasts_4 : decode cX12_lasts 4 = .ok (.iconst 4, 1) := by decide +kernel
theorem dX12_lasts_5 : decode cX12_lasts 5 = .ok (.iload_n 1, 1) := by decide +kernel
theorem dX12_lasts_6 : decode cX12_lasts 6 = .ok (.imul, 1) := by decide +kernel
theorem dX12_lasts_7 : decode cX12_lasts 7 = .ok (.iconst 3, 1) := by decide +kernel
theorem dX12_lasts_8 : decode cX12_lasts 8 = .ok (.iadd, 1) := by decide +kernel
theorem dX12_lasts_9 : decode cX12_lasts 9 = .ok (.iaload, 1) := by decide +kernel
theorem dX12_lasts_10 : decode cX12_lasts 10 = .ok (.istore_n 2, 1) := by decide +kernel
theorem dX12_lasts_11 : decode cX12_lasts 11 = .ok (.aload_n 0, 1) := by decide +kernel
theorem dX12_lasts_12 : decode cX12_lasts 12 = .ok (.getfield 9, 3) := by decide +kernel
theorem dX12_lasts_15 : decode cX12_lasts 15 = .ok (.iconst 4, 1) := by decide +kernel
theorem dX12_lasts_16 : decode cX12_lasts 16 = .ok (.iload_n 1, 1) := by decide +kernel
theorem dX12_lasts_17 : decode cX12_lasts 17 = .ok (.imul, 1) := by decide +kernel
theorem dX12_lasts_18 : decode cX12_lasts 18 = .ok (.iaload, 1) := by decide +kernel
theorem dX12_lasts_19 : decode cX12_lasts 19 = .ok (.tableswitch 43 0 4 #[33, 33, 35, 39, 39], 33) := by decide +kernel
theorem dX12_lasts_52 : decode cX12_lasts 52 = .ok (.iload_n 2, 1) := by decide +kernel
theorem dX12_lasts_53 : decode cX12_lasts 53 = .ok (.ireturn, 1) := by decide +kernel
theorem dX12_lasts_54 : decode cX12_lasts 54 = .ok (.iconst 2, 1) := by decide +kernel
theorem dX12_lasts_55 : decode cX12_lasts 55 = .ok (.iload_n 2, 1) := by decide +kernel
theorem dX12_lasts_56 : decode cX12_lasts 56 = .ok (.imul, 1) := by decide +kernel
theorem dX12_lasts_57 : decode cX12_lasts 57 = .ok (.ireturn, 1) := by decide +kernel
theorem dX12_lasts_58 : decode cX12_lasts 58 = .ok (.iload_n 2, 1) := by decide +kernel
theorem dX12_lasts_59 : decode cX12_lasts 59 = .ok (.iconst 2, 1) := by decide +kernel
theorem dX12_lasts_60 : decode cX12_lasts 60 = .ok (.iadd, 1) := by decide +kernel
theorem dX12_lasts_61 : decode cX12_lasts 61 = .ok (.ireturn, 1) := by decide +kernel
theorem dX12_lasts_62 : decode cX12_lasts 62 = .ok (.bipush 8, 2) := by decide +kernel
theorem dX12_lasts_64 : decode cX12_lasts 64 = .ok (.ireturn, 1) := by decide +kernel
theorem dX12_hurts_0 : decode cX12_hurts 0 = .ok (.iload_n 0, 1) := by decide +kernel
theorem dX12_hurts_1 : decode cX12_hurts 1 = .ok (.tableswitch 44 1 5 #[35, 35, 37, 39, 41], 35) := by decide +kernel
theorem dX12_hurts_36 : decode cX12_hurts 36 = .ok (.iconst 2, 1) := by decide +kernel
theorem dX12_hurts_37 : decode cX12_hurts 37 = .ok (.ireturn, 1) := by decide +kernel
theorem dX12_hurts_38 : decode cX12_hurts 38 = .ok (.iconst 3, 1) := by decide +kernel
theorem dX12_hurts_39 : decode cX12_hurts 39 = .ok (.ireturn, 1) := by decide +kernel
theorem dX12_hurts_40 : decode cX12_hurts 40 = .ok (.iconst 4, 1) := by decide +kernel
theorem dX12_hurts_41 : decode cX12_hurts 41 = .ok (.ireturn, 1) := by decide +kernel
theorem dX12_hurts_42 : decode cX12_hurts 42 = .ok (.bipush 9, 2) := by decide +kernel
theorem dX12_hurts_44 : decode cX12_hurts 44 = .ok (.ireturn, 1) := by decide +kernel
theorem dX12_hurts_45 : decode cX12_hurts 45 = .ok (.iconst 1, 1) := by decide +kernel
theorem dX12_hurts_46 : decode cX12_hurts 46 = .ok (.ireturn, 1) := by decide +kernel
theorem dX12_isAt_0 : decode cX12_isAt 0 = .ok (.aload_n 0, 1) := by decide +kernel
theorem dX12_isAt_1 : decode cX12_isAt 1 = .ok (.getfield 9, 3) := by decide +kernel
theorem dX12_isAt_4 : decode cX12_isAt 4 = .ok (.iconst 4, 1) := by decide +kernel
theorem dX12_isAt_5 : decode cX12_isAt 5 = .ok (.iload_n 1, 1) := by decide +kernel
theorem dX12_isAt_6 : decode cX12_isAt 6 = .ok (.imul, 1) := by decide +kernel
theorem dX12_isAt_7 : decode cX12_isAt 7 = .ok (.iconst 2, 1) := by decide +kernel
theorem dX12_isAt_8 : decode cX12_isAt 8 = .ok (.iadd, 1) := by decide +kernel
theorem dX12_isAt_9 : decode cX12_isAt 9 = .ok (.iaload, 1) := by decide +kernel
theorem dX12_isAt_10 : decode cX12_isAt 10 = .ok (.istore_n 3, 1) := by decide +kernel
theorem dX12_isAt_11 : decode cX12_isAt 11 = .ok (.iload_n 2, 1) := by decide +kernel
theorem dX12_isAt_12 : decode cX12_isAt 12 = .ok (.iload_n 3, 1) := by decide +kernel
theorem dX12_isAt_13 : decode cX12_isAt 13 = .ok (.if_icmp .lt 18, 3) := by decide +kernel
theorem dX12_isAt_16 : decode cX12_isAt 16 = .ok (.iload_n 2, 1) := by decide +kernel
theorem dX12_isAt_17 : decode cX12_isAt 17 = .ok (.iload_n 3, 1) := by decide +kernel
theorem dX12_isAt_18 : decode cX12_isAt 18 = .ok (.aload_n 0, 1) := by decide +kernel
theorem dX12_isAt_19 : decode cX12_isAt 19 = .ok (.iload_n 1, 1) := by decide +kernel
theorem dX12_isAt_20 : decode cX12_isAt 20 = .ok (.invokevirtual 194, 3) := by decide +kernel
theorem dX12_isAt_23 : decode cX12_isAt 23 = .ok (.iadd, 1) := by decide +kernel
theorem dX12_isAt_24 : decode cX12_isAt 24 = .ok (.if_icmp .ge 7, 3) := by decide +kernel
theorem dX12_isAt_27 : decode cX12_isAt 27 = .ok (.iconst 1, 1) := by decide +kernel
theorem dX12_isAt_28 : decode cX12_isAt 28 = .ok (.goto 4, 3) := by decide +kernel
theorem dX12_isAt_31 : decode cX12_isAt 31 = .ok (.iconst 0, 1) := by decide +kernel
theorem dX12_isAt_32 : decode cX12_isAt 32 = .ok (.ireturn, 1) := by decide +kernel
theorem dX12_woodIn_0 : decode cX12_woodIn 0 = .ok (.iconst 0, 1) := by decide +kernel
theorem dX12_woodIn_1 : decode cX12_woodIn 1 = .ok (.istore_n 2, 1) := by decide +kernel
theorem dX12_woodIn_2 : decode cX12_woodIn 2 = .ok (.iconst 0, 1) := by decide +kernel
theorem dX12_woodIn_3 : decode cX12_woodIn 3 = .ok (.istore_n 3, 1) := by decide +kernel
theorem dX12_woodIn_4 : decode cX12_woodIn 4 = .ok (.iload_n 3, 1) := by decide +kernel
theorem dX12_woodIn_5 : decode cX12_woodIn 5 = .ok (.sipush 144, 3) := by decide +kernel
theorem dX12_woodIn_8 : decode cX12_woodIn 8 = .ok (.aload_n 0, 1) := by decide +kernel
theorem dX12_woodIn_9 : decode cX12_woodIn 9 = .ok (.getfield 92, 3) := by decide +kernel
theorem dX12_woodIn_12 : decode cX12_woodIn 12 = .ok (.imul, 1) := by decide +kernel
theorem dX12_woodIn_13 : decode cX12_woodIn 13 = .ok (.if_icmp .ge 74, 3) := by decide +kernel
theorem dX12_woodIn_16 : decode cX12_woodIn 16 = .ok (.iload_n 3, 1) := by decide +kernel
theorem dX12_woodIn_17 : decode cX12_woodIn 17 = .ok (.bipush 12, 2) := by decide +kernel
theorem dX12_woodIn_19 : decode cX12_woodIn 19 = .ok (.irem, 1) := by decide +kernel
theorem dX12_woodIn_20 : decode cX12_woodIn 20 = .ok (.istore 4, 2) := by decide +kernel
theorem dX12_woodIn_22 : decode cX12_woodIn 22 = .ok (.iload_n 3, 1) := by decide +kernel
theorem dX12_woodIn_23 : decode cX12_woodIn 23 = .ok (.bipush 12, 2) := by decide +kernel
theorem dX12_woodIn_25 : decode cX12_woodIn 25 = .ok (.idiv, 1) := by decide +kernel
theorem dX12_woodIn_26 : decode cX12_woodIn 26 = .ok (.bipush 12, 2) := by decide +kernel
theorem dX12_woodIn_28 : decode cX12_woodIn 28 = .ok (.irem, 1) := by decide +kernel
theorem dX12_woodIn_29 : decode cX12_woodIn 29 = .ok (.istore 5, 2) := by decide +kernel
theorem dX12_woodIn_31 : decode cX12_woodIn 31 = .ok (.iload_n 3, 1) := by decide +kernel
theorem dX12_woodIn_32 : decode cX12_woodIn 32 = .ok (.sipush 144, 3) := by decide +kernel
theorem dX12_woodIn_35 : decode cX12_woodIn 35 = .ok (.idiv, 1) := by decide +kernel
theorem dX12_woodIn_36 : decode cX12_woodIn 36 = .ok (.istore 6, 2) := by decide +kernel
theorem dX12_woodIn_38 : decode cX12_woodIn 38 = .ok (.iload_n 2, 1) := by decide +kernel
theorem dX12_woodIn_39 : decode cX12_woodIn 39 = .ok (.aload_n 0, 1) := by decide +kernel
theorem dX12_woodIn_40 : decode cX12_woodIn 40 = .ok (.iload_n 1, 1) := by decide +kernel
theorem dX12_woodIn_41 : decode cX12_woodIn 41 = .ok (.iload 6, 2) := by decide +kernel
theorem dX12_woodIn_43 : decode cX12_woodIn 43 = .ok (.invokevirtual 197, 3) := by decide +kernel
theorem dX12_woodIn_46 : decode cX12_woodIn 46 = .ok (.ifCond .eq 32, 3) := by decide +kernel
theorem dX12_woodIn_49 : decode cX12_woodIn 49 = .ok (.aload_n 0, 1) := by decide +kernel
theorem dX12_woodIn_50 : decode cX12_woodIn 50 = .ok (.iload_n 1, 1) := by decide +kernel
theorem dX12_woodIn_51 : decode cX12_woodIn 51 = .ok (.iload 4, 2) := by decide +kernel
theorem dX12_woodIn_53 : decode cX12_woodIn 53 = .ok (.iload 5, 2) := by decide +kernel
theorem dX12_woodIn_55 : decode cX12_woodIn 55 = .ok (.invokevirtual 201, 3) := by decide +kernel
theorem dX12_woodIn_58 : decode cX12_woodIn 58 = .ok (.ifCond .eq 20, 3) := by decide +kernel
theorem dX12_woodIn_61 : decode cX12_woodIn 61 = .ok (.aload_n 0, 1) := by decide +kernel
theorem dX12_woodIn_62 : decode cX12_woodIn 62 = .ok (.iload 4, 2) := by decide +kernel
theorem dX12_woodIn_64 : decode cX12_woodIn 64 = .ok (.iload 5, 2) := by decide +kernel
theorem dX12_woodIn_66 : decode cX12_woodIn 66 = .ok (.iload 6, 2) := by decide +kernel
theorem dX12_woodIn_68 : decode cX12_woodIn 68 = .ok (.invokevirtual 127, 3) := by decide +kernel
theorem dX12_woodIn_71 : decode cX12_woodIn 71 = .ok (.ifCond .eq 7, 3) := by decide +kernel
theorem dX12_woodIn_74 : decode cX12_woodIn 74 = .ok (.iconst 1, 1) := by decide +kernel
theorem dX12_woodIn_75 : decode cX12_woodIn 75 = .ok (.goto 4, 3) := by decide +kernel
theorem dX12_woodIn_78 : decode cX12_woodIn 78 = .ok (.iconst 0, 1) := by decide +kernel
theorem dX12_woodIn_79 : decode cX12_woodIn 79 = .ok (.iadd, 1) := by decide +kernel
theorem dX12_woodIn_80 : decode cX12_woodIn 80 = .ok (.istore_n 2, 1) := by decide +kernel
theorem dX12_woodIn_81 : decode cX12_woodIn 81 = .ok (.iinc 3 1, 3) := by decide +kernel
theorem dX12_woodIn_84 : decode cX12_woodIn 84 = .ok (.goto (-80), 3) := by decide +kernel
theorem dX12_woodIn_87 : decode cX12_woodIn 87 = .ok (.iload_n 2, 1) := by decide +kernel
theorem dX12_woodIn_88 : decode cX12_woodIn 88 = .ok (.ireturn, 1) := by decide +kernel
theorem dX12_told_0 : decode cX12_told 0 = .ok (.iload_n 1, 1) := by decide +kernel
theorem dX12_told_1 : decode cX12_told 1 = .ok (.i2l, 1) := by decide +kernel
theorem dX12_told_2 : decode cX12_told 2 = .ok (.lconst 0, 1) := by decide +kernel
theorem dX12_told_3 : decode cX12_told 3 = .ok (.aload_n 0, 1) := by decide +kernel
theorem dX12_told_4 : decode cX12_told 4 = .ok (.getfield 98, 3) := by decide +kernel
theorem dX12_told_7 : decode cX12_told 7 = .ok (.iconst 1, 1) := by decide +kernel
theorem dX12_told_8 : decode cX12_told 8 = .ok (.isub, 1) := by decide +kernel
theorem dX12_told_9 : decode cX12_told 9 = .ok (.i2l, 1) := by decide +kernel
theorem dX12_told_10 : decode cX12_told 10 = .ok (.invokestatic 135, 3) := by decide +kernel
theorem dX12_told_13 : decode cX12_told 13 = .ok (.ifCond .ne 6, 3) := by decide +kernel
theorem dX12_told_16 : decode cX12_told 16 = .ok (.bipush (-2), 2) := by decide +kernel
theorem dX12_told_18 : decode cX12_told 18 = .ok (.ireturn, 1) := by decide +kernel
theorem dX12_told_19 : decode cX12_told 19 = .ok (.iload_n 2, 1) := by decide +kernel
theorem dX12_told_20 : decode cX12_told 20 = .ok (.tableswitch 112 0 6 #[44, 44, 44, 44, 55, 61, 100], 44) := by decide +kernel
theorem dX12_told_64 : decode cX12_told 64 = .ok (.aload_n 0, 1) := by decide +kernel
theorem dX12_told_65 : decode cX12_told 65 = .ok (.getfield 9, 3) := by decide +kernel
theorem dX12_told_68 : decode cX12_told 68 = .ok (.iconst 4, 1) := by decide +kernel
theorem dX12_told_69 : decode cX12_told 69 = .ok (.iload_n 1, 1) := by decide +kernel
theorem dX12_told_70 : decode cX12_told 70 = .ok (.imul, 1) := by decide +kernel
theorem dX12_told_71 : decode cX12_told 71 = .ok (.iload_n 2, 1) := by decide +kernel
theorem dX12_told_72 : decode cX12_told 72 = .ok (.iadd, 1) := by decide +kernel
theorem dX12_told_73 : decode cX12_told 73 = .ok (.iaload, 1) := by decide +kernel
theorem dX12_told_74 : decode cX12_told 74 = .ok (.ireturn, 1) := by decide +kernel
theorem dX12_told_75 : decode cX12_told 75 = .ok (.aload_n 0, 1) := by decide +kernel
theorem dX12_told_76 : decode cX12_told 76 = .ok (.iload_n 1, 1) := by decide +kernel
theorem dX12_told_77 : decode cX12_told 77 = .ok (.invokevirtual 204, 3) := by decide +kernel
theorem dX12_told_80 : decode cX12_told 80 = .ok (.ireturn, 1) := by decide +kernel
theorem dX12_told_81 : decode cX12_told 81 = .ok (.iconst 0, 1) := by decide +kernel
theorem dX12_told_82 : decode cX12_told 82 = .ok (.aload_n 0, 1) := by decide +kernel
theorem dX12_told_83 : decode cX12_told 83 = .ok (.getfield 92, 3) := by decide +kernel
theorem dX12_told_86 : decode cX12_told 86 = .ok (.aload_n 0, 1) := by decide +kernel
theorem dX12_told_87 : decode cX12_told 87 = .ok (.getfield 9, 3) := by decide +kernel
theorem dX12_told_90 : decode cX12_told 90 = .ok (.iconst 4, 1) := by decide +kernel
theorem dX12_told_91 : decode cX12_told 91 = .ok (.iload_n 1, 1) := by decide +kernel
theorem dX12_told_92 : decode cX12_told 92 = .ok (.imul, 1) := by decide +kernel
theorem dX12_told_93 : decode cX12_told 93 = .ok (.iconst 2, 1) := by decide +kernel
theorem dX12_told_94 : decode cX12_told 94 = .ok (.iadd, 1) := by decide +kernel
theorem dX12_told_95 : decode cX12_told 95 = .ok (.iaload, 1) := by decide +kernel
theorem dX12_told_96 : decode cX12_told 96 = .ok (.aload_n 0, 1) := by decide +kernel
theorem dX12_told_97 : decode cX12_told 97 = .ok (.iload_n 1, 1) := by decide +kernel
theorem dX12_told_98 : decode cX12_told 98 = .ok (.invokevirtual 194, 3) := by decide +kernel
theorem dX12_told_101 : decode cX12_told 101 = .ok (.iadd, 1) := by decide +kernel
theorem dX12_told_102 : decode cX12_told 102 = .ok (.invokestatic 207, 3) := by decide +kernel
theorem dX12_told_105 : decode cX12_told 105 = .ok (.aload_n 0, 1) := by decide +kernel
theorem dX12_told_106 : decode cX12_told 106 = .ok (.getfield 9, 3) := by decide +kernel
theorem dX12_told_109 : decode cX12_told 109 = .ok (.iconst 4, 1) := by decide +kernel
theorem dX12_told_110 : decode cX12_told 110 = .ok (.iload_n 1, 1) := by decide +kernel
theorem dX12_told_111 : decode cX12_told 111 = .ok (.imul, 1) := by decide +kernel
theorem dX12_told_112 : decode cX12_told 112 = .ok (.iconst 2, 1) := by decide +kernel
theorem dX12_told_113 : decode cX12_told 113 = .ok (.iadd, 1) := by decide +kernel
theorem dX12_told_114 : decode cX12_told 114 = .ok (.iaload, 1) := by decide +kernel
theorem dX12_told_115 : decode cX12_told 115 = .ok (.isub, 1) := by decide +kernel
theorem dX12_told_116 : decode cX12_told 116 = .ok (.invokestatic 118, 3) := by decide +kernel
theorem dX12_told_119 : decode cX12_told 119 = .ok (.ireturn, 1) := by decide +kernel
theorem dX12_told_120 : decode cX12_told 120 = .ok (.aload_n 0, 1) := by decide +kernel
theorem dX12_told_121 : decode cX12_told 121 = .ok (.getfield 9, 3) := by decide +kernel
theorem dX12_told_124 : decode cX12_told 124 = .ok (.iconst 4, 1) := by decide +kernel
theorem dX12_told_125 : decode cX12_told 125 = .ok (.iload_n 1, 1) := by decide +kernel
theorem dX12_told_126 : decode cX12_told 126 = .ok (.imul, 1) := by decide +kernel
theorem dX12_told_127 : decode cX12_told 127 = .ok (.iaload, 1) := by decide +kernel
theorem dX12_told_128 : decode cX12_told 128 = .ok (.invokestatic 210, 3) := by decide +kernel
theorem dX12_told_131 : decode cX12_told 131 = .ok (.ireturn, 1) := by decide +kernel
theorem dX12_told_132 : decode cX12_told 132 = .ok (.bipush (-2), 2) := by decide +kernel
theorem dX12_told_134 : decode cX12_told 134 = .ok (.ireturn, 1) := by decide +kernel
theorem dX12_isUnder_0 : decode cX12_isUnder 0 = .ok (.iload_n 1, 1) := by decide +kernel
theorem dX12_isUnder_1 : decode cX12_isUnder 1 = .ok (.iconst 3, 1) := by decide +kernel
theorem dX12_isUnder_2 : decode cX12_isUnder 2 = .ok (.if_icmp .ge 21, 3) := by decide +kernel
theorem dX12_isUnder_5 : decode cX12_isUnder 5 = .ok (.iload_n 0, 1) := by decide +kernel
theorem dX12_isUnder_6 : decode cX12_isUnder 6 = .ok (.iload_n 1, 1) := by decide +kernel
theorem dX12_isUnder_7 : decode cX12_isUnder 7 = .ok (.if_icmp .lt 12, 3) := by decide +kernel
theorem dX12_isUnder_10 : decode cX12_isUnder 10 = .ok (.iload_n 0, 1) := by decide +kernel
theorem dX12_isUnder_11 : decode cX12_isUnder 11 = .ok (.iconst 3, 1) := by decide +kernel
theorem dX12_isUnder_12 : decode cX12_isUnder 12 = .ok (.if_icmp .ge 7, 3) := by decide +kernel
theorem dX12_isUnder_15 : decode cX12_isUnder 15 = .ok (.iconst 1, 1) := by decide +kernel
theorem dX12_isUnder_16 : decode cX12_isUnder 16 = .ok (.goto 40, 3) := by decide +kernel
theorem dX12_isUnder_19 : decode cX12_isUnder 19 = .ok (.iconst 0, 1) := by decide +kernel
theorem dX12_isUnder_20 : decode cX12_isUnder 20 = .ok (.goto 36, 3) := by decide +kernel
theorem dX12_isUnder_23 : decode cX12_isUnder 23 = .ok (.iload_n 1, 1) := by decide +kernel
theorem dX12_isUnder_24 : decode cX12_isUnder 24 = .ok (.iconst 5, 1) := by decide +kernel
theorem dX12_isUnder_25 : decode cX12_isUnder 25 = .ok (.if_icmp .ge 21, 3) := by decide +kernel
theorem dX12_isUnder_28 : decode cX12_isUnder 28 = .ok (.iload_n 0, 1) := by decide +kernel
theorem dX12_isUnder_29 : decode cX12_isUnder 29 = .ok (.iload_n 1, 1) := by decide +kernel
theorem dX12_isUnder_30 : decode cX12_isUnder 30 = .ok (.if_icmp .lt 12, 3) := by decide +kernel
theorem dX12_isUnder_33 : decode cX12_isUnder 33 = .ok (.iload_n 0, 1) := by decide +kernel
theorem dX12_isUnder_34 : decode cX12_isUnder 34 = .ok (.iconst 5, 1) := by decide +kernel
theorem dX12_isUnder_35 : decode cX12_isUnder 35 = .ok (.if_icmp .ge 7, 3) := by decide +kernel
theorem dX12_isUnder_38 : decode cX12_isUnder 38 = .ok (.iconst 1, 1) := by decide +kernel
theorem dX12_isUnder_39 : decode cX12_isUnder 39 = .ok (.goto 17, 3) := by decide +kernel
theorem dX12_isUnder_42 : decode cX12_isUnder 42 = .ok (.iconst 0, 1) := by decide +kernel
theorem dX12_isUnder_43 : decode cX12_isUnder 43 = .ok (.goto 13, 3) := by decide +kernel
theorem dX12_isUnder_46 : decode cX12_isUnder 46 = .ok (.iload_n 0, 1) := by decide +kernel
theorem dX12_isUnder_47 : decode cX12_isUnder 47 = .ok (.iload_n 1, 1) := by decide +kernel
theorem dX12_isUnder_48 : decode cX12_isUnder 48 = .ok (.if_icmp .lt 7, 3) := by decide +kernel
theorem dX12_isUnder_51 : decode cX12_isUnder 51 = .ok (.iconst 1, 1) := by decide +kernel
theorem dX12_isUnder_52 : decode cX12_isUnder 52 = .ok (.goto 4, 3) := by decide +kernel
theorem dX12_isUnder_55 : decode cX12_isUnder 55 = .ok (.iconst 0, 1) := by decide +kernel
theorem dX12_isUnder_56 : decode cX12_isUnder 56 = .ok (.ireturn, 1) := by decide +kernel
theorem dX12_taken_0 : decode cX12_taken 0 = .ok (.iload_n 1, 1) := by decide +kernel
theorem dX12_taken_1 : decode cX12_taken 1 = .ok (.i2l, 1) := by decide +kernel
theorem dX12_taken_2 : decode cX12_taken 2 = .ok (.lconst 0, 1) := by decide +kernel
theorem dX12_taken_3 : decode cX12_taken 3 = .ok (.aload_n 0, 1) := by decide +kernel
theorem dX12_taken_4 : decode cX12_taken 4 = .ok (.getfield 98, 3) := by decide +kernel
theorem dX12_taken_7 : decode cX12_taken 7 = .ok (.iconst 1, 1) := by decide +kernel
theorem dX12_taken_8 : decode cX12_taken 8 = .ok (.isub, 1) := by decide +kernel
theorem dX12_taken_9 : decode cX12_taken 9 = .ok (.i2l, 1) := by decide +kernel
theorem dX12_taken_10 : decode cX12_taken 10 = .ok (.invokestatic 135, 3) := by decide +kernel
theorem dX12_taken_13 : decode cX12_taken 13 = .ok (.ifCond .eq 15, 3) := by decide +kernel
theorem dX12_taken_16 : decode cX12_taken 16 = .ok (.iload_n 2, 1) := by decide +kernel
theorem dX12_taken_17 : decode cX12_taken 17 = .ok (.i2l, 1) := by decide +kernel
theorem dX12_taken_18 : decode cX12_taken 18 = .ok (.lconst 0, 1) := by decide +kernel
theorem dX12_taken_19 : decode cX12_taken 19 = .ok (.ldc2_w 133, 3) := by decide +kernel
theorem dX12_taken_22 : decode cX12_taken 22 = .ok (.invokestatic 135, 3) := by decide +kernel
theorem dX12_taken_25 : decode cX12_taken 25 = .ok (.ifCond .ne 6, 3) := by decide +kernel
theorem dX12_taken_28 : decode cX12_taken 28 = .ok (.bipush (-2), 2) := by decide +kernel
theorem dX12_taken_30 : decode cX12_taken 30 = .ok (.ireturn, 1) := by decide +kernel
theorem dX12_taken_31 : decode cX12_taken 31 = .ok (.aload_n 0, 1) := by decide +kernel
theorem dX12_taken_32 : decode cX12_taken 32 = .ok (.getfield 9, 3) := by decide +kernel
theorem dX12_taken_35 : decode cX12_taken 35 = .ok (.iconst 4, 1) := by decide +kernel
theorem dX12_taken_36 : decode cX12_taken 36 = .ok (.iload_n 1, 1) := by decide +kernel
theorem dX12_taken_37 : decode cX12_taken 37 = .ok (.imul, 1) := by decide +kernel
theorem dX12_taken_38 : decode cX12_taken 38 = .ok (.iaload, 1) := by decide +kernel
theorem dX12_taken_39 : decode cX12_taken 39 = .ok (.iload_n 2, 1) := by decide +kernel
theorem dX12_taken_40 : decode cX12_taken 40 = .ok (.invokestatic 213, 3) := by decide +kernel
theorem dX12_taken_43 : decode cX12_taken 43 = .ok (.ifCond .ne 6, 3) := by decide +kernel
theorem dX12_taken_46 : decode cX12_taken 46 = .ok (.bipush (-13), 2) := by decide +kernel
theorem dX12_taken_48 : decode cX12_taken 48 = .ok (.ireturn, 1) := by decide +kernel
theorem dX12_taken_49 : decode cX12_taken 49 = .ok (.iconst 0, 1) := by decide +kernel
theorem dX12_taken_50 : decode cX12_taken 50 = .ok (.istore_n 3, 1) := by decide +kernel
theorem dX12_taken_51 : decode cX12_taken 51 = .ok (.iconst 0, 1) := by decide +kernel
theorem dX12_taken_52 : decode cX12_taken 52 = .ok (.istore 4, 2) := by decide +kernel
theorem dX12_taken_54 : decode cX12_taken 54 = .ok (.iload 4, 2) := by decide +kernel
theorem dX12_taken_56 : decode cX12_taken 56 = .ok (.sipush 144, 3) := by decide +kernel
theorem dX12_taken_59 : decode cX12_taken 59 = .ok (.if_icmp .ge 35, 3) := by decide +kernel
theorem dX12_taken_62 : decode cX12_taken 62 = .ok (.iload_n 3, 1) := by decide +kernel
theorem dX12_taken_63 : decode cX12_taken 63 = .ok (.aload_n 0, 1) := by decide +kernel
theorem dX12_taken_64 : decode cX12_taken 64 = .ok (.iload_n 1, 1) := by decide +kernel
theorem dX12_taken_65 : decode cX12_taken 65 = .ok (.iload 4, 2) := by decide +kernel
theorem dX12_taken_67 : decode cX12_taken 67 = .ok (.bipush 12, 2) := by decide +kernel
theorem dX12_taken_69 : decode cX12_taken 69 = .ok (.irem, 1) := by decide +kernel
theorem dX12_taken_70 : decode cX12_taken 70 = .ok (.iload 4, 2) := by decide +kernel
theorem dX12_taken_72 : decode cX12_taken 72 = .ok (.bipush 12, 2) := by decide +kernel
theorem dX12_taken_74 : decode cX12_taken 74 = .ok (.idiv, 1) := by decide +kernel
theorem dX12_taken_75 : decode cX12_taken 75 = .ok (.invokevirtual 201, 3) := by decide +kernel
theorem dX12_taken_78 : decode cX12_taken 78 = .ok (.ifCond .eq 7, 3) := by decide +kernel
theorem dX12_taken_81 : decode cX12_taken 81 = .ok (.iconst 1, 1) := by decide +kernel
theorem dX12_taken_82 : decode cX12_taken 82 = .ok (.goto 4, 3) := by decide +kernel
theorem dX12_taken_85 : decode cX12_taken 85 = .ok (.iconst 0, 1) := by decide +kernel
theorem dX12_taken_86 : decode cX12_taken 86 = .ok (.iadd, 1) := by decide +kernel
theorem dX12_taken_87 : decode cX12_taken 87 = .ok (.istore_n 3, 1) := by decide +kernel
theorem dX12_taken_88 : decode cX12_taken 88 = .ok (.iinc 4 1, 3) := by decide +kernel
theorem dX12_taken_91 : decode cX12_taken 91 = .ok (.goto (-37), 3) := by decide +kernel
theorem dX12_taken_94 : decode cX12_taken 94 = .ok (.iload_n 3, 1) := by decide +kernel
theorem dX12_taken_95 : decode cX12_taken 95 = .ok (.ireturn, 1) := by decide +kernel
theorem dX12_turn_0 : decode cX12_turn 0 = .ok (.aload_n 0, 1) := by decide +kernel
theorem dX12_turn_1 : decode cX12_turn 1 = .ok (.getfield 92, 3) := by decide +kernel
theorem dX12_turn_4 : decode cX12_turn 4 = .ok (.ifCond .ne 6, 3) := by decide +kernel
theorem dX12_turn_7 : decode cX12_turn 7 = .ok (.bipush (-3), 2) := by decide +kernel
theorem dX12_turn_9 : decode cX12_turn 9 = .ok (.ireturn, 1) := by decide +kernel
theorem dX12_turn_10 : decode cX12_turn 10 = .ok (.iload_n 1, 1) := by decide +kernel
theorem dX12_turn_11 : decode cX12_turn 11 = .ok (.i2l, 1) := by decide +kernel
theorem dX12_turn_12 : decode cX12_turn 12 = .ok (.lconst 0, 1) := by decide +kernel
theorem dX12_turn_13 : decode cX12_turn 13 = .ok (.ldc2_w 216, 3) := by decide +kernel
theorem dX12_turn_16 : decode cX12_turn 16 = .ok (.invokestatic 135, 3) := by decide +kernel
theorem dX12_turn_19 : decode cX12_turn 19 = .ok (.ifCond .ne 6, 3) := by decide +kernel
theorem dX12_turn_22 : decode cX12_turn 22 = .ok (.bipush (-2), 2) := by decide +kernel
theorem dX12_turn_24 : decode cX12_turn 24 = .ok (.ireturn, 1) := by decide +kernel
theorem dX12_turn_25 : decode cX12_turn 25 = .ok (.aload_n 0, 1) := by decide +kernel
theorem dX12_turn_26 : decode cX12_turn 26 = .ok (.getfield 95, 3) := by decide +kernel
theorem dX12_turn_29 : decode cX12_turn 29 = .ok (.istore_n 2, 1) := by decide +kernel
theorem dX12_turn_30 : decode cX12_turn 30 = .ok (.aload_n 0, 1) := by decide +kernel
theorem dX12_turn_31 : decode cX12_turn 31 = .ok (.iload_n 1, 1) := by decide +kernel
theorem dX12_turn_32 : decode cX12_turn 32 = .ok (.putfield 95, 3) := by decide +kernel
theorem dX12_turn_35 : decode cX12_turn 35 = .ok (.iload_n 2, 1) := by decide +kernel
theorem dX12_turn_36 : decode cX12_turn 36 = .ok (.ireturn, 1) := by decide +kernel
theorem dX12_isRule_0 : decode cX12_isRule 0 = .ok (.iload_n 0, 1) := by decide +kernel
theorem dX12_isRule_1 : decode cX12_isRule 1 = .ok (.lookupswitch 77 #[(0, 35), (1, 45), (6, 53)], 35) := by decide +kernel
theorem dX12_isRule_36 : decode cX12_isRule 36 = .ok (.iload_n 1, 1) := by decide +kernel
theorem dX12_isRule_37 : decode cX12_isRule 37 = .ok (.i2l, 1) := by decide +kernel
theorem dX12_isRule_38 : decode cX12_isRule 38 = .ok (.lconst 0, 1) := by decide +kernel
theorem dX12_isRule_39 : decode cX12_isRule 39 = .ok (.ldc2_w 131, 3) := by decide +kernel
theorem dX12_isRule_42 : decode cX12_isRule 42 = .ok (.invokestatic 135, 3) := by decide +kernel
theorem dX12_isRule_45 : decode cX12_isRule 45 = .ok (.ireturn, 1) := by decide +kernel
theorem dX12_isRule_46 : decode cX12_isRule 46 = .ok (.iload_n 1, 1) := by decide +kernel
theorem dX12_isRule_47 : decode cX12_isRule 47 = .ok (.i2l, 1) := by decide +kernel
theorem dX12_isRule_48 : decode cX12_isRule 48 = .ok (.lconst 0, 1) := by decide +kernel
theorem dX12_isRule_49 : decode cX12_isRule 49 = .ok (.lconst 1, 1) := by decide +kernel
theorem dX12_isRule_50 : decode cX12_isRule 50 = .ok (.invokestatic 135, 3) := by decide +kernel
theorem dX12_isRule_53 : decode cX12_isRule 53 = .ok (.ireturn, 1) := by decide +kernel
theorem dX12_isRule_54 : decode cX12_isRule 54 = .ok (.iload_n 1, 1) := by decide +kernel
theorem dX12_isRule_55 : decode cX12_isRule 55 = .ok (.i2l, 1) := by decide +kernel
theorem dX12_isRule_56 : decode cX12_isRule 56 = .ok (.lconst 0, 1) := by decide +kernel
theorem dX12_isRule_57 : decode cX12_isRule 57 = .ok (.ldc2_w 218, 3) := by decide +kernel
theorem dX12_isRule_60 : decode cX12_isRule 60 = .ok (.invokestatic 135, 3) := by decide +kernel
theorem dX12_isRule_63 : decode cX12_isRule 63 = .ok (.ifCond .eq 13, 3) := by decide +kernel
theorem dX12_isRule_66 : decode cX12_isRule 66 = .ok (.iload_n 1, 1) := by decide +kernel
theorem dX12_isRule_67 : decode cX12_isRule 67 = .ok (.iconst 2, 1) := by decide +kernel
theorem dX12_isRule_68 : decode cX12_isRule 68 = .ok (.irem, 1) := by decide +kernel
theorem dX12_isRule_69 : decode cX12_isRule 69 = .ok (.ifCond .ne 7, 3) := by decide +kernel
theorem dX12_isRule_72 : decode cX12_isRule 72 = .ok (.iconst 1, 1) := by decide +kernel
theorem dX12_isRule_73 : decode cX12_isRule 73 = .ok (.goto 4, 3) := by decide +kernel
theorem dX12_isRule_76 : decode cX12_isRule 76 = .ok (.iconst 0, 1) := by decide +kernel
theorem dX12_isRule_77 : decode cX12_isRule 77 = .ok (.ireturn, 1) := by decide +kernel
theorem dX12_isRule_78 : decode cX12_isRule 78 = .ok (.iload_n 1, 1) := by decide +kernel
theorem dX12_isRule_79 : decode cX12_isRule 79 = .ok (.i2l, 1) := by decide +kernel
theorem dX12_isRule_80 : decode cX12_isRule 80 = .ok (.lconst 0, 1) := by decide +kernel
theorem dX12_isRule_81 : decode cX12_isRule 81 = .ok (.ldc2_w 220, 3) := by decide +kernel
theorem dX12_isRule_84 : decode cX12_isRule 84 = .ok (.invokestatic 135, 3) := by decide +kernel
theorem dX12_isRule_87 : decode cX12_isRule 87 = .ok (.ireturn, 1) := by decide +kernel
theorem dX12_rule_0 : decode cX12_rule 0 = .ok (.iload_n 1, 1) := by decide +kernel
theorem dX12_rule_1 : decode cX12_rule 1 = .ok (.i2l, 1) := by decide +kernel
theorem dX12_rule_2 : decode cX12_rule 2 = .ok (.lconst 0, 1) := by decide +kernel
theorem dX12_rule_3 : decode cX12_rule 3 = .ok (.ldc2_w 133, 3) := by decide +kernel
theorem dX12_rule_6 : decode cX12_rule 6 = .ok (.invokestatic 135, 3) := by decide +kernel
theorem dX12_rule_9 : decode cX12_rule 9 = .ok (.ifCond .eq 11, 3) := by decide +kernel
theorem dX12_rule_12 : decode cX12_rule 12 = .ok (.iload_n 1, 1) := by decide +kernel
theorem dX12_rule_13 : decode cX12_rule 13 = .ok (.iload_n 2, 1) := by decide +kernel
theorem dX12_rule_14 : decode cX12_rule 14 = .ok (.invokestatic 222, 3) := by decide +kernel
theorem dX12_rule_17 : decode cX12_rule 17 = .ok (.ifCond .ne 6, 3) := by decide +kernel
theorem dX12_rule_20 : decode cX12_rule 20 = .ok (.bipush (-2), 2) := by decide +kernel
theorem dX12_rule_22 : decode cX12_rule 22 = .ok (.ireturn, 1) := by decide +kernel
theorem dX12_rule_23 : decode cX12_rule 23 = .ok (.aload_n 0, 1) := by decide +kernel
theorem dX12_rule_24 : decode cX12_rule 24 = .ok (.getfield 13, 3) := by decide +kernel
theorem dX12_rule_27 : decode cX12_rule 27 = .ok (.iload_n 1, 1) := by decide +kernel
theorem dX12_rule_28 : decode cX12_rule 28 = .ok (.iaload, 1) := by decide +kernel
theorem dX12_rule_29 : decode cX12_rule 29 = .ok (.istore_n 3, 1) := by decide +kernel
theorem dX12_rule_30 : decode cX12_rule 30 = .ok (.aload_n 0, 1) := by decide +kernel
theorem dX12_rule_31 : decode cX12_rule 31 = .ok (.getfield 13, 3) := by decide +kernel
theorem dX12_rule_34 : decode cX12_rule 34 = .ok (.iload_n 1, 1) := by decide +kernel
theorem dX12_rule_35 : decode cX12_rule 35 = .ok (.iload_n 2, 1) := by decide +kernel
theorem dX12_rule_36 : decode cX12_rule 36 = .ok (.iastore, 1) := by decide +kernel
theorem dX12_rule_37 : decode cX12_rule 37 = .ok (.iload_n 3, 1) := by decide +kernel
theorem dX12_rule_38 : decode cX12_rule 38 = .ok (.ireturn, 1) := by decide +kernel
theorem dX12_ownX_0 : decode cX12_ownX 0 = .ok (.iload_n 2, 1) := by decide +kernel
theorem dX12_ownX_1 : decode cX12_ownX 1 = .ok (.ifCond .ne 7, 3) := by decide +kernel
theorem dX12_ownX_4 : decode cX12_ownX 4 = .ok (.iload_n 0, 1) := by decide +kernel
theorem dX12_ownX_5 : decode cX12_ownX 5 = .ok (.goto 28, 3) := by decide +kernel
theorem dX12_ownX_8 : decode cX12_ownX 8 = .ok (.iload_n 2, 1) := by decide +kernel
theorem dX12_ownX_9 : decode cX12_ownX 9 = .ok (.iconst 1, 1) := by decide +kernel
theorem dX12_ownX_10 : decode cX12_ownX 10 = .ok (.if_icmp .ne 7, 3) := by decide +kernel
theorem dX12_ownX_13 : decode cX12_ownX 13 = .ok (.iload_n 1, 1) := by decide +kernel
theorem dX12_ownX_14 : decode cX12_ownX 14 = .ok (.goto 19, 3) := by decide +kernel
theorem dX12_ownX_17 : decode cX12_ownX 17 = .ok (.iload_n 2, 1) := by decide +kernel
theorem dX12_ownX_18 : decode cX12_ownX 18 = .ok (.iconst 2, 1) := by decide +kernel
theorem dX12_ownX_19 : decode cX12_ownX 19 = .ok (.if_icmp .ne 10, 3) := by decide +kernel
theorem dX12_ownX_22 : decode cX12_ownX 22 = .ok (.bipush 11, 2) := by decide +kernel
theorem dX12_ownX_24 : decode cX12_ownX 24 = .ok (.iload_n 0, 1) := by decide +kernel
theorem dX12_ownX_25 : decode cX12_ownX 25 = .ok (.isub, 1) := by decide +kernel
theorem dX12_ownX_26 : decode cX12_ownX 26 = .ok (.goto 7, 3) := by decide +kernel
theorem dX12_ownX_29 : decode cX12_ownX 29 = .ok (.bipush 11, 2) := by decide +kernel
theorem dX12_ownX_31 : decode cX12_ownX 31 = .ok (.iload_n 1, 1) := by decide +kernel
theorem dX12_ownX_32 : decode cX12_ownX 32 = .ok (.isub, 1) := by decide +kernel
theorem dX12_ownX_33 : decode cX12_ownX 33 = .ok (.ireturn, 1) := by decide +kernel
theorem dX12_ownY_0 : decode cX12_ownY 0 = .ok (.iload_n 2, 1) := by decide +kernel
theorem dX12_ownY_1 : decode cX12_ownY 1 = .ok (.ifCond .ne 7, 3) := by decide +kernel
theorem dX12_ownY_4 : decode cX12_ownY 4 = .ok (.iload_n 1, 1) := by decide +kernel
theorem dX12_ownY_5 : decode cX12_ownY 5 = .ok (.goto 28, 3) := by decide +kernel
theorem dX12_ownY_8 : decode cX12_ownY 8 = .ok (.iload_n 2, 1) := by decide +kernel
theorem dX12_ownY_9 : decode cX12_ownY 9 = .ok (.iconst 1, 1) := by decide +kernel
theorem dX12_ownY_10 : decode cX12_ownY 10 = .ok (.if_icmp .ne 10, 3) := by decide +kernel
theorem dX12_ownY_13 : decode cX12_ownY 13 = .ok (.bipush 11, 2) := by decide +kernel
theorem dX12_ownY_15 : decode cX12_ownY 15 = .ok (.iload_n 0, 1) := by decide +kernel
theorem dX12_ownY_16 : decode cX12_ownY 16 = .ok (.isub, 1) := by decide +kernel
theorem dX12_ownY_17 : decode cX12_ownY 17 = .ok (.goto 16, 3) := by decide +kernel
theorem dX12_ownY_20 : decode cX12_ownY 20 = .ok (.iload_n 2, 1) := by decide +kernel
theorem dX12_ownY_21 : decode cX12_ownY 21 = .ok (.iconst 2, 1) := by decide +kernel
theorem dX12_ownY_22 : decode cX12_ownY 22 = .ok (.if_icmp .ne 10, 3) := by decide +kernel
theorem dX12_ownY_25 : decode cX12_ownY 25 = .ok (.bipush 11, 2) := by decide +kernel
theorem dX12_ownY_27 : decode cX12_ownY 27 = .ok (.iload_n 1, 1) := by decide +kernel
theorem dX12_ownY_28 : decode cX12_ownY 28 = .ok (.isub, 1) := by decide +kernel
theorem dX12_ownY_29 : decode cX12_ownY 29 = .ok (.goto 4, 3) := by decide +kernel
theorem dX12_ownY_32 : decode cX12_ownY 32 = .ok (.iload_n 0, 1) := by decide +kernel
theorem dX12_ownY_33 : decode cX12_ownY 33 = .ok (.ireturn, 1) := by decide +kernel
theorem dX12_hurtOf_0 : decode cX12_hurtOf 0 = .ok (.iconst 0, 1) := by decide +kernel
theorem dX12_hurtOf_1 : decode cX12_hurtOf 1 = .ok (.istore 5, 2) := by decide +kernel
theorem dX12_hurtOf_3 : decode cX12_hurtOf 3 = .ok (.iconst 0, 1) := by decide +kernel
theorem dX12_hurtOf_4 : decode cX12_hurtOf 4 = .ok (.istore 6, 2) := by decide +kernel
theorem dX12_hurtOf_6 : decode cX12_hurtOf 6 = .ok (.iload 6, 2) := by decide +kernel
theorem dX12_hurtOf_8 : decode cX12_hurtOf 8 = .ok (.aload_n 0, 1) := by decide +kernel
theorem dX12_hurtOf_9 : decode cX12_hurtOf 9 = .ok (.getfield 98, 3) := by decide +kernel
theorem dX12_hurtOf_12 : decode cX12_hurtOf 12 = .ok (.if_icmp .ge 61, 3) := by decide +kernel
theorem dX12_hurtOf_15 : decode cX12_hurtOf 15 = .ok (.aload_n 0, 1) := by decide +kernel
theorem dX12_hurtOf_16 : decode cX12_hurtOf 16 = .ok (.iload 6, 2) := by decide +kernel
theorem dX12_hurtOf_18 : decode cX12_hurtOf 18 = .ok (.iload_n 3, 1) := by decide +kernel
theorem dX12_hurtOf_19 : decode cX12_hurtOf 19 = .ok (.invokevirtual 197, 3) := by decide +kernel
theorem dX12_hurtOf_22 : decode cX12_hurtOf 22 = .ok (.ifCond .eq 45, 3) := by decide +kernel
theorem dX12_hurtOf_25 : decode cX12_hurtOf 25 = .ok (.aload_n 0, 1) := by decide +kernel
theorem dX12_hurtOf_26 : decode cX12_hurtOf 26 = .ok (.iload 6, 2) := by decide +kernel
theorem dX12_hurtOf_28 : decode cX12_hurtOf 28 = .ok (.iload_n 1, 1) := by decide +kernel
theorem dX12_hurtOf_29 : decode cX12_hurtOf 29 = .ok (.iload_n 2, 1) := by decide +kernel
theorem dX12_hurtOf_30 : decode cX12_hurtOf 30 = .ok (.iload 4, 2) := by decide +kernel
theorem dX12_hurtOf_32 : decode cX12_hurtOf 32 = .ok (.invokestatic 225, 3) := by decide +kernel
theorem dX12_hurtOf_35 : decode cX12_hurtOf 35 = .ok (.iload_n 1, 1) := by decide +kernel
theorem dX12_hurtOf_36 : decode cX12_hurtOf 36 = .ok (.iload_n 2, 1) := by decide +kernel
theorem dX12_hurtOf_37 : decode cX12_hurtOf 37 = .ok (.iload 4, 2) := by decide +kernel
theorem dX12_hurtOf_39 : decode cX12_hurtOf 39 = .ok (.invokestatic 229, 3) := by decide +kernel
theorem dX12_hurtOf_42 : decode cX12_hurtOf 42 = .ok (.invokevirtual 201, 3) := by decide +kernel
theorem dX12_hurtOf_45 : decode cX12_hurtOf 45 = .ok (.ifCond .eq 22, 3) := by decide +kernel
theorem dX12_hurtOf_48 : decode cX12_hurtOf 48 = .ok (.iload 5, 2) := by decide +kernel
theorem dX12_hurtOf_50 : decode cX12_hurtOf 50 = .ok (.aload_n 0, 1) := by decide +kernel
theorem dX12_hurtOf_51 : decode cX12_hurtOf 51 = .ok (.getfield 9, 3) := by decide +kernel
theorem dX12_hurtOf_54 : decode cX12_hurtOf 54 = .ok (.iconst 4, 1) := by decide +kernel
theorem dX12_hurtOf_55 : decode cX12_hurtOf 55 = .ok (.iload 6, 2) := by decide +kernel
theorem dX12_hurtOf_57 : decode cX12_hurtOf 57 = .ok (.imul, 1) := by decide +kernel
theorem dX12_hurtOf_58 : decode cX12_hurtOf 58 = .ok (.iaload, 1) := by decide +kernel
theorem dX12_hurtOf_59 : decode cX12_hurtOf 59 = .ok (.invokestatic 210, 3) := by decide +kernel
theorem dX12_hurtOf_62 : decode cX12_hurtOf 62 = .ok (.invokestatic 118, 3) := by decide +kernel
theorem dX12_hurtOf_65 : decode cX12_hurtOf 65 = .ok (.istore 5, 2) := by decide +kernel
theorem dX12_hurtOf_67 : decode cX12_hurtOf 67 = .ok (.iinc 6 1, 3) := by decide +kernel
theorem dX12_hurtOf_70 : decode cX12_hurtOf 70 = .ok (.goto (-64), 3) := by decide +kernel
theorem dX12_hurtOf_73 : decode cX12_hurtOf 73 = .ok (.iload 5, 2) := by decide +kernel
theorem dX12_hurtOf_75 : decode cX12_hurtOf 75 = .ok (.ireturn, 1) := by decide +kernel
theorem dX12_cell_0 : decode cX12_cell 0 = .ok (.aload_n 0, 1) := by decide +kernel
theorem dX12_cell_1 : decode cX12_cell 1 = .ok (.getfield 92, 3) := by decide +kernel
theorem dX12_cell_4 : decode cX12_cell 4 = .ok (.ifCond .ne 6, 3) := by decide +kernel
theorem dX12_cell_7 : decode cX12_cell 7 = .ok (.bipush (-3), 2) := by decide +kernel
theorem dX12_cell_9 : decode cX12_cell 9 = .ok (.ireturn, 1) := by decide +kernel
theorem dX12_cell_10 : decode cX12_cell 10 = .ok (.iload_n 1, 1) := by decide +kernel
theorem dX12_cell_11 : decode cX12_cell 11 = .ok (.i2l, 1) := by decide +kernel
theorem dX12_cell_12 : decode cX12_cell 12 = .ok (.lconst 0, 1) := by decide +kernel
theorem dX12_cell_13 : decode cX12_cell 13 = .ok (.ldc2_w 232, 3) := by decide +kernel
theorem dX12_cell_16 : decode cX12_cell 16 = .ok (.invokestatic 135, 3) := by decide +kernel
theorem dX12_cell_19 : decode cX12_cell 19 = .ok (.ifCond .eq 44, 3) := by decide +kernel
theorem dX12_cell_22 : decode cX12_cell 22 = .ok (.iload_n 2, 1) := by decide +kernel
theorem dX12_cell_23 : decode cX12_cell 23 = .ok (.i2l, 1) := by decide +kernel
theorem dX12_cell_24 : decode cX12_cell 24 = .ok (.lconst 0, 1) := by decide +kernel
theorem dX12_cell_25 : decode cX12_cell 25 = .ok (.ldc2_w 232, 3) := by decide +kernel
theorem dX12_cell_28 : decode cX12_cell 28 = .ok (.invokestatic 135, 3) := by decide +kernel
theorem dX12_cell_31 : decode cX12_cell 31 = .ok (.ifCond .eq 32, 3) := by decide +kernel
theorem dX12_cell_34 : decode cX12_cell 34 = .ok (.iload_n 3, 1) := by decide +kernel
theorem dX12_cell_35 : decode cX12_cell 35 = .ok (.i2l, 1) := by decide +kernel
theorem dX12_cell_36 : decode cX12_cell 36 = .ok (.lconst 0, 1) := by decide +kernel
theorem dX12_cell_37 : decode cX12_cell 37 = .ok (.aload_n 0, 1) := by decide +kernel
theorem dX12_cell_38 : decode cX12_cell 38 = .ok (.getfield 92, 3) := by decide +kernel
theorem dX12_cell_41 : decode cX12_cell 41 = .ok (.iconst 1, 1) := by decide +kernel
theorem dX12_cell_42 : decode cX12_cell 42 = .ok (.isub, 1) := by decide +kernel
theorem dX12_cell_43 : decode cX12_cell 43 = .ok (.i2l, 1) := by decide +kernel
theorem dX12_cell_44 : decode cX12_cell 44 = .ok (.invokestatic 135, 3) := by decide +kernel
theorem dX12_cell_47 : decode cX12_cell 47 = .ok (.ifCond .eq 16, 3) := by decide +kernel
theorem dX12_cell_50 : decode cX12_cell 50 = .ok (.iload 4, 2) := by decide +kernel
theorem dX12_cell_52 : decode cX12_cell 52 = .ok (.i2l, 1) := by decide +kernel
theorem dX12_cell_53 : decode cX12_cell 53 = .ok (.lconst 0, 1) := by decide +kernel
theorem dX12_cell_54 : decode cX12_cell 54 = .ok (.ldc2_w 131, 3) := by decide +kernel
theorem dX12_cell_57 : decode cX12_cell 57 = .ok (.invokestatic 135, 3) := by decide +kernel
theorem dX12_cell_60 : decode cX12_cell 60 = .ok (.ifCond .ne 6, 3) := by decide +kernel
theorem dX12_cell_63 : decode cX12_cell 63 = .ok (.bipush (-2), 2) := by decide +kernel
theorem dX12_cell_65 : decode cX12_cell 65 = .ok (.ireturn, 1) := by decide +kernel
theorem dX12_cell_66 : decode cX12_cell 66 = .ok (.iload 4, 2) := by decide +kernel
theorem dX12_cell_68 : decode cX12_cell 68 = .ok (.ifCond .ne 19, 3) := by decide +kernel
theorem dX12_cell_71 : decode cX12_cell 71 = .ok (.aload_n 0, 1) := by decide +kernel
theorem dX12_cell_72 : decode cX12_cell 72 = .ok (.iload_n 1, 1) := by decide +kernel
theorem dX12_cell_73 : decode cX12_cell 73 = .ok (.iload_n 2, 1) := by decide +kernel
theorem dX12_cell_74 : decode cX12_cell 74 = .ok (.iload_n 3, 1) := by decide +kernel
theorem dX12_cell_75 : decode cX12_cell 75 = .ok (.invokevirtual 127, 3) := by decide +kernel
theorem dX12_cell_78 : decode cX12_cell 78 = .ok (.ifCond .eq 7, 3) := by decide +kernel
theorem dX12_cell_81 : decode cX12_cell 81 = .ok (.iconst 1, 1) := by decide +kernel
theorem dX12_cell_82 : decode cX12_cell 82 = .ok (.goto 4, 3) := by decide +kernel
theorem dX12_cell_85 : decode cX12_cell 85 = .ok (.iconst 0, 1) := by decide +kernel
theorem dX12_cell_86 : decode cX12_cell 86 = .ok (.ireturn, 1) := by decide +kernel
theorem dX12_cell_87 : decode cX12_cell 87 = .ok (.iload 4, 2) := by decide +kernel
theorem dX12_cell_89 : decode cX12_cell 89 = .ok (.iconst 1, 1) := by decide +kernel
theorem dX12_cell_90 : decode cX12_cell 90 = .ok (.if_icmp .ne 15, 3) := by decide +kernel
theorem dX12_cell_93 : decode cX12_cell 93 = .ok (.aload_n 0, 1) := by decide +kernel
theorem dX12_cell_94 : decode cX12_cell 94 = .ok (.iload_n 1, 1) := by decide +kernel
theorem dX12_cell_95 : decode cX12_cell 95 = .ok (.iload_n 2, 1) := by decide +kernel
theorem dX12_cell_96 : decode cX12_cell 96 = .ok (.iload_n 3, 1) := by decide +kernel
theorem dX12_cell_97 : decode cX12_cell 97 = .ok (.aload_n 0, 1) := by decide +kernel
theorem dX12_cell_98 : decode cX12_cell 98 = .ok (.getfield 95, 3) := by decide +kernel
theorem dX12_cell_101 : decode cX12_cell 101 = .ok (.invokevirtual 234, 3) := by decide +kernel
theorem dX12_cell_104 : decode cX12_cell 104 = .ok (.ireturn, 1) := by decide +kernel
theorem dX12_cell_105 : decode cX12_cell 105 = .ok (.iconst 0, 1) := by decide +kernel
theorem dX12_cell_106 : decode cX12_cell 106 = .ok (.istore 5, 2) := by decide +kernel
theorem dX12_cell_108 : decode cX12_cell 108 = .ok (.iload 5, 2) := by decide +kernel
theorem dX12_cell_110 : decode cX12_cell 110 = .ok (.aload_n 0, 1) := by decide +kernel
theorem dX12_cell_111 : decode cX12_cell 111 = .ok (.getfield 98, 3) := by decide +kernel
theorem dX12_cell_114 : decode cX12_cell 114 = .ok (.if_icmp .ge 49, 3) := by decide +kernel
theorem dX12_cell_117 : decode cX12_cell 117 = .ok (.aload_n 0, 1) := by decide +kernel
theorem dX12_cell_118 : decode cX12_cell 118 = .ok (.iload 5, 2) := by decide +kernel
theorem dX12_cell_120 : decode cX12_cell 120 = .ok (.iload_n 3, 1) := by decide +kernel
theorem dX12_cell_121 : decode cX12_cell 121 = .ok (.invokevirtual 197, 3) := by decide +kernel
theorem dX12_cell_124 : decode cX12_cell 124 = .ok (.ifCond .eq 33, 3) := by decide +kernel
theorem dX12_cell_127 : decode cX12_cell 127 = .ok (.aload_n 0, 1) := by decide +kernel
theorem dX12_cell_128 : decode cX12_cell 128 = .ok (.iload 5, 2) := by decide +kernel
theorem dX12_cell_130 : decode cX12_cell 130 = .ok (.iload_n 1, 1) := by decide +kernel
theorem dX12_cell_131 : decode cX12_cell 131 = .ok (.iload_n 2, 1) := by decide +kernel
theorem dX12_cell_132 : decode cX12_cell 132 = .ok (.aload_n 0, 1) := by decide +kernel
theorem dX12_cell_133 : decode cX12_cell 133 = .ok (.getfield 95, 3) := by decide +kernel
theorem dX12_cell_136 : decode cX12_cell 136 = .ok (.invokestatic 225, 3) := by decide +kernel
theorem dX12_cell_139 : decode cX12_cell 139 = .ok (.iload_n 1, 1) := by decide +kernel
theorem dX12_cell_140 : decode cX12_cell 140 = .ok (.iload_n 2, 1) := by decide +kernel
theorem dX12_cell_141 : decode cX12_cell 141 = .ok (.aload_n 0, 1) := by decide +kernel
theorem dX12_cell_142 : decode cX12_cell 142 = .ok (.getfield 95, 3) := by decide +kernel
theorem dX12_cell_145 : decode cX12_cell 145 = .ok (.invokestatic 229, 3) := by decide +kernel
theorem dX12_cell_148 : decode cX12_cell 148 = .ok (.invokevirtual 201, 3) := by decide +kernel
theorem dX12_cell_151 : decode cX12_cell 151 = .ok (.ifCond .eq 6, 3) := by decide +kernel
theorem dX12_cell_154 : decode cX12_cell 154 = .ok (.iload 5, 2) := by decide +kernel
theorem dX12_cell_156 : decode cX12_cell 156 = .ok (.ireturn, 1) := by decide +kernel
theorem dX12_cell_157 : decode cX12_cell 157 = .ok (.iinc 5 1, 3) := by decide +kernel
theorem dX12_cell_160 : decode cX12_cell 160 = .ok (.goto (-52), 3) := by decide +kernel
theorem dX12_cell_163 : decode cX12_cell 163 = .ok (.iconst (-1), 1) := by decide +kernel
theorem dX12_cell_164 : decode cX12_cell 164 = .ok (.ireturn, 1) := by decide +kernel
theorem dX12_sums_0 : decode cX12_sums 0 = .ok (.iconst 0, 1) := by decide +kernel
theorem dX12_sums_1 : decode cX12_sums 1 = .ok (.istore_n 2, 1) := by decide +kernel
theorem dX12_sums_2 : decode cX12_sums 2 = .ok (.iload_n 2, 1) := by decide +kernel
theorem dX12_sums_3 : decode cX12_sums 3 = .ok (.bipush 12, 2) := by decide +kernel
theorem dX12_sums_5 : decode cX12_sums 5 = .ok (.aload_n 0, 1) := by decide +kernel
theorem dX12_sums_6 : decode cX12_sums 6 = .ok (.getfield 92, 3) := by decide +kernel
theorem dX12_sums_9 : decode cX12_sums 9 = .ok (.imul, 1) := by decide +kernel
theorem dX12_sums_10 : decode cX12_sums 10 = .ok (.if_icmp .ge 123, 3) := by decide +kernel
theorem dX12_sums_13 : decode cX12_sums 13 = .ok (.aload_n 0, 1) := by decide +kernel
theorem dX12_sums_14 : decode cX12_sums 14 = .ok (.getfield 31, 3) := by decide +kernel
theorem dX12_sums_17 : decode cX12_sums 17 = .ok (.bipush 13, 2) := by decide +kernel
theorem dX12_sums_19 : decode cX12_sums 19 = .ok (.iload_n 2, 1) := by decide +kernel
theorem dX12_sums_20 : decode cX12_sums 20 = .ok (.imul, 1) := by decide +kernel
theorem dX12_sums_21 : decode cX12_sums 21 = .ok (.iconst 0, 1) := by decide +kernel
theorem dX12_sums_22 : decode cX12_sums 22 = .ok (.iastore, 1) := by decide +kernel
theorem dX12_sums_23 : decode cX12_sums 23 = .ok (.aload_n 0, 1) := by decide +kernel
theorem dX12_sums_24 : decode cX12_sums 24 = .ok (.getfield 34, 3) := by decide +kernel
theorem dX12_sums_27 : decode cX12_sums 27 = .ok (.bipush 13, 2) := by decide +kernel
theorem dX12_sums_29 : decode cX12_sums 29 = .ok (.iload_n 2, 1) := by decide +kernel
theorem dX12_sums_30 : decode cX12_sums 30 = .ok (.imul, 1) := by decide +kernel
theorem dX12_sums_31 : decode cX12_sums 31 = .ok (.iconst 0, 1) := by decide +kernel
theorem dX12_sums_32 : decode cX12_sums 32 = .ok (.iastore, 1) := by decide +kernel
theorem dX12_sums_33 : decode cX12_sums 33 = .ok (.iconst 0, 1) := by decide +kernel
theorem dX12_sums_34 : decode cX12_sums 34 = .ok (.istore_n 3, 1) := by decide +kernel
theorem dX12_sums_35 : decode cX12_sums 35 = .ok (.iload_n 3, 1) := by decide +kernel
theorem dX12_sums_36 : decode cX12_sums 36 = .ok (.bipush 12, 2) := by decide +kernel
theorem dX12_sums_38 : decode cX12_sums 38 = .ok (.if_icmp .ge 89, 3) := by decide +kernel
theorem dX12_sums_41 : decode cX12_sums 41 = .ok (.aload_n 0, 1) := by decide +kernel
theorem dX12_sums_42 : decode cX12_sums 42 = .ok (.iload_n 3, 1) := by decide +kernel
theorem dX12_sums_43 : decode cX12_sums 43 = .ok (.iload_n 2, 1) := by decide +kernel
theorem dX12_sums_44 : decode cX12_sums 44 = .ok (.bipush 12, 2) := by decide +kernel
theorem dX12_sums_46 : decode cX12_sums 46 = .ok (.irem, 1) := by decide +kernel
theorem dX12_sums_47 : decode cX12_sums 47 = .ok (.iload_n 2, 1) := by decide +kernel
theorem dX12_sums_48 : decode cX12_sums 48 = .ok (.bipush 12, 2) := by decide +kernel
theorem dX12_sums_50 : decode cX12_sums 50 = .ok (.idiv, 1) := by decide +kernel
theorem dX12_sums_51 : decode cX12_sums 51 = .ok (.iload_n 1, 1) := by decide +kernel
theorem dX12_sums_52 : decode cX12_sums 52 = .ok (.invokevirtual 234, 3) := by decide +kernel
theorem dX12_sums_55 : decode cX12_sums 55 = .ok (.istore 4, 2) := by decide +kernel
theorem dX12_sums_57 : decode cX12_sums 57 = .ok (.aload_n 0, 1) := by decide +kernel
theorem dX12_sums_58 : decode cX12_sums 58 = .ok (.getfield 31, 3) := by decide +kernel
theorem dX12_sums_61 : decode cX12_sums 61 = .ok (.bipush 13, 2) := by decide +kernel
theorem dX12_sums_63 : decode cX12_sums 63 = .ok (.iload_n 2, 1) := by decide +kernel
theorem dX12_sums_64 : decode cX12_sums 64 = .ok (.imul, 1) := by decide +kernel
theorem dX12_sums_65 : decode cX12_sums 65 = .ok (.iload_n 3, 1) := by decide +kernel
theorem dX12_sums_66 : decode cX12_sums 66 = .ok (.iadd, 1) := by decide +kernel
theorem dX12_sums_67 : decode cX12_sums 67 = .ok (.iconst 1, 1) := by decide +kernel
theorem dX12_sums_68 : decode cX12_sums 68 = .ok (.iadd, 1) := by decide +kernel
theorem dX12_sums_69 : decode cX12_sums 69 = .ok (.aload_n 0, 1) := by decide +kernel
theorem dX12_sums_70 : decode cX12_sums 70 = .ok (.getfield 31, 3) := by decide +kernel
theorem dX12_sums_73 : decode cX12_sums 73 = .ok (.bipush 13, 2) := by decide +kernel
theorem dX12_sums_75 : decode cX12_sums 75 = .ok (.iload_n 2, 1) := by decide +kernel
theorem dX12_sums_76 : decode cX12_sums 76 = .ok (.imul, 1) := by decide +kernel
theorem dX12_sums_77 : decode cX12_sums 77 = .ok (.iload_n 3, 1) := by decide +kernel
theorem dX12_sums_78 : decode cX12_sums 78 = .ok (.iadd, 1) := by decide +kernel
theorem dX12_sums_79 : decode cX12_sums 79 = .ok (.iaload, 1) := by decide +kernel
theorem dX12_sums_80 : decode cX12_sums 80 = .ok (.iload 4, 2) := by decide +kernel
theorem dX12_sums_82 : decode cX12_sums 82 = .ok (.iadd, 1) := by decide +kernel
theorem dX12_sums_83 : decode cX12_sums 83 = .ok (.iastore, 1) := by decide +kernel
theorem dX12_sums_84 : decode cX12_sums 84 = .ok (.aload_n 0, 1) := by decide +kernel
theorem dX12_sums_85 : decode cX12_sums 85 = .ok (.getfield 34, 3) := by decide +kernel
theorem dX12_sums_88 : decode cX12_sums 88 = .ok (.bipush 13, 2) := by decide +kernel
theorem dX12_sums_90 : decode cX12_sums 90 = .ok (.iload_n 2, 1) := by decide +kernel
theorem dX12_sums_91 : decode cX12_sums 91 = .ok (.imul, 1) := by decide +kernel
theorem dX12_sums_92 : decode cX12_sums 92 = .ok (.iload_n 3, 1) := by decide +kernel
theorem dX12_sums_93 : decode cX12_sums 93 = .ok (.iadd, 1) := by decide +kernel
theorem dX12_sums_94 : decode cX12_sums 94 = .ok (.iconst 1, 1) := by decide +kernel
theorem dX12_sums_95 : decode cX12_sums 95 = .ok (.iadd, 1) := by decide +kernel
theorem dX12_sums_96 : decode cX12_sums 96 = .ok (.aload_n 0, 1) := by decide +kernel
theorem dX12_sums_97 : decode cX12_sums 97 = .ok (.getfield 34, 3) := by decide +kernel
theorem dX12_sums_100 : decode cX12_sums 100 = .ok (.bipush 13, 2) := by decide +kernel
theorem dX12_sums_102 : decode cX12_sums 102 = .ok (.iload_n 2, 1) := by decide +kernel
theorem dX12_sums_103 : decode cX12_sums 103 = .ok (.imul, 1) := by decide +kernel
theorem dX12_sums_104 : decode cX12_sums 104 = .ok (.iload_n 3, 1) := by decide +kernel
theorem dX12_sums_105 : decode cX12_sums 105 = .ok (.iadd, 1) := by decide +kernel
theorem dX12_sums_106 : decode cX12_sums 106 = .ok (.iaload, 1) := by decide +kernel
theorem dX12_sums_107 : decode cX12_sums 107 = .ok (.iload 4, 2) := by decide +kernel
theorem dX12_sums_109 : decode cX12_sums 109 = .ok (.bipush 9, 2) := by decide +kernel
theorem dX12_sums_111 : decode cX12_sums 111 = .ok (.if_icmp .ne 7, 3) := by decide +kernel
theorem dX12_sums_114 : decode cX12_sums 114 = .ok (.iconst 1, 1) := by decide +kernel
theorem dX12_sums_115 : decode cX12_sums 115 = .ok (.goto 4, 3) := by decide +kernel
theorem dX12_sums_118 : decode cX12_sums 118 = .ok (.iconst 0, 1) := by decide +kernel
theorem dX12_sums_119 : decode cX12_sums 119 = .ok (.iadd, 1) := by decide +kernel
theorem dX12_sums_120 : decode cX12_sums 120 = .ok (.iastore, 1) := by decide +kernel
theorem dX12_sums_121 : decode cX12_sums 121 = .ok (.iinc 3 1, 3) := by decide +kernel
theorem dX12_sums_124 : decode cX12_sums 124 = .ok (.goto (-89), 3) := by decide +kernel
theorem dX12_sums_127 : decode cX12_sums 127 = .ok (.iinc 2 1, 3) := by decide +kernel
theorem dX12_sums_130 : decode cX12_sums 130 = .ok (.goto (-128), 3) := by decide +kernel
theorem dX12_sums_133 : decode cX12_sums 133 = .ok (.return_, 1) := by decide +kernel
theorem dX12_within_0 : decode cX12_within 0 = .ok (.iconst 0, 1) := by decide +kernel
theorem dX12_within_1 : decode cX12_within 1 = .ok (.istore 6, 2) := by decide +kernel
theorem dX12_within_3 : decode cX12_within 3 = .ok (.iload 4, 2) := by decide +kernel
theorem dX12_within_5 : decode cX12_within 5 = .ok (.istore 7, 2) := by decide +kernel
theorem dX12_within_7 : decode cX12_within 7 = .ok (.iload 7, 2) := by decide +kernel
theorem dX12_within_9 : decode cX12_within 9 = .ok (.iload 5, 2) := by decide +kernel
theorem dX12_within_11 : decode cX12_within 11 = .ok (.if_icmp .gt 41, 3) := by decide +kernel
theorem dX12_within_14 : decode cX12_within 14 = .ok (.bipush 13, 2) := by decide +kernel
theorem dX12_within_16 : decode cX12_within 16 = .ok (.bipush 12, 2) := by decide +kernel
theorem dX12_within_18 : decode cX12_within 18 = .ok (.iload 7, 2) := by decide +kernel
theorem dX12_within_20 : decode cX12_within 20 = .ok (.imul, 1) := by decide +kernel
theorem dX12_within_21 : decode cX12_within 21 = .ok (.iload_n 1, 1) := by decide +kernel
theorem dX12_within_22 : decode cX12_within 22 = .ok (.iadd, 1) := by decide +kernel
theorem dX12_within_23 : decode cX12_within 23 = .ok (.imul, 1) := by decide +kernel
theorem dX12_within_24 : decode cX12_within 24 = .ok (.istore 8, 2) := by decide +kernel
theorem dX12_within_26 : decode cX12_within 26 = .ok (.iload 6, 2) := by decide +kernel
theorem dX12_within_28 : decode cX12_within 28 = .ok (.aload_n 0, 1) := by decide +kernel
theorem dX12_within_29 : decode cX12_within 29 = .ok (.iload 8, 2) := by decide +kernel
theorem dX12_within_31 : decode cX12_within 31 = .ok (.iload_n 3, 1) := by decide +kernel
theorem dX12_within_32 : decode cX12_within 32 = .ok (.iadd, 1) := by decide +kernel
theorem dX12_within_33 : decode cX12_within 33 = .ok (.iconst 1, 1) := by decide +kernel
theorem dX12_within_34 : decode cX12_within 34 = .ok (.iadd, 1) := by decide +kernel
theorem dX12_within_35 : decode cX12_within 35 = .ok (.iaload, 1) := by decide +kernel
theorem dX12_within_36 : decode cX12_within 36 = .ok (.aload_n 0, 1) := by decide +kernel
theorem dX12_within_37 : decode cX12_within 37 = .ok (.iload 8, 2) := by decide +kernel
theorem dX12_within_39 : decode cX12_within 39 = .ok (.iload_n 2, 1) := by decide +kernel
theorem dX12_within_40 : decode cX12_within 40 = .ok (.iadd, 1) := by decide +kernel
theorem dX12_within_41 : decode cX12_within 41 = .ok (.iaload, 1) := by decide +kernel
theorem dX12_within_42 : decode cX12_within 42 = .ok (.isub, 1) := by decide +kernel
theorem dX12_within_43 : decode cX12_within 43 = .ok (.iadd, 1) := by decide +kernel
theorem dX12_within_44 : decode cX12_within 44 = .ok (.istore 6, 2) := by decide +kernel
theorem dX12_within_46 : decode cX12_within 46 = .ok (.iinc 7 1, 3) := by decide +kernel
theorem dX12_within_49 : decode cX12_within 49 = .ok (.goto (-42), 3) := by decide +kernel
theorem dX12_within_52 : decode cX12_within 52 = .ok (.iload 6, 2) := by decide +kernel
theorem dX12_within_54 : decode cX12_within 54 = .ok (.ireturn, 1) := by decide +kernel
theorem dX12_begins_0 : decode cX12_begins 0 = .ok (.iconst 0, 1) := by decide +kernel
theorem dX12_begins_1 : decode cX12_begins 1 = .ok (.istore 4, 2) := by decide +kernel
theorem dX12_begins_3 : decode cX12_begins 3 = .ok (.iload_n 1, 1) := by decide +kernel
theorem dX12_begins_4 : decode cX12_begins 4 = .ok (.istore 5, 2) := by decide +kernel
theorem dX12_begins_6 : decode cX12_begins 6 = .ok (.iload 5, 2) := by decide +kernel
theorem dX12_begins_8 : decode cX12_begins 8 = .ok (.iload_n 1, 1) := by decide +kernel
theorem dX12_begins_9 : decode cX12_begins 9 = .ok (.iload_n 2, 1) := by decide +kernel
theorem dX12_begins_10 : decode cX12_begins 10 = .ok (.iadd, 1) := by decide +kernel
theorem dX12_begins_11 : decode cX12_begins 11 = .ok (.if_icmp .ge 34, 3) := by decide +kernel
theorem dX12_begins_14 : decode cX12_begins 14 = .ok (.iload 4, 2) := by decide +kernel
theorem dX12_begins_16 : decode cX12_begins 16 = .ok (.bipush 6, 2) := by decide +kernel
theorem dX12_begins_18 : decode cX12_begins 18 = .ok (.if_icmp .ge 21, 3) := by decide +kernel
theorem dX12_begins_21 : decode cX12_begins 21 = .ok (.aload_n 0, 1) := by decide +kernel
theorem dX12_begins_22 : decode cX12_begins 22 = .ok (.iload 4, 2) := by decide +kernel
theorem dX12_begins_24 : decode cX12_begins 24 = .ok (.iload 5, 2) := by decide +kernel
theorem dX12_begins_26 : decode cX12_begins 26 = .ok (.iload_n 3, 1) := by decide +kernel
theorem dX12_begins_27 : decode cX12_begins 27 = .ok (.invokevirtual 127, 3) := by decide +kernel
theorem dX12_begins_30 : decode cX12_begins 30 = .ok (.ifCond .ne 9, 3) := by decide +kernel
theorem dX12_begins_33 : decode cX12_begins 33 = .ok (.iinc 4 1, 3) := by decide +kernel
theorem dX12_begins_36 : decode cX12_begins 36 = .ok (.goto (-22), 3) := by decide +kernel
theorem dX12_begins_39 : decode cX12_begins 39 = .ok (.iinc 5 1, 3) := by decide +kernel
theorem dX12_begins_42 : decode cX12_begins 42 = .ok (.goto (-36), 3) := by decide +kernel
theorem dX12_begins_45 : decode cX12_begins 45 = .ok (.iload 4, 2) := by decide +kernel
theorem dX12_begins_47 : decode cX12_begins 47 = .ok (.ireturn, 1) := by decide +kernel
theorem dX12_grade_0 : decode cX12_grade 0 = .ok (.iload 4, 2) := by decide +kernel
theorem dX12_grade_2 : decode cX12_grade 2 = .ok (.iload_n 3, 1) := by decide +kernel
theorem dX12_grade_3 : decode cX12_grade 3 = .ok (.isub, 1) := by decide +kernel
theorem dX12_grade_4 : decode cX12_grade 4 = .ok (.iconst 1, 1) := by decide +kernel
theorem dX12_grade_5 : decode cX12_grade 5 = .ok (.iadd, 1) := by decide +kernel
theorem dX12_grade_6 : decode cX12_grade 6 = .ok (.iload 6, 2) := by decide +kernel
theorem dX12_grade_8 : decode cX12_grade 8 = .ok (.iload 5, 2) := by decide +kernel
theorem dX12_grade_10 : decode cX12_grade 10 = .ok (.isub, 1) := by decide +kernel
theorem dX12_grade_11 : decode cX12_grade 11 = .ok (.iconst 1, 1) := by decide +kernel
theorem dX12_grade_12 : decode cX12_grade 12 = .ok (.iadd, 1) := by decide +kernel
theorem dX12_grade_13 : decode cX12_grade 13 = .ok (.imul, 1) := by decide +kernel
theorem dX12_grade_14 : decode cX12_grade 14 = .ok (.istore 7, 2) := by decide +kernel
theorem dX12_grade_16 : decode cX12_grade 16 = .ok (.aload_n 0, 1) := by decide +kernel
theorem dX12_grade_17 : decode cX12_grade 17 = .ok (.getfield 31, 3) := by decide +kernel
theorem dX12_grade_20 : decode cX12_grade 20 = .ok (.iload_n 1, 1) := by decide +kernel
theorem dX12_grade_21 : decode cX12_grade 21 = .ok (.iload_n 3, 1) := by decide +kernel
theorem dX12_grade_22 : decode cX12_grade 22 = .ok (.iload 4, 2) := by decide +kernel
theorem dX12_grade_24 : decode cX12_grade 24 = .ok (.iload 5, 2) := by decide +kernel
theorem dX12_grade_26 : decode cX12_grade 26 = .ok (.iload 6, 2) := by decide +kernel
theorem dX12_grade_28 : decode cX12_grade 28 = .ok (.invokestatic 238, 3) := by decide +kernel
theorem dX12_grade_31 : decode cX12_grade 31 = .ok (.istore 8, 2) := by decide +kernel
theorem dX12_grade_33 : decode cX12_grade 33 = .ok (.aload_n 0, 1) := by decide +kernel
theorem dX12_grade_34 : decode cX12_grade 34 = .ok (.getfield 31, 3) := by decide +kernel
theorem dX12_grade_37 : decode cX12_grade 37 = .ok (.iload_n 1, 1) := by decide +kernel
theorem dX12_grade_38 : decode cX12_grade 38 = .ok (.iload_n 2, 1) := by decide +kernel
theorem dX12_grade_39 : decode cX12_grade 39 = .ok (.iadd, 1) := by decide +kernel
theorem dX12_grade_40 : decode cX12_grade 40 = .ok (.iconst 1, 1) := by decide +kernel
theorem dX12_grade_41 : decode cX12_grade 41 = .ok (.isub, 1) := by decide +kernel
theorem dX12_grade_42 : decode cX12_grade 42 = .ok (.iload_n 3, 1) := by decide +kernel
theorem dX12_grade_43 : decode cX12_grade 43 = .ok (.iload 4, 2) := by decide +kernel
theorem dX12_grade_45 : decode cX12_grade 45 = .ok (.iload 5, 2) := by decide +kernel
theorem dX12_grade_47 : decode cX12_grade 47 = .ok (.iload 6, 2) := by decide +kernel
theorem dX12_grade_49 : decode cX12_grade 49 = .ok (.invokestatic 238, 3) := by decide +kernel
theorem dX12_grade_52 : decode cX12_grade 52 = .ok (.istore 9, 2) := by decide +kernel
theorem dX12_grade_54 : decode cX12_grade 54 = .ok (.iload 8, 2) := by decide +kernel
theorem dX12_grade_56 : decode cX12_grade 56 = .ok (.iload 9, 2) := by decide +kernel
theorem dX12_grade_58 : decode cX12_grade 58 = .ok (.invokestatic 118, 3) := by decide +kernel
theorem dX12_grade_61 : decode cX12_grade 61 = .ok (.istore 10, 2) := by decide +kernel
theorem dX12_grade_63 : decode cX12_grade 63 = .ok (.iload 8, 2) := by decide +kernel
theorem dX12_grade_65 : decode cX12_grade 65 = .ok (.iload 9, 2) := by decide +kernel
theorem dX12_grade_67 : decode cX12_grade 67 = .ok (.invokestatic 207, 3) := by decide +kernel
theorem dX12_grade_70 : decode cX12_grade 70 = .ok (.istore 11, 2) := by decide +kernel
theorem dX12_grade_72 : decode cX12_grade 72 = .ok (.iload 10, 2) := by decide +kernel
theorem dX12_grade_74 : decode cX12_grade 74 = .ok (.ifCond .ne 5, 3) := by decide +kernel
theorem dX12_grade_77 : decode cX12_grade 77 = .ok (.iconst 0, 1) := by decide +kernel
theorem dX12_grade_78 : decode cX12_grade 78 = .ok (.ireturn, 1) := by decide +kernel
theorem dX12_grade_79 : decode cX12_grade 79 = .ok (.iload 11, 2) := by decide +kernel
theorem dX12_grade_81 : decode cX12_grade 81 = .ok (.ifCond .ne 15, 3) := by decide +kernel
theorem dX12_grade_84 : decode cX12_grade 84 = .ok (.bipush 8, 2) := by decide +kernel
theorem dX12_grade_86 : decode cX12_grade 86 = .ok (.iload 10, 2) := by decide +kernel
theorem dX12_grade_88 : decode cX12_grade 88 = .ok (.imul, 1) := by decide +kernel
theorem dX12_grade_89 : decode cX12_grade 89 = .ok (.iload 7, 2) := by decide +kernel
theorem dX12_grade_91 : decode cX12_grade 91 = .ok (.if_icmp .gt 5, 3) := by decide +kernel
theorem dX12_grade_94 : decode cX12_grade 94 = .ok (.iconst 1, 1) := by decide +kernel
theorem dX12_grade_95 : decode cX12_grade 95 = .ok (.ireturn, 1) := by decide +kernel
theorem dX12_grade_96 : decode cX12_grade 96 = .ok (.iconst 2, 1) := by decide +kernel
theorem dX12_grade_97 : decode cX12_grade 97 = .ok (.iload 10, 2) := by decide +kernel
theorem dX12_grade_99 : decode cX12_grade 99 = .ok (.imul, 1) := by decide +kernel
theorem dX12_grade_100 : decode cX12_grade 100 = .ok (.iload 7, 2) := by decide +kernel
theorem dX12_grade_102 : decode cX12_grade 102 = .ok (.if_icmp .gt 43, 3) := by decide +kernel
theorem dX12_grade_105 : decode cX12_grade 105 = .ok (.aload_n 0, 1) := by decide +kernel
theorem dX12_grade_106 : decode cX12_grade 106 = .ok (.getfield 34, 3) := by decide +kernel
theorem dX12_grade_109 : decode cX12_grade 109 = .ok (.iload_n 1, 1) := by decide +kernel
theorem dX12_grade_110 : decode cX12_grade 110 = .ok (.iload_n 3, 1) := by decide +kernel
theorem dX12_grade_111 : decode cX12_grade 111 = .ok (.iload 4, 2) := by decide +kernel
theorem dX12_grade_113 : decode cX12_grade 113 = .ok (.iload 5, 2) := by decide +kernel
theorem dX12_grade_115 : decode cX12_grade 115 = .ok (.iload 6, 2) := by decide +kernel
theorem dX12_grade_117 : decode cX12_grade 117 = .ok (.invokestatic 238, 3) := by decide +kernel
theorem dX12_grade_120 : decode cX12_grade 120 = .ok (.aload_n 0, 1) := by decide +kernel
theorem dX12_grade_121 : decode cX12_grade 121 = .ok (.getfield 34, 3) := by decide +kernel
theorem dX12_grade_124 : decode cX12_grade 124 = .ok (.iload_n 1, 1) := by decide +kernel
theorem dX12_grade_125 : decode cX12_grade 125 = .ok (.iload_n 2, 1) := by decide +kernel
theorem dX12_grade_126 : decode cX12_grade 126 = .ok (.iadd, 1) := by decide +kernel
theorem dX12_grade_127 : decode cX12_grade 127 = .ok (.iconst 1, 1) := by decide +kernel
theorem dX12_grade_128 : decode cX12_grade 128 = .ok (.isub, 1) := by decide +kernel
theorem dX12_grade_129 : decode cX12_grade 129 = .ok (.iload_n 3, 1) := by decide +kernel
theorem dX12_grade_130 : decode cX12_grade 130 = .ok (.iload 4, 2) := by decide +kernel
theorem dX12_grade_132 : decode cX12_grade 132 = .ok (.iload 5, 2) := by decide +kernel
theorem dX12_grade_134 : decode cX12_grade 134 = .ok (.iload 6, 2) := by decide +kernel
theorem dX12_grade_136 : decode cX12_grade 136 = .ok (.invokestatic 238, 3) := by decide +kernel
theorem dX12_grade_139 : decode cX12_grade 139 = .ok (.iadd, 1) := by decide +kernel
theorem dX12_grade_140 : decode cX12_grade 140 = .ok (.ifCond .ne 5, 3) := by decide +kernel
theorem dX12_grade_143 : decode cX12_grade 143 = .ok (.iconst 2, 1) := by decide +kernel
theorem dX12_grade_144 : decode cX12_grade 144 = .ok (.ireturn, 1) := by decide +kernel
theorem dX12_grade_145 : decode cX12_grade 145 = .ok (.iload 11, 2) := by decide +kernel
theorem dX12_grade_147 : decode cX12_grade 147 = .ok (.iload 7, 2) := by decide +kernel
theorem dX12_grade_149 : decode cX12_grade 149 = .ok (.if_icmp .gt 7, 3) := by decide +kernel
theorem dX12_grade_152 : decode cX12_grade 152 = .ok (.iconst 3, 1) := by decide +kernel
theorem dX12_grade_153 : decode cX12_grade 153 = .ok (.goto 4, 3) := by decide +kernel
theorem dX12_grade_156 : decode cX12_grade 156 = .ok (.iconst 4, 1) := by decide +kernel
theorem dX12_grade_157 : decode cX12_grade 157 = .ok (.ireturn, 1) := by decide +kernel
theorem dX12_isAhead_0 : decode cX12_isAhead 0 = .ok (.iload_n 3, 1) := by decide +kernel
theorem dX12_isAhead_1 : decode cX12_isAhead 1 = .ok (.aload_n 0, 1) := by decide +kernel
theorem dX12_isAhead_2 : decode cX12_isAhead 2 = .ok (.getfield 242, 3) := by decide +kernel
theorem dX12_isAhead_5 : decode cX12_isAhead 5 = .ok (.if_icmp .ne 12, 3) := by decide +kernel
theorem dX12_isAhead_8 : decode cX12_isAhead 8 = .ok (.iload 4, 2) := by decide +kernel
theorem dX12_isAhead_10 : decode cX12_isAhead 10 = .ok (.aload_n 0, 1) := by decide +kernel
theorem dX12_isAhead_11 : decode cX12_isAhead 11 = .ok (.getfield 245, 3) := by decide +kernel
theorem dX12_isAhead_14 : decode cX12_isAhead 14 = .ok (.if_icmp .eq 34, 3) := by decide +kernel
theorem dX12_isAhead_17 : decode cX12_isAhead 17 = .ok (.iload_n 3, 1) := by decide +kernel
theorem dX12_isAhead_18 : decode cX12_isAhead 18 = .ok (.aload_n 0, 1) := by decide +kernel
theorem dX12_isAhead_19 : decode cX12_isAhead 19 = .ok (.getfield 242, 3) := by decide +kernel
theorem dX12_isAhead_22 : decode cX12_isAhead 22 = .ok (.if_icmp .lt 20, 3) := by decide +kernel
theorem dX12_isAhead_25 : decode cX12_isAhead 25 = .ok (.iload_n 3, 1) := by decide +kernel
theorem dX12_isAhead_26 : decode cX12_isAhead 26 = .ok (.aload_n 0, 1) := by decide +kernel
theorem dX12_isAhead_27 : decode cX12_isAhead 27 = .ok (.getfield 242, 3) := by decide +kernel
theorem dX12_isAhead_30 : decode cX12_isAhead 30 = .ok (.if_icmp .ne 16, 3) := by decide +kernel
theorem dX12_isAhead_33 : decode cX12_isAhead 33 = .ok (.iload 4, 2) := by decide +kernel
theorem dX12_isAhead_35 : decode cX12_isAhead 35 = .ok (.aload_n 0, 1) := by decide +kernel
theorem dX12_isAhead_36 : decode cX12_isAhead 36 = .ok (.getfield 245, 3) := by decide +kernel
theorem dX12_isAhead_39 : decode cX12_isAhead 39 = .ok (.if_icmp .ge 7, 3) := by decide +kernel
theorem dX12_isAhead_42 : decode cX12_isAhead 42 = .ok (.iconst 1, 1) := by decide +kernel
theorem dX12_isAhead_43 : decode cX12_isAhead 43 = .ok (.goto 4, 3) := by decide +kernel
theorem dX12_isAhead_46 : decode cX12_isAhead 46 = .ok (.iconst 0, 1) := by decide +kernel
theorem dX12_isAhead_47 : decode cX12_isAhead 47 = .ok (.ireturn, 1) := by decide +kernel
theorem dX12_isAhead_48 : decode cX12_isAhead 48 = .ok (.iload_n 1, 1) := by decide +kernel
theorem dX12_isAhead_49 : decode cX12_isAhead 49 = .ok (.aload_n 0, 1) := by decide +kernel
theorem dX12_isAhead_50 : decode cX12_isAhead 50 = .ok (.getfield 248, 3) := by decide +kernel
theorem dX12_isAhead_53 : decode cX12_isAhead 53 = .ok (.if_icmp .lt 19, 3) := by decide +kernel
theorem dX12_isAhead_56 : decode cX12_isAhead 56 = .ok (.iload_n 1, 1) := by decide +kernel
theorem dX12_isAhead_57 : decode cX12_isAhead 57 = .ok (.aload_n 0, 1) := by decide +kernel
theorem dX12_isAhead_58 : decode cX12_isAhead 58 = .ok (.getfield 248, 3) := by decide +kernel
theorem dX12_isAhead_61 : decode cX12_isAhead 61 = .ok (.if_icmp .ne 15, 3) := by decide +kernel
theorem dX12_isAhead_64 : decode cX12_isAhead 64 = .ok (.iload_n 2, 1) := by decide +kernel
theorem dX12_isAhead_65 : decode cX12_isAhead 65 = .ok (.aload_n 0, 1) := by decide +kernel
theorem dX12_isAhead_66 : decode cX12_isAhead 66 = .ok (.getfield 251, 3) := by decide +kernel
theorem dX12_isAhead_69 : decode cX12_isAhead 69 = .ok (.if_icmp .ge 7, 3) := by decide +kernel
theorem dX12_isAhead_72 : decode cX12_isAhead 72 = .ok (.iconst 1, 1) := by decide +kernel
theorem dX12_isAhead_73 : decode cX12_isAhead 73 = .ok (.goto 4, 3) := by decide +kernel
theorem dX12_isAhead_76 : decode cX12_isAhead 76 = .ok (.iconst 0, 1) := by decide +kernel
theorem dX12_isAhead_77 : decode cX12_isAhead 77 = .ok (.ireturn, 1) := by decide +kernel
theorem dX12_tries_0 : decode cX12_tries 0 = .ok (.aload_n 0, 1) := by decide +kernel
theorem dX12_tries_1 : decode cX12_tries 1 = .ok (.iload_n 1, 1) := by decide +kernel
theorem dX12_tries_2 : decode cX12_tries 2 = .ok (.iload_n 2, 1) := by decide +kernel
theorem dX12_tries_3 : decode cX12_tries 3 = .ok (.iload_n 3, 1) := by decide +kernel
theorem dX12_tries_4 : decode cX12_tries 4 = .ok (.iload 4, 2) := by decide +kernel
theorem dX12_tries_6 : decode cX12_tries 6 = .ok (.iload 5, 2) := by decide +kernel
theorem dX12_tries_8 : decode cX12_tries 8 = .ok (.iload 6, 2) := by decide +kernel
theorem dX12_tries_10 : decode cX12_tries 10 = .ok (.invokevirtual 254, 3) := by decide +kernel
theorem dX12_tries_13 : decode cX12_tries 13 = .ok (.istore 7, 2) := by decide +kernel
theorem dX12_tries_15 : decode cX12_tries 15 = .ok (.iload 4, 2) := by decide +kernel
theorem dX12_tries_17 : decode cX12_tries 17 = .ok (.iload_n 3, 1) := by decide +kernel
theorem dX12_tries_18 : decode cX12_tries 18 = .ok (.isub, 1) := by decide +kernel
theorem dX12_tries_19 : decode cX12_tries 19 = .ok (.iconst 1, 1) := by decide +kernel
theorem dX12_tries_20 : decode cX12_tries 20 = .ok (.iadd, 1) := by decide +kernel
theorem dX12_tries_21 : decode cX12_tries 21 = .ok (.iload 6, 2) := by decide +kernel
theorem dX12_tries_23 : decode cX12_tries 23 = .ok (.iload 5, 2) := by decide +kernel
theorem dX12_tries_25 : decode cX12_tries 25 = .ok (.isub, 1) := by decide +kernel
theorem dX12_tries_26 : decode cX12_tries 26 = .ok (.iconst 1, 1) := by decide +kernel
theorem dX12_tries_27 : decode cX12_tries 27 = .ok (.iadd, 1) := by decide +kernel
theorem dX12_tries_28 : decode cX12_tries 28 = .ok (.imul, 1) := by decide +kernel
theorem dX12_tries_29 : decode cX12_tries 29 = .ok (.istore 8, 2) := by decide +kernel
theorem dX12_tries_31 : decode cX12_tries 31 = .ok (.iload 7, 2) := by decide +kernel
theorem dX12_tries_33 : decode cX12_tries 33 = .ok (.iconst 4, 1) := by decide +kernel
theorem dX12_tries_34 : decode cX12_tries 34 = .ok (.if_icmp .ne 7, 3) := by decide +kernel
theorem dX12_tries_37 : decode cX12_tries 37 = .ok (.iconst 0, 1) := by decide +kernel
theorem dX12_tries_38 : decode cX12_tries 38 = .ok (.goto 17, 3) := by decide +kernel
theorem dX12_tries_41 : decode cX12_tries 41 = .ok (.iload 8, 2) := by decide +kernel
theorem dX12_tries_43 : decode cX12_tries 43 = .ok (.iload_n 2, 1) := by decide +kernel
theorem dX12_tries_44 : decode cX12_tries 44 = .ok (.imul, 1) := by decide +kernel
theorem dX12_tries_45 : decode cX12_tries 45 = .ok (.aload_n 0, 1) := by decide +kernel
theorem dX12_tries_46 : decode cX12_tries 46 = .ok (.getfield 13, 3) := by decide +kernel
theorem dX12_tries_49 : decode cX12_tries 49 = .ok (.iconst 2, 1) := by decide +kernel
theorem dX12_tries_50 : decode cX12_tries 50 = .ok (.iload 7, 2) := by decide +kernel
theorem dX12_tries_52 : decode cX12_tries 52 = .ok (.iadd, 1) := by decide +kernel
theorem dX12_tries_53 : decode cX12_tries 53 = .ok (.iaload, 1) := by decide +kernel
theorem dX12_tries_54 : decode cX12_tries 54 = .ok (.imul, 1) := by decide +kernel
theorem dX12_tries_55 : decode cX12_tries 55 = .ok (.istore 9, 2) := by decide +kernel
theorem dX12_tries_57 : decode cX12_tries 57 = .ok (.iload 9, 2) := by decide +kernel
theorem dX12_tries_59 : decode cX12_tries 59 = .ok (.aload_n 0, 1) := by decide +kernel
theorem dX12_tries_60 : decode cX12_tries 60 = .ok (.getfield 258, 3) := by decide +kernel
theorem dX12_tries_63 : decode cX12_tries 63 = .ok (.if_icmp .gt 49, 3) := by decide +kernel
theorem dX12_tries_66 : decode cX12_tries 66 = .ok (.iload 9, 2) := by decide +kernel
theorem dX12_tries_68 : decode cX12_tries 68 = .ok (.ifCond .le 85, 3) := by decide +kernel
theorem dX12_tries_71 : decode cX12_tries 71 = .ok (.iload 9, 2) := by decide +kernel
theorem dX12_tries_73 : decode cX12_tries 73 = .ok (.aload_n 0, 1) := by decide +kernel
theorem dX12_tries_74 : decode cX12_tries 74 = .ok (.getfield 258, 3) := by decide +kernel
theorem dX12_tries_77 : decode cX12_tries 77 = .ok (.if_icmp .ne 76, 3) := by decide +kernel
theorem dX12_tries_80 : decode cX12_tries 80 = .ok (.iload 8, 2) := by decide +kernel
theorem dX12_tries_82 : decode cX12_tries 82 = .ok (.aload_n 0, 1) := by decide +kernel
theorem dX12_tries_83 : decode cX12_tries 83 = .ok (.getfield 261, 3) := by decide +kernel
theorem dX12_tries_86 : decode cX12_tries 86 = .ok (.if_icmp .gt 26, 3) := by decide +kernel
theorem dX12_tries_89 : decode cX12_tries 89 = .ok (.iload 8, 2) := by decide +kernel
theorem dX12_tries_91 : decode cX12_tries 91 = .ok (.aload_n 0, 1) := by decide +kernel
theorem dX12_tries_92 : decode cX12_tries 92 = .ok (.getfield 261, 3) := by decide +kernel
theorem dX12_tries_95 : decode cX12_tries 95 = .ok (.if_icmp .ne 58, 3) := by decide +kernel
theorem dX12_tries_98 : decode cX12_tries 98 = .ok (.aload_n 0, 1) := by decide +kernel
theorem dX12_tries_99 : decode cX12_tries 99 = .ok (.iload_n 3, 1) := by decide +kernel
theorem dX12_tries_100 : decode cX12_tries 100 = .ok (.iload 4, 2) := by decide +kernel
theorem dX12_tries_102 : decode cX12_tries 102 = .ok (.iload 5, 2) := by decide +kernel
theorem dX12_tries_104 : decode cX12_tries 104 = .ok (.iload 6, 2) := by decide +kernel
theorem dX12_tries_106 : decode cX12_tries 106 = .ok (.invokevirtual 264, 3) := by decide +kernel
theorem dX12_tries_109 : decode cX12_tries 109 = .ok (.ifCond .eq 44, 3) := by decide +kernel
theorem dX12_tries_112 : decode cX12_tries 112 = .ok (.aload_n 0, 1) := by decide +kernel
theorem dX12_tries_113 : decode cX12_tries 113 = .ok (.iload 9, 2) := by decide +kernel
theorem dX12_tries_115 : decode cX12_tries 115 = .ok (.putfield 258, 3) := by decide +kernel
theorem dX12_tries_118 : decode cX12_tries 118 = .ok (.aload_n 0, 1) := by decide +kernel
theorem dX12_tries_119 : decode cX12_tries 119 = .ok (.iload 8, 2) := by decide +kernel
theorem dX12_tries_121 : decode cX12_tries 121 = .ok (.putfield 261, 3) := by decide +kernel
theorem dX12_tries_124 : decode cX12_tries 124 = .ok (.aload_n 0, 1) := by decide +kernel
theorem dX12_tries_125 : decode cX12_tries 125 = .ok (.iload_n 3, 1) := by decide +kernel
theorem dX12_tries_126 : decode cX12_tries 126 = .ok (.putfield 248, 3) := by decide +kernel
theorem dX12_tries_129 : decode cX12_tries 129 = .ok (.aload_n 0, 1) := by decide +kernel
theorem dX12_tries_130 : decode cX12_tries 130 = .ok (.iload 4, 2) := by decide +kernel
theorem dX12_tries_132 : decode cX12_tries 132 = .ok (.putfield 251, 3) := by decide +kernel
theorem dX12_tries_135 : decode cX12_tries 135 = .ok (.aload_n 0, 1) := by decide +kernel
theorem dX12_tries_136 : decode cX12_tries 136 = .ok (.iload 5, 2) := by decide +kernel
theorem dX12_tries_138 : decode cX12_tries 138 = .ok (.putfield 242, 3) := by decide +kernel
theorem dX12_tries_141 : decode cX12_tries 141 = .ok (.aload_n 0, 1) := by decide +kernel
theorem dX12_tries_142 : decode cX12_tries 142 = .ok (.iload 6, 2) := by decide +kernel
theorem dX12_tries_144 : decode cX12_tries 144 = .ok (.putfield 245, 3) := by decide +kernel
theorem dX12_tries_147 : decode cX12_tries 147 = .ok (.aload_n 0, 1) := by decide +kernel
theorem dX12_tries_148 : decode cX12_tries 148 = .ok (.iload 7, 2) := by decide +kernel
theorem dX12_tries_150 : decode cX12_tries 150 = .ok (.putfield 268, 3) := by decide +kernel
theorem dX12_tries_153 : decode cX12_tries 153 = .ok (.return_, 1) := by decide +kernel
theorem dX12_finds_0 : decode cX12_finds 0 = .ok (.aload_n 0, 1) := by decide +kernel
theorem dX12_finds_1 : decode cX12_finds 1 = .ok (.iconst 0, 1) := by decide +kernel
theorem dX12_finds_2 : decode cX12_finds 2 = .ok (.putfield 258, 3) := by decide +kernel
theorem dX12_finds_5 : decode cX12_finds 5 = .ok (.aload_n 0, 1) := by decide +kernel
theorem dX12_finds_6 : decode cX12_finds 6 = .ok (.getfield 92, 3) := by decide +kernel
theorem dX12_finds_9 : decode cX12_finds 9 = .ok (.iconst 1, 1) := by decide +kernel
theorem dX12_finds_10 : decode cX12_finds 10 = .ok (.isub, 1) := by decide +kernel
theorem dX12_finds_11 : decode cX12_finds 11 = .ok (.istore_n 3, 1) := by decide +kernel
theorem dX12_finds_12 : decode cX12_finds 12 = .ok (.aload_n 0, 1) := by decide +kernel
theorem dX12_finds_13 : decode cX12_finds 13 = .ok (.iload_n 1, 1) := by decide +kernel
theorem dX12_finds_14 : decode cX12_finds 14 = .ok (.iload_n 2, 1) := by decide +kernel
theorem dX12_finds_15 : decode cX12_finds 15 = .ok (.iload_n 3, 1) := by decide +kernel
theorem dX12_finds_16 : decode cX12_finds 16 = .ok (.invokevirtual 271, 3) := by decide +kernel
theorem dX12_finds_19 : decode cX12_finds 19 = .ok (.istore 4, 2) := by decide +kernel
theorem dX12_finds_21 : decode cX12_finds 21 = .ok (.iload 4, 2) := by decide +kernel
theorem dX12_finds_23 : decode cX12_finds 23 = .ok (.bipush 6, 2) := by decide +kernel
theorem dX12_finds_25 : decode cX12_finds 25 = .ok (.if_icmp .ge 18, 3) := by decide +kernel
theorem dX12_finds_28 : decode cX12_finds 28 = .ok (.aload_n 0, 1) := by decide +kernel
theorem dX12_finds_29 : decode cX12_finds 29 = .ok (.iload_n 1, 1) := by decide +kernel
theorem dX12_finds_30 : decode cX12_finds 30 = .ok (.iload_n 2, 1) := by decide +kernel
theorem dX12_finds_31 : decode cX12_finds 31 = .ok (.iload 4, 2) := by decide +kernel
theorem dX12_finds_33 : decode cX12_finds 33 = .ok (.bipush 11, 2) := by decide +kernel
theorem dX12_finds_35 : decode cX12_finds 35 = .ok (.iload 4, 2) := by decide +kernel
theorem dX12_finds_37 : decode cX12_finds 37 = .ok (.isub, 1) := by decide +kernel
theorem dX12_finds_38 : decode cX12_finds 38 = .ok (.iconst 0, 1) := by decide +kernel
theorem dX12_finds_39 : decode cX12_finds 39 = .ok (.iload_n 3, 1) := by decide +kernel
theorem dX12_finds_40 : decode cX12_finds 40 = .ok (.invokevirtual 274, 3) := by decide +kernel
theorem dX12_finds_43 : decode cX12_finds 43 = .ok (.iconst 0, 1) := by decide +kernel
theorem dX12_finds_44 : decode cX12_finds 44 = .ok (.istore 5, 2) := by decide +kernel
theorem dX12_finds_46 : decode cX12_finds 46 = .ok (.iload 5, 2) := by decide +kernel
theorem dX12_finds_48 : decode cX12_finds 48 = .ok (.iload_n 3, 1) := by decide +kernel
theorem dX12_finds_49 : decode cX12_finds 49 = .ok (.if_icmp .gt 69, 3) := by decide +kernel
theorem dX12_finds_52 : decode cX12_finds 52 = .ok (.aload_n 0, 1) := by decide +kernel
theorem dX12_finds_53 : decode cX12_finds 53 = .ok (.getfield 13, 3) := by decide +kernel
theorem dX12_finds_56 : decode cX12_finds 56 = .ok (.iconst 1, 1) := by decide +kernel
theorem dX12_finds_57 : decode cX12_finds 57 = .ok (.iaload, 1) := by decide +kernel
theorem dX12_finds_58 : decode cX12_finds 58 = .ok (.iconst 1, 1) := by decide +kernel
theorem dX12_finds_59 : decode cX12_finds 59 = .ok (.if_icmp .ne 59, 3) := by decide +kernel
theorem dX12_finds_62 : decode cX12_finds 62 = .ok (.aload_n 0, 1) := by decide +kernel
theorem dX12_finds_63 : decode cX12_finds 63 = .ok (.iload_n 1, 1) := by decide +kernel
theorem dX12_finds_64 : decode cX12_finds 64 = .ok (.iload_n 2, 1) := by decide +kernel
theorem dX12_finds_65 : decode cX12_finds 65 = .ok (.iload 5, 2) := by decide +kernel
theorem dX12_finds_67 : decode cX12_finds 67 = .ok (.invokevirtual 271, 3) := by decide +kernel
theorem dX12_finds_70 : decode cX12_finds 70 = .ok (.istore 6, 2) := by decide +kernel
theorem dX12_finds_72 : decode cX12_finds 72 = .ok (.iconst 0, 1) := by decide +kernel
theorem dX12_finds_73 : decode cX12_finds 73 = .ok (.istore 7, 2) := by decide +kernel
theorem dX12_finds_75 : decode cX12_finds 75 = .ok (.iload 7, 2) := by decide +kernel
theorem dX12_finds_77 : decode cX12_finds 77 = .ok (.iload 5, 2) := by decide +kernel
theorem dX12_finds_79 : decode cX12_finds 79 = .ok (.if_icmp .gt 33, 3) := by decide +kernel
theorem dX12_finds_82 : decode cX12_finds 82 = .ok (.iload 6, 2) := by decide +kernel
theorem dX12_finds_84 : decode cX12_finds 84 = .ok (.bipush 6, 2) := by decide +kernel
theorem dX12_finds_86 : decode cX12_finds 86 = .ok (.if_icmp .ge 26, 3) := by decide +kernel
theorem dX12_finds_89 : decode cX12_finds 89 = .ok (.aload_n 0, 1) := by decide +kernel
theorem dX12_finds_90 : decode cX12_finds 90 = .ok (.iload_n 1, 1) := by decide +kernel
theorem dX12_finds_91 : decode cX12_finds 91 = .ok (.iload_n 2, 1) := by decide +kernel
theorem dX12_finds_92 : decode cX12_finds 92 = .ok (.iload 6, 2) := by decide +kernel
theorem dX12_finds_94 : decode cX12_finds 94 = .ok (.bipush 11, 2) := by decide +kernel
theorem dX12_finds_96 : decode cX12_finds 96 = .ok (.iload 6, 2) := by decide +kernel
theorem dX12_finds_98 : decode cX12_finds 98 = .ok (.isub, 1) := by decide +kernel
theorem dX12_finds_99 : decode cX12_finds 99 = .ok (.iload 7, 2) := by decide +kernel
theorem dX12_finds_101 : decode cX12_finds 101 = .ok (.iload 5, 2) := by decide +kernel
theorem dX12_finds_103 : decode cX12_finds 103 = .ok (.invokevirtual 274, 3) := by decide +kernel
theorem dX12_finds_106 : decode cX12_finds 106 = .ok (.iinc 7 1, 3) := by decide +kernel
theorem dX12_finds_109 : decode cX12_finds 109 = .ok (.goto (-34), 3) := by decide +kernel
theorem dX12_finds_112 : decode cX12_finds 112 = .ok (.iinc 5 1, 3) := by decide +kernel
theorem dX12_finds_115 : decode cX12_finds 115 = .ok (.goto (-69), 3) := by decide +kernel
theorem dX12_finds_118 : decode cX12_finds 118 = .ok (.iload 4, 2) := by decide +kernel
theorem dX12_finds_120 : decode cX12_finds 120 = .ok (.istore 5, 2) := by decide +kernel
theorem dX12_finds_122 : decode cX12_finds 122 = .ok (.iload 5, 2) := by decide +kernel
theorem dX12_finds_124 : decode cX12_finds 124 = .ok (.bipush 11, 2) := by decide +kernel
theorem dX12_finds_126 : decode cX12_finds 126 = .ok (.iload 4, 2) := by decide +kernel
theorem dX12_finds_128 : decode cX12_finds 128 = .ok (.isub, 1) := by decide +kernel
theorem dX12_finds_129 : decode cX12_finds 129 = .ok (.if_icmp .gt 51, 3) := by decide +kernel
theorem dX12_finds_132 : decode cX12_finds 132 = .ok (.aload_n 0, 1) := by decide +kernel
theorem dX12_finds_133 : decode cX12_finds 133 = .ok (.getfield 13, 3) := by decide +kernel
theorem dX12_finds_136 : decode cX12_finds 136 = .ok (.iconst 1, 1) := by decide +kernel
theorem dX12_finds_137 : decode cX12_finds 137 = .ok (.iaload, 1) := by decide +kernel
theorem dX12_finds_138 : decode cX12_finds 138 = .ok (.iconst 1, 1) := by decide +kernel
theorem dX12_finds_139 : decode cX12_finds 139 = .ok (.if_icmp .ne 41, 3) := by decide +kernel
theorem dX12_finds_142 : decode cX12_finds 142 = .ok (.iload 5, 2) := by decide +kernel
theorem dX12_finds_144 : decode cX12_finds 144 = .ok (.istore 6, 2) := by decide +kernel
theorem dX12_finds_146 : decode cX12_finds 146 = .ok (.iload 6, 2) := by decide +kernel
theorem dX12_finds_148 : decode cX12_finds 148 = .ok (.bipush 11, 2) := by decide +kernel
theorem dX12_finds_150 : decode cX12_finds 150 = .ok (.iload 4, 2) := by decide +kernel
theorem dX12_finds_152 : decode cX12_finds 152 = .ok (.isub, 1) := by decide +kernel
theorem dX12_finds_153 : decode cX12_finds 153 = .ok (.if_icmp .gt 21, 3) := by decide +kernel
theorem dX12_finds_156 : decode cX12_finds 156 = .ok (.aload_n 0, 1) := by decide +kernel
theorem dX12_finds_157 : decode cX12_finds 157 = .ok (.iload_n 1, 1) := by decide +kernel
theorem dX12_finds_158 : decode cX12_finds 158 = .ok (.iload_n 2, 1) := by decide +kernel
theorem dX12_finds_159 : decode cX12_finds 159 = .ok (.iload 5, 2) := by decide +kernel
theorem dX12_finds_161 : decode cX12_finds 161 = .ok (.iload 6, 2) := by decide +kernel
theorem dX12_finds_163 : decode cX12_finds 163 = .ok (.iconst 0, 1) := by decide +kernel
theorem dX12_finds_164 : decode cX12_finds 164 = .ok (.iload_n 3, 1) := by decide +kernel
theorem dX12_finds_165 : decode cX12_finds 165 = .ok (.invokevirtual 274, 3) := by decide +kernel
theorem dX12_finds_168 : decode cX12_finds 168 = .ok (.iinc 6 1, 3) := by decide +kernel
theorem dX12_finds_171 : decode cX12_finds 171 = .ok (.goto (-25), 3) := by decide +kernel
theorem dX12_finds_174 : decode cX12_finds 174 = .ok (.iinc 5 1, 3) := by decide +kernel
theorem dX12_finds_177 : decode cX12_finds 177 = .ok (.goto (-55), 3) := by decide +kernel
theorem dX12_finds_180 : decode cX12_finds 180 = .ok (.return_, 1) := by decide +kernel
theorem dX12_isBoard_0 : decode cX12_isBoard 0 = .ok (.iload_n 1, 1) := by decide +kernel
theorem dX12_isBoard_1 : decode cX12_isBoard 1 = .ok (.i2l, 1) := by decide +kernel
theorem dX12_isBoard_2 : decode cX12_isBoard 2 = .ok (.lconst 1, 1) := by decide +kernel
theorem dX12_isBoard_3 : decode cX12_isBoard 3 = .ok (.ldc2_w 139, 3) := by decide +kernel
theorem dX12_isBoard_6 : decode cX12_isBoard 6 = .ok (.invokestatic 135, 3) := by decide +kernel
theorem dX12_isBoard_9 : decode cX12_isBoard 9 = .ok (.ifCond .eq 21, 3) := by decide +kernel
theorem dX12_isBoard_12 : decode cX12_isBoard 12 = .ok (.iload_n 0, 1) := by decide +kernel
theorem dX12_isBoard_13 : decode cX12_isBoard 13 = .ok (.i2l, 1) := by decide +kernel
theorem dX12_isBoard_14 : decode cX12_isBoard 14 = .ok (.lconst 0, 1) := by decide +kernel
theorem dX12_isBoard_15 : decode cX12_isBoard 15 = .ok (.bipush 12, 2) := by decide +kernel
theorem dX12_isBoard_17 : decode cX12_isBoard 17 = .ok (.iload_n 1, 1) := by decide +kernel
theorem dX12_isBoard_18 : decode cX12_isBoard 18 = .ok (.isub, 1) := by decide +kernel
theorem dX12_isBoard_19 : decode cX12_isBoard 19 = .ok (.i2l, 1) := by decide +kernel
theorem dX12_isBoard_20 : decode cX12_isBoard 20 = .ok (.invokestatic 135, 3) := by decide +kernel
theorem dX12_isBoard_23 : decode cX12_isBoard 23 = .ok (.ifCond .eq 7, 3) := by decide +kernel
theorem dX12_isBoard_26 : decode cX12_isBoard 26 = .ok (.iconst 1, 1) := by decide +kernel
theorem dX12_isBoard_27 : decode cX12_isBoard 27 = .ok (.goto 4, 3) := by decide +kernel
theorem dX12_isBoard_30 : decode cX12_isBoard 30 = .ok (.iconst 0, 1) := by decide +kernel
theorem dX12_isBoard_31 : decode cX12_isBoard 31 = .ok (.ireturn, 1) := by decide +kernel
theorem dX12_board_0 : decode cX12_board 0 = .ok (.aload_n 0, 1) := by decide +kernel
theorem dX12_board_1 : decode cX12_board 1 = .ok (.getfield 92, 3) := by decide +kernel
theorem dX12_board_4 : decode cX12_board 4 = .ok (.ifCond .ne 6, 3) := by decide +kernel
theorem dX12_board_7 : decode cX12_board 7 = .ok (.bipush (-3), 2) := by decide +kernel
theorem dX12_board_9 : decode cX12_board 9 = .ok (.ireturn, 1) := by decide +kernel
theorem dX12_board_10 : decode cX12_board 10 = .ok (.iload_n 1, 1) := by decide +kernel
theorem dX12_board_11 : decode cX12_board 11 = .ok (.iload_n 2, 1) := by decide +kernel
theorem dX12_board_12 : decode cX12_board 12 = .ok (.invokestatic 278, 3) := by decide +kernel
theorem dX12_board_15 : decode cX12_board 15 = .ok (.ifCond .eq 15, 3) := by decide +kernel
theorem dX12_board_18 : decode cX12_board 18 = .ok (.iload_n 3, 1) := by decide +kernel
theorem dX12_board_19 : decode cX12_board 19 = .ok (.i2l, 1) := by decide +kernel
theorem dX12_board_20 : decode cX12_board 20 = .ok (.lconst 0, 1) := by decide +kernel
theorem dX12_board_21 : decode cX12_board 21 = .ok (.ldc2_w 133, 3) := by decide +kernel
theorem dX12_board_24 : decode cX12_board 24 = .ok (.invokestatic 135, 3) := by decide +kernel
theorem dX12_board_27 : decode cX12_board 27 = .ok (.ifCond .ne 6, 3) := by decide +kernel
theorem dX12_board_30 : decode cX12_board 30 = .ok (.bipush (-2), 2) := by decide +kernel
theorem dX12_board_32 : decode cX12_board 32 = .ok (.ireturn, 1) := by decide +kernel
theorem dX12_board_33 : decode cX12_board 33 = .ok (.aload_n 0, 1) := by decide +kernel
theorem dX12_board_34 : decode cX12_board 34 = .ok (.aload_n 0, 1) := by decide +kernel
theorem dX12_board_35 : decode cX12_board 35 = .ok (.getfield 95, 3) := by decide +kernel
theorem dX12_board_38 : decode cX12_board 38 = .ok (.invokevirtual 281, 3) := by decide +kernel
theorem dX12_board_41 : decode cX12_board 41 = .ok (.aload_n 0, 1) := by decide +kernel
theorem dX12_board_42 : decode cX12_board 42 = .ok (.iload_n 1, 1) := by decide +kernel
theorem dX12_board_43 : decode cX12_board 43 = .ok (.iload_n 2, 1) := by decide +kernel
theorem dX12_board_44 : decode cX12_board 44 = .ok (.invokevirtual 284, 3) := by decide +kernel
theorem dX12_board_47 : decode cX12_board 47 = .ok (.aload_n 0, 1) := by decide +kernel
theorem dX12_board_48 : decode cX12_board 48 = .ok (.getfield 258, 3) := by decide +kernel
theorem dX12_board_51 : decode cX12_board 51 = .ok (.ifCond .ne 5, 3) := by decide +kernel
theorem dX12_board_54 : decode cX12_board 54 = .ok (.iconst (-1), 1) := by decide +kernel
theorem dX12_board_55 : decode cX12_board 55 = .ok (.ireturn, 1) := by decide +kernel
theorem dX12_board_56 : decode cX12_board 56 = .ok (.iload_n 3, 1) := by decide +kernel
theorem dX12_board_57 : decode cX12_board 57 = .ok (.tableswitch 60 0 4 #[35, 40, 45, 50, 55], 35) := by decide +kernel
theorem dX12_board_92 : decode cX12_board 92 = .ok (.aload_n 0, 1) := by decide +kernel
theorem dX12_board_93 : decode cX12_board 93 = .ok (.getfield 248, 3) := by decide +kernel
theorem dX12_board_96 : decode cX12_board 96 = .ok (.ireturn, 1) := by decide +kernel
theorem dX12_board_97 : decode cX12_board 97 = .ok (.aload_n 0, 1) := by decide +kernel
theorem dX12_board_98 : decode cX12_board 98 = .ok (.getfield 251, 3) := by decide +kernel
theorem dX12_board_101 : decode cX12_board 101 = .ok (.ireturn, 1) := by decide +kernel
theorem dX12_board_102 : decode cX12_board 102 = .ok (.aload_n 0, 1) := by decide +kernel
theorem dX12_board_103 : decode cX12_board 103 = .ok (.getfield 242, 3) := by decide +kernel
theorem dX12_board_106 : decode cX12_board 106 = .ok (.ireturn, 1) := by decide +kernel
theorem dX12_board_107 : decode cX12_board 107 = .ok (.aload_n 0, 1) := by decide +kernel
theorem dX12_board_108 : decode cX12_board 108 = .ok (.getfield 245, 3) := by decide +kernel
theorem dX12_board_111 : decode cX12_board 111 = .ok (.ireturn, 1) := by decide +kernel
theorem dX12_board_112 : decode cX12_board 112 = .ok (.aload_n 0, 1) := by decide +kernel
theorem dX12_board_113 : decode cX12_board 113 = .ok (.getfield 268, 3) := by decide +kernel
theorem dX12_board_116 : decode cX12_board 116 = .ok (.ireturn, 1) := by decide +kernel
theorem dX12_board_117 : decode cX12_board 117 = .ok (.aload_n 0, 1) := by decide +kernel
theorem dX12_board_118 : decode cX12_board 118 = .ok (.getfield 31, 3) := by decide +kernel
theorem dX12_board_121 : decode cX12_board 121 = .ok (.iload_n 3, 1) := by decide +kernel
theorem dX12_board_122 : decode cX12_board 122 = .ok (.iconst 5, 1) := by decide +kernel
theorem dX12_board_123 : decode cX12_board 123 = .ok (.if_icmp .ne 7, 3) := by decide +kernel
theorem dX12_board_126 : decode cX12_board 126 = .ok (.iload_n 1, 1) := by decide +kernel
theorem dX12_board_127 : decode cX12_board 127 = .ok (.goto 8, 3) := by decide +kernel
theorem dX12_board_130 : decode cX12_board 130 = .ok (.iload_n 1, 1) := by decide +kernel
theorem dX12_board_131 : decode cX12_board 131 = .ok (.iload_n 2, 1) := by decide +kernel
theorem dX12_board_132 : decode cX12_board 132 = .ok (.iadd, 1) := by decide +kernel
theorem dX12_board_133 : decode cX12_board 133 = .ok (.iconst 1, 1) := by decide +kernel
theorem dX12_board_134 : decode cX12_board 134 = .ok (.isub, 1) := by decide +kernel
theorem dX12_board_135 : decode cX12_board 135 = .ok (.aload_n 0, 1) := by decide +kernel
theorem dX12_board_136 : decode cX12_board 136 = .ok (.getfield 248, 3) := by decide +kernel
theorem dX12_board_139 : decode cX12_board 139 = .ok (.aload_n 0, 1) := by decide +kernel
theorem dX12_board_140 : decode cX12_board 140 = .ok (.getfield 251, 3) := by decide +kernel
theorem dX12_board_143 : decode cX12_board 143 = .ok (.aload_n 0, 1) := by decide +kernel
theorem dX12_board_144 : decode cX12_board 144 = .ok (.getfield 242, 3) := by decide +kernel
theorem dX12_board_147 : decode cX12_board 147 = .ok (.aload_n 0, 1) := by decide +kernel
theorem dX12_board_148 : decode cX12_board 148 = .ok (.getfield 245, 3) := by decide +kernel
theorem dX12_board_151 : decode cX12_board 151 = .ok (.invokestatic 238, 3) := by decide +kernel
theorem dX12_board_154 : decode cX12_board 154 = .ok (.ireturn, 1) := by decide +kernel
theorem dX12_graded_0 : decode cX12_graded 0 = .ok (.aload_n 0, 1) := by decide +kernel
theorem dX12_graded_1 : decode cX12_graded 1 = .ok (.getfield 92, 3) := by decide +kernel
theorem dX12_graded_4 : decode cX12_graded 4 = .ok (.ifCond .ne 6, 3) := by decide +kernel
theorem dX12_graded_7 : decode cX12_graded 7 = .ok (.bipush (-3), 2) := by decide +kernel
theorem dX12_graded_9 : decode cX12_graded 9 = .ok (.ireturn, 1) := by decide +kernel
theorem dX12_graded_10 : decode cX12_graded 10 = .ok (.iload 5, 2) := by decide +kernel
theorem dX12_graded_12 : decode cX12_graded 12 = .ok (.bipush 8, 2) := by decide +kernel
theorem dX12_graded_14 : decode cX12_graded 14 = .ok (.idiv, 1) := by decide +kernel
theorem dX12_graded_15 : decode cX12_graded 15 = .ok (.istore 6, 2) := by decide +kernel
theorem dX12_graded_17 : decode cX12_graded 17 = .ok (.iload 5, 2) := by decide +kernel
theorem dX12_graded_19 : decode cX12_graded 19 = .ok (.bipush 8, 2) := by decide +kernel
theorem dX12_graded_21 : decode cX12_graded 21 = .ok (.irem, 1) := by decide +kernel
theorem dX12_graded_22 : decode cX12_graded 22 = .ok (.istore 7, 2) := by decide +kernel
theorem dX12_graded_24 : decode cX12_graded 24 = .ok (.iload_n 1, 1) := by decide +kernel
theorem dX12_graded_25 : decode cX12_graded 25 = .ok (.iload_n 2, 1) := by decide +kernel
theorem dX12_graded_26 : decode cX12_graded 26 = .ok (.invokestatic 278, 3) := by decide +kernel
theorem dX12_graded_29 : decode cX12_graded 29 = .ok (.ifCond .eq 61, 3) := by decide +kernel
theorem dX12_graded_32 : decode cX12_graded 32 = .ok (.iload_n 3, 1) := by decide +kernel
theorem dX12_graded_33 : decode cX12_graded 33 = .ok (.i2l, 1) := by decide +kernel
theorem dX12_graded_34 : decode cX12_graded 34 = .ok (.lconst 0, 1) := by decide +kernel
theorem dX12_graded_35 : decode cX12_graded 35 = .ok (.iload 4, 2) := by decide +kernel
theorem dX12_graded_37 : decode cX12_graded 37 = .ok (.i2l, 1) := by decide +kernel
theorem dX12_graded_38 : decode cX12_graded 38 = .ok (.invokestatic 135, 3) := by decide +kernel
theorem dX12_graded_41 : decode cX12_graded 41 = .ok (.ifCond .eq 49, 3) := by decide +kernel
theorem dX12_graded_44 : decode cX12_graded 44 = .ok (.iload 4, 2) := by decide +kernel
theorem dX12_graded_46 : decode cX12_graded 46 = .ok (.i2l, 1) := by decide +kernel
theorem dX12_graded_47 : decode cX12_graded 47 = .ok (.iload_n 3, 1) := by decide +kernel
theorem dX12_graded_48 : decode cX12_graded 48 = .ok (.i2l, 1) := by decide +kernel
theorem dX12_graded_49 : decode cX12_graded 49 = .ok (.ldc2_w 232, 3) := by decide +kernel
theorem dX12_graded_52 : decode cX12_graded 52 = .ok (.invokestatic 135, 3) := by decide +kernel
theorem dX12_graded_55 : decode cX12_graded 55 = .ok (.ifCond .eq 35, 3) := by decide +kernel
theorem dX12_graded_58 : decode cX12_graded 58 = .ok (.iload 5, 2) := by decide +kernel
theorem dX12_graded_60 : decode cX12_graded 60 = .ok (.i2l, 1) := by decide +kernel
theorem dX12_graded_61 : decode cX12_graded 61 = .ok (.lconst 0, 1) := by decide +kernel
theorem dX12_graded_62 : decode cX12_graded 62 = .ok (.ldc2_w 288, 3) := by decide +kernel
theorem dX12_graded_65 : decode cX12_graded 65 = .ok (.invokestatic 135, 3) := by decide +kernel
theorem dX12_graded_68 : decode cX12_graded 68 = .ok (.ifCond .eq 22, 3) := by decide +kernel
theorem dX12_graded_71 : decode cX12_graded 71 = .ok (.iload 7, 2) := by decide +kernel
theorem dX12_graded_73 : decode cX12_graded 73 = .ok (.i2l, 1) := by decide +kernel
theorem dX12_graded_74 : decode cX12_graded 74 = .ok (.iload 6, 2) := by decide +kernel
theorem dX12_graded_76 : decode cX12_graded 76 = .ok (.i2l, 1) := by decide +kernel
theorem dX12_graded_77 : decode cX12_graded 77 = .ok (.aload_n 0, 1) := by decide +kernel
theorem dX12_graded_78 : decode cX12_graded 78 = .ok (.getfield 92, 3) := by decide +kernel
theorem dX12_graded_81 : decode cX12_graded 81 = .ok (.iconst 1, 1) := by decide +kernel
theorem dX12_graded_82 : decode cX12_graded 82 = .ok (.isub, 1) := by decide +kernel
theorem dX12_graded_83 : decode cX12_graded 83 = .ok (.i2l, 1) := by decide +kernel
theorem dX12_graded_84 : decode cX12_graded 84 = .ok (.invokestatic 135, 3) := by decide +kernel
theorem dX12_graded_87 : decode cX12_graded 87 = .ok (.ifCond .ne 6, 3) := by decide +kernel
theorem dX12_graded_90 : decode cX12_graded 90 = .ok (.bipush (-2), 2) := by decide +kernel
theorem dX12_graded_92 : decode cX12_graded 92 = .ok (.ireturn, 1) := by decide +kernel
theorem dX12_graded_93 : decode cX12_graded 93 = .ok (.aload_n 0, 1) := by decide +kernel
theorem dX12_graded_94 : decode cX12_graded 94 = .ok (.iload_n 1, 1) := by decide +kernel
theorem dX12_graded_95 : decode cX12_graded 95 = .ok (.iload_n 2, 1) := by decide +kernel
theorem dX12_graded_96 : decode cX12_graded 96 = .ok (.iload 7, 2) := by decide +kernel
theorem dX12_graded_98 : decode cX12_graded 98 = .ok (.invokevirtual 271, 3) := by decide +kernel
theorem dX12_graded_101 : decode cX12_graded 101 = .ok (.istore 8, 2) := by decide +kernel
theorem dX12_graded_103 : decode cX12_graded 103 = .ok (.iload_n 3, 1) := by decide +kernel
theorem dX12_graded_104 : decode cX12_graded 104 = .ok (.iload 8, 2) := by decide +kernel
theorem dX12_graded_106 : decode cX12_graded 106 = .ok (.if_icmp .lt 13, 3) := by decide +kernel
theorem dX12_graded_109 : decode cX12_graded 109 = .ok (.iload 4, 2) := by decide +kernel
theorem dX12_graded_111 : decode cX12_graded 111 = .ok (.bipush 11, 2) := by decide +kernel
theorem dX12_graded_113 : decode cX12_graded 113 = .ok (.iload 8, 2) := by decide +kernel
theorem dX12_graded_115 : decode cX12_graded 115 = .ok (.isub, 1) := by decide +kernel
theorem dX12_graded_116 : decode cX12_graded 116 = .ok (.if_icmp .le 5, 3) := by decide +kernel
theorem dX12_graded_119 : decode cX12_graded 119 = .ok (.iconst (-1), 1) := by decide +kernel
theorem dX12_graded_120 : decode cX12_graded 120 = .ok (.ireturn, 1) := by decide +kernel
theorem dX12_graded_121 : decode cX12_graded 121 = .ok (.aload_n 0, 1) := by decide +kernel
theorem dX12_graded_122 : decode cX12_graded 122 = .ok (.aload_n 0, 1) := by decide +kernel
theorem dX12_graded_123 : decode cX12_graded 123 = .ok (.getfield 95, 3) := by decide +kernel
theorem dX12_graded_126 : decode cX12_graded 126 = .ok (.invokevirtual 281, 3) := by decide +kernel
theorem dX12_graded_129 : decode cX12_graded 129 = .ok (.aload_n 0, 1) := by decide +kernel
theorem dX12_graded_130 : decode cX12_graded 130 = .ok (.iload_n 1, 1) := by decide +kernel
theorem dX12_graded_131 : decode cX12_graded 131 = .ok (.iload_n 2, 1) := by decide +kernel
theorem dX12_graded_132 : decode cX12_graded 132 = .ok (.iload_n 3, 1) := by decide +kernel
theorem dX12_graded_133 : decode cX12_graded 133 = .ok (.iload 4, 2) := by decide +kernel
theorem dX12_graded_135 : decode cX12_graded 135 = .ok (.iload 6, 2) := by decide +kernel
theorem dX12_graded_137 : decode cX12_graded 137 = .ok (.iload 7, 2) := by decide +kernel
theorem dX12_graded_139 : decode cX12_graded 139 = .ok (.invokevirtual 254, 3) := by decide +kernel
theorem dX12_graded_142 : decode cX12_graded 142 = .ok (.ireturn, 1) := by decide +kernel
theorem dX12_worth_0 : decode cX12_worth 0 = .ok (.aload_n 0, 1) := by decide +kernel
theorem dX12_worth_1 : decode cX12_worth 1 = .ok (.getfield 92, 3) := by decide +kernel
theorem dX12_worth_4 : decode cX12_worth 4 = .ok (.ifCond .eq 11, 3) := by decide +kernel
theorem dX12_worth_7 : decode cX12_worth 7 = .ok (.iload_n 1, 1) := by decide +kernel
theorem dX12_worth_8 : decode cX12_worth 8 = .ok (.iload_n 2, 1) := by decide +kernel
theorem dX12_worth_9 : decode cX12_worth 9 = .ok (.invokestatic 278, 3) := by decide +kernel
theorem dX12_worth_12 : decode cX12_worth 12 = .ok (.ifCond .ne 7, 3) := by decide +kernel
theorem dX12_worth_15 : decode cX12_worth 15 = .ok (.ldc2_w 290, 3) := by decide +kernel
theorem dX12_worth_18 : decode cX12_worth 18 = .ok (.lreturn, 1) := by decide +kernel
theorem dX12_worth_19 : decode cX12_worth 19 = .ok (.aload_n 0, 1) := by decide +kernel
theorem dX12_worth_20 : decode cX12_worth 20 = .ok (.aload_n 0, 1) := by decide +kernel
theorem dX12_worth_21 : decode cX12_worth 21 = .ok (.getfield 95, 3) := by decide +kernel
theorem dX12_worth_24 : decode cX12_worth 24 = .ok (.invokevirtual 281, 3) := by decide +kernel
theorem dX12_worth_27 : decode cX12_worth 27 = .ok (.aload_n 0, 1) := by decide +kernel
theorem dX12_worth_28 : decode cX12_worth 28 = .ok (.iload_n 1, 1) := by decide +kernel
theorem dX12_worth_29 : decode cX12_worth 29 = .ok (.iload_n 2, 1) := by decide +kernel
theorem dX12_worth_30 : decode cX12_worth 30 = .ok (.invokevirtual 284, 3) := by decide +kernel
theorem dX12_worth_33 : decode cX12_worth 33 = .ok (.aload_n 0, 1) := by decide +kernel
theorem dX12_worth_34 : decode cX12_worth 34 = .ok (.getfield 258, 3) := by decide +kernel
theorem dX12_worth_37 : decode cX12_worth 37 = .ok (.i2l, 1) := by decide +kernel
theorem dX12_worth_38 : decode cX12_worth 38 = .ok (.lreturn, 1) := by decide +kernel
theorem dX12_opens_0 : decode cX12_opens 0 = .ok (.aload_n 0, 1) := by decide +kernel
theorem dX12_opens_1 : decode cX12_opens 1 = .ok (.iload_n 1, 1) := by decide +kernel
theorem dX12_opens_2 : decode cX12_opens 2 = .ok (.invokevirtual 281, 3) := by decide +kernel
theorem dX12_opens_5 : decode cX12_opens 5 = .ok (.bipush 12, 2) := by decide +kernel
theorem dX12_opens_7 : decode cX12_opens 7 = .ok (.istore_n 2, 1) := by decide +kernel
theorem dX12_opens_8 : decode cX12_opens 8 = .ok (.iload_n 2, 1) := by decide +kernel
theorem dX12_opens_9 : decode cX12_opens 9 = .ok (.aload_n 0, 1) := by decide +kernel
theorem dX12_opens_10 : decode cX12_opens 10 = .ok (.getfield 37, 3) := by decide +kernel
theorem dX12_opens_13 : decode cX12_opens 13 = .ok (.arraylength, 1) := by decide +kernel
theorem dX12_opens_14 : decode cX12_opens 14 = .ok (.if_icmp .ge 16, 3) := by decide +kernel
theorem dX12_opens_17 : decode cX12_opens 17 = .ok (.aload_n 0, 1) := by decide +kernel
theorem dX12_opens_18 : decode cX12_opens 18 = .ok (.getfield 37, 3) := by decide +kernel
theorem dX12_opens_21 : decode cX12_opens 21 = .ok (.iload_n 2, 1) := by decide +kernel
theorem dX12_opens_22 : decode cX12_opens 22 = .ok (.iconst 0, 1) := by decide +kernel
theorem dX12_opens_23 : decode cX12_opens 23 = .ok (.iastore, 1) := by decide +kernel
theorem dX12_opens_24 : decode cX12_opens 24 = .ok (.iinc 2 1, 3) := by decide +kernel
theorem dX12_opens_27 : decode cX12_opens 27 = .ok (.goto (-19), 3) := by decide +kernel
theorem dX12_opens_30 : decode cX12_opens 30 = .ok (.bipush 11, 2) := by decide +kernel
theorem dX12_opens_32 : decode cX12_opens 32 = .ok (.istore_n 2, 1) := by decide +kernel
theorem dX12_opens_33 : decode cX12_opens 33 = .ok (.iload_n 2, 1) := by decide +kernel
theorem dX12_opens_34 : decode cX12_opens 34 = .ok (.ifCond .lt 127, 3) := by decide +kernel
theorem dX12_opens_37 : decode cX12_opens 37 = .ok (.aload_n 0, 1) := by decide +kernel
theorem dX12_opens_38 : decode cX12_opens 38 = .ok (.getfield 37, 3) := by decide +kernel
theorem dX12_opens_41 : decode cX12_opens 41 = .ok (.iload_n 2, 1) := by decide +kernel
theorem dX12_opens_42 : decode cX12_opens 42 = .ok (.aload_n 0, 1) := by decide +kernel
theorem dX12_opens_43 : decode cX12_opens 43 = .ok (.getfield 37, 3) := by decide +kernel
theorem dX12_opens_46 : decode cX12_opens 46 = .ok (.iload_n 2, 1) := by decide +kernel
theorem dX12_opens_47 : decode cX12_opens 47 = .ok (.iconst 1, 1) := by decide +kernel
theorem dX12_opens_48 : decode cX12_opens 48 = .ok (.iadd, 1) := by decide +kernel
theorem dX12_opens_49 : decode cX12_opens 49 = .ok (.iaload, 1) := by decide +kernel
theorem dX12_opens_50 : decode cX12_opens 50 = .ok (.iastore, 1) := by decide +kernel
theorem dX12_opens_51 : decode cX12_opens 51 = .ok (.aload_n 0, 1) := by decide +kernel
theorem dX12_opens_52 : decode cX12_opens 52 = .ok (.getfield 40, 3) := by decide +kernel
theorem dX12_opens_55 : decode cX12_opens 55 = .ok (.iload_n 2, 1) := by decide +kernel
theorem dX12_opens_56 : decode cX12_opens 56 = .ok (.iconst 0, 1) := by decide +kernel
theorem dX12_opens_57 : decode cX12_opens 57 = .ok (.iastore, 1) := by decide +kernel
theorem dX12_opens_58 : decode cX12_opens 58 = .ok (.iconst 1, 1) := by decide +kernel
theorem dX12_opens_59 : decode cX12_opens 59 = .ok (.istore_n 3, 1) := by decide +kernel
theorem dX12_opens_60 : decode cX12_opens 60 = .ok (.iload_n 3, 1) := by decide +kernel
theorem dX12_opens_61 : decode cX12_opens 61 = .ok (.iconst 4, 1) := by decide +kernel
theorem dX12_opens_62 : decode cX12_opens 62 = .ok (.if_icmp .gt 93, 3) := by decide +kernel
theorem dX12_opens_65 : decode cX12_opens 65 = .ok (.iload_n 2, 1) := by decide +kernel
theorem dX12_opens_66 : decode cX12_opens 66 = .ok (.iload_n 3, 1) := by decide +kernel
theorem dX12_opens_67 : decode cX12_opens 67 = .ok (.iadd, 1) := by decide +kernel
theorem dX12_opens_68 : decode cX12_opens 68 = .ok (.bipush 12, 2) := by decide +kernel
theorem dX12_opens_70 : decode cX12_opens 70 = .ok (.if_icmp .gt 85, 3) := by decide +kernel
theorem dX12_opens_73 : decode cX12_opens 73 = .ok (.aload_n 0, 1) := by decide +kernel
theorem dX12_opens_74 : decode cX12_opens 74 = .ok (.getfield 13, 3) := by decide +kernel
theorem dX12_opens_77 : decode cX12_opens 77 = .ok (.bipush 6, 2) := by decide +kernel
theorem dX12_opens_79 : decode cX12_opens 79 = .ok (.iaload, 1) := by decide +kernel
theorem dX12_opens_80 : decode cX12_opens 80 = .ok (.iload_n 3, 1) := by decide +kernel
theorem dX12_opens_81 : decode cX12_opens 81 = .ok (.ishr, 1) := by decide +kernel
theorem dX12_opens_82 : decode cX12_opens 82 = .ok (.iconst 1, 1) := by decide +kernel
theorem dX12_opens_83 : decode cX12_opens 83 = .ok (.iand, 1) := by decide +kernel
theorem dX12_opens_84 : decode cX12_opens 84 = .ok (.iconst 1, 1) := by decide +kernel
theorem dX12_opens_85 : decode cX12_opens 85 = .ok (.if_icmp .ne 64, 3) := by decide +kernel
theorem dX12_opens_88 : decode cX12_opens 88 = .ok (.aload_n 0, 1) := by decide +kernel
theorem dX12_opens_89 : decode cX12_opens 89 = .ok (.iload_n 2, 1) := by decide +kernel
theorem dX12_opens_90 : decode cX12_opens 90 = .ok (.iload_n 3, 1) := by decide +kernel
theorem dX12_opens_91 : decode cX12_opens 91 = .ok (.invokevirtual 284, 3) := by decide +kernel
theorem dX12_opens_94 : decode cX12_opens 94 = .ok (.aload_n 0, 1) := by decide +kernel
theorem dX12_opens_95 : decode cX12_opens 95 = .ok (.getfield 258, 3) := by decide +kernel
theorem dX12_opens_98 : decode cX12_opens 98 = .ok (.aload_n 0, 1) := by decide +kernel
theorem dX12_opens_99 : decode cX12_opens 99 = .ok (.getfield 37, 3) := by decide +kernel
theorem dX12_opens_102 : decode cX12_opens 102 = .ok (.iload_n 2, 1) := by decide +kernel
theorem dX12_opens_103 : decode cX12_opens 103 = .ok (.iload_n 3, 1) := by decide +kernel
theorem dX12_opens_104 : decode cX12_opens 104 = .ok (.iadd, 1) := by decide +kernel
theorem dX12_opens_105 : decode cX12_opens 105 = .ok (.aload_n 0, 1) := by decide +kernel
theorem dX12_opens_106 : decode cX12_opens 106 = .ok (.getfield 13, 3) := by decide +kernel
theorem dX12_opens_109 : decode cX12_opens 109 = .ok (.iconst 0, 1) := by decide +kernel
theorem dX12_opens_110 : decode cX12_opens 110 = .ok (.iaload, 1) := by decide +kernel
theorem dX12_opens_111 : decode cX12_opens 111 = .ok (.iadd, 1) := by decide +kernel
theorem dX12_opens_112 : decode cX12_opens 112 = .ok (.iaload, 1) := by decide +kernel
theorem dX12_opens_113 : decode cX12_opens 113 = .ok (.iadd, 1) := by decide +kernel
theorem dX12_opens_114 : decode cX12_opens 114 = .ok (.istore 4, 2) := by decide +kernel
theorem dX12_opens_116 : decode cX12_opens 116 = .ok (.aload_n 0, 1) := by decide +kernel
theorem dX12_opens_117 : decode cX12_opens 117 = .ok (.getfield 258, 3) := by decide +kernel
theorem dX12_opens_120 : decode cX12_opens 120 = .ok (.ifCond .le 29, 3) := by decide +kernel
theorem dX12_opens_123 : decode cX12_opens 123 = .ok (.iload 4, 2) := by decide +kernel
theorem dX12_opens_125 : decode cX12_opens 125 = .ok (.aload_n 0, 1) := by decide +kernel
theorem dX12_opens_126 : decode cX12_opens 126 = .ok (.getfield 37, 3) := by decide +kernel
theorem dX12_opens_129 : decode cX12_opens 129 = .ok (.iload_n 2, 1) := by decide +kernel
theorem dX12_opens_130 : decode cX12_opens 130 = .ok (.iaload, 1) := by decide +kernel
theorem dX12_opens_131 : decode cX12_opens 131 = .ok (.if_icmp .lt 18, 3) := by decide +kernel
theorem dX12_opens_134 : decode cX12_opens 134 = .ok (.aload_n 0, 1) := by decide +kernel
theorem dX12_opens_135 : decode cX12_opens 135 = .ok (.getfield 37, 3) := by decide +kernel
theorem dX12_opens_138 : decode cX12_opens 138 = .ok (.iload_n 2, 1) := by decide +kernel
theorem dX12_opens_139 : decode cX12_opens 139 = .ok (.iload 4, 2) := by decide +kernel
theorem dX12_opens_141 : decode cX12_opens 141 = .ok (.iastore, 1) := by decide +kernel
theorem dX12_opens_142 : decode cX12_opens 142 = .ok (.aload_n 0, 1) := by decide +kernel
theorem dX12_opens_143 : decode cX12_opens 143 = .ok (.getfield 40, 3) := by decide +kernel
theorem dX12_opens_146 : decode cX12_opens 146 = .ok (.iload_n 2, 1) := by decide +kernel
theorem dX12_opens_147 : decode cX12_opens 147 = .ok (.iload_n 3, 1) := by decide +kernel
theorem dX12_opens_148 : decode cX12_opens 148 = .ok (.iastore, 1) := by decide +kernel
theorem dX12_opens_149 : decode cX12_opens 149 = .ok (.iinc 3 1, 3) := by decide +kernel
theorem dX12_opens_152 : decode cX12_opens 152 = .ok (.goto (-92), 3) := by decide +kernel
theorem dX12_opens_155 : decode cX12_opens 155 = .ok (.iinc 2 (-1), 3) := by decide +kernel
theorem dX12_opens_158 : decode cX12_opens 158 = .ok (.goto (-125), 3) := by decide +kernel
theorem dX12_opens_161 : decode cX12_opens 161 = .ok (.aload_n 0, 1) := by decide +kernel
theorem dX12_opens_162 : decode cX12_opens 162 = .ok (.getfield 37, 3) := by decide +kernel
theorem dX12_opens_165 : decode cX12_opens 165 = .ok (.iconst 0, 1) := by decide +kernel
theorem dX12_opens_166 : decode cX12_opens 166 = .ok (.iaload, 1) := by decide +kernel
theorem dX12_opens_167 : decode cX12_opens 167 = .ok (.ireturn, 1) := by decide +kernel
theorem dX12_lists_0 : decode cX12_lists 0 = .ok (.aload_n 0, 1) := by decide +kernel
theorem dX12_lists_1 : decode cX12_lists 1 = .ok (.iload_n 1, 1) := by decide +kernel
theorem dX12_lists_2 : decode cX12_lists 2 = .ok (.invokevirtual 292, 3) := by decide +kernel
theorem dX12_lists_5 : decode cX12_lists 5 = .ok (.pop, 1) := by decide +kernel
theorem dX12_lists_6 : decode cX12_lists 6 = .ok (.aload_n 0, 1) := by decide +kernel
theorem dX12_lists_7 : decode cX12_lists 7 = .ok (.iconst 0, 1) := by decide +kernel
theorem dX12_lists_8 : decode cX12_lists 8 = .ok (.putfield 295, 3) := by decide +kernel
theorem dX12_lists_11 : decode cX12_lists 11 = .ok (.iconst 0, 1) := by decide +kernel
theorem dX12_lists_12 : decode cX12_lists 12 = .ok (.istore_n 2, 1) := by decide +kernel
theorem dX12_lists_13 : decode cX12_lists 13 = .ok (.iload_n 2, 1) := by decide +kernel
theorem dX12_lists_14 : decode cX12_lists 14 = .ok (.bipush 12, 2) := by decide +kernel
theorem dX12_lists_16 : decode cX12_lists 16 = .ok (.if_icmp .ge 81, 3) := by decide +kernel
theorem dX12_lists_19 : decode cX12_lists 19 = .ok (.aload_n 0, 1) := by decide +kernel
theorem dX12_lists_20 : decode cX12_lists 20 = .ok (.getfield 40, 3) := by decide +kernel
theorem dX12_lists_23 : decode cX12_lists 23 = .ok (.iload_n 2, 1) := by decide +kernel
theorem dX12_lists_24 : decode cX12_lists 24 = .ok (.iaload, 1) := by decide +kernel
theorem dX12_lists_25 : decode cX12_lists 25 = .ok (.ifCond .le 66, 3) := by decide +kernel
theorem dX12_lists_28 : decode cX12_lists 28 = .ok (.aload_n 0, 1) := by decide +kernel
theorem dX12_lists_29 : decode cX12_lists 29 = .ok (.iload_n 2, 1) := by decide +kernel
theorem dX12_lists_30 : decode cX12_lists 30 = .ok (.aload_n 0, 1) := by decide +kernel
theorem dX12_lists_31 : decode cX12_lists 31 = .ok (.getfield 40, 3) := by decide +kernel
theorem dX12_lists_34 : decode cX12_lists 34 = .ok (.iload_n 2, 1) := by decide +kernel
theorem dX12_lists_35 : decode cX12_lists 35 = .ok (.iaload, 1) := by decide +kernel
theorem dX12_lists_36 : decode cX12_lists 36 = .ok (.invokevirtual 284, 3) := by decide +kernel
theorem dX12_lists_39 : decode cX12_lists 39 = .ok (.aload_n 0, 1) := by decide +kernel
theorem dX12_lists_40 : decode cX12_lists 40 = .ok (.getfield 43, 3) := by decide +kernel
theorem dX12_lists_43 : decode cX12_lists 43 = .ok (.aload_n 0, 1) := by decide +kernel
theorem dX12_lists_44 : decode cX12_lists 44 = .ok (.getfield 295, 3) := by decide +kernel
theorem dX12_lists_47 : decode cX12_lists 47 = .ok (.iload_n 2, 1) := by decide +kernel
theorem dX12_lists_48 : decode cX12_lists 48 = .ok (.iastore, 1) := by decide +kernel
theorem dX12_lists_49 : decode cX12_lists 49 = .ok (.aload_n 0, 1) := by decide +kernel
theorem dX12_lists_50 : decode cX12_lists 50 = .ok (.getfield 46, 3) := by decide +kernel
theorem dX12_lists_53 : decode cX12_lists 53 = .ok (.aload_n 0, 1) := by decide +kernel
theorem dX12_lists_54 : decode cX12_lists 54 = .ok (.getfield 295, 3) := by decide +kernel
theorem dX12_lists_57 : decode cX12_lists 57 = .ok (.aload_n 0, 1) := by decide +kernel
theorem dX12_lists_58 : decode cX12_lists 58 = .ok (.getfield 268, 3) := by decide +kernel
theorem dX12_lists_61 : decode cX12_lists 61 = .ok (.iastore, 1) := by decide +kernel
theorem dX12_lists_62 : decode cX12_lists 62 = .ok (.aload_n 0, 1) := by decide +kernel
theorem dX12_lists_63 : decode cX12_lists 63 = .ok (.dup, 1) := by decide +kernel
theorem dX12_lists_64 : decode cX12_lists 64 = .ok (.getfield 295, 3) := by decide +kernel
theorem dX12_lists_67 : decode cX12_lists 67 = .ok (.iconst 1, 1) := by decide +kernel
theorem dX12_lists_68 : decode cX12_lists 68 = .ok (.iadd, 1) := by decide +kernel
theorem dX12_lists_69 : decode cX12_lists 69 = .ok (.putfield 295, 3) := by decide +kernel
theorem dX12_lists_72 : decode cX12_lists 72 = .ok (.iload_n 2, 1) := by decide +kernel
theorem dX12_lists_73 : decode cX12_lists 73 = .ok (.aload_n 0, 1) := by decide +kernel
theorem dX12_lists_74 : decode cX12_lists 74 = .ok (.getfield 40, 3) := by decide +kernel
theorem dX12_lists_77 : decode cX12_lists 77 = .ok (.iload_n 2, 1) := by decide +kernel
theorem dX12_lists_78 : decode cX12_lists 78 = .ok (.iaload, 1) := by decide +kernel
theorem dX12_lists_79 : decode cX12_lists 79 = .ok (.aload_n 0, 1) := by decide +kernel
theorem dX12_lists_80 : decode cX12_lists 80 = .ok (.getfield 13, 3) := by decide +kernel
theorem dX12_lists_83 : decode cX12_lists 83 = .ok (.iconst 0, 1) := by decide +kernel
theorem dX12_lists_84 : decode cX12_lists 84 = .ok (.iaload, 1) := by decide +kernel
theorem dX12_lists_85 : decode cX12_lists 85 = .ok (.iadd, 1) := by decide +kernel
theorem dX12_lists_86 : decode cX12_lists 86 = .ok (.iadd, 1) := by decide +kernel
theorem dX12_lists_87 : decode cX12_lists 87 = .ok (.istore_n 2, 1) := by decide +kernel
theorem dX12_lists_88 : decode cX12_lists 88 = .ok (.goto (-75), 3) := by decide +kernel
theorem dX12_lists_91 : decode cX12_lists 91 = .ok (.iinc 2 1, 3) := by decide +kernel
theorem dX12_lists_94 : decode cX12_lists 94 = .ok (.goto (-81), 3) := by decide +kernel
theorem dX12_lists_97 : decode cX12_lists 97 = .ok (.return_, 1) := by decide +kernel
theorem dX12_opening_0 : decode cX12_opening 0 = .ok (.aload_n 0, 1) := by decide +kernel
theorem dX12_opening_1 : decode cX12_opening 1 = .ok (.getfield 92, 3) := by decide +kernel
theorem dX12_opening_4 : decode cX12_opening 4 = .ok (.ifCond .ne 6, 3) := by decide +kernel
theorem dX12_opening_7 : decode cX12_opening 7 = .ok (.bipush (-3), 2) := by decide +kernel
theorem dX12_opening_9 : decode cX12_opening 9 = .ok (.ireturn, 1) := by decide +kernel
theorem dX12_opening_10 : decode cX12_opening 10 = .ok (.iload_n 2, 1) := by decide +kernel
theorem dX12_opening_11 : decode cX12_opening 11 = .ok (.i2l, 1) := by decide +kernel
theorem dX12_opening_12 : decode cX12_opening 12 = .ok (.lconst 0, 1) := by decide +kernel
theorem dX12_opening_13 : decode cX12_opening 13 = .ok (.ldc2_w 131, 3) := by decide +kernel
theorem dX12_opening_16 : decode cX12_opening 16 = .ok (.invokestatic 135, 3) := by decide +kernel
theorem dX12_opening_19 : decode cX12_opening 19 = .ok (.ifCond .ne 6, 3) := by decide +kernel
theorem dX12_opening_22 : decode cX12_opening 22 = .ok (.bipush (-2), 2) := by decide +kernel
theorem dX12_opening_24 : decode cX12_opening 24 = .ok (.ireturn, 1) := by decide +kernel
theorem dX12_opening_25 : decode cX12_opening 25 = .ok (.aload_n 0, 1) := by decide +kernel
theorem dX12_opening_26 : decode cX12_opening 26 = .ok (.aload_n 0, 1) := by decide +kernel
theorem dX12_opening_27 : decode cX12_opening 27 = .ok (.getfield 95, 3) := by decide +kernel
theorem dX12_opening_30 : decode cX12_opening 30 = .ok (.invokevirtual 298, 3) := by decide +kernel
theorem dX12_opening_33 : decode cX12_opening 33 = .ok (.iload_n 1, 1) := by decide +kernel
theorem dX12_opening_34 : decode cX12_opening 34 = .ok (.iconst (-1), 1) := by decide +kernel
theorem dX12_opening_35 : decode cX12_opening 35 = .ok (.if_icmp .ne 8, 3) := by decide +kernel
theorem dX12_opening_38 : decode cX12_opening 38 = .ok (.aload_n 0, 1) := by decide +kernel
theorem dX12_opening_39 : decode cX12_opening 39 = .ok (.getfield 295, 3) := by decide +kernel
theorem dX12_opening_42 : decode cX12_opening 42 = .ok (.ireturn, 1) := by decide +kernel
theorem dX12_opening_43 : decode cX12_opening 43 = .ok (.iload_n 1, 1) := by decide +kernel
theorem dX12_opening_44 : decode cX12_opening 44 = .ok (.i2l, 1) := by decide +kernel
theorem dX12_opening_45 : decode cX12_opening 45 = .ok (.lconst 0, 1) := by decide +kernel
theorem dX12_opening_46 : decode cX12_opening 46 = .ok (.aload_n 0, 1) := by decide +kernel
theorem dX12_opening_47 : decode cX12_opening 47 = .ok (.getfield 295, 3) := by decide +kernel
theorem dX12_opening_50 : decode cX12_opening 50 = .ok (.iconst 1, 1) := by decide +kernel
theorem dX12_opening_51 : decode cX12_opening 51 = .ok (.isub, 1) := by decide +kernel
theorem dX12_opening_52 : decode cX12_opening 52 = .ok (.i2l, 1) := by decide +kernel
theorem dX12_opening_53 : decode cX12_opening 53 = .ok (.invokestatic 135, 3) := by decide +kernel
theorem dX12_opening_56 : decode cX12_opening 56 = .ok (.ifCond .ne 6, 3) := by decide +kernel
theorem dX12_opening_59 : decode cX12_opening 59 = .ok (.bipush (-12), 2) := by decide +kernel
theorem dX12_opening_61 : decode cX12_opening 61 = .ok (.ireturn, 1) := by decide +kernel
theorem dX12_opening_62 : decode cX12_opening 62 = .ok (.iload_n 2, 1) := by decide +kernel
theorem dX12_opening_63 : decode cX12_opening 63 = .ok (.ifCond .ne 12, 3) := by decide +kernel
theorem dX12_opening_66 : decode cX12_opening 66 = .ok (.aload_n 0, 1) := by decide +kernel
theorem dX12_opening_67 : decode cX12_opening 67 = .ok (.getfield 43, 3) := by decide +kernel
theorem dX12_opening_70 : decode cX12_opening 70 = .ok (.iload_n 1, 1) := by decide +kernel
theorem dX12_opening_71 : decode cX12_opening 71 = .ok (.iaload, 1) := by decide +kernel
theorem dX12_opening_72 : decode cX12_opening 72 = .ok (.goto 28, 3) := by decide +kernel
theorem dX12_opening_75 : decode cX12_opening 75 = .ok (.iload_n 2, 1) := by decide +kernel
theorem dX12_opening_76 : decode cX12_opening 76 = .ok (.iconst 1, 1) := by decide +kernel
theorem dX12_opening_77 : decode cX12_opening 77 = .ok (.if_icmp .ne 17, 3) := by decide +kernel
theorem dX12_opening_80 : decode cX12_opening 80 = .ok (.aload_n 0, 1) := by decide +kernel
theorem dX12_opening_81 : decode cX12_opening 81 = .ok (.getfield 40, 3) := by decide +kernel
theorem dX12_opening_84 : decode cX12_opening 84 = .ok (.aload_n 0, 1) := by decide +kernel
theorem dX12_opening_85 : decode cX12_opening 85 = .ok (.getfield 43, 3) := by decide +kernel
theorem dX12_opening_88 : decode cX12_opening 88 = .ok (.iload_n 1, 1) := by decide +kernel
theorem dX12_opening_89 : decode cX12_opening 89 = .ok (.iaload, 1) := by decide +kernel
theorem dX12_opening_90 : decode cX12_opening 90 = .ok (.iaload, 1) := by decide +kernel
theorem dX12_opening_91 : decode cX12_opening 91 = .ok (.goto 9, 3) := by decide +kernel
theorem dX12_opening_94 : decode cX12_opening 94 = .ok (.aload_n 0, 1) := by decide +kernel
theorem dX12_opening_95 : decode cX12_opening 95 = .ok (.getfield 46, 3) := by decide +kernel
theorem dX12_opening_98 : decode cX12_opening 98 = .ok (.iload_n 1, 1) := by decide +kernel
theorem dX12_opening_99 : decode cX12_opening 99 = .ok (.iaload, 1) := by decide +kernel
theorem dX12_opening_100 : decode cX12_opening 100 = .ok (.ireturn, 1) := by decide +kernel
theorem dX12_turnBest_0 : decode cX12_turnBest 0 = .ok (.iconst 0, 1) := by decide +kernel
theorem dX12_turnBest_1 : decode cX12_turnBest 1 = .ok (.istore_n 1, 1) := by decide +kernel
theorem dX12_turnBest_2 : decode cX12_turnBest 2 = .ok (.aload_n 0, 1) := by decide +kernel
theorem dX12_turnBest_3 : decode cX12_turnBest 3 = .ok (.iconst 0, 1) := by decide +kernel
theorem dX12_turnBest_4 : decode cX12_turnBest 4 = .ok (.invokevirtual 292, 3) := by decide +kernel
theorem dX12_turnBest_7 : decode cX12_turnBest 7 = .ok (.istore_n 2, 1) := by decide +kernel
theorem dX12_turnBest_8 : decode cX12_turnBest 8 = .ok (.iconst 1, 1) := by decide +kernel
theorem dX12_turnBest_9 : decode cX12_turnBest 9 = .ok (.istore_n 3, 1) := by decide +kernel
theorem dX12_turnBest_10 : decode cX12_turnBest 10 = .ok (.iload_n 3, 1) := by decide +kernel
theorem dX12_turnBest_11 : decode cX12_turnBest 11 = .ok (.iconst 4, 1) := by decide +kernel
theorem dX12_turnBest_12 : decode cX12_turnBest 12 = .ok (.if_icmp .ge 35, 3) := by decide +kernel
theorem dX12_turnBest_15 : decode cX12_turnBest 15 = .ok (.aload_n 0, 1) := by decide +kernel
theorem dX12_turnBest_16 : decode cX12_turnBest 16 = .ok (.iload_n 3, 1) := by decide +kernel
theorem dX12_turnBest_17 : decode cX12_turnBest 17 = .ok (.invokevirtual 292, 3) := by decide +kernel
theorem dX12_turnBest_20 : decode cX12_turnBest 20 = .ok (.istore 4, 2) := by decide +kernel
theorem dX12_turnBest_22 : decode cX12_turnBest 22 = .ok (.iload 4, 2) := by decide +kernel
theorem dX12_turnBest_24 : decode cX12_turnBest 24 = .ok (.iload_n 2, 1) := by decide +kernel
theorem dX12_turnBest_25 : decode cX12_turnBest 25 = .ok (.if_icmp .le 7, 3) := by decide +kernel
theorem dX12_turnBest_28 : decode cX12_turnBest 28 = .ok (.iload_n 3, 1) := by decide +kernel
theorem dX12_turnBest_29 : decode cX12_turnBest 29 = .ok (.goto 4, 3) := by decide +kernel
theorem dX12_turnBest_32 : decode cX12_turnBest 32 = .ok (.iload_n 1, 1) := by decide +kernel
theorem dX12_turnBest_33 : decode cX12_turnBest 33 = .ok (.istore_n 1, 1) := by decide +kernel
theorem dX12_turnBest_34 : decode cX12_turnBest 34 = .ok (.iload_n 2, 1) := by decide +kernel
theorem dX12_turnBest_35 : decode cX12_turnBest 35 = .ok (.iload 4, 2) := by decide +kernel
theorem dX12_turnBest_37 : decode cX12_turnBest 37 = .ok (.invokestatic 118, 3) := by decide +kernel
theorem dX12_turnBest_40 : decode cX12_turnBest 40 = .ok (.istore_n 2, 1) := by decide +kernel
theorem dX12_turnBest_41 : decode cX12_turnBest 41 = .ok (.iinc 3 1, 3) := by decide +kernel
theorem dX12_turnBest_44 : decode cX12_turnBest 44 = .ok (.goto (-34), 3) := by decide +kernel
theorem dX12_turnBest_47 : decode cX12_turnBest 47 = .ok (.iload_n 1, 1) := by decide +kernel
theorem dX12_turnBest_48 : decode cX12_turnBest 48 = .ok (.ireturn, 1) := by decide +kernel
theorem dX12_best_0 : decode cX12_best 0 = .ok (.aload_n 0, 1) := by decide +kernel
theorem dX12_best_1 : decode cX12_best 1 = .ok (.getfield 92, 3) := by decide +kernel
theorem dX12_best_4 : decode cX12_best 4 = .ok (.ifCond .eq 17, 3) := by decide +kernel
theorem dX12_best_7 : decode cX12_best 7 = .ok (.iload_n 1, 1) := by decide +kernel
theorem dX12_best_8 : decode cX12_best 8 = .ok (.i2l, 1) := by decide +kernel
theorem dX12_best_9 : decode cX12_best 9 = .ok (.ldc2_w 301, 3) := by decide +kernel
theorem dX12_best_12 : decode cX12_best 12 = .ok (.ldc2_w 216, 3) := by decide +kernel
theorem dX12_best_15 : decode cX12_best 15 = .ok (.invokestatic 135, 3) := by decide +kernel
theorem dX12_best_18 : decode cX12_best 18 = .ok (.ifCond .ne 9, 3) := by decide +kernel
theorem dX12_best_21 : decode cX12_best 21 = .ok (.ldc2_w 290, 3) := by decide +kernel
theorem dX12_best_24 : decode cX12_best 24 = .ok (.goto 20, 3) := by decide +kernel
theorem dX12_best_27 : decode cX12_best 27 = .ok (.aload_n 0, 1) := by decide +kernel
theorem dX12_best_28 : decode cX12_best 28 = .ok (.iload_n 1, 1) := by decide +kernel
theorem dX12_best_29 : decode cX12_best 29 = .ok (.ifCond .ge 10, 3) := by decide +kernel
theorem dX12_best_32 : decode cX12_best 32 = .ok (.aload_n 0, 1) := by decide +kernel
theorem dX12_best_33 : decode cX12_best 33 = .ok (.invokevirtual 303, 3) := by decide +kernel
theorem dX12_best_36 : decode cX12_best 36 = .ok (.goto 4, 3) := by decide +kernel
theorem dX12_best_39 : decode cX12_best 39 = .ok (.iload_n 1, 1) := by decide +kernel
theorem dX12_best_40 : decode cX12_best 40 = .ok (.invokevirtual 292, 3) := by decide +kernel
theorem dX12_best_43 : decode cX12_best 43 = .ok (.i2l, 1) := by decide +kernel
theorem dX12_best_44 : decode cX12_best 44 = .ok (.lreturn, 1) := by decide +kernel
theorem dX12_bestTurn_0 : decode cX12_bestTurn 0 = .ok (.aload_n 0, 1) := by decide +kernel
theorem dX12_bestTurn_1 : decode cX12_bestTurn 1 = .ok (.getfield 92, 3) := by decide +kernel
theorem dX12_bestTurn_4 : decode cX12_bestTurn 4 = .ok (.ifCond .ne 8, 3) := by decide +kernel
theorem dX12_bestTurn_7 : decode cX12_bestTurn 7 = .ok (.bipush (-3), 2) := by decide +kernel
theorem dX12_bestTurn_9 : decode cX12_bestTurn 9 = .ok (.goto 7, 3) := by decide +kernel
theorem dX12_bestTurn_12 : decode cX12_bestTurn 12 = .ok (.aload_n 0, 1) := by decide +kernel
theorem dX12_bestTurn_13 : decode cX12_bestTurn 13 = .ok (.invokevirtual 303, 3) := by decide +kernel
theorem dX12_bestTurn_16 : decode cX12_bestTurn 16 = .ok (.ireturn, 1) := by decide +kernel
theorem dX12_saw_0 : decode cX12_saw 0 = .ok (.aload_n 0, 1) := by decide +kernel
theorem dX12_saw_1 : decode cX12_saw 1 = .ok (.getfield 92, 3) := by decide +kernel
theorem dX12_saw_4 : decode cX12_saw 4 = .ok (.ifCond .ne 6, 3) := by decide +kernel
theorem dX12_saw_7 : decode cX12_saw 7 = .ok (.bipush (-3), 2) := by decide +kernel
theorem dX12_saw_9 : decode cX12_saw 9 = .ok (.ireturn, 1) := by decide +kernel
theorem dX12_saw_10 : decode cX12_saw 10 = .ok (.aload_n 0, 1) := by decide +kernel
theorem dX12_saw_11 : decode cX12_saw 11 = .ok (.aload_n 0, 1) := by decide +kernel
theorem dX12_saw_12 : decode cX12_saw 12 = .ok (.getfield 95, 3) := by decide +kernel
theorem dX12_saw_15 : decode cX12_saw 15 = .ok (.invokevirtual 298, 3) := by decide +kernel
theorem dX12_saw_18 : decode cX12_saw 18 = .ok (.aload_n 0, 1) := by decide +kernel
theorem dX12_saw_19 : decode cX12_saw 19 = .ok (.getfield 101, 3) := by decide +kernel
theorem dX12_saw_22 : decode cX12_saw 22 = .ok (.aload_n 0, 1) := by decide +kernel
theorem dX12_saw_23 : decode cX12_saw 23 = .ok (.getfield 295, 3) := by decide +kernel
theorem dX12_saw_26 : decode cX12_saw 26 = .ok (.iadd, 1) := by decide +kernel
theorem dX12_saw_27 : decode cX12_saw 27 = .ok (.bipush 16, 2) := by decide +kernel
theorem dX12_saw_29 : decode cX12_saw 29 = .ok (.if_icmp .le 6, 3) := by decide +kernel
theorem dX12_saw_32 : decode cX12_saw 32 = .ok (.bipush (-4), 2) := by decide +kernel
theorem dX12_saw_34 : decode cX12_saw 34 = .ok (.ireturn, 1) := by decide +kernel
theorem dX12_saw_35 : decode cX12_saw 35 = .ok (.iconst 0, 1) := by decide +kernel
theorem dX12_saw_36 : decode cX12_saw 36 = .ok (.istore_n 1, 1) := by decide +kernel
theorem dX12_saw_37 : decode cX12_saw 37 = .ok (.iload_n 1, 1) := by decide +kernel
theorem dX12_saw_38 : decode cX12_saw 38 = .ok (.aload_n 0, 1) := by decide +kernel
theorem dX12_saw_39 : decode cX12_saw 39 = .ok (.getfield 295, 3) := by decide +kernel
theorem dX12_saw_42 : decode cX12_saw 42 = .ok (.if_icmp .ge 119, 3) := by decide +kernel
theorem dX12_saw_45 : decode cX12_saw 45 = .ok (.aload_n 0, 1) := by decide +kernel
theorem dX12_saw_46 : decode cX12_saw 46 = .ok (.getfield 40, 3) := by decide +kernel
theorem dX12_saw_49 : decode cX12_saw 49 = .ok (.aload_n 0, 1) := by decide +kernel
theorem dX12_saw_50 : decode cX12_saw 50 = .ok (.getfield 43, 3) := by decide +kernel
theorem dX12_saw_53 : decode cX12_saw 53 = .ok (.iload_n 1, 1) := by decide +kernel
theorem dX12_saw_54 : decode cX12_saw 54 = .ok (.iaload, 1) := by decide +kernel
theorem dX12_saw_55 : decode cX12_saw 55 = .ok (.iaload, 1) := by decide +kernel
theorem dX12_saw_56 : decode cX12_saw 56 = .ok (.istore_n 2, 1) := by decide +kernel
theorem dX12_saw_57 : decode cX12_saw 57 = .ok (.aload_n 0, 1) := by decide +kernel
theorem dX12_saw_58 : decode cX12_saw 58 = .ok (.aload_n 0, 1) := by decide +kernel
theorem dX12_saw_59 : decode cX12_saw 59 = .ok (.getfield 43, 3) := by decide +kernel
theorem dX12_saw_62 : decode cX12_saw 62 = .ok (.iload_n 1, 1) := by decide +kernel
theorem dX12_saw_63 : decode cX12_saw 63 = .ok (.iaload, 1) := by decide +kernel
theorem dX12_saw_64 : decode cX12_saw 64 = .ok (.iload_n 2, 1) := by decide +kernel
theorem dX12_saw_65 : decode cX12_saw 65 = .ok (.invokevirtual 284, 3) := by decide +kernel
theorem dX12_saw_68 : decode cX12_saw 68 = .ok (.aload_n 0, 1) := by decide +kernel
theorem dX12_saw_69 : decode cX12_saw 69 = .ok (.getfield 16, 3) := by decide +kernel
theorem dX12_saw_72 : decode cX12_saw 72 = .ok (.iconst 4, 1) := by decide +kernel
theorem dX12_saw_73 : decode cX12_saw 73 = .ok (.aload_n 0, 1) := by decide +kernel
theorem dX12_saw_74 : decode cX12_saw 74 = .ok (.getfield 101, 3) := by decide +kernel
theorem dX12_saw_77 : decode cX12_saw 77 = .ok (.imul, 1) := by decide +kernel
theorem dX12_saw_78 : decode cX12_saw 78 = .ok (.iload_n 2, 1) := by decide +kernel
theorem dX12_saw_79 : decode cX12_saw 79 = .ok (.iastore, 1) := by decide +kernel
theorem dX12_saw_80 : decode cX12_saw 80 = .ok (.aload_n 0, 1) := by decide +kernel
theorem dX12_saw_81 : decode cX12_saw 81 = .ok (.getfield 16, 3) := by decide +kernel
theorem dX12_saw_84 : decode cX12_saw 84 = .ok (.iconst 4, 1) := by decide +kernel
theorem dX12_saw_85 : decode cX12_saw 85 = .ok (.aload_n 0, 1) := by decide +kernel
theorem dX12_saw_86 : decode cX12_saw 86 = .ok (.getfield 101, 3) := by decide +kernel
theorem dX12_saw_89 : decode cX12_saw 89 = .ok (.imul, 1) := by decide +kernel
theorem dX12_saw_90 : decode cX12_saw 90 = .ok (.iconst 1, 1) := by decide +kernel
theorem dX12_saw_91 : decode cX12_saw 91 = .ok (.iadd, 1) := by decide +kernel
theorem dX12_saw_92 : decode cX12_saw 92 = .ok (.aload_n 0, 1) := by decide +kernel
theorem dX12_saw_93 : decode cX12_saw 93 = .ok (.getfield 251, 3) := by decide +kernel
theorem dX12_saw_96 : decode cX12_saw 96 = .ok (.aload_n 0, 1) := by decide +kernel
theorem dX12_saw_97 : decode cX12_saw 97 = .ok (.getfield 248, 3) := by decide +kernel
theorem dX12_saw_100 : decode cX12_saw 100 = .ok (.isub, 1) := by decide +kernel
theorem dX12_saw_101 : decode cX12_saw 101 = .ok (.iconst 1, 1) := by decide +kernel
theorem dX12_saw_102 : decode cX12_saw 102 = .ok (.iadd, 1) := by decide +kernel
theorem dX12_saw_103 : decode cX12_saw 103 = .ok (.iastore, 1) := by decide +kernel
theorem dX12_saw_104 : decode cX12_saw 104 = .ok (.aload_n 0, 1) := by decide +kernel
theorem dX12_saw_105 : decode cX12_saw 105 = .ok (.getfield 16, 3) := by decide +kernel
theorem dX12_saw_108 : decode cX12_saw 108 = .ok (.iconst 4, 1) := by decide +kernel
theorem dX12_saw_109 : decode cX12_saw 109 = .ok (.aload_n 0, 1) := by decide +kernel
theorem dX12_saw_110 : decode cX12_saw 110 = .ok (.getfield 101, 3) := by decide +kernel
theorem dX12_saw_113 : decode cX12_saw 113 = .ok (.imul, 1) := by decide +kernel
theorem dX12_saw_114 : decode cX12_saw 114 = .ok (.iconst 2, 1) := by decide +kernel
theorem dX12_saw_115 : decode cX12_saw 115 = .ok (.iadd, 1) := by decide +kernel
theorem dX12_saw_116 : decode cX12_saw 116 = .ok (.aload_n 0, 1) := by decide +kernel
theorem dX12_saw_117 : decode cX12_saw 117 = .ok (.getfield 245, 3) := by decide +kernel
theorem dX12_saw_120 : decode cX12_saw 120 = .ok (.aload_n 0, 1) := by decide +kernel
theorem dX12_saw_121 : decode cX12_saw 121 = .ok (.getfield 242, 3) := by decide +kernel
theorem dX12_saw_124 : decode cX12_saw 124 = .ok (.isub, 1) := by decide +kernel
theorem dX12_saw_125 : decode cX12_saw 125 = .ok (.iconst 1, 1) := by decide +kernel
theorem dX12_saw_126 : decode cX12_saw 126 = .ok (.iadd, 1) := by decide +kernel
theorem dX12_saw_127 : decode cX12_saw 127 = .ok (.iastore, 1) := by decide +kernel
theorem dX12_saw_128 : decode cX12_saw 128 = .ok (.aload_n 0, 1) := by decide +kernel
theorem dX12_saw_129 : decode cX12_saw 129 = .ok (.getfield 16, 3) := by decide +kernel
theorem dX12_saw_132 : decode cX12_saw 132 = .ok (.iconst 4, 1) := by decide +kernel
theorem dX12_saw_133 : decode cX12_saw 133 = .ok (.aload_n 0, 1) := by decide +kernel
theorem dX12_saw_134 : decode cX12_saw 134 = .ok (.getfield 101, 3) := by decide +kernel
theorem dX12_saw_137 : decode cX12_saw 137 = .ok (.imul, 1) := by decide +kernel
theorem dX12_saw_138 : decode cX12_saw 138 = .ok (.iconst 3, 1) := by decide +kernel
theorem dX12_saw_139 : decode cX12_saw 139 = .ok (.iadd, 1) := by decide +kernel
theorem dX12_saw_140 : decode cX12_saw 140 = .ok (.aload_n 0, 1) := by decide +kernel
theorem dX12_saw_141 : decode cX12_saw 141 = .ok (.getfield 268, 3) := by decide +kernel
theorem dX12_saw_144 : decode cX12_saw 144 = .ok (.iastore, 1) := by decide +kernel
theorem dX12_saw_145 : decode cX12_saw 145 = .ok (.aload_n 0, 1) := by decide +kernel
theorem dX12_saw_146 : decode cX12_saw 146 = .ok (.dup, 1) := by decide +kernel
theorem dX12_saw_147 : decode cX12_saw 147 = .ok (.getfield 101, 3) := by decide +kernel
theorem dX12_saw_150 : decode cX12_saw 150 = .ok (.iconst 1, 1) := by decide +kernel
theorem dX12_saw_151 : decode cX12_saw 151 = .ok (.iadd, 1) := by decide +kernel
theorem dX12_saw_152 : decode cX12_saw 152 = .ok (.putfield 101, 3) := by decide +kernel
theorem dX12_saw_155 : decode cX12_saw 155 = .ok (.iinc 1 1, 3) := by decide +kernel
theorem dX12_saw_158 : decode cX12_saw 158 = .ok (.goto (-121), 3) := by decide +kernel
theorem dX12_saw_161 : decode cX12_saw 161 = .ok (.aload_n 0, 1) := by decide +kernel
theorem dX12_saw_162 : decode cX12_saw 162 = .ok (.iconst 0, 1) := by decide +kernel
theorem dX12_saw_163 : decode cX12_saw 163 = .ok (.putfield 92, 3) := by decide +kernel
theorem dX12_saw_166 : decode cX12_saw 166 = .ok (.aload_n 0, 1) := by decide +kernel
theorem dX12_saw_167 : decode cX12_saw 167 = .ok (.iconst 0, 1) := by decide +kernel
theorem dX12_saw_168 : decode cX12_saw 168 = .ok (.putfield 98, 3) := by decide +kernel
theorem dX12_saw_171 : decode cX12_saw 171 = .ok (.aload_n 0, 1) := by decide +kernel
theorem dX12_saw_172 : decode cX12_saw 172 = .ok (.iconst 0, 1) := by decide +kernel
theorem dX12_saw_173 : decode cX12_saw 173 = .ok (.putfield 95, 3) := by decide +kernel
theorem dX12_saw_176 : decode cX12_saw 176 = .ok (.aload_n 0, 1) := by decide +kernel
theorem dX12_saw_177 : decode cX12_saw 177 = .ok (.getfield 295, 3) := by decide +kernel
theorem dX12_saw_180 : decode cX12_saw 180 = .ok (.ireturn, 1) := by decide +kernel
theorem dX12_stack_0 : decode cX12_stack 0 = .ok (.iload_n 2, 1) := by decide +kernel
theorem dX12_stack_1 : decode cX12_stack 1 = .ok (.i2l, 1) := by decide +kernel
theorem dX12_stack_2 : decode cX12_stack 2 = .ok (.lconst 0, 1) := by decide +kernel
theorem dX12_stack_3 : decode cX12_stack 3 = .ok (.ldc2_w 216, 3) := by decide +kernel
theorem dX12_stack_6 : decode cX12_stack 6 = .ok (.invokestatic 135, 3) := by decide +kernel
theorem dX12_stack_9 : decode cX12_stack 9 = .ok (.ifCond .ne 6, 3) := by decide +kernel
theorem dX12_stack_12 : decode cX12_stack 12 = .ok (.bipush (-2), 2) := by decide +kernel
theorem dX12_stack_14 : decode cX12_stack 14 = .ok (.ireturn, 1) := by decide +kernel
theorem dX12_stack_15 : decode cX12_stack 15 = .ok (.iload_n 1, 1) := by decide +kernel
theorem dX12_stack_16 : decode cX12_stack 16 = .ok (.iconst (-1), 1) := by decide +kernel
theorem dX12_stack_17 : decode cX12_stack 17 = .ok (.if_icmp .ne 8, 3) := by decide +kernel
theorem dX12_stack_20 : decode cX12_stack 20 = .ok (.aload_n 0, 1) := by decide +kernel
theorem dX12_stack_21 : decode cX12_stack 21 = .ok (.getfield 101, 3) := by decide +kernel
theorem dX12_stack_24 : decode cX12_stack 24 = .ok (.ireturn, 1) := by decide +kernel
theorem dX12_stack_25 : decode cX12_stack 25 = .ok (.iload_n 1, 1) := by decide +kernel
theorem dX12_stack_26 : decode cX12_stack 26 = .ok (.i2l, 1) := by decide +kernel
theorem dX12_stack_27 : decode cX12_stack 27 = .ok (.lconst 0, 1) := by decide +kernel
theorem dX12_stack_28 : decode cX12_stack 28 = .ok (.aload_n 0, 1) := by decide +kernel
theorem dX12_stack_29 : decode cX12_stack 29 = .ok (.getfield 101, 3) := by decide +kernel
theorem dX12_stack_32 : decode cX12_stack 32 = .ok (.iconst 1, 1) := by decide +kernel
theorem dX12_stack_33 : decode cX12_stack 33 = .ok (.isub, 1) := by decide +kernel
theorem dX12_stack_34 : decode cX12_stack 34 = .ok (.i2l, 1) := by decide +kernel
theorem dX12_stack_35 : decode cX12_stack 35 = .ok (.invokestatic 135, 3) := by decide +kernel
theorem dX12_stack_38 : decode cX12_stack 38 = .ok (.ifCond .eq 16, 3) := by decide +kernel
theorem dX12_stack_41 : decode cX12_stack 41 = .ok (.aload_n 0, 1) := by decide +kernel
theorem dX12_stack_42 : decode cX12_stack 42 = .ok (.getfield 16, 3) := by decide +kernel
theorem dX12_stack_45 : decode cX12_stack 45 = .ok (.iconst 4, 1) := by decide +kernel
theorem dX12_stack_46 : decode cX12_stack 46 = .ok (.iload_n 1, 1) := by decide +kernel
theorem dX12_stack_47 : decode cX12_stack 47 = .ok (.imul, 1) := by decide +kernel
theorem dX12_stack_48 : decode cX12_stack 48 = .ok (.iload_n 2, 1) := by decide +kernel
theorem dX12_stack_49 : decode cX12_stack 49 = .ok (.iadd, 1) := by decide +kernel
theorem dX12_stack_50 : decode cX12_stack 50 = .ok (.iaload, 1) := by decide +kernel
theorem dX12_stack_51 : decode cX12_stack 51 = .ok (.goto 5, 3) := by decide +kernel
theorem dX12_stack_54 : decode cX12_stack 54 = .ok (.bipush (-12), 2) := by decide +kernel
theorem dX12_stack_56 : decode cX12_stack 56 = .ok (.ireturn, 1) := by decide +kernel
theorem dX12_order_0 : decode cX12_order 0 = .ok (.iload_n 1, 1) := by decide +kernel
theorem dX12_order_1 : decode cX12_order 1 = .ok (.i2l, 1) := by decide +kernel
theorem dX12_order_2 : decode cX12_order 2 = .ok (.lconst 1, 1) := by decide +kernel
theorem dX12_order_3 : decode cX12_order 3 = .ok (.ldc2_w 139, 3) := by decide +kernel
theorem dX12_order_6 : decode cX12_order 6 = .ok (.invokestatic 135, 3) := by decide +kernel
theorem dX12_order_9 : decode cX12_order 9 = .ok (.ifCond .eq 40, 3) := by decide +kernel
theorem dX12_order_12 : decode cX12_order 12 = .ok (.iload_n 2, 1) := by decide +kernel
theorem dX12_order_13 : decode cX12_order 13 = .ok (.i2l, 1) := by decide +kernel
theorem dX12_order_14 : decode cX12_order 14 = .ok (.lconst 0, 1) := by decide +kernel
theorem dX12_order_15 : decode cX12_order 15 = .ok (.ldc2_w 216, 3) := by decide +kernel
theorem dX12_order_18 : decode cX12_order 18 = .ok (.invokestatic 135, 3) := by decide +kernel
theorem dX12_order_21 : decode cX12_order 21 = .ok (.ifCond .eq 28, 3) := by decide +kernel
theorem dX12_order_24 : decode cX12_order 24 = .ok (.iload_n 3, 1) := by decide +kernel
theorem dX12_order_25 : decode cX12_order 25 = .ok (.i2l, 1) := by decide +kernel
theorem dX12_order_26 : decode cX12_order 26 = .ok (.lconst 1, 1) := by decide +kernel
theorem dX12_order_27 : decode cX12_order 27 = .ok (.ldc2_w 306, 3) := by decide +kernel
theorem dX12_order_30 : decode cX12_order 30 = .ok (.invokestatic 135, 3) := by decide +kernel
theorem dX12_order_33 : decode cX12_order 33 = .ok (.ifCond .eq 16, 3) := by decide +kernel
theorem dX12_order_36 : decode cX12_order 36 = .ok (.iload 4, 2) := by decide +kernel
theorem dX12_order_38 : decode cX12_order 38 = .ok (.i2l, 1) := by decide +kernel
theorem dX12_order_39 : decode cX12_order 39 = .ok (.lconst 1, 1) := by decide +kernel
theorem dX12_order_40 : decode cX12_order 40 = .ok (.ldc2_w 141, 3) := by decide +kernel
theorem dX12_order_43 : decode cX12_order 43 = .ok (.invokestatic 135, 3) := by decide +kernel
theorem dX12_order_46 : decode cX12_order 46 = .ok (.ifCond .ne 6, 3) := by decide +kernel
theorem dX12_order_49 : decode cX12_order 49 = .ok (.bipush (-2), 2) := by decide +kernel
theorem dX12_order_51 : decode cX12_order 51 = .ok (.ireturn, 1) := by decide +kernel
theorem dX12_order_52 : decode cX12_order 52 = .ok (.aload_n 0, 1) := by decide +kernel
theorem dX12_order_53 : decode cX12_order 53 = .ok (.getfield 104, 3) := by decide +kernel
theorem dX12_order_56 : decode cX12_order 56 = .ok (.bipush 6, 2) := by decide +kernel
theorem dX12_order_58 : decode cX12_order 58 = .ok (.if_icmp .ne 6, 3) := by decide +kernel
theorem dX12_order_61 : decode cX12_order 61 = .ok (.bipush (-4), 2) := by decide +kernel
theorem dX12_order_63 : decode cX12_order 63 = .ok (.ireturn, 1) := by decide +kernel
theorem dX12_order_64 : decode cX12_order 64 = .ok (.aload_n 0, 1) := by decide +kernel
theorem dX12_order_65 : decode cX12_order 65 = .ok (.getfield 19, 3) := by decide +kernel
theorem dX12_order_68 : decode cX12_order 68 = .ok (.iconst 4, 1) := by decide +kernel
theorem dX12_order_69 : decode cX12_order 69 = .ok (.aload_n 0, 1) := by decide +kernel
theorem dX12_order_70 : decode cX12_order 70 = .ok (.getfield 104, 3) := by decide +kernel
theorem dX12_order_73 : decode cX12_order 73 = .ok (.imul, 1) := by decide +kernel
theorem dX12_order_74 : decode cX12_order 74 = .ok (.iload_n 1, 1) := by decide +kernel
theorem dX12_order_75 : decode cX12_order 75 = .ok (.iastore, 1) := by decide +kernel
theorem dX12_order_76 : decode cX12_order 76 = .ok (.aload_n 0, 1) := by decide +kernel
theorem dX12_order_77 : decode cX12_order 77 = .ok (.getfield 19, 3) := by decide +kernel
theorem dX12_order_80 : decode cX12_order 80 = .ok (.iconst 4, 1) := by decide +kernel
theorem dX12_order_81 : decode cX12_order 81 = .ok (.aload_n 0, 1) := by decide +kernel
theorem dX12_order_82 : decode cX12_order 82 = .ok (.getfield 104, 3) := by decide +kernel
theorem dX12_order_85 : decode cX12_order 85 = .ok (.imul, 1) := by decide +kernel
theorem dX12_order_86 : decode cX12_order 86 = .ok (.iconst 1, 1) := by decide +kernel
theorem dX12_order_87 : decode cX12_order 87 = .ok (.iadd, 1) := by decide +kernel
theorem dX12_order_88 : decode cX12_order 88 = .ok (.iload_n 2, 1) := by decide +kernel
theorem dX12_order_89 : decode cX12_order 89 = .ok (.iastore, 1) := by decide +kernel
theorem dX12_order_90 : decode cX12_order 90 = .ok (.aload_n 0, 1) := by decide +kernel
theorem dX12_order_91 : decode cX12_order 91 = .ok (.getfield 19, 3) := by decide +kernel
theorem dX12_order_94 : decode cX12_order 94 = .ok (.iconst 4, 1) := by decide +kernel
theorem dX12_order_95 : decode cX12_order 95 = .ok (.aload_n 0, 1) := by decide +kernel
theorem dX12_order_96 : decode cX12_order 96 = .ok (.getfield 104, 3) := by decide +kernel
theorem dX12_order_99 : decode cX12_order 99 = .ok (.imul, 1) := by decide +kernel
theorem dX12_order_100 : decode cX12_order 100 = .ok (.iconst 2, 1) := by decide +kernel
theorem dX12_order_101 : decode cX12_order 101 = .ok (.iadd, 1) := by decide +kernel
theorem dX12_order_102 : decode cX12_order 102 = .ok (.iload_n 3, 1) := by decide +kernel
theorem dX12_order_103 : decode cX12_order 103 = .ok (.iastore, 1) := by decide +kernel
theorem dX12_order_104 : decode cX12_order 104 = .ok (.aload_n 0, 1) := by decide +kernel
theorem dX12_order_105 : decode cX12_order 105 = .ok (.getfield 19, 3) := by decide +kernel
theorem dX12_order_108 : decode cX12_order 108 = .ok (.iconst 4, 1) := by decide +kernel
theorem dX12_order_109 : decode cX12_order 109 = .ok (.aload_n 0, 1) := by decide +kernel
theorem dX12_order_110 : decode cX12_order 110 = .ok (.getfield 104, 3) := by decide +kernel
theorem dX12_order_113 : decode cX12_order 113 = .ok (.imul, 1) := by decide +kernel
theorem dX12_order_114 : decode cX12_order 114 = .ok (.iconst 3, 1) := by decide +kernel
theorem dX12_order_115 : decode cX12_order 115 = .ok (.iadd, 1) := by decide +kernel
theorem dX12_order_116 : decode cX12_order 116 = .ok (.iload 4, 2) := by decide +kernel
theorem dX12_order_118 : decode cX12_order 118 = .ok (.iastore, 1) := by decide +kernel
theorem dX12_order_119 : decode cX12_order 119 = .ok (.aload_n 0, 1) := by decide +kernel
theorem dX12_order_120 : decode cX12_order 120 = .ok (.dup, 1) := by decide +kernel
theorem dX12_order_121 : decode cX12_order 121 = .ok (.getfield 104, 3) := by decide +kernel
theorem dX12_order_124 : decode cX12_order 124 = .ok (.iconst 1, 1) := by decide +kernel
theorem dX12_order_125 : decode cX12_order 125 = .ok (.iadd, 1) := by decide +kernel
theorem dX12_order_126 : decode cX12_order 126 = .ok (.putfield 104, 3) := by decide +kernel
theorem dX12_order_129 : decode cX12_order 129 = .ok (.aload_n 0, 1) := by decide +kernel
theorem dX12_order_130 : decode cX12_order 130 = .ok (.getfield 104, 3) := by decide +kernel
theorem dX12_order_133 : decode cX12_order 133 = .ok (.iconst 1, 1) := by decide +kernel
theorem dX12_order_134 : decode cX12_order 134 = .ok (.isub, 1) := by decide +kernel
theorem dX12_order_135 : decode cX12_order 135 = .ok (.ireturn, 1) := by decide +kernel
theorem dX12_meets_0 : decode cX12_meets 0 = .ok (.aload_n 0, 1) := by decide +kernel
theorem dX12_meets_1 : decode cX12_meets 1 = .ok (.getfield 16, 3) := by decide +kernel
theorem dX12_meets_4 : decode cX12_meets 4 = .ok (.iconst 4, 1) := by decide +kernel
theorem dX12_meets_5 : decode cX12_meets 5 = .ok (.iload_n 1, 1) := by decide +kernel
theorem dX12_meets_6 : decode cX12_meets 6 = .ok (.imul, 1) := by decide +kernel
theorem dX12_meets_7 : decode cX12_meets 7 = .ok (.iaload, 1) := by decide +kernel
theorem dX12_meets_8 : decode cX12_meets 8 = .ok (.aload_n 0, 1) := by decide +kernel
theorem dX12_meets_9 : decode cX12_meets 9 = .ok (.getfield 19, 3) := by decide +kernel
theorem dX12_meets_12 : decode cX12_meets 12 = .ok (.iconst 4, 1) := by decide +kernel
theorem dX12_meets_13 : decode cX12_meets 13 = .ok (.iload_n 2, 1) := by decide +kernel
theorem dX12_meets_14 : decode cX12_meets 14 = .ok (.imul, 1) := by decide +kernel
theorem dX12_meets_15 : decode cX12_meets 15 = .ok (.iaload, 1) := by decide +kernel
theorem dX12_meets_16 : decode cX12_meets 16 = .ok (.if_icmp .ne 76, 3) := by decide +kernel
theorem dX12_meets_19 : decode cX12_meets 19 = .ok (.aload_n 0, 1) := by decide +kernel
theorem dX12_meets_20 : decode cX12_meets 20 = .ok (.getfield 16, 3) := by decide +kernel
theorem dX12_meets_23 : decode cX12_meets 23 = .ok (.iconst 4, 1) := by decide +kernel
theorem dX12_meets_24 : decode cX12_meets 24 = .ok (.iload_n 1, 1) := by decide +kernel
theorem dX12_meets_25 : decode cX12_meets 25 = .ok (.imul, 1) := by decide +kernel
theorem dX12_meets_26 : decode cX12_meets 26 = .ok (.iconst 3, 1) := by decide +kernel
theorem dX12_meets_27 : decode cX12_meets 27 = .ok (.iadd, 1) := by decide +kernel
theorem dX12_meets_28 : decode cX12_meets 28 = .ok (.iaload, 1) := by decide +kernel
theorem dX12_meets_29 : decode cX12_meets 29 = .ok (.aload_n 0, 1) := by decide +kernel
theorem dX12_meets_30 : decode cX12_meets 30 = .ok (.getfield 19, 3) := by decide +kernel
theorem dX12_meets_33 : decode cX12_meets 33 = .ok (.iconst 4, 1) := by decide +kernel
theorem dX12_meets_34 : decode cX12_meets 34 = .ok (.iload_n 2, 1) := by decide +kernel
theorem dX12_meets_35 : decode cX12_meets 35 = .ok (.imul, 1) := by decide +kernel
theorem dX12_meets_36 : decode cX12_meets 36 = .ok (.iconst 1, 1) := by decide +kernel
theorem dX12_meets_37 : decode cX12_meets 37 = .ok (.iadd, 1) := by decide +kernel
theorem dX12_meets_38 : decode cX12_meets 38 = .ok (.iaload, 1) := by decide +kernel
theorem dX12_meets_39 : decode cX12_meets 39 = .ok (.if_icmp .gt 53, 3) := by decide +kernel
theorem dX12_meets_42 : decode cX12_meets 42 = .ok (.aload_n 0, 1) := by decide +kernel
theorem dX12_meets_43 : decode cX12_meets 43 = .ok (.getfield 16, 3) := by decide +kernel
theorem dX12_meets_46 : decode cX12_meets 46 = .ok (.iconst 4, 1) := by decide +kernel
theorem dX12_meets_47 : decode cX12_meets 47 = .ok (.iload_n 1, 1) := by decide +kernel
theorem dX12_meets_48 : decode cX12_meets 48 = .ok (.imul, 1) := by decide +kernel
theorem dX12_meets_49 : decode cX12_meets 49 = .ok (.iconst 1, 1) := by decide +kernel
theorem dX12_meets_50 : decode cX12_meets 50 = .ok (.iadd, 1) := by decide +kernel
theorem dX12_meets_51 : decode cX12_meets 51 = .ok (.iaload, 1) := by decide +kernel
theorem dX12_meets_52 : decode cX12_meets 52 = .ok (.aload_n 0, 1) := by decide +kernel
theorem dX12_meets_53 : decode cX12_meets 53 = .ok (.getfield 19, 3) := by decide +kernel
theorem dX12_meets_56 : decode cX12_meets 56 = .ok (.iconst 4, 1) := by decide +kernel
theorem dX12_meets_57 : decode cX12_meets 57 = .ok (.iload_n 2, 1) := by decide +kernel
theorem dX12_meets_58 : decode cX12_meets 58 = .ok (.imul, 1) := by decide +kernel
theorem dX12_meets_59 : decode cX12_meets 59 = .ok (.iconst 2, 1) := by decide +kernel
theorem dX12_meets_60 : decode cX12_meets 60 = .ok (.iadd, 1) := by decide +kernel
theorem dX12_meets_61 : decode cX12_meets 61 = .ok (.iaload, 1) := by decide +kernel
theorem dX12_meets_62 : decode cX12_meets 62 = .ok (.if_icmp .lt 30, 3) := by decide +kernel
theorem dX12_meets_65 : decode cX12_meets 65 = .ok (.aload_n 0, 1) := by decide +kernel
theorem dX12_meets_66 : decode cX12_meets 66 = .ok (.getfield 16, 3) := by decide +kernel
theorem dX12_meets_69 : decode cX12_meets 69 = .ok (.iconst 4, 1) := by decide +kernel
theorem dX12_meets_70 : decode cX12_meets 70 = .ok (.iload_n 1, 1) := by decide +kernel
theorem dX12_meets_71 : decode cX12_meets 71 = .ok (.imul, 1) := by decide +kernel
theorem dX12_meets_72 : decode cX12_meets 72 = .ok (.iconst 2, 1) := by decide +kernel
theorem dX12_meets_73 : decode cX12_meets 73 = .ok (.iadd, 1) := by decide +kernel
theorem dX12_meets_74 : decode cX12_meets 74 = .ok (.iaload, 1) := by decide +kernel
theorem dX12_meets_75 : decode cX12_meets 75 = .ok (.aload_n 0, 1) := by decide +kernel
theorem dX12_meets_76 : decode cX12_meets 76 = .ok (.getfield 19, 3) := by decide +kernel
theorem dX12_meets_79 : decode cX12_meets 79 = .ok (.iconst 4, 1) := by decide +kernel
theorem dX12_meets_80 : decode cX12_meets 80 = .ok (.iload_n 2, 1) := by decide +kernel
theorem dX12_meets_81 : decode cX12_meets 81 = .ok (.imul, 1) := by decide +kernel
theorem dX12_meets_82 : decode cX12_meets 82 = .ok (.iconst 3, 1) := by decide +kernel
theorem dX12_meets_83 : decode cX12_meets 83 = .ok (.iadd, 1) := by decide +kernel
theorem dX12_meets_84 : decode cX12_meets 84 = .ok (.iaload, 1) := by decide +kernel
theorem dX12_meets_85 : decode cX12_meets 85 = .ok (.if_icmp .lt 7, 3) := by decide +kernel
theorem dX12_meets_88 : decode cX12_meets 88 = .ok (.iconst 1, 1) := by decide +kernel
theorem dX12_meets_89 : decode cX12_meets 89 = .ok (.goto 4, 3) := by decide +kernel
theorem dX12_meets_92 : decode cX12_meets 92 = .ok (.iconst 0, 1) := by decide +kernel
theorem dX12_meets_93 : decode cX12_meets 93 = .ok (.ireturn, 1) := by decide +kernel
theorem dX12_gets_0 : decode cX12_gets 0 = .ok (.iconst 0, 1) := by decide +kernel
theorem dX12_gets_1 : decode cX12_gets 1 = .ok (.istore_n 2, 1) := by decide +kernel
theorem dX12_gets_2 : decode cX12_gets 2 = .ok (.iload_n 2, 1) := by decide +kernel
theorem dX12_gets_3 : decode cX12_gets 3 = .ok (.aload_n 0, 1) := by decide +kernel
theorem dX12_gets_4 : decode cX12_gets 4 = .ok (.getfield 101, 3) := by decide +kernel
theorem dX12_gets_7 : decode cX12_gets 7 = .ok (.if_icmp .ge 75, 3) := by decide +kernel
theorem dX12_gets_10 : decode cX12_gets 10 = .ok (.aload_n 0, 1) := by decide +kernel
theorem dX12_gets_11 : decode cX12_gets 11 = .ok (.getfield 49, 3) := by decide +kernel
theorem dX12_gets_14 : decode cX12_gets 14 = .ok (.iload_n 2, 1) := by decide +kernel
theorem dX12_gets_15 : decode cX12_gets 15 = .ok (.iaload, 1) := by decide +kernel
theorem dX12_gets_16 : decode cX12_gets 16 = .ok (.iconst (-1), 1) := by decide +kernel
theorem dX12_gets_17 : decode cX12_gets 17 = .ok (.if_icmp .lt 59, 3) := by decide +kernel
theorem dX12_gets_20 : decode cX12_gets 20 = .ok (.aload_n 0, 1) := by decide +kernel
theorem dX12_gets_21 : decode cX12_gets 21 = .ok (.getfield 52, 3) := by decide +kernel
theorem dX12_gets_24 : decode cX12_gets 24 = .ok (.iload_n 2, 1) := by decide +kernel
theorem dX12_gets_25 : decode cX12_gets 25 = .ok (.baload, 1) := by decide +kernel
theorem dX12_gets_26 : decode cX12_gets 26 = .ok (.ifCond .ne 50, 3) := by decide +kernel
theorem dX12_gets_29 : decode cX12_gets 29 = .ok (.aload_n 0, 1) := by decide +kernel
theorem dX12_gets_30 : decode cX12_gets 30 = .ok (.iload_n 2, 1) := by decide +kernel
theorem dX12_gets_31 : decode cX12_gets 31 = .ok (.iload_n 1, 1) := by decide +kernel
theorem dX12_gets_32 : decode cX12_gets 32 = .ok (.invokevirtual 308, 3) := by decide +kernel
theorem dX12_gets_35 : decode cX12_gets 35 = .ok (.ifCond .eq 41, 3) := by decide +kernel
theorem dX12_gets_38 : decode cX12_gets 38 = .ok (.aload_n 0, 1) := by decide +kernel
theorem dX12_gets_39 : decode cX12_gets 39 = .ok (.getfield 52, 3) := by decide +kernel
theorem dX12_gets_42 : decode cX12_gets 42 = .ok (.iload_n 2, 1) := by decide +kernel
theorem dX12_gets_43 : decode cX12_gets 43 = .ok (.iconst 1, 1) := by decide +kernel
theorem dX12_gets_44 : decode cX12_gets 44 = .ok (.bastore, 1) := by decide +kernel
theorem dX12_gets_45 : decode cX12_gets 45 = .ok (.aload_n 0, 1) := by decide +kernel
theorem dX12_gets_46 : decode cX12_gets 46 = .ok (.getfield 49, 3) := by decide +kernel
theorem dX12_gets_49 : decode cX12_gets 49 = .ok (.iload_n 2, 1) := by decide +kernel
