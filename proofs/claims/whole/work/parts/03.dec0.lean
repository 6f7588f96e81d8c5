theorem dX0_init_0 : decode cX0_init 0 = .ok (.aload_n 0, 1) := by decide +kernel
theorem dX0_init_1 : decode cX0_init 1 = .ok (.invokespecial 3, 3) := by decide +kernel
theorem dX0_init_4 : decode cX0_init 4 = .ok (.aload_n 0, 1) := by decide +kernel
theorem dX0_init_5 : decode cX0_init 5 = .ok (.iload_n 1, 1) := by decide +kernel
theorem dX0_init_6 : decode cX0_init 6 = .ok (.putfield 9, 3) := by decide +kernel
theorem dX0_init_9 : decode cX0_init 9 = .ok (.aload_n 0, 1) := by decide +kernel
theorem dX0_init_10 : decode cX0_init 10 = .ok (.iload_n 2, 1) := by decide +kernel
theorem dX0_init_11 : decode cX0_init 11 = .ok (.putfield 15, 3) := by decide +kernel
theorem dX0_init_14 : decode cX0_init 14 = .ok (.aload_n 0, 1) := by decide +kernel
theorem dX0_init_15 : decode cX0_init 15 = .ok (.iload_n 3, 1) := by decide +kernel
theorem dX0_init_16 : decode cX0_init 16 = .ok (.putfield 18, 3) := by decide +kernel
theorem dX0_init_19 : decode cX0_init 19 = .ok (.return_, 1) := by decide +kernel
theorem dX0_along_0 : decode cX0_along 0 = .ok (.getstatic 21, 3) := by decide +kernel
theorem dX0_along_3 : decode cX0_along 3 = .ok (.aload_n 0, 1) := by decide +kernel
theorem dX0_along_4 : decode cX0_along 4 = .ok (.getfield 9, 3) := by decide +kernel
theorem dX0_along_7 : decode cX0_along 7 = .ok (.iaload, 1) := by decide +kernel
theorem dX0_along_8 : decode cX0_along 8 = .ok (.iload_n 1, 1) := by decide +kernel
theorem dX0_along_9 : decode cX0_along 9 = .ok (.imul, 1) := by decide +kernel
theorem dX0_along_10 : decode cX0_along 10 = .ok (.getstatic 25, 3) := by decide +kernel
theorem dX0_along_13 : decode cX0_along 13 = .ok (.aload_n 0, 1) := by decide +kernel
theorem dX0_along_14 : decode cX0_along 14 = .ok (.getfield 9, 3) := by decide +kernel
theorem dX0_along_17 : decode cX0_along 17 = .ok (.iaload, 1) := by decide +kernel
theorem dX0_along_18 : decode cX0_along 18 = .ok (.iload_n 2, 1) := by decide +kernel
theorem dX0_along_19 : decode cX0_along 19 = .ok (.imul, 1) := by decide +kernel
theorem dX0_along_20 : decode cX0_along 20 = .ok (.iadd, 1) := by decide +kernel
theorem dX0_along_21 : decode cX0_along 21 = .ok (.ireturn, 1) := by decide +kernel
theorem dX0_across_0 : decode cX0_across 0 = .ok (.getstatic 21, 3) := by decide +kernel
theorem dX0_across_3 : decode cX0_across 3 = .ok (.aload_n 0, 1) := by decide +kernel
theorem dX0_across_4 : decode cX0_across 4 = .ok (.getfield 9, 3) := by decide +kernel
theorem dX0_across_7 : decode cX0_across 7 = .ok (.iaload, 1) := by decide +kernel
theorem dX0_across_8 : decode cX0_across 8 = .ok (.iload_n 2, 1) := by decide +kernel
theorem dX0_across_9 : decode cX0_across 9 = .ok (.imul, 1) := by decide +kernel
theorem dX0_across_10 : decode cX0_across 10 = .ok (.getstatic 25, 3) := by decide +kernel
theorem dX0_across_13 : decode cX0_across 13 = .ok (.aload_n 0, 1) := by decide +kernel
theorem dX0_across_14 : decode cX0_across 14 = .ok (.getfield 9, 3) := by decide +kernel
theorem dX0_across_17 : decode cX0_across 17 = .ok (.iaload, 1) := by decide +kernel
theorem dX0_across_18 : decode cX0_across 18 = .ok (.iload_n 1, 1) := by decide +kernel
theorem dX0_across_19 : decode cX0_across 19 = .ok (.imul, 1) := by decide +kernel
theorem dX0_across_20 : decode cX0_across 20 = .ok (.isub, 1) := by decide +kernel
theorem dX0_across_21 : decode cX0_across 21 = .ok (.invokestatic 28, 3) := by decide +kernel
theorem dX0_across_24 : decode cX0_across 24 = .ok (.ireturn, 1) := by decide +kernel
theorem dX0_slicesOf_0 : decode cX0_slicesOf 0 = .ok (.iconst 0, 1) := by decide +kernel
theorem dX0_slicesOf_1 : decode cX0_slicesOf 1 = .ok (.aload_n 0, 1) := by decide +kernel
theorem dX0_slicesOf_2 : decode cX0_slicesOf 2 = .ok (.iload_n 1, 1) := by decide +kernel
theorem dX0_slicesOf_3 : decode cX0_slicesOf 3 = .ok (.invokevirtual 34, 3) := by decide +kernel
theorem dX0_slicesOf_6 : decode cX0_slicesOf 6 = .ok (.iload_n 1, 1) := by decide +kernel
theorem dX0_slicesOf_7 : decode cX0_slicesOf 7 = .ok (.aload_n 0, 1) := by decide +kernel
theorem dX0_slicesOf_8 : decode cX0_slicesOf 8 = .ok (.getfield 15, 3) := by decide +kernel
theorem dX0_slicesOf_11 : decode cX0_slicesOf 11 = .ok (.isub, 1) := by decide +kernel
theorem dX0_slicesOf_12 : decode cX0_slicesOf 12 = .ok (.invokestatic 37, 3) := by decide +kernel
theorem dX0_slicesOf_15 : decode cX0_slicesOf 15 = .ok (.invokestatic 41, 3) := by decide +kernel
theorem dX0_slicesOf_18 : decode cX0_slicesOf 18 = .ok (.ireturn, 1) := by decide +kernel
theorem dX0_isInSlice_0 : decode cX0_isInSlice 0 = .ok (.iload_n 1, 1) := by decide +kernel
theorem dX0_isInSlice_1 : decode cX0_isInSlice 1 = .ok (.aload_n 0, 1) := by decide +kernel
theorem dX0_isInSlice_2 : decode cX0_isInSlice 2 = .ok (.getfield 15, 3) := by decide +kernel
theorem dX0_isInSlice_5 : decode cX0_isInSlice 5 = .ok (.if_icmp .lt 21, 3) := by decide +kernel
theorem dX0_isInSlice_8 : decode cX0_isInSlice 8 = .ok (.iload_n 1, 1) := by decide +kernel
theorem dX0_isInSlice_9 : decode cX0_isInSlice 9 = .ok (.aload_n 0, 1) := by decide +kernel
theorem dX0_isInSlice_10 : decode cX0_isInSlice 10 = .ok (.getfield 15, 3) := by decide +kernel
theorem dX0_isInSlice_13 : decode cX0_isInSlice 13 = .ok (.aload_n 0, 1) := by decide +kernel
theorem dX0_isInSlice_14 : decode cX0_isInSlice 14 = .ok (.iload_n 2, 1) := by decide +kernel
theorem dX0_isInSlice_15 : decode cX0_isInSlice 15 = .ok (.invokevirtual 44, 3) := by decide +kernel
theorem dX0_isInSlice_18 : decode cX0_isInSlice 18 = .ok (.iadd, 1) := by decide +kernel
theorem dX0_isInSlice_19 : decode cX0_isInSlice 19 = .ok (.if_icmp .ge 7, 3) := by decide +kernel
theorem dX0_isInSlice_22 : decode cX0_isInSlice 22 = .ok (.iconst 1, 1) := by decide +kernel
theorem dX0_isInSlice_23 : decode cX0_isInSlice 23 = .ok (.goto 4, 3) := by decide +kernel
theorem dX0_isInSlice_26 : decode cX0_isInSlice 26 = .ok (.iconst 0, 1) := by decide +kernel
theorem dX0_isInSlice_27 : decode cX0_isInSlice 27 = .ok (.ireturn, 1) := by decide +kernel
theorem dX0_cellsOfSlice_0 : decode cX0_cellsOfSlice 0 = .ok (.iconst 0, 1) := by decide +kernel
theorem dX0_cellsOfSlice_1 : decode cX0_cellsOfSlice 1 = .ok (.istore_n 1, 1) := by decide +kernel
theorem dX0_cellsOfSlice_2 : decode cX0_cellsOfSlice 2 = .ok (.iconst 0, 1) := by decide +kernel
theorem dX0_cellsOfSlice_3 : decode cX0_cellsOfSlice 3 = .ok (.istore_n 2, 1) := by decide +kernel
theorem dX0_cellsOfSlice_4 : decode cX0_cellsOfSlice 4 = .ok (.iload_n 2, 1) := by decide +kernel
theorem dX0_cellsOfSlice_5 : decode cX0_cellsOfSlice 5 = .ok (.sipush 144, 3) := by decide +kernel
theorem dX0_cellsOfSlice_8 : decode cX0_cellsOfSlice 8 = .ok (.if_icmp .ge 33, 3) := by decide +kernel
theorem dX0_cellsOfSlice_11 : decode cX0_cellsOfSlice 11 = .ok (.aload_n 0, 1) := by decide +kernel
theorem dX0_cellsOfSlice_12 : decode cX0_cellsOfSlice 12 = .ok (.iload_n 2, 1) := by decide +kernel
theorem dX0_cellsOfSlice_13 : decode cX0_cellsOfSlice 13 = .ok (.bipush 12, 2) := by decide +kernel
theorem dX0_cellsOfSlice_15 : decode cX0_cellsOfSlice 15 = .ok (.irem, 1) := by decide +kernel
theorem dX0_cellsOfSlice_16 : decode cX0_cellsOfSlice 16 = .ok (.invokestatic 47, 3) := by decide +kernel
theorem dX0_cellsOfSlice_19 : decode cX0_cellsOfSlice 19 = .ok (.iload_n 2, 1) := by decide +kernel
theorem dX0_cellsOfSlice_20 : decode cX0_cellsOfSlice 20 = .ok (.bipush 12, 2) := by decide +kernel
theorem dX0_cellsOfSlice_22 : decode cX0_cellsOfSlice 22 = .ok (.idiv, 1) := by decide +kernel
theorem dX0_cellsOfSlice_23 : decode cX0_cellsOfSlice 23 = .ok (.invokestatic 47, 3) := by decide +kernel
theorem dX0_cellsOfSlice_26 : decode cX0_cellsOfSlice 26 = .ok (.invokevirtual 50, 3) := by decide +kernel
theorem dX0_cellsOfSlice_29 : decode cX0_cellsOfSlice 29 = .ok (.ifCond .eq 6, 3) := by decide +kernel
theorem dX0_cellsOfSlice_32 : decode cX0_cellsOfSlice 32 = .ok (.iinc 1 1, 3) := by decide +kernel
theorem dX0_cellsOfSlice_35 : decode cX0_cellsOfSlice 35 = .ok (.iinc 2 1, 3) := by decide +kernel
theorem dX0_cellsOfSlice_38 : decode cX0_cellsOfSlice 38 = .ok (.goto (-34), 3) := by decide +kernel
theorem dX0_cellsOfSlice_41 : decode cX0_cellsOfSlice 41 = .ok (.iload_n 1, 1) := by decide +kernel
theorem dX0_cellsOfSlice_42 : decode cX0_cellsOfSlice 42 = .ok (.ireturn, 1) := by decide +kernel
theorem dX1_init_0 : decode cX1_init 0 = .ok (.aload_n 0, 1) := by decide +kernel
theorem dX1_init_1 : decode cX1_init 1 = .ok (.iload_n 1, 1) := by decide +kernel
theorem dX1_init_2 : decode cX1_init 2 = .ok (.iload_n 2, 1) := by decide +kernel
theorem dX1_init_3 : decode cX1_init 3 = .ok (.iload_n 3, 1) := by decide +kernel
theorem dX1_init_4 : decode cX1_init 4 = .ok (.invokespecial 1, 3) := by decide +kernel
theorem dX1_init_7 : decode cX1_init 7 = .ok (.return_, 1) := by decide +kernel
theorem dX1_kind_0 : decode cX1_kind 0 = .ok (.iconst 0, 1) := by decide +kernel
theorem dX1_kind_1 : decode cX1_kind 1 = .ok (.ireturn, 1) := by decide +kernel
theorem dX1_wide_0 : decode cX1_wide 0 = .ok (.aload_n 0, 1) := by decide +kernel
theorem dX1_wide_1 : decode cX1_wide 1 = .ok (.getfield 7, 3) := by decide +kernel
theorem dX1_wide_4 : decode cX1_wide 4 = .ok (.ireturn, 1) := by decide +kernel
theorem dX1_isIn_0 : decode cX1_isIn 0 = .ok (.aload_n 0, 1) := by decide +kernel
theorem dX1_isIn_1 : decode cX1_isIn 1 = .ok (.iload_n 1, 1) := by decide +kernel
theorem dX1_isIn_2 : decode cX1_isIn 2 = .ok (.iload_n 2, 1) := by decide +kernel
theorem dX1_isIn_3 : decode cX1_isIn 3 = .ok (.invokevirtual 13, 3) := by decide +kernel
theorem dX1_isIn_6 : decode cX1_isIn 6 = .ok (.ifCond .le 20, 3) := by decide +kernel
theorem dX1_isIn_9 : decode cX1_isIn 9 = .ok (.aload_n 0, 1) := by decide +kernel
theorem dX1_isIn_10 : decode cX1_isIn 10 = .ok (.iload_n 1, 1) := by decide +kernel
theorem dX1_isIn_11 : decode cX1_isIn 11 = .ok (.iload_n 2, 1) := by decide +kernel
theorem dX1_isIn_12 : decode cX1_isIn 12 = .ok (.invokevirtual 17, 3) := by decide +kernel
theorem dX1_isIn_15 : decode cX1_isIn 15 = .ok (.aload_n 0, 1) := by decide +kernel
theorem dX1_isIn_16 : decode cX1_isIn 16 = .ok (.invokevirtual 20, 3) := by decide +kernel
theorem dX1_isIn_19 : decode cX1_isIn 19 = .ok (.if_icmp .gt 7, 3) := by decide +kernel
theorem dX1_isIn_22 : decode cX1_isIn 22 = .ok (.iconst 1, 1) := by decide +kernel
theorem dX1_isIn_23 : decode cX1_isIn 23 = .ok (.goto 4, 3) := by decide +kernel
theorem dX1_isIn_26 : decode cX1_isIn 26 = .ok (.iconst 0, 1) := by decide +kernel
theorem dX1_isIn_27 : decode cX1_isIn 27 = .ok (.ireturn, 1) := by decide +kernel
theorem dX1_lasts_0 : decode cX1_lasts 0 = .ok (.aload_n 0, 1) := by decide +kernel
theorem dX1_lasts_1 : decode cX1_lasts 1 = .ok (.getfield 7, 3) := by decide +kernel
theorem dX1_lasts_4 : decode cX1_lasts 4 = .ok (.ireturn, 1) := by decide +kernel
theorem dX1_hurts_0 : decode cX1_hurts 0 = .ok (.iconst 1, 1) := by decide +kernel
theorem dX1_hurts_1 : decode cX1_hurts 1 = .ok (.ireturn, 1) := by decide +kernel
theorem dX2_init_0 : decode cX2_init 0 = .ok (.aload_n 0, 1) := by decide +kernel
theorem dX2_init_1 : decode cX2_init 1 = .ok (.iload_n 1, 1) := by decide +kernel
theorem dX2_init_2 : decode cX2_init 2 = .ok (.iload_n 2, 1) := by decide +kernel
theorem dX2_init_3 : decode cX2_init 3 = .ok (.iload_n 3, 1) := by decide +kernel
theorem dX2_init_4 : decode cX2_init 4 = .ok (.invokespecial 1, 3) := by decide +kernel
theorem dX2_init_7 : decode cX2_init 7 = .ok (.return_, 1) := by decide +kernel
theorem dX2_kind_0 : decode cX2_kind 0 = .ok (.iconst 1, 1) := by decide +kernel
theorem dX2_kind_1 : decode cX2_kind 1 = .ok (.ireturn, 1) := by decide +kernel
theorem dX2_wide_0 : decode cX2_wide 0 = .ok (.aload_n 0, 1) := by decide +kernel
theorem dX2_wide_1 : decode cX2_wide 1 = .ok (.invokespecial 7, 3) := by decide +kernel
theorem dX2_wide_4 : decode cX2_wide 4 = .ok (.iconst 2, 1) := by decide +kernel
theorem dX2_wide_5 : decode cX2_wide 5 = .ok (.iadd, 1) := by decide +kernel
theorem dX2_wide_6 : decode cX2_wide 6 = .ok (.ireturn, 1) := by decide +kernel
theorem dX2_hurts_0 : decode cX2_hurts 0 = .ok (.aload_n 0, 1) := by decide +kernel
theorem dX2_hurts_1 : decode cX2_hurts 1 = .ok (.invokespecial 11, 3) := by decide +kernel
theorem dX2_hurts_4 : decode cX2_hurts 4 = .ok (.iconst 1, 1) := by decide +kernel
theorem dX2_hurts_5 : decode cX2_hurts 5 = .ok (.iadd, 1) := by decide +kernel
theorem dX2_hurts_6 : decode cX2_hurts 6 = .ok (.ireturn, 1) := by decide +kernel
theorem dX3_init_0 : decode cX3_init 0 = .ok (.aload_n 0, 1) := by decide +kernel
theorem dX3_init_1 : decode cX3_init 1 = .ok (.invokespecial 1, 3) := by decide +kernel
theorem dX3_init_4 : decode cX3_init 4 = .ok (.aload_n 0, 1) := by decide +kernel
theorem dX3_init_5 : decode cX3_init 5 = .ok (.iconst 0, 1) := by decide +kernel
theorem dX3_init_6 : decode cX3_init 6 = .ok (.putfield 7, 3) := by decide +kernel
theorem dX3_init_9 : decode cX3_init 9 = .ok (.aload_n 0, 1) := by decide +kernel
theorem dX3_init_10 : decode cX3_init 10 = .ok (.iconst 0, 1) := by decide +kernel
theorem dX3_init_11 : decode cX3_init 11 = .ok (.putfield 13, 3) := by decide +kernel
theorem dX3_init_14 : decode cX3_init 14 = .ok (.aload_n 0, 1) := by decide +kernel
theorem dX3_init_15 : decode cX3_init 15 = .ok (.iconst 0, 1) := by decide +kernel
theorem dX3_init_16 : decode cX3_init 16 = .ok (.putfield 16, 3) := by decide +kernel
theorem dX3_init_19 : decode cX3_init 19 = .ok (.aload_n 0, 1) := by decide +kernel
theorem dX3_init_20 : decode cX3_init 20 = .ok (.iconst 0, 1) := by decide +kernel
theorem dX3_init_21 : decode cX3_init 21 = .ok (.putfield 19, 3) := by decide +kernel
theorem dX3_init_24 : decode cX3_init 24 = .ok (.aload_n 0, 1) := by decide +kernel
theorem dX3_init_25 : decode cX3_init 25 = .ok (.iconst 0, 1) := by decide +kernel
theorem dX3_init_26 : decode cX3_init 26 = .ok (.putfield 22, 3) := by decide +kernel
theorem dX3_init_29 : decode cX3_init 29 = .ok (.aload_n 0, 1) := by decide +kernel
theorem dX3_init_30 : decode cX3_init 30 = .ok (.iconst 0, 1) := by decide +kernel
theorem dX3_init_31 : decode cX3_init 31 = .ok (.putfield 25, 3) := by decide +kernel
theorem dX3_init_34 : decode cX3_init 34 = .ok (.aload_n 0, 1) := by decide +kernel
theorem dX3_init_35 : decode cX3_init 35 = .ok (.iconst 0, 1) := by decide +kernel
theorem dX3_init_36 : decode cX3_init 36 = .ok (.putfield 28, 3) := by decide +kernel
theorem dX3_init_39 : decode cX3_init 39 = .ok (.aload_n 0, 1) := by decide +kernel
theorem dX3_init_40 : decode cX3_init 40 = .ok (.iconst 0, 1) := by decide +kernel
theorem dX3_init_41 : decode cX3_init 41 = .ok (.putfield 31, 3) := by decide +kernel
theorem dX3_init_44 : decode cX3_init 44 = .ok (.aload_n 0, 1) := by decide +kernel
theorem dX3_init_45 : decode cX3_init 45 = .ok (.iconst 0, 1) := by decide +kernel
theorem dX3_init_46 : decode cX3_init 46 = .ok (.putfield 34, 3) := by decide +kernel
theorem dX3_init_49 : decode cX3_init 49 = .ok (.return_, 1) := by decide +kernel
theorem dX4_init_0 : decode cX4_init 0 = .ok (.aload_n 0, 1) := by decide +kernel
theorem dX4_init_1 : decode cX4_init 1 = .ok (.iload_n 1, 1) := by decide +kernel
theorem dX4_init_2 : decode cX4_init 2 = .ok (.iload_n 2, 1) := by decide +kernel
theorem dX4_init_3 : decode cX4_init 3 = .ok (.iload_n 3, 1) := by decide +kernel
theorem dX4_init_4 : decode cX4_init 4 = .ok (.invokespecial 1, 3) := by decide +kernel
theorem dX4_init_7 : decode cX4_init 7 = .ok (.return_, 1) := by decide +kernel
theorem dX4_kind_0 : decode cX4_kind 0 = .ok (.iconst 4, 1) := by decide +kernel
theorem dX4_kind_1 : decode cX4_kind 1 = .ok (.ireturn, 1) := by decide +kernel
theorem dX4_isIn_0 : decode cX4_isIn 0 = .ok (.iload_n 1, 1) := by decide +kernel
theorem dX4_isIn_1 : decode cX4_isIn 1 = .ok (.iload_n 1, 1) := by decide +kernel
theorem dX4_isIn_2 : decode cX4_isIn 2 = .ok (.imul, 1) := by decide +kernel
theorem dX4_isIn_3 : decode cX4_isIn 3 = .ok (.iload_n 2, 1) := by decide +kernel
theorem dX4_isIn_4 : decode cX4_isIn 4 = .ok (.iload_n 2, 1) := by decide +kernel
theorem dX4_isIn_5 : decode cX4_isIn 5 = .ok (.imul, 1) := by decide +kernel
theorem dX4_isIn_6 : decode cX4_isIn 6 = .ok (.iadd, 1) := by decide +kernel
theorem dX4_isIn_7 : decode cX4_isIn 7 = .ok (.istore_n 3, 1) := by decide +kernel
theorem dX4_isIn_8 : decode cX4_isIn 8 = .ok (.iconst 2, 1) := by decide +kernel
theorem dX4_isIn_9 : decode cX4_isIn 9 = .ok (.aload_n 0, 1) := by decide +kernel
theorem dX4_isIn_10 : decode cX4_isIn 10 = .ok (.getfield 7, 3) := by decide +kernel
theorem dX4_isIn_13 : decode cX4_isIn 13 = .ok (.imul, 1) := by decide +kernel
theorem dX4_isIn_14 : decode cX4_isIn 14 = .ok (.iconst 1, 1) := by decide +kernel
theorem dX4_isIn_15 : decode cX4_isIn 15 = .ok (.isub, 1) := by decide +kernel
theorem dX4_isIn_16 : decode cX4_isIn 16 = .ok (.istore 4, 2) := by decide +kernel
theorem dX4_isIn_18 : decode cX4_isIn 18 = .ok (.iconst 2, 1) := by decide +kernel
theorem dX4_isIn_19 : decode cX4_isIn 19 = .ok (.aload_n 0, 1) := by decide +kernel
theorem dX4_isIn_20 : decode cX4_isIn 20 = .ok (.getfield 7, 3) := by decide +kernel
theorem dX4_isIn_23 : decode cX4_isIn 23 = .ok (.imul, 1) := by decide +kernel
theorem dX4_isIn_24 : decode cX4_isIn 24 = .ok (.iconst 1, 1) := by decide +kernel
theorem dX4_isIn_25 : decode cX4_isIn 25 = .ok (.iadd, 1) := by decide +kernel
theorem dX4_isIn_26 : decode cX4_isIn 26 = .ok (.istore 5, 2) := by decide +kernel
theorem dX4_isIn_28 : decode cX4_isIn 28 = .ok (.iload_n 3, 1) := by decide +kernel
theorem dX4_isIn_29 : decode cX4_isIn 29 = .ok (.iload 4, 2) := by decide +kernel
theorem dX4_isIn_31 : decode cX4_isIn 31 = .ok (.iload 4, 2) := by decide +kernel
theorem dX4_isIn_33 : decode cX4_isIn 33 = .ok (.imul, 1) := by decide +kernel
theorem dX4_isIn_34 : decode cX4_isIn 34 = .ok (.if_icmp .lt 16, 3) := by decide +kernel
theorem dX4_isIn_37 : decode cX4_isIn 37 = .ok (.iload_n 3, 1) := by decide +kernel
theorem dX4_isIn_38 : decode cX4_isIn 38 = .ok (.iload 5, 2) := by decide +kernel
theorem dX4_isIn_40 : decode cX4_isIn 40 = .ok (.iload 5, 2) := by decide +kernel
theorem dX4_isIn_42 : decode cX4_isIn 42 = .ok (.imul, 1) := by decide +kernel
theorem dX4_isIn_43 : decode cX4_isIn 43 = .ok (.if_icmp .gt 7, 3) := by decide +kernel
theorem dX4_isIn_46 : decode cX4_isIn 46 = .ok (.iconst 1, 1) := by decide +kernel
theorem dX4_isIn_47 : decode cX4_isIn 47 = .ok (.goto 4, 3) := by decide +kernel
theorem dX4_isIn_50 : decode cX4_isIn 50 = .ok (.iconst 0, 1) := by decide +kernel
theorem dX4_isIn_51 : decode cX4_isIn 51 = .ok (.ireturn, 1) := by decide +kernel
theorem dX4_hurts_0 : decode cX4_hurts 0 = .ok (.aload_n 0, 1) := by decide +kernel
theorem dX4_hurts_1 : decode cX4_hurts 1 = .ok (.invokespecial 13, 3) := by decide +kernel
theorem dX4_hurts_4 : decode cX4_hurts 4 = .ok (.iconst 1, 1) := by decide +kernel
theorem dX4_hurts_5 : decode cX4_hurts 5 = .ok (.iadd, 1) := by decide +kernel
theorem dX4_hurts_6 : decode cX4_hurts 6 = .ok (.ireturn, 1) := by decide +kernel
theorem dX5_init_0 : decode cX5_init 0 = .ok (.aload_n 0, 1) := by decide +kernel
theorem dX5_init_1 : decode cX5_init 1 = .ok (.iload_n 1, 1) := by decide +kernel
theorem dX5_init_2 : decode cX5_init 2 = .ok (.iload_n 2, 1) := by decide +kernel
theorem dX5_init_3 : decode cX5_init 3 = .ok (.iload_n 3, 1) := by decide +kernel
theorem dX5_init_4 : decode cX5_init 4 = .ok (.invokespecial 3, 3) := by decide +kernel
theorem dX5_init_7 : decode cX5_init 7 = .ok (.return_, 1) := by decide +kernel
theorem dX5_kind_0 : decode cX5_kind 0 = .ok (.iconst 5, 1) := by decide +kernel
theorem dX5_kind_1 : decode cX5_kind 1 = .ok (.ireturn, 1) := by decide +kernel
theorem dX5_isIn_0 : decode cX5_isIn 0 = .ok (.iload_n 1, 1) := by decide +kernel
theorem dX5_isIn_1 : decode cX5_isIn 1 = .ok (.iload_n 1, 1) := by decide +kernel
theorem dX5_isIn_2 : decode cX5_isIn 2 = .ok (.imul, 1) := by decide +kernel
theorem dX5_isIn_3 : decode cX5_isIn 3 = .ok (.iload_n 2, 1) := by decide +kernel
theorem dX5_isIn_4 : decode cX5_isIn 4 = .ok (.iload_n 2, 1) := by decide +kernel
theorem dX5_isIn_5 : decode cX5_isIn 5 = .ok (.imul, 1) := by decide +kernel
theorem dX5_isIn_6 : decode cX5_isIn 6 = .ok (.iadd, 1) := by decide +kernel
theorem dX5_isIn_7 : decode cX5_isIn 7 = .ok (.iconst 4, 1) := by decide +kernel
theorem dX5_isIn_8 : decode cX5_isIn 8 = .ok (.aload_n 0, 1) := by decide +kernel
theorem dX5_isIn_9 : decode cX5_isIn 9 = .ok (.getfield 9, 3) := by decide +kernel
theorem dX5_isIn_12 : decode cX5_isIn 12 = .ok (.imul, 1) := by decide +kernel
theorem dX5_isIn_13 : decode cX5_isIn 13 = .ok (.aload_n 0, 1) := by decide +kernel
theorem dX5_isIn_14 : decode cX5_isIn 14 = .ok (.getfield 9, 3) := by decide +kernel
theorem dX5_isIn_17 : decode cX5_isIn 17 = .ok (.imul, 1) := by decide +kernel
theorem dX5_isIn_18 : decode cX5_isIn 18 = .ok (.if_icmp .gt 7, 3) := by decide +kernel
theorem dX5_isIn_21 : decode cX5_isIn 21 = .ok (.iconst 1, 1) := by decide +kernel
theorem dX5_isIn_22 : decode cX5_isIn 22 = .ok (.goto 4, 3) := by decide +kernel
theorem dX5_isIn_25 : decode cX5_isIn 25 = .ok (.iconst 0, 1) := by decide +kernel
theorem dX5_isIn_26 : decode cX5_isIn 26 = .ok (.ireturn, 1) := by decide +kernel
theorem dX5_lasts_0 : decode cX5_lasts 0 = .ok (.iload_n 1, 1) := by decide +kernel
theorem dX5_lasts_1 : decode cX5_lasts 1 = .ok (.aload_n 0, 1) := by decide +kernel
theorem dX5_lasts_2 : decode cX5_lasts 2 = .ok (.getfield 15, 3) := by decide +kernel
theorem dX5_lasts_5 : decode cX5_lasts 5 = .ok (.isub, 1) := by decide +kernel
theorem dX5_lasts_6 : decode cX5_lasts 6 = .ok (.ireturn, 1) := by decide +kernel
theorem dX5_hurts_0 : decode cX5_hurts 0 = .ok (.bipush 9, 2) := by decide +kernel
theorem dX5_hurts_2 : decode cX5_hurts 2 = .ok (.ireturn, 1) := by decide +kernel
theorem dX6_init_0 : decode cX6_init 0 = .ok (.aload_n 0, 1) := by decide +kernel
theorem dX6_init_1 : decode cX6_init 1 = .ok (.invokespecial 5, 3) := by decide +kernel
theorem dX6_init_4 : decode cX6_init 4 = .ok (.aload_n 0, 1) := by decide +kernel
theorem dX6_init_5 : decode cX6_init 5 = .ok (.iconst 0, 1) := by decide +kernel
theorem dX6_init_6 : decode cX6_init 6 = .ok (.putfield 11, 3) := by decide +kernel
theorem dX6_init_9 : decode cX6_init 9 = .ok (.aload_n 0, 1) := by decide +kernel
theorem dX6_init_10 : decode cX6_init 10 = .ok (.iconst 0, 1) := by decide +kernel
theorem dX6_init_11 : decode cX6_init 11 = .ok (.putfield 15, 3) := by decide +kernel
theorem dX6_init_14 : decode cX6_init 14 = .ok (.aload_n 0, 1) := by decide +kernel
theorem dX6_init_15 : decode cX6_init 15 = .ok (.iconst 0, 1) := by decide +kernel
theorem dX6_init_16 : decode cX6_init 16 = .ok (.putfield 18, 3) := by decide +kernel
theorem dX6_init_19 : decode cX6_init 19 = .ok (.aload_n 0, 1) := by decide +kernel
theorem dX6_init_20 : decode cX6_init 20 = .ok (.iconst 0, 1) := by decide +kernel
theorem dX6_init_21 : decode cX6_init 21 = .ok (.putfield 22, 3) := by decide +kernel
theorem dX6_init_24 : decode cX6_init 24 = .ok (.aload_n 0, 1) := by decide +kernel
theorem dX6_init_25 : decode cX6_init 25 = .ok (.iconst 0, 1) := by decide +kernel
theorem dX6_init_26 : decode cX6_init 26 = .ok (.putfield 25, 3) := by decide +kernel
theorem dX6_init_29 : decode cX6_init 29 = .ok (.aload_n 0, 1) := by decide +kernel
theorem dX6_init_30 : decode cX6_init 30 = .ok (.bipush 7, 2) := by decide +kernel
theorem dX6_init_32 : decode cX6_init 32 = .ok (.newarray .int, 2) := by decide +kernel
theorem dX6_init_34 : decode cX6_init 34 = .ok (.putfield 28, 3) := by decide +kernel
theorem dX6_init_37 : decode cX6_init 37 = .ok (.aload_n 0, 1) := by decide +kernel
theorem dX6_init_38 : decode cX6_init 38 = .ok (.bipush 96, 2) := by decide +kernel
theorem dX6_init_40 : decode cX6_init 40 = .ok (.newarray .int, 2) := by decide +kernel
theorem dX6_init_42 : decode cX6_init 42 = .ok (.putfield 32, 3) := by decide +kernel
theorem dX6_init_45 : decode cX6_init 45 = .ok (.aload_n 0, 1) := by decide +kernel
theorem dX6_init_46 : decode cX6_init 46 = .ok (.sipush 1152, 3) := by decide +kernel
theorem dX6_init_49 : decode cX6_init 49 = .ok (.newarray .int, 2) := by decide +kernel
theorem dX6_init_51 : decode cX6_init 51 = .ok (.putfield 35, 3) := by decide +kernel
theorem dX6_init_54 : decode cX6_init 54 = .ok (.aload_n 0, 1) := by decide +kernel
theorem dX6_init_55 : decode cX6_init 55 = .ok (.sipush 1404, 3) := by decide +kernel
theorem dX6_init_58 : decode cX6_init 58 = .ok (.newarray .int, 2) := by decide +kernel
theorem dX6_init_60 : decode cX6_init 60 = .ok (.putfield 38, 3) := by decide +kernel
theorem dX6_init_63 : decode cX6_init 63 = .ok (.aload_n 0, 1) := by decide +kernel
theorem dX6_init_64 : decode cX6_init 64 = .ok (.sipush 1404, 3) := by decide +kernel
theorem dX6_init_67 : decode cX6_init 67 = .ok (.newarray .int, 2) := by decide +kernel
theorem dX6_init_69 : decode cX6_init 69 = .ok (.putfield 41, 3) := by decide +kernel
theorem dX6_init_72 : decode cX6_init 72 = .ok (.aload_n 0, 1) := by decide +kernel
theorem dX6_init_73 : decode cX6_init 73 = .ok (.bipush 8, 2) := by decide +kernel
theorem dX6_init_75 : decode cX6_init 75 = .ok (.newarray .int, 2) := by decide +kernel
theorem dX6_init_77 : decode cX6_init 77 = .ok (.putfield 44, 3) := by decide +kernel
theorem dX6_init_80 : decode cX6_init 80 = .ok (.aload_n 0, 1) := by decide +kernel
theorem dX6_init_81 : decode cX6_init 81 = .ok (.new 47, 3) := by decide +kernel
theorem dX6_init_84 : decode cX6_init 84 = .ok (.dup, 1) := by decide +kernel
theorem dX6_init_85 : decode cX6_init 85 = .ok (.invokespecial 49, 3) := by decide +kernel
theorem dX6_init_88 : decode cX6_init 88 = .ok (.putfield 50, 3) := by decide +kernel
theorem dX6_init_91 : decode cX6_init 91 = .ok (.aload_n 0, 1) := by decide +kernel
theorem dX6_init_92 : decode cX6_init 92 = .ok (.bipush 13, 2) := by decide +kernel
theorem dX6_init_94 : decode cX6_init 94 = .ok (.newarray .int, 2) := by decide +kernel
theorem dX6_init_96 : decode cX6_init 96 = .ok (.putfield 54, 3) := by decide +kernel
theorem dX6_init_99 : decode cX6_init 99 = .ok (.aload_n 0, 1) := by decide +kernel
theorem dX6_init_100 : decode cX6_init 100 = .ok (.bipush 12, 2) := by decide +kernel
theorem dX6_init_102 : decode cX6_init 102 = .ok (.newarray .int, 2) := by decide +kernel
theorem dX6_init_104 : decode cX6_init 104 = .ok (.putfield 57, 3) := by decide +kernel
theorem dX6_init_107 : decode cX6_init 107 = .ok (.aload_n 0, 1) := by decide +kernel
theorem dX6_init_108 : decode cX6_init 108 = .ok (.bipush 12, 2) := by decide +kernel
theorem dX6_init_110 : decode cX6_init 110 = .ok (.newarray .int, 2) := by decide +kernel
theorem dX6_init_112 : decode cX6_init 112 = .ok (.putfield 60, 3) := by decide +kernel
theorem dX6_init_115 : decode cX6_init 115 = .ok (.aload_n 0, 1) := by decide +kernel
theorem dX6_init_116 : decode cX6_init 116 = .ok (.bipush 12, 2) := by decide +kernel
theorem dX6_init_118 : decode cX6_init 118 = .ok (.newarray .int, 2) := by decide +kernel
theorem dX6_init_120 : decode cX6_init 120 = .ok (.putfield 63, 3) := by decide +kernel
theorem dX6_init_123 : decode cX6_init 123 = .ok (.return_, 1) := by decide +kernel
theorem dX6_lay_0 : decode cX6_lay 0 = .ok (.aload_n 0, 1) := by decide +kernel
theorem dX6_lay_1 : decode cX6_lay 1 = .ok (.aload_n 1, 1) := by decide +kernel
theorem dX6_lay_2 : decode cX6_lay 2 = .ok (.getfield 66, 3) := by decide +kernel
theorem dX6_lay_5 : decode cX6_lay 5 = .ok (.bipush 8, 2) := by decide +kernel
theorem dX6_lay_7 : decode cX6_lay 7 = .ok (.invokestatic 69, 3) := by decide +kernel
theorem dX6_lay_10 : decode cX6_lay 10 = .ok (.putfield 22, 3) := by decide +kernel
theorem dX6_lay_13 : decode cX6_lay 13 = .ok (.aload_n 1, 1) := by decide +kernel
theorem dX6_lay_14 : decode cX6_lay 14 = .ok (.getfield 75, 3) := by decide +kernel
theorem dX6_lay_17 : decode cX6_lay 17 = .ok (.iconst 0, 1) := by decide +kernel
theorem dX6_lay_18 : decode cX6_lay 18 = .ok (.aload_n 0, 1) := by decide +kernel
theorem dX6_lay_19 : decode cX6_lay 19 = .ok (.getfield 28, 3) := by decide +kernel
theorem dX6_lay_22 : decode cX6_lay 22 = .ok (.iconst 0, 1) := by decide +kernel
theorem dX6_lay_23 : decode cX6_lay 23 = .ok (.bipush 7, 2) := by decide +kernel
theorem dX6_lay_25 : decode cX6_lay 25 = .ok (.invokestatic 76, 3) := by decide +kernel
theorem dX6_lay_28 : decode cX6_lay 28 = .ok (.aload_n 0, 1) := by decide +kernel
theorem dX6_lay_29 : decode cX6_lay 29 = .ok (.iconst 0, 1) := by decide +kernel
theorem dX6_lay_30 : decode cX6_lay 30 = .ok (.putfield 25, 3) := by decide +kernel
theorem dX6_lay_33 : decode cX6_lay 33 = .ok (.iconst 0, 1) := by decide +kernel
theorem dX6_lay_34 : decode cX6_lay 34 = .ok (.istore 5, 2) := by decide +kernel
theorem dX6_lay_36 : decode cX6_lay 36 = .ok (.iload 5, 2) := by decide +kernel
theorem dX6_lay_38 : decode cX6_lay 38 = .ok (.iconst 4, 1) := by decide +kernel
theorem dX6_lay_39 : decode cX6_lay 39 = .ok (.if_icmp .ge 29, 3) := by decide +kernel
theorem dX6_lay_42 : decode cX6_lay 42 = .ok (.aload_n 0, 1) := by decide +kernel
theorem dX6_lay_43 : decode cX6_lay 43 = .ok (.aload_n 0, 1) := by decide +kernel
theorem dX6_lay_44 : decode cX6_lay 44 = .ok (.getfield 25, 3) := by decide +kernel
theorem dX6_lay_47 : decode cX6_lay 47 = .ok (.aload_n 0, 1) := by decide +kernel
theorem dX6_lay_48 : decode cX6_lay 48 = .ok (.getfield 28, 3) := by decide +kernel
theorem dX6_lay_51 : decode cX6_lay 51 = .ok (.iconst 2, 1) := by decide +kernel
theorem dX6_lay_52 : decode cX6_lay 52 = .ok (.iload 5, 2) := by decide +kernel
theorem dX6_lay_54 : decode cX6_lay 54 = .ok (.iadd, 1) := by decide +kernel
theorem dX6_lay_55 : decode cX6_lay 55 = .ok (.iaload, 1) := by decide +kernel
theorem dX6_lay_56 : decode cX6_lay 56 = .ok (.invokestatic 82, 3) := by decide +kernel
theorem dX6_lay_59 : decode cX6_lay 59 = .ok (.putfield 25, 3) := by decide +kernel
theorem dX6_lay_62 : decode cX6_lay 62 = .ok (.iinc 5 1, 3) := by decide +kernel
theorem dX6_lay_65 : decode cX6_lay 65 = .ok (.goto (-29), 3) := by decide +kernel
theorem dX6_lay_68 : decode cX6_lay 68 = .ok (.aload_n 0, 1) := by decide +kernel
theorem dX6_lay_69 : decode cX6_lay 69 = .ok (.aload_n 1, 1) := by decide +kernel
theorem dX6_lay_70 : decode cX6_lay 70 = .ok (.invokevirtual 85, 3) := by decide +kernel
theorem dX6_lay_73 : decode cX6_lay 73 = .ok (.aload_n 0, 1) := by decide +kernel
theorem dX6_lay_74 : decode cX6_lay 74 = .ok (.getfield 35, 3) := by decide +kernel
theorem dX6_lay_77 : decode cX6_lay 77 = .ok (.iconst 0, 1) := by decide +kernel
theorem dX6_lay_78 : decode cX6_lay 78 = .ok (.invokestatic 89, 3) := by decide +kernel
theorem dX6_lay_81 : decode cX6_lay 81 = .ok (.iconst 0, 1) := by decide +kernel
theorem dX6_lay_82 : decode cX6_lay 82 = .ok (.istore 5, 2) := by decide +kernel
theorem dX6_lay_84 : decode cX6_lay 84 = .ok (.iload 5, 2) := by decide +kernel
theorem dX6_lay_86 : decode cX6_lay 86 = .ok (.iload 4, 2) := by decide +kernel
theorem dX6_lay_88 : decode cX6_lay 88 = .ok (.if_icmp .ge 34, 3) := by decide +kernel
theorem dX6_lay_91 : decode cX6_lay 91 = .ok (.iload 5, 2) := by decide +kernel
theorem dX6_lay_93 : decode cX6_lay 93 = .ok (.aload_n 3, 1) := by decide +kernel
theorem dX6_lay_94 : decode cX6_lay 94 = .ok (.arraylength, 1) := by decide +kernel
theorem dX6_lay_95 : decode cX6_lay 95 = .ok (.if_icmp .ge 27, 3) := by decide +kernel
theorem dX6_lay_98 : decode cX6_lay 98 = .ok (.aload_n 3, 1) := by decide +kernel
theorem dX6_lay_99 : decode cX6_lay 99 = .ok (.iload 5, 2) := by decide +kernel
theorem dX6_lay_101 : decode cX6_lay 101 = .ok (.aaload, 1) := by decide +kernel
theorem dX6_lay_102 : decode cX6_lay 102 = .ok (.astore 6, 2) := by decide +kernel
theorem dX6_lay_104 : decode cX6_lay 104 = .ok (.aload 6, 2) := by decide +kernel
theorem dX6_lay_106 : decode cX6_lay 106 = .ok (.ifnull 10, 3) := by decide +kernel
theorem dX6_lay_109 : decode cX6_lay 109 = .ok (.aload_n 0, 1) := by decide +kernel
theorem dX6_lay_110 : decode cX6_lay 110 = .ok (.aload 6, 2) := by decide +kernel
theorem dX6_lay_112 : decode cX6_lay 112 = .ok (.iload_n 2, 1) := by decide +kernel
theorem dX6_lay_113 : decode cX6_lay 113 = .ok (.invokevirtual 95, 3) := by decide +kernel
theorem dX6_lay_116 : decode cX6_lay 116 = .ok (.iinc 5 1, 3) := by decide +kernel
theorem dX6_lay_119 : decode cX6_lay 119 = .ok (.goto (-35), 3) := by decide +kernel
theorem dX6_lay_122 : decode cX6_lay 122 = .ok (.aload_n 0, 1) := by decide +kernel
theorem dX6_lay_123 : decode cX6_lay 123 = .ok (.invokevirtual 99, 3) := by decide +kernel
theorem dX6_lay_126 : decode cX6_lay 126 = .ok (.aload_n 0, 1) := by decide +kernel
theorem dX6_lay_127 : decode cX6_lay 127 = .ok (.iconst 1, 1) := by decide +kernel
theorem dX6_lay_128 : decode cX6_lay 128 = .ok (.putfield 11, 3) := by decide +kernel
theorem dX6_lay_131 : decode cX6_lay 131 = .ok (.aload_n 0, 1) := by decide +kernel
theorem dX6_lay_132 : decode cX6_lay 132 = .ok (.iconst 0, 1) := by decide +kernel
theorem dX6_lay_133 : decode cX6_lay 133 = .ok (.putfield 15, 3) := by decide +kernel
theorem dX6_lay_136 : decode cX6_lay 136 = .ok (.return_, 1) := by decide +kernel
theorem dX6_findFirstWood_0 : decode cX6_findFirstWood 0 = .ok (.iconst 0, 1) := by decide +kernel
theorem dX6_findFirstWood_1 : decode cX6_findFirstWood 1 = .ok (.istore_n 2, 1) := by decide +kernel
theorem dX6_findFirstWood_2 : decode cX6_findFirstWood 2 = .ok (.iload_n 2, 1) := by decide +kernel
theorem dX6_findFirstWood_3 : decode cX6_findFirstWood 3 = .ok (.aload_n 0, 1) := by decide +kernel
theorem dX6_findFirstWood_4 : decode cX6_findFirstWood 4 = .ok (.getfield 22, 3) := by decide +kernel
theorem dX6_findFirstWood_7 : decode cX6_findFirstWood 7 = .ok (.if_icmp .ge 63, 3) := by decide +kernel
theorem dX6_findFirstWood_10 : decode cX6_findFirstWood 10 = .ok (.iconst 0, 1) := by decide +kernel
theorem dX6_findFirstWood_11 : decode cX6_findFirstWood 11 = .ok (.istore_n 3, 1) := by decide +kernel
theorem dX6_findFirstWood_12 : decode cX6_findFirstWood 12 = .ok (.iload_n 3, 1) := by decide +kernel
theorem dX6_findFirstWood_13 : decode cX6_findFirstWood 13 = .ok (.bipush 12, 2) := by decide +kernel
theorem dX6_findFirstWood_15 : decode cX6_findFirstWood 15 = .ok (.if_icmp .ge 49, 3) := by decide +kernel
theorem dX6_findFirstWood_18 : decode cX6_findFirstWood 18 = .ok (.iconst 0, 1) := by decide +kernel
theorem dX6_findFirstWood_19 : decode cX6_findFirstWood 19 = .ok (.istore 4, 2) := by decide +kernel
theorem dX6_findFirstWood_21 : decode cX6_findFirstWood 21 = .ok (.iload 4, 2) := by decide +kernel
theorem dX6_findFirstWood_23 : decode cX6_findFirstWood 23 = .ok (.bipush 6, 2) := by decide +kernel
theorem dX6_findFirstWood_25 : decode cX6_findFirstWood 25 = .ok (.if_icmp .ge 20, 3) := by decide +kernel
theorem dX6_findFirstWood_28 : decode cX6_findFirstWood 28 = .ok (.aload_n 1, 1) := by decide +kernel
theorem dX6_findFirstWood_29 : decode cX6_findFirstWood 29 = .ok (.iload 4, 2) := by decide +kernel
theorem dX6_findFirstWood_31 : decode cX6_findFirstWood 31 = .ok (.iload_n 3, 1) := by decide +kernel
theorem dX6_findFirstWood_32 : decode cX6_findFirstWood 32 = .ok (.iload_n 2, 1) := by decide +kernel
theorem dX6_findFirstWood_33 : decode cX6_findFirstWood 33 = .ok (.invokevirtual 102, 3) := by decide +kernel
theorem dX6_findFirstWood_36 : decode cX6_findFirstWood 36 = .ok (.ifCond .ne 9, 3) := by decide +kernel
theorem dX6_findFirstWood_39 : decode cX6_findFirstWood 39 = .ok (.iinc 4 1, 3) := by decide +kernel
theorem dX6_findFirstWood_42 : decode cX6_findFirstWood 42 = .ok (.goto (-21), 3) := by decide +kernel
theorem dX6_findFirstWood_45 : decode cX6_findFirstWood 45 = .ok (.aload_n 0, 1) := by decide +kernel
theorem dX6_findFirstWood_46 : decode cX6_findFirstWood 46 = .ok (.getfield 32, 3) := by decide +kernel
theorem dX6_findFirstWood_49 : decode cX6_findFirstWood 49 = .ok (.iload_n 2, 1) := by decide +kernel
theorem dX6_findFirstWood_50 : decode cX6_findFirstWood 50 = .ok (.bipush 12, 2) := by decide +kernel
theorem dX6_findFirstWood_52 : decode cX6_findFirstWood 52 = .ok (.imul, 1) := by decide +kernel
theorem dX6_findFirstWood_53 : decode cX6_findFirstWood 53 = .ok (.iload_n 3, 1) := by decide +kernel
theorem dX6_findFirstWood_54 : decode cX6_findFirstWood 54 = .ok (.iadd, 1) := by decide +kernel
theorem dX6_findFirstWood_55 : decode cX6_findFirstWood 55 = .ok (.iload 4, 2) := by decide +kernel
theorem dX6_findFirstWood_57 : decode cX6_findFirstWood 57 = .ok (.iastore, 1) := by decide +kernel
theorem dX6_findFirstWood_58 : decode cX6_findFirstWood 58 = .ok (.iinc 3 1, 3) := by decide +kernel
theorem dX6_findFirstWood_61 : decode cX6_findFirstWood 61 = .ok (.goto (-49), 3) := by decide +kernel
theorem dX6_findFirstWood_64 : decode cX6_findFirstWood 64 = .ok (.iinc 2 1, 3) := by decide +kernel
theorem dX6_findFirstWood_67 : decode cX6_findFirstWood 67 = .ok (.goto (-65), 3) := by decide +kernel
theorem dX6_findFirstWood_70 : decode cX6_findFirstWood 70 = .ok (.return_, 1) := by decide +kernel
theorem dX6_mark_0 : decode cX6_mark 0 = .ok (.aload_n 0, 1) := by decide +kernel
theorem dX6_mark_1 : decode cX6_mark 1 = .ok (.getfield 22, 3) := by decide +kernel
theorem dX6_mark_4 : decode cX6_mark 4 = .ok (.aload_n 1, 1) := by decide +kernel
theorem dX6_mark_5 : decode cX6_mark 5 = .ok (.getfield 106, 3) := by decide +kernel
theorem dX6_mark_8 : decode cX6_mark 8 = .ok (.aload_n 1, 1) := by decide +kernel
theorem dX6_mark_9 : decode cX6_mark 9 = .ok (.aload_n 0, 1) := by decide +kernel
theorem dX6_mark_10 : decode cX6_mark 10 = .ok (.getfield 22, 3) := by decide +kernel
theorem dX6_mark_13 : decode cX6_mark 13 = .ok (.invokevirtual 111, 3) := by decide +kernel
theorem dX6_mark_16 : decode cX6_mark 16 = .ok (.iadd, 1) := by decide +kernel
theorem dX6_mark_17 : decode cX6_mark 17 = .ok (.invokestatic 69, 3) := by decide +kernel
theorem dX6_mark_20 : decode cX6_mark 20 = .ok (.istore_n 3, 1) := by decide +kernel
theorem dX6_mark_21 : decode cX6_mark 21 = .ok (.aload_n 1, 1) := by decide +kernel
theorem dX6_mark_22 : decode cX6_mark 22 = .ok (.invokevirtual 115, 3) := by decide +kernel
theorem dX6_mark_25 : decode cX6_mark 25 = .ok (.istore 4, 2) := by decide +kernel
theorem dX6_mark_27 : decode cX6_mark 27 = .ok (.iconst 0, 1) := by decide +kernel
theorem dX6_mark_28 : decode cX6_mark 28 = .ok (.istore 5, 2) := by decide +kernel
theorem dX6_mark_30 : decode cX6_mark 30 = .ok (.iload 5, 2) := by decide +kernel
theorem dX6_mark_32 : decode cX6_mark 32 = .ok (.sipush 144, 3) := by decide +kernel
theorem dX6_mark_35 : decode cX6_mark 35 = .ok (.if_icmp .ge 100, 3) := by decide +kernel
theorem dX6_mark_38 : decode cX6_mark 38 = .ok (.iload 5, 2) := by decide +kernel
theorem dX6_mark_40 : decode cX6_mark 40 = .ok (.bipush 12, 2) := by decide +kernel
theorem dX6_mark_42 : decode cX6_mark 42 = .ok (.irem, 1) := by decide +kernel
theorem dX6_mark_43 : decode cX6_mark 43 = .ok (.istore 6, 2) := by decide +kernel
theorem dX6_mark_45 : decode cX6_mark 45 = .ok (.iload 5, 2) := by decide +kernel
theorem dX6_mark_47 : decode cX6_mark 47 = .ok (.bipush 12, 2) := by decide +kernel
theorem dX6_mark_49 : decode cX6_mark 49 = .ok (.idiv, 1) := by decide +kernel
theorem dX6_mark_50 : decode cX6_mark 50 = .ok (.istore 7, 2) := by decide +kernel
theorem dX6_mark_52 : decode cX6_mark 52 = .ok (.aload_n 1, 1) := by decide +kernel
theorem dX6_mark_53 : decode cX6_mark 53 = .ok (.iload_n 2, 1) := by decide +kernel
theorem dX6_mark_54 : decode cX6_mark 54 = .ok (.iload 6, 2) := by decide +kernel
theorem dX6_mark_56 : decode cX6_mark 56 = .ok (.iload 7, 2) := by decide +kernel
theorem dX6_mark_58 : decode cX6_mark 58 = .ok (.invokestatic 119, 3) := by decide +kernel
theorem dX6_mark_61 : decode cX6_mark 61 = .ok (.invokestatic 123, 3) := by decide +kernel
theorem dX6_mark_64 : decode cX6_mark 64 = .ok (.iload_n 2, 1) := by decide +kernel
theorem dX6_mark_65 : decode cX6_mark 65 = .ok (.iload 6, 2) := by decide +kernel
theorem dX6_mark_67 : decode cX6_mark 67 = .ok (.iload 7, 2) := by decide +kernel
theorem dX6_mark_69 : decode cX6_mark 69 = .ok (.invokestatic 126, 3) := by decide +kernel
theorem dX6_mark_72 : decode cX6_mark 72 = .ok (.invokestatic 123, 3) := by decide +kernel
theorem dX6_mark_75 : decode cX6_mark 75 = .ok (.invokevirtual 129, 3) := by decide +kernel
theorem dX6_mark_78 : decode cX6_mark 78 = .ok (.ifCond .eq 51, 3) := by decide +kernel
theorem dX6_mark_81 : decode cX6_mark 81 = .ok (.aload_n 1, 1) := by decide +kernel
theorem dX6_mark_82 : decode cX6_mark 82 = .ok (.getfield 106, 3) := by decide +kernel
theorem dX6_mark_85 : decode cX6_mark 85 = .ok (.istore 8, 2) := by decide +kernel
theorem dX6_mark_87 : decode cX6_mark 87 = .ok (.iload 8, 2) := by decide +kernel
theorem dX6_mark_89 : decode cX6_mark 89 = .ok (.iload_n 3, 1) := by decide +kernel
theorem dX6_mark_90 : decode cX6_mark 90 = .ok (.if_icmp .ge 39, 3) := by decide +kernel
theorem dX6_mark_93 : decode cX6_mark 93 = .ok (.iload 8, 2) := by decide +kernel
theorem dX6_mark_95 : decode cX6_mark 95 = .ok (.sipush 144, 3) := by decide +kernel
theorem dX6_mark_98 : decode cX6_mark 98 = .ok (.imul, 1) := by decide +kernel
theorem dX6_mark_99 : decode cX6_mark 99 = .ok (.iload 5, 2) := by decide +kernel
theorem dX6_mark_101 : decode cX6_mark 101 = .ok (.iadd, 1) := by decide +kernel
theorem dX6_mark_102 : decode cX6_mark 102 = .ok (.istore 9, 2) := by decide +kernel
theorem dX6_mark_104 : decode cX6_mark 104 = .ok (.aload_n 0, 1) := by decide +kernel
theorem dX6_mark_105 : decode cX6_mark 105 = .ok (.getfield 35, 3) := by decide +kernel
theorem dX6_mark_108 : decode cX6_mark 108 = .ok (.iload 9, 2) := by decide +kernel
theorem dX6_mark_110 : decode cX6_mark 110 = .ok (.aload_n 0, 1) := by decide +kernel
theorem dX6_mark_111 : decode cX6_mark 111 = .ok (.getfield 35, 3) := by decide +kernel
theorem dX6_mark_114 : decode cX6_mark 114 = .ok (.iload 9, 2) := by decide +kernel
theorem dX6_mark_116 : decode cX6_mark 116 = .ok (.iaload, 1) := by decide +kernel
theorem dX6_mark_117 : decode cX6_mark 117 = .ok (.iload 4, 2) := by decide +kernel
theorem dX6_mark_119 : decode cX6_mark 119 = .ok (.invokestatic 82, 3) := by decide +kernel
theorem dX6_mark_122 : decode cX6_mark 122 = .ok (.iastore, 1) := by decide +kernel
theorem dX6_mark_123 : decode cX6_mark 123 = .ok (.iinc 8 1, 3) := by decide +kernel
theorem dX6_mark_126 : decode cX6_mark 126 = .ok (.goto (-39), 3) := by decide +kernel
theorem dX6_mark_129 : decode cX6_mark 129 = .ok (.iinc 5 1, 3) := by decide +kernel
theorem dX6_mark_132 : decode cX6_mark 132 = .ok (.goto (-102), 3) := by decide +kernel
theorem dX6_mark_135 : decode cX6_mark 135 = .ok (.return_, 1) := by decide +kernel
theorem dX6_addUp_0 : decode cX6_addUp 0 = .ok (.iconst 0, 1) := by decide +kernel
theorem dX6_addUp_1 : decode cX6_addUp 1 = .ok (.istore_n 1, 1) := by decide +kernel
theorem dX6_addUp_2 : decode cX6_addUp 2 = .ok (.iload_n 1, 1) := by decide +kernel
theorem dX6_addUp_3 : decode cX6_addUp 3 = .ok (.bipush 12, 2) := by decide +kernel
theorem dX6_addUp_5 : decode cX6_addUp 5 = .ok (.if_icmp .ge 145, 3) := by decide +kernel
theorem dX6_addUp_8 : decode cX6_addUp 8 = .ok (.iconst 0, 1) := by decide +kernel
theorem dX6_addUp_9 : decode cX6_addUp 9 = .ok (.istore_n 2, 1) := by decide +kernel
theorem dX6_addUp_10 : decode cX6_addUp 10 = .ok (.iload_n 2, 1) := by decide +kernel
theorem dX6_addUp_11 : decode cX6_addUp 11 = .ok (.aload_n 0, 1) := by decide +kernel
theorem dX6_addUp_12 : decode cX6_addUp 12 = .ok (.getfield 22, 3) := by decide +kernel
theorem dX6_addUp_15 : decode cX6_addUp 15 = .ok (.if_icmp .ge 129, 3) := by decide +kernel
theorem dX6_addUp_18 : decode cX6_addUp 18 = .ok (.iconst 0, 1) := by decide +kernel
theorem dX6_addUp_19 : decode cX6_addUp 19 = .ok (.istore_n 3, 1) := by decide +kernel
theorem dX6_addUp_20 : decode cX6_addUp 20 = .ok (.iconst 0, 1) := by decide +kernel
theorem dX6_addUp_21 : decode cX6_addUp 21 = .ok (.istore 4, 2) := by decide +kernel
theorem dX6_addUp_23 : decode cX6_addUp 23 = .ok (.iconst 0, 1) := by decide +kernel
theorem dX6_addUp_24 : decode cX6_addUp 24 = .ok (.istore 5, 2) := by decide +kernel
theorem dX6_addUp_26 : decode cX6_addUp 26 = .ok (.iload 5, 2) := by decide +kernel
theorem dX6_addUp_28 : decode cX6_addUp 28 = .ok (.bipush 12, 2) := by decide +kernel
theorem dX6_addUp_30 : decode cX6_addUp 30 = .ok (.if_icmp .ge 108, 3) := by decide +kernel
theorem dX6_addUp_33 : decode cX6_addUp 33 = .ok (.aload_n 0, 1) := by decide +kernel
theorem dX6_addUp_34 : decode cX6_addUp 34 = .ok (.getfield 35, 3) := by decide +kernel
theorem dX6_addUp_37 : decode cX6_addUp 37 = .ok (.iload_n 2, 1) := by decide +kernel
theorem dX6_addUp_38 : decode cX6_addUp 38 = .ok (.sipush 144, 3) := by decide +kernel
theorem dX6_addUp_41 : decode cX6_addUp 41 = .ok (.imul, 1) := by decide +kernel
theorem dX6_addUp_42 : decode cX6_addUp 42 = .ok (.iload_n 1, 1) := by decide +kernel
theorem dX6_addUp_43 : decode cX6_addUp 43 = .ok (.bipush 12, 2) := by decide +kernel
theorem dX6_addUp_45 : decode cX6_addUp 45 = .ok (.imul, 1) := by decide +kernel
theorem dX6_addUp_46 : decode cX6_addUp 46 = .ok (.iadd, 1) := by decide +kernel
theorem dX6_addUp_47 : decode cX6_addUp 47 = .ok (.iload 5, 2) := by decide +kernel
theorem dX6_addUp_49 : decode cX6_addUp 49 = .ok (.iadd, 1) := by decide +kernel
theorem dX6_addUp_50 : decode cX6_addUp 50 = .ok (.iaload, 1) := by decide +kernel
theorem dX6_addUp_51 : decode cX6_addUp 51 = .ok (.istore 6, 2) := by decide +kernel
theorem dX6_addUp_53 : decode cX6_addUp 53 = .ok (.iload_n 3, 1) := by decide +kernel
theorem dX6_addUp_54 : decode cX6_addUp 54 = .ok (.iload 6, 2) := by decide +kernel
theorem dX6_addUp_56 : decode cX6_addUp 56 = .ok (.iadd, 1) := by decide +kernel
theorem dX6_addUp_57 : decode cX6_addUp 57 = .ok (.istore_n 3, 1) := by decide +kernel
theorem dX6_addUp_58 : decode cX6_addUp 58 = .ok (.iload 4, 2) := by decide +kernel
theorem dX6_addUp_60 : decode cX6_addUp 60 = .ok (.iload 6, 2) := by decide +kernel
theorem dX6_addUp_62 : decode cX6_addUp 62 = .ok (.bipush 9, 2) := by decide +kernel
theorem dX6_addUp_64 : decode cX6_addUp 64 = .ok (.if_icmp .ne 7, 3) := by decide +kernel
theorem dX6_addUp_67 : decode cX6_addUp 67 = .ok (.iconst 1, 1) := by decide +kernel
theorem dX6_addUp_68 : decode cX6_addUp 68 = .ok (.goto 4, 3) := by decide +kernel
theorem dX6_addUp_71 : decode cX6_addUp 71 = .ok (.iconst 0, 1) := by decide +kernel
theorem dX6_addUp_72 : decode cX6_addUp 72 = .ok (.iadd, 1) := by decide +kernel
theorem dX6_addUp_73 : decode cX6_addUp 73 = .ok (.istore 4, 2) := by decide +kernel
theorem dX6_addUp_75 : decode cX6_addUp 75 = .ok (.iload_n 1, 1) := by decide +kernel
theorem dX6_addUp_76 : decode cX6_addUp 76 = .ok (.bipush 117, 2) := by decide +kernel
theorem dX6_addUp_78 : decode cX6_addUp 78 = .ok (.imul, 1) := by decide +kernel
theorem dX6_addUp_79 : decode cX6_addUp 79 = .ok (.iload_n 2, 1) := by decide +kernel
theorem dX6_addUp_80 : decode cX6_addUp 80 = .ok (.iconst 1, 1) := by decide +kernel
theorem dX6_addUp_81 : decode cX6_addUp 81 = .ok (.iadd, 1) := by decide +kernel
theorem dX6_addUp_82 : decode cX6_addUp 82 = .ok (.bipush 13, 2) := by decide +kernel
theorem dX6_addUp_84 : decode cX6_addUp 84 = .ok (.imul, 1) := by decide +kernel
theorem dX6_addUp_85 : decode cX6_addUp 85 = .ok (.iadd, 1) := by decide +kernel
theorem dX6_addUp_86 : decode cX6_addUp 86 = .ok (.iload 5, 2) := by decide +kernel
theorem dX6_addUp_88 : decode cX6_addUp 88 = .ok (.iadd, 1) := by decide +kernel
theorem dX6_addUp_89 : decode cX6_addUp 89 = .ok (.iconst 1, 1) := by decide +kernel
theorem dX6_addUp_90 : decode cX6_addUp 90 = .ok (.iadd, 1) := by decide +kernel
theorem dX6_addUp_91 : decode cX6_addUp 91 = .ok (.istore 7, 2) := by decide +kernel
theorem dX6_addUp_93 : decode cX6_addUp 93 = .ok (.aload_n 0, 1) := by decide +kernel
theorem dX6_addUp_94 : decode cX6_addUp 94 = .ok (.getfield 38, 3) := by decide +kernel
theorem dX6_addUp_97 : decode cX6_addUp 97 = .ok (.iload 7, 2) := by decide +kernel
theorem dX6_addUp_99 : decode cX6_addUp 99 = .ok (.aload_n 0, 1) := by decide +kernel
theorem dX6_addUp_100 : decode cX6_addUp 100 = .ok (.getfield 38, 3) := by decide +kernel
theorem dX6_addUp_103 : decode cX6_addUp 103 = .ok (.iload 7, 2) := by decide +kernel
theorem dX6_addUp_105 : decode cX6_addUp 105 = .ok (.bipush 13, 2) := by decide +kernel
theorem dX6_addUp_107 : decode cX6_addUp 107 = .ok (.isub, 1) := by decide +kernel
theorem dX6_addUp_108 : decode cX6_addUp 108 = .ok (.iaload, 1) := by decide +kernel
theorem dX6_addUp_109 : decode cX6_addUp 109 = .ok (.iload_n 3, 1) := by decide +kernel
theorem dX6_addUp_110 : decode cX6_addUp 110 = .ok (.iadd, 1) := by decide +kernel
theorem dX6_addUp_111 : decode cX6_addUp 111 = .ok (.iastore, 1) := by decide +kernel
theorem dX6_addUp_112 : decode cX6_addUp 112 = .ok (.aload_n 0, 1) := by decide +kernel
theorem dX6_addUp_113 : decode cX6_addUp 113 = .ok (.getfield 41, 3) := by decide +kernel
theorem dX6_addUp_116 : decode cX6_addUp 116 = .ok (.iload 7, 2) := by decide +kernel
theorem dX6_addUp_118 : decode cX6_addUp 118 = .ok (.aload_n 0, 1) := by decide +kernel
theorem dX6_addUp_119 : decode cX6_addUp 119 = .ok (.getfield 41, 3) := by decide +kernel
theorem dX6_addUp_122 : decode cX6_addUp 122 = .ok (.iload 7, 2) := by decide +kernel
theorem dX6_addUp_124 : decode cX6_addUp 124 = .ok (.bipush 13, 2) := by decide +kernel
theorem dX6_addUp_126 : decode cX6_addUp 126 = .ok (.isub, 1) := by decide +kernel
theorem dX6_addUp_127 : decode cX6_addUp 127 = .ok (.iaload, 1) := by decide +kernel
theorem dX6_addUp_128 : decode cX6_addUp 128 = .ok (.iload 4, 2) := by decide +kernel
theorem dX6_addUp_130 : decode cX6_addUp 130 = .ok (.iadd, 1) := by decide +kernel
theorem dX6_addUp_131 : decode cX6_addUp 131 = .ok (.iastore, 1) := by decide +kernel
theorem dX6_addUp_132 : decode cX6_addUp 132 = .ok (.iinc 5 1, 3) := by decide +kernel
theorem dX6_addUp_135 : decode cX6_addUp 135 = .ok (.goto (-109), 3) := by decide +kernel
theorem dX6_addUp_138 : decode cX6_addUp 138 = .ok (.iinc 2 1, 3) := by decide +kernel
theorem dX6_addUp_141 : decode cX6_addUp 141 = .ok (.goto (-131), 3) := by decide +kernel
theorem dX6_addUp_144 : decode cX6_addUp 144 = .ok (.iinc 1 1, 3) := by decide +kernel
theorem dX6_addUp_147 : decode cX6_addUp 147 = .ok (.goto (-145), 3) := by decide +kernel
theorem dX6_addUp_150 : decode cX6_addUp 150 = .ok (.return_, 1) := by decide +kernel
theorem dX6_sumOf_0 : decode cX6_sumOf 0 = .ok (.iload_n 1, 1) := by decide +kernel
theorem dX6_sumOf_1 : decode cX6_sumOf 1 = .ok (.bipush 117, 2) := by decide +kernel
theorem dX6_sumOf_3 : decode cX6_sumOf 3 = .ok (.imul, 1) := by decide +kernel
theorem dX6_sumOf_4 : decode cX6_sumOf 4 = .ok (.iload 4, 2) := by decide +kernel
theorem dX6_sumOf_6 : decode cX6_sumOf 6 = .ok (.bipush 13, 2) := by decide +kernel
theorem dX6_sumOf_8 : decode cX6_sumOf 8 = .ok (.imul, 1) := by decide +kernel
theorem dX6_sumOf_9 : decode cX6_sumOf 9 = .ok (.iadd, 1) := by decide +kernel
theorem dX6_sumOf_10 : decode cX6_sumOf 10 = .ok (.istore 6, 2) := by decide +kernel
theorem dX6_sumOf_12 : decode cX6_sumOf 12 = .ok (.iload_n 1, 1) := by decide +kernel
theorem dX6_sumOf_13 : decode cX6_sumOf 13 = .ok (.bipush 117, 2) := by decide +kernel
theorem dX6_sumOf_15 : decode cX6_sumOf 15 = .ok (.imul, 1) := by decide +kernel
theorem dX6_sumOf_16 : decode cX6_sumOf 16 = .ok (.iload 5, 2) := by decide +kernel
theorem dX6_sumOf_18 : decode cX6_sumOf 18 = .ok (.iconst 1, 1) := by decide +kernel
theorem dX6_sumOf_19 : decode cX6_sumOf 19 = .ok (.iadd, 1) := by decide +kernel
theorem dX6_sumOf_20 : decode cX6_sumOf 20 = .ok (.bipush 13, 2) := by decide +kernel
theorem dX6_sumOf_22 : decode cX6_sumOf 22 = .ok (.imul, 1) := by decide +kernel
theorem dX6_sumOf_23 : decode cX6_sumOf 23 = .ok (.iadd, 1) := by decide +kernel
theorem dX6_sumOf_24 : decode cX6_sumOf 24 = .ok (.istore 7, 2) := by decide +kernel
theorem dX6_sumOf_26 : decode cX6_sumOf 26 = .ok (.aload_n 0, 1) := by decide +kernel
theorem dX6_sumOf_27 : decode cX6_sumOf 27 = .ok (.iload 7, 2) := by decide +kernel
theorem dX6_sumOf_29 : decode cX6_sumOf 29 = .ok (.iload_n 3, 1) := by decide +kernel
theorem dX6_sumOf_30 : decode cX6_sumOf 30 = .ok (.iadd, 1) := by decide +kernel
theorem dX6_sumOf_31 : decode cX6_sumOf 31 = .ok (.iconst 1, 1) := by decide +kernel
theorem dX6_sumOf_32 : decode cX6_sumOf 32 = .ok (.iadd, 1) := by decide +kernel
theorem dX6_sumOf_33 : decode cX6_sumOf 33 = .ok (.iaload, 1) := by decide +kernel
theorem dX6_sumOf_34 : decode cX6_sumOf 34 = .ok (.aload_n 0, 1) := by decide +kernel
theorem dX6_sumOf_35 : decode cX6_sumOf 35 = .ok (.iload 7, 2) := by decide +kernel
theorem dX6_sumOf_37 : decode cX6_sumOf 37 = .ok (.iload_n 2, 1) := by decide +kernel
theorem dX6_sumOf_38 : decode cX6_sumOf 38 = .ok (.iadd, 1) := by decide +kernel
theorem dX6_sumOf_39 : decode cX6_sumOf 39 = .ok (.iaload, 1) := by decide +kernel
theorem dX6_sumOf_40 : decode cX6_sumOf 40 = .ok (.isub, 1) := by decide +kernel
theorem dX6_sumOf_41 : decode cX6_sumOf 41 = .ok (.aload_n 0, 1) := by decide +kernel
theorem dX6_sumOf_42 : decode cX6_sumOf 42 = .ok (.iload 6, 2) := by decide +kernel
theorem dX6_sumOf_44 : decode cX6_sumOf 44 = .ok (.iload_n 3, 1) := by decide +kernel
theorem dX6_sumOf_45 : decode cX6_sumOf 45 = .ok (.iadd, 1) := by decide +kernel
theorem dX6_sumOf_46 : decode cX6_sumOf 46 = .ok (.iconst 1, 1) := by decide +kernel
theorem dX6_sumOf_47 : decode cX6_sumOf 47 = .ok (.iadd, 1) := by decide +kernel
theorem dX6_sumOf_48 : decode cX6_sumOf 48 = .ok (.iaload, 1) := by decide +kernel
theorem dX6_sumOf_49 : decode cX6_sumOf 49 = .ok (.isub, 1) := by decide +kernel
theorem dX6_sumOf_50 : decode cX6_sumOf 50 = .ok (.aload_n 0, 1) := by decide +kernel
theorem dX6_sumOf_51 : decode cX6_sumOf 51 = .ok (.iload 6, 2) := by decide +kernel
theorem dX6_sumOf_53 : decode cX6_sumOf 53 = .ok (.iload_n 2, 1) := by decide +kernel
theorem dX6_sumOf_54 : decode cX6_sumOf 54 = .ok (.iadd, 1) := by decide +kernel
theorem dX6_sumOf_55 : decode cX6_sumOf 55 = .ok (.iaload, 1) := by decide +kernel
theorem dX6_sumOf_56 : decode cX6_sumOf 56 = .ok (.iadd, 1) := by decide +kernel
theorem dX6_sumOf_57 : decode cX6_sumOf 57 = .ok (.ireturn, 1) := by decide +kernel
theorem dX6_hurtOf_0 : decode cX6_hurtOf 0 = .ok (.aload_n 0, 1) := by decide +kernel
theorem dX6_hurtOf_1 : decode cX6_hurtOf 1 = .ok (.getfield 35, 3) := by decide +kernel
theorem dX6_hurtOf_4 : decode cX6_hurtOf 4 = .ok (.iload_n 3, 1) := by decide +kernel
theorem dX6_hurtOf_5 : decode cX6_hurtOf 5 = .ok (.sipush 144, 3) := by decide +kernel
theorem dX6_hurtOf_8 : decode cX6_hurtOf 8 = .ok (.imul, 1) := by decide +kernel
theorem dX6_hurtOf_9 : decode cX6_hurtOf 9 = .ok (.iload_n 2, 1) := by decide +kernel
theorem dX6_hurtOf_10 : decode cX6_hurtOf 10 = .ok (.bipush 12, 2) := by decide +kernel
theorem dX6_hurtOf_12 : decode cX6_hurtOf 12 = .ok (.imul, 1) := by decide +kernel
theorem dX6_hurtOf_13 : decode cX6_hurtOf 13 = .ok (.iadd, 1) := by decide +kernel
theorem dX6_hurtOf_14 : decode cX6_hurtOf 14 = .ok (.iload_n 1, 1) := by decide +kernel
theorem dX6_hurtOf_15 : decode cX6_hurtOf 15 = .ok (.iadd, 1) := by decide +kernel
theorem dX6_hurtOf_16 : decode cX6_hurtOf 16 = .ok (.iaload, 1) := by decide +kernel
theorem dX6_hurtOf_17 : decode cX6_hurtOf 17 = .ok (.ireturn, 1) := by decide +kernel
theorem dX6_firstColumnAt_0 : decode cX6_firstColumnAt 0 = .ok (.aload_n 0, 1) := by decide +kernel
theorem dX6_firstColumnAt_1 : decode cX6_firstColumnAt 1 = .ok (.getfield 32, 3) := by decide +kernel
theorem dX6_firstColumnAt_4 : decode cX6_firstColumnAt 4 = .ok (.iload_n 3, 1) := by decide +kernel
theorem dX6_firstColumnAt_5 : decode cX6_firstColumnAt 5 = .ok (.bipush 12, 2) := by decide +kernel
theorem dX6_firstColumnAt_7 : decode cX6_firstColumnAt 7 = .ok (.imul, 1) := by decide +kernel
theorem dX6_firstColumnAt_8 : decode cX6_firstColumnAt 8 = .ok (.iload_n 1, 1) := by decide +kernel
theorem dX6_firstColumnAt_9 : decode cX6_firstColumnAt 9 = .ok (.iadd, 1) := by decide +kernel
theorem dX6_firstColumnAt_10 : decode cX6_firstColumnAt 10 = .ok (.iaload, 1) := by decide +kernel
theorem dX6_firstColumnAt_11 : decode cX6_firstColumnAt 11 = .ok (.aload_n 0, 1) := by decide +kernel
theorem dX6_firstColumnAt_12 : decode cX6_firstColumnAt 12 = .ok (.getfield 32, 3) := by decide +kernel
theorem dX6_firstColumnAt_15 : decode cX6_firstColumnAt 15 = .ok (.iload_n 3, 1) := by decide +kernel
theorem dX6_firstColumnAt_16 : decode cX6_firstColumnAt 16 = .ok (.bipush 12, 2) := by decide +kernel
theorem dX6_firstColumnAt_18 : decode cX6_firstColumnAt 18 = .ok (.imul, 1) := by decide +kernel
theorem dX6_firstColumnAt_19 : decode cX6_firstColumnAt 19 = .ok (.iload_n 1, 1) := by decide +kernel
theorem dX6_firstColumnAt_20 : decode cX6_firstColumnAt 20 = .ok (.iadd, 1) := by decide +kernel
theorem dX6_firstColumnAt_21 : decode cX6_firstColumnAt 21 = .ok (.iload_n 2, 1) := by decide +kernel
theorem dX6_firstColumnAt_22 : decode cX6_firstColumnAt 22 = .ok (.iadd, 1) := by decide +kernel
theorem dX6_firstColumnAt_23 : decode cX6_firstColumnAt 23 = .ok (.iconst 1, 1) := by decide +kernel
theorem dX6_firstColumnAt_24 : decode cX6_firstColumnAt 24 = .ok (.isub, 1) := by decide +kernel
theorem dX6_firstColumnAt_25 : decode cX6_firstColumnAt 25 = .ok (.iaload, 1) := by decide +kernel
theorem dX6_firstColumnAt_26 : decode cX6_firstColumnAt 26 = .ok (.invokestatic 82, 3) := by decide +kernel
theorem dX6_firstColumnAt_29 : decode cX6_firstColumnAt 29 = .ok (.ireturn, 1) := by decide +kernel
theorem dX6_isAllWood_0 : decode cX6_isAllWood 0 = .ok (.aload_n 0, 1) := by decide +kernel
theorem dX6_isAllWood_1 : decode cX6_isAllWood 1 = .ok (.iload_n 1, 1) := by decide +kernel
theorem dX6_isAllWood_2 : decode cX6_isAllWood 2 = .ok (.iload_n 2, 1) := by decide +kernel
theorem dX6_isAllWood_3 : decode cX6_isAllWood 3 = .ok (.iload 5, 2) := by decide +kernel
theorem dX6_isAllWood_5 : decode cX6_isAllWood 5 = .ok (.invokevirtual 133, 3) := by decide +kernel
theorem dX6_isAllWood_8 : decode cX6_isAllWood 8 = .ok (.istore 6, 2) := by decide +kernel
theorem dX6_isAllWood_10 : decode cX6_isAllWood 10 = .ok (.iload_n 3, 1) := by decide +kernel
theorem dX6_isAllWood_11 : decode cX6_isAllWood 11 = .ok (.iload 6, 2) := by decide +kernel
theorem dX6_isAllWood_13 : decode cX6_isAllWood 13 = .ok (.if_icmp .lt 17, 3) := by decide +kernel
theorem dX6_isAllWood_16 : decode cX6_isAllWood 16 = .ok (.iload 4, 2) := by decide +kernel
theorem dX6_isAllWood_18 : decode cX6_isAllWood 18 = .ok (.bipush 11, 2) := by decide +kernel
theorem dX6_isAllWood_20 : decode cX6_isAllWood 20 = .ok (.iload 6, 2) := by decide +kernel
theorem dX6_isAllWood_22 : decode cX6_isAllWood 22 = .ok (.isub, 1) := by decide +kernel
theorem dX6_isAllWood_23 : decode cX6_isAllWood 23 = .ok (.if_icmp .gt 7, 3) := by decide +kernel
theorem dX6_isAllWood_26 : decode cX6_isAllWood 26 = .ok (.iconst 1, 1) := by decide +kernel
theorem dX6_isAllWood_27 : decode cX6_isAllWood 27 = .ok (.goto 4, 3) := by decide +kernel
theorem dX6_isAllWood_30 : decode cX6_isAllWood 30 = .ok (.iconst 0, 1) := by decide +kernel
theorem dX6_isAllWood_31 : decode cX6_isAllWood 31 = .ok (.ireturn, 1) := by decide +kernel
theorem dX6_gradeOf_0 : decode cX6_gradeOf 0 = .ok (.iload_n 1, 1) := by decide +kernel
theorem dX6_gradeOf_1 : decode cX6_gradeOf 1 = .ok (.iload_n 2, 1) := by decide +kernel
theorem dX6_gradeOf_2 : decode cX6_gradeOf 2 = .ok (.iadd, 1) := by decide +kernel
theorem dX6_gradeOf_3 : decode cX6_gradeOf 3 = .ok (.iconst 1, 1) := by decide +kernel
theorem dX6_gradeOf_4 : decode cX6_gradeOf 4 = .ok (.isub, 1) := by decide +kernel
theorem dX6_gradeOf_5 : decode cX6_gradeOf 5 = .ok (.istore 7, 2) := by decide +kernel
theorem dX6_gradeOf_7 : decode cX6_gradeOf 7 = .ok (.iload 4, 2) := by decide +kernel
theorem dX6_gradeOf_9 : decode cX6_gradeOf 9 = .ok (.iload_n 3, 1) := by decide +kernel
theorem dX6_gradeOf_10 : decode cX6_gradeOf 10 = .ok (.isub, 1) := by decide +kernel
theorem dX6_gradeOf_11 : decode cX6_gradeOf 11 = .ok (.iconst 1, 1) := by decide +kernel
theorem dX6_gradeOf_12 : decode cX6_gradeOf 12 = .ok (.iadd, 1) := by decide +kernel
theorem dX6_gradeOf_13 : decode cX6_gradeOf 13 = .ok (.iload 6, 2) := by decide +kernel
theorem dX6_gradeOf_15 : decode cX6_gradeOf 15 = .ok (.iload 5, 2) := by decide +kernel
theorem dX6_gradeOf_17 : decode cX6_gradeOf 17 = .ok (.isub, 1) := by decide +kernel
theorem dX6_gradeOf_18 : decode cX6_gradeOf 18 = .ok (.iconst 1, 1) := by decide +kernel
theorem dX6_gradeOf_19 : decode cX6_gradeOf 19 = .ok (.iadd, 1) := by decide +kernel
theorem dX6_gradeOf_20 : decode cX6_gradeOf 20 = .ok (.imul, 1) := by decide +kernel
theorem dX6_gradeOf_21 : decode cX6_gradeOf 21 = .ok (.istore 8, 2) := by decide +kernel
theorem dX6_gradeOf_23 : decode cX6_gradeOf 23 = .ok (.aload_n 0, 1) := by decide +kernel
theorem dX6_gradeOf_24 : decode cX6_gradeOf 24 = .ok (.getfield 38, 3) := by decide +kernel
theorem dX6_gradeOf_27 : decode cX6_gradeOf 27 = .ok (.iload_n 1, 1) := by decide +kernel
theorem dX6_gradeOf_28 : decode cX6_gradeOf 28 = .ok (.iload_n 3, 1) := by decide +kernel
theorem dX6_gradeOf_29 : decode cX6_gradeOf 29 = .ok (.iload 4, 2) := by decide +kernel
theorem dX6_gradeOf_31 : decode cX6_gradeOf 31 = .ok (.iload 5, 2) := by decide +kernel
theorem dX6_gradeOf_33 : decode cX6_gradeOf 33 = .ok (.iload 6, 2) := by decide +kernel
theorem dX6_gradeOf_35 : decode cX6_gradeOf 35 = .ok (.invokestatic 136, 3) := by decide +kernel
theorem dX6_gradeOf_38 : decode cX6_gradeOf 38 = .ok (.istore 9, 2) := by decide +kernel
theorem dX6_gradeOf_40 : decode cX6_gradeOf 40 = .ok (.aload_n 0, 1) := by decide +kernel
theorem dX6_gradeOf_41 : decode cX6_gradeOf 41 = .ok (.getfield 38, 3) := by decide +kernel
theorem dX6_gradeOf_44 : decode cX6_gradeOf 44 = .ok (.iload 7, 2) := by decide +kernel
theorem dX6_gradeOf_46 : decode cX6_gradeOf 46 = .ok (.iload_n 3, 1) := by decide +kernel
theorem dX6_gradeOf_47 : decode cX6_gradeOf 47 = .ok (.iload 4, 2) := by decide +kernel
theorem dX6_gradeOf_49 : decode cX6_gradeOf 49 = .ok (.iload 5, 2) := by decide +kernel
theorem dX6_gradeOf_51 : decode cX6_gradeOf 51 = .ok (.iload 6, 2) := by decide +kernel
theorem dX6_gradeOf_53 : decode cX6_gradeOf 53 = .ok (.invokestatic 136, 3) := by decide +kernel
theorem dX6_gradeOf_56 : decode cX6_gradeOf 56 = .ok (.istore 10, 2) := by decide +kernel
theorem dX6_gradeOf_58 : decode cX6_gradeOf 58 = .ok (.iload 9, 2) := by decide +kernel
theorem dX6_gradeOf_60 : decode cX6_gradeOf 60 = .ok (.iload 10, 2) := by decide +kernel
theorem dX6_gradeOf_62 : decode cX6_gradeOf 62 = .ok (.invokestatic 82, 3) := by decide +kernel
theorem dX6_gradeOf_65 : decode cX6_gradeOf 65 = .ok (.istore 11, 2) := by decide +kernel
theorem dX6_gradeOf_67 : decode cX6_gradeOf 67 = .ok (.iload 9, 2) := by decide +kernel
theorem dX6_gradeOf_69 : decode cX6_gradeOf 69 = .ok (.iload 10, 2) := by decide +kernel
theorem dX6_gradeOf_71 : decode cX6_gradeOf 71 = .ok (.invokestatic 69, 3) := by decide +kernel
theorem dX6_gradeOf_74 : decode cX6_gradeOf 74 = .ok (.istore 12, 2) := by decide +kernel
theorem dX6_gradeOf_76 : decode cX6_gradeOf 76 = .ok (.iload 11, 2) := by decide +kernel
theorem dX6_gradeOf_78 : decode cX6_gradeOf 78 = .ok (.ifCond .ne 5, 3) := by decide +kernel
theorem dX6_gradeOf_81 : decode cX6_gradeOf 81 = .ok (.iconst 0, 1) := by decide +kernel
theorem dX6_gradeOf_82 : decode cX6_gradeOf 82 = .ok (.ireturn, 1) := by decide +kernel
theorem dX6_gradeOf_83 : decode cX6_gradeOf 83 = .ok (.iload 12, 2) := by decide +kernel
theorem dX6_gradeOf_85 : decode cX6_gradeOf 85 = .ok (.ifCond .ne 15, 3) := by decide +kernel
theorem dX6_gradeOf_88 : decode cX6_gradeOf 88 = .ok (.bipush 8, 2) := by decide +kernel
theorem dX6_gradeOf_90 : decode cX6_gradeOf 90 = .ok (.iload 11, 2) := by decide +kernel
theorem dX6_gradeOf_92 : decode cX6_gradeOf 92 = .ok (.imul, 1) := by decide +kernel
theorem dX6_gradeOf_93 : decode cX6_gradeOf 93 = .ok (.iload 8, 2) := by decide +kernel
theorem dX6_gradeOf_95 : decode cX6_gradeOf 95 = .ok (.if_icmp .gt 5, 3) := by decide +kernel
theorem dX6_gradeOf_98 : decode cX6_gradeOf 98 = .ok (.iconst 1, 1) := by decide +kernel
theorem dX6_gradeOf_99 : decode cX6_gradeOf 99 = .ok (.ireturn, 1) := by decide +kernel
theorem dX6_gradeOf_100 : decode cX6_gradeOf 100 = .ok (.iconst 2, 1) := by decide +kernel
theorem dX6_gradeOf_101 : decode cX6_gradeOf 101 = .ok (.iload 11, 2) := by decide +kernel
theorem dX6_gradeOf_103 : decode cX6_gradeOf 103 = .ok (.imul, 1) := by decide +kernel
theorem dX6_gradeOf_104 : decode cX6_gradeOf 104 = .ok (.iload 8, 2) := by decide +kernel
theorem dX6_gradeOf_106 : decode cX6_gradeOf 106 = .ok (.if_icmp .gt 42, 3) := by decide +kernel
theorem dX6_gradeOf_109 : decode cX6_gradeOf 109 = .ok (.aload_n 0, 1) := by decide +kernel
theorem dX6_gradeOf_110 : decode cX6_gradeOf 110 = .ok (.getfield 41, 3) := by decide +kernel
theorem dX6_gradeOf_113 : decode cX6_gradeOf 113 = .ok (.iload_n 1, 1) := by decide +kernel
theorem dX6_gradeOf_114 : decode cX6_gradeOf 114 = .ok (.iload_n 3, 1) := by decide +kernel
theorem dX6_gradeOf_115 : decode cX6_gradeOf 115 = .ok (.iload 4, 2) := by decide +kernel
theorem dX6_gradeOf_117 : decode cX6_gradeOf 117 = .ok (.iload 5, 2) := by decide +kernel
theorem dX6_gradeOf_119 : decode cX6_gradeOf 119 = .ok (.iload 6, 2) := by decide +kernel
theorem dX6_gradeOf_121 : decode cX6_gradeOf 121 = .ok (.invokestatic 136, 3) := by decide +kernel
theorem dX6_gradeOf_124 : decode cX6_gradeOf 124 = .ok (.ifCond .ne 24, 3) := by decide +kernel
theorem dX6_gradeOf_127 : decode cX6_gradeOf 127 = .ok (.aload_n 0, 1) := by decide +kernel
theorem dX6_gradeOf_128 : decode cX6_gradeOf 128 = .ok (.getfield 41, 3) := by decide +kernel
theorem dX6_gradeOf_131 : decode cX6_gradeOf 131 = .ok (.iload 7, 2) := by decide +kernel
theorem dX6_gradeOf_133 : decode cX6_gradeOf 133 = .ok (.iload_n 3, 1) := by decide +kernel
theorem dX6_gradeOf_134 : decode cX6_gradeOf 134 = .ok (.iload 4, 2) := by decide +kernel
theorem dX6_gradeOf_136 : decode cX6_gradeOf 136 = .ok (.iload 5, 2) := by decide +kernel
theorem dX6_gradeOf_138 : decode cX6_gradeOf 138 = .ok (.iload 6, 2) := by decide +kernel
theorem dX6_gradeOf_140 : decode cX6_gradeOf 140 = .ok (.invokestatic 136, 3) := by decide +kernel
theorem dX6_gradeOf_143 : decode cX6_gradeOf 143 = .ok (.ifCond .ne 5, 3) := by decide +kernel
theorem dX6_gradeOf_146 : decode cX6_gradeOf 146 = .ok (.iconst 2, 1) := by decide +kernel
theorem dX6_gradeOf_147 : decode cX6_gradeOf 147 = .ok (.ireturn, 1) := by decide +kernel
theorem dX6_gradeOf_148 : decode cX6_gradeOf 148 = .ok (.iload 12, 2) := by decide +kernel
theorem dX6_gradeOf_150 : decode cX6_gradeOf 150 = .ok (.iload 8, 2) := by decide +kernel
theorem dX6_gradeOf_152 : decode cX6_gradeOf 152 = .ok (.if_icmp .gt 7, 3) := by decide +kernel
theorem dX6_gradeOf_155 : decode cX6_gradeOf 155 = .ok (.iconst 3, 1) := by decide +kernel
theorem dX6_gradeOf_156 : decode cX6_gradeOf 156 = .ok (.goto 4, 3) := by decide +kernel
theorem dX6_gradeOf_159 : decode cX6_gradeOf 159 = .ok (.iconst 4, 1) := by decide +kernel
theorem dX6_gradeOf_160 : decode cX6_gradeOf 160 = .ok (.ireturn, 1) := by decide +kernel
theorem dX6_bestPiece_0 : decode cX6_bestPiece 0 = .ok (.aload_n 0, 1) := by decide +kernel
theorem dX6_bestPiece_1 : decode cX6_bestPiece 1 = .ok (.getfield 50, 3) := by decide +kernel
theorem dX6_bestPiece_4 : decode cX6_bestPiece 4 = .ok (.iconst 0, 1) := by decide +kernel
theorem dX6_bestPiece_5 : decode cX6_bestPiece 5 = .ok (.putfield 140, 3) := by decide +kernel
theorem dX6_bestPiece_8 : decode cX6_bestPiece 8 = .ok (.aload_n 0, 1) := by decide +kernel
theorem dX6_bestPiece_9 : decode cX6_bestPiece 9 = .ok (.getfield 50, 3) := by decide +kernel
theorem dX6_bestPiece_12 : decode cX6_bestPiece 12 = .ok (.iconst 0, 1) := by decide +kernel
theorem dX6_bestPiece_13 : decode cX6_bestPiece 13 = .ok (.putfield 143, 3) := by decide +kernel
theorem dX6_bestPiece_16 : decode cX6_bestPiece 16 = .ok (.iconst 0, 1) := by decide +kernel
theorem dX6_bestPiece_17 : decode cX6_bestPiece 17 = .ok (.istore_n 3, 1) := by decide +kernel
theorem dX6_bestPiece_18 : decode cX6_bestPiece 18 = .ok (.iload_n 3, 1) := by decide +kernel
theorem dX6_bestPiece_19 : decode cX6_bestPiece 19 = .ok (.aload_n 0, 1) := by decide +kernel
theorem dX6_bestPiece_20 : decode cX6_bestPiece 20 = .ok (.getfield 22, 3) := by decide +kernel
theorem dX6_bestPiece_23 : decode cX6_bestPiece 23 = .ok (.if_icmp .ge 22, 3) := by decide +kernel
theorem dX6_bestPiece_26 : decode cX6_bestPiece 26 = .ok (.aload_n 0, 1) := by decide +kernel
theorem dX6_bestPiece_27 : decode cX6_bestPiece 27 = .ok (.getfield 44, 3) := by decide +kernel
theorem dX6_bestPiece_30 : decode cX6_bestPiece 30 = .ok (.iload_n 3, 1) := by decide +kernel
theorem dX6_bestPiece_31 : decode cX6_bestPiece 31 = .ok (.aload_n 0, 1) := by decide +kernel
theorem dX6_bestPiece_32 : decode cX6_bestPiece 32 = .ok (.iload_n 1, 1) := by decide +kernel
theorem dX6_bestPiece_33 : decode cX6_bestPiece 33 = .ok (.iload_n 2, 1) := by decide +kernel
theorem dX6_bestPiece_34 : decode cX6_bestPiece 34 = .ok (.iload_n 3, 1) := by decide +kernel
theorem dX6_bestPiece_35 : decode cX6_bestPiece 35 = .ok (.invokevirtual 133, 3) := by decide +kernel
theorem dX6_bestPiece_38 : decode cX6_bestPiece 38 = .ok (.iastore, 1) := by decide +kernel
theorem dX6_bestPiece_39 : decode cX6_bestPiece 39 = .ok (.iinc 3 1, 3) := by decide +kernel
theorem dX6_bestPiece_42 : decode cX6_bestPiece 42 = .ok (.goto (-24), 3) := by decide +kernel
theorem dX6_bestPiece_45 : decode cX6_bestPiece 45 = .ok (.aload_n 0, 1) := by decide +kernel
theorem dX6_bestPiece_46 : decode cX6_bestPiece 46 = .ok (.getfield 28, 3) := by decide +kernel
theorem dX6_bestPiece_49 : decode cX6_bestPiece 49 = .ok (.iconst 1, 1) := by decide +kernel
theorem dX6_bestPiece_50 : decode cX6_bestPiece 50 = .ok (.iaload, 1) := by decide +kernel
theorem dX6_bestPiece_51 : decode cX6_bestPiece 51 = .ok (.iconst 1, 1) := by decide +kernel
theorem dX6_bestPiece_52 : decode cX6_bestPiece 52 = .ok (.if_icmp .ne 7, 3) := by decide +kernel
theorem dX6_bestPiece_55 : decode cX6_bestPiece 55 = .ok (.iconst 1, 1) := by decide +kernel
theorem dX6_bestPiece_56 : decode cX6_bestPiece 56 = .ok (.goto 4, 3) := by decide +kernel
theorem dX6_bestPiece_59 : decode cX6_bestPiece 59 = .ok (.iconst 0, 1) := by decide +kernel
theorem dX6_bestPiece_60 : decode cX6_bestPiece 60 = .ok (.istore_n 3, 1) := by decide +kernel
theorem dX6_bestPiece_61 : decode cX6_bestPiece 61 = .ok (.iconst 0, 1) := by decide +kernel
theorem dX6_bestPiece_62 : decode cX6_bestPiece 62 = .ok (.istore 4, 2) := by decide +kernel
theorem dX6_bestPiece_64 : decode cX6_bestPiece 64 = .ok (.iload 4, 2) := by decide +kernel
theorem dX6_bestPiece_66 : decode cX6_bestPiece 66 = .ok (.aload_n 0, 1) := by decide +kernel
theorem dX6_bestPiece_67 : decode cX6_bestPiece 67 = .ok (.getfield 22, 3) := by decide +kernel
theorem dX6_bestPiece_70 : decode cX6_bestPiece 70 = .ok (.if_icmp .ge 163, 3) := by decide +kernel
theorem dX6_bestPiece_73 : decode cX6_bestPiece 73 = .ok (.iload 4, 2) := by decide +kernel
theorem dX6_bestPiece_75 : decode cX6_bestPiece 75 = .ok (.istore 5, 2) := by decide +kernel
theorem dX6_bestPiece_77 : decode cX6_bestPiece 77 = .ok (.iload 5, 2) := by decide +kernel
theorem dX6_bestPiece_79 : decode cX6_bestPiece 79 = .ok (.aload_n 0, 1) := by decide +kernel
theorem dX6_bestPiece_80 : decode cX6_bestPiece 80 = .ok (.getfield 22, 3) := by decide +kernel
theorem dX6_bestPiece_83 : decode cX6_bestPiece 83 = .ok (.if_icmp .ge 144, 3) := by decide +kernel
theorem dX6_bestPiece_86 : decode cX6_bestPiece 86 = .ok (.iload 4, 2) := by decide +kernel
theorem dX6_bestPiece_88 : decode cX6_bestPiece 88 = .ok (.ifCond .ne 18, 3) := by decide +kernel
theorem dX6_bestPiece_91 : decode cX6_bestPiece 91 = .ok (.iload 5, 2) := by decide +kernel
theorem dX6_bestPiece_93 : decode cX6_bestPiece 93 = .ok (.aload_n 0, 1) := by decide +kernel
theorem dX6_bestPiece_94 : decode cX6_bestPiece 94 = .ok (.getfield 22, 3) := by decide +kernel
theorem dX6_bestPiece_97 : decode cX6_bestPiece 97 = .ok (.iconst 1, 1) := by decide +kernel
theorem dX6_bestPiece_98 : decode cX6_bestPiece 98 = .ok (.isub, 1) := by decide +kernel
theorem dX6_bestPiece_99 : decode cX6_bestPiece 99 = .ok (.if_icmp .ne 7, 3) := by decide +kernel
theorem dX6_bestPiece_102 : decode cX6_bestPiece 102 = .ok (.iconst 1, 1) := by decide +kernel
theorem dX6_bestPiece_103 : decode cX6_bestPiece 103 = .ok (.goto 4, 3) := by decide +kernel
theorem dX6_bestPiece_106 : decode cX6_bestPiece 106 = .ok (.iconst 0, 1) := by decide +kernel
theorem dX6_bestPiece_107 : decode cX6_bestPiece 107 = .ok (.istore 6, 2) := by decide +kernel
theorem dX6_bestPiece_109 : decode cX6_bestPiece 109 = .ok (.iload_n 3, 1) := by decide +kernel
theorem dX6_bestPiece_110 : decode cX6_bestPiece 110 = .ok (.ifCond .ne 11, 3) := by decide +kernel
theorem dX6_bestPiece_113 : decode cX6_bestPiece 113 = .ok (.iload 6, 2) := by decide +kernel
theorem dX6_bestPiece_115 : decode cX6_bestPiece 115 = .ok (.ifCond .ne 6, 3) := by decide +kernel
theorem dX6_bestPiece_118 : decode cX6_bestPiece 118 = .ok (.goto 103, 3) := by decide +kernel
theorem dX6_bestPiece_121 : decode cX6_bestPiece 121 = .ok (.aload_n 0, 1) := by decide +kernel
theorem dX6_bestPiece_122 : decode cX6_bestPiece 122 = .ok (.getfield 44, 3) := by decide +kernel
theorem dX6_bestPiece_125 : decode cX6_bestPiece 125 = .ok (.iload 5, 2) := by decide +kernel
theorem dX6_bestPiece_127 : decode cX6_bestPiece 127 = .ok (.iaload, 1) := by decide +kernel
theorem dX6_bestPiece_128 : decode cX6_bestPiece 128 = .ok (.istore 7, 2) := by decide +kernel
theorem dX6_bestPiece_130 : decode cX6_bestPiece 130 = .ok (.bipush 11, 2) := by decide +kernel
theorem dX6_bestPiece_132 : decode cX6_bestPiece 132 = .ok (.iload 7, 2) := by decide +kernel
theorem dX6_bestPiece_134 : decode cX6_bestPiece 134 = .ok (.isub, 1) := by decide +kernel
theorem dX6_bestPiece_135 : decode cX6_bestPiece 135 = .ok (.istore 8, 2) := by decide +kernel
theorem dX6_bestPiece_137 : decode cX6_bestPiece 137 = .ok (.iload_n 3, 1) := by decide +kernel
theorem dX6_bestPiece_138 : decode cX6_bestPiece 138 = .ok (.ifCond .eq 12, 3) := by decide +kernel
theorem dX6_bestPiece_141 : decode cX6_bestPiece 141 = .ok (.iload 6, 2) := by decide +kernel
theorem dX6_bestPiece_143 : decode cX6_bestPiece 143 = .ok (.ifCond .eq 7, 3) := by decide +kernel
theorem dX6_bestPiece_146 : decode cX6_bestPiece 146 = .ok (.iconst 1, 1) := by decide +kernel
theorem dX6_bestPiece_147 : decode cX6_bestPiece 147 = .ok (.goto 4, 3) := by decide +kernel
theorem dX6_bestPiece_150 : decode cX6_bestPiece 150 = .ok (.iconst 0, 1) := by decide +kernel
theorem dX6_bestPiece_151 : decode cX6_bestPiece 151 = .ok (.istore 9, 2) := by decide +kernel
theorem dX6_bestPiece_153 : decode cX6_bestPiece 153 = .ok (.iload 7, 2) := by decide +kernel
theorem dX6_bestPiece_155 : decode cX6_bestPiece 155 = .ok (.istore 10, 2) := by decide +kernel
theorem dX6_bestPiece_157 : decode cX6_bestPiece 157 = .ok (.iload 10, 2) := by decide +kernel
theorem dX6_bestPiece_159 : decode cX6_bestPiece 159 = .ok (.iload 9, 2) := by decide +kernel
theorem dX6_bestPiece_161 : decode cX6_bestPiece 161 = .ok (.ifCond .eq 8, 3) := by decide +kernel
theorem dX6_bestPiece_164 : decode cX6_bestPiece 164 = .ok (.iload 8, 2) := by decide +kernel
theorem dX6_bestPiece_166 : decode cX6_bestPiece 166 = .ok (.goto 5, 3) := by decide +kernel
theorem dX6_bestPiece_169 : decode cX6_bestPiece 169 = .ok (.iload 7, 2) := by decide +kernel
theorem dX6_bestPiece_171 : decode cX6_bestPiece 171 = .ok (.if_icmp .gt 50, 3) := by decide +kernel
theorem dX6_bestPiece_174 : decode cX6_bestPiece 174 = .ok (.iload 9, 2) := by decide +kernel
theorem dX6_bestPiece_176 : decode cX6_bestPiece 176 = .ok (.ifCond .eq 8, 3) := by decide +kernel
theorem dX6_bestPiece_179 : decode cX6_bestPiece 179 = .ok (.iload 10, 2) := by decide +kernel
theorem dX6_bestPiece_181 : decode cX6_bestPiece 181 = .ok (.goto 5, 3) := by decide +kernel
theorem dX6_bestPiece_184 : decode cX6_bestPiece 184 = .ok (.iload 8, 2) := by decide +kernel
theorem dX6_bestPiece_186 : decode cX6_bestPiece 186 = .ok (.istore 11, 2) := by decide +kernel
theorem dX6_bestPiece_188 : decode cX6_bestPiece 188 = .ok (.iload 11, 2) := by decide +kernel
theorem dX6_bestPiece_190 : decode cX6_bestPiece 190 = .ok (.iload 8, 2) := by decide +kernel
theorem dX6_bestPiece_192 : decode cX6_bestPiece 192 = .ok (.if_icmp .gt 23, 3) := by decide +kernel
theorem dX6_bestPiece_195 : decode cX6_bestPiece 195 = .ok (.aload_n 0, 1) := by decide +kernel
theorem dX6_bestPiece_196 : decode cX6_bestPiece 196 = .ok (.iload_n 1, 1) := by decide +kernel
theorem dX6_bestPiece_197 : decode cX6_bestPiece 197 = .ok (.iload_n 2, 1) := by decide +kernel
theorem dX6_bestPiece_198 : decode cX6_bestPiece 198 = .ok (.iload 10, 2) := by decide +kernel
theorem dX6_bestPiece_200 : decode cX6_bestPiece 200 = .ok (.iload 11, 2) := by decide +kernel
theorem dX6_bestPiece_202 : decode cX6_bestPiece 202 = .ok (.iload 4, 2) := by decide +kernel
theorem dX6_bestPiece_204 : decode cX6_bestPiece 204 = .ok (.iload 5, 2) := by decide +kernel
theorem dX6_bestPiece_206 : decode cX6_bestPiece 206 = .ok (.invokevirtual 146, 3) := by decide +kernel
theorem dX6_bestPiece_209 : decode cX6_bestPiece 209 = .ok (.iinc 11 1, 3) := by decide +kernel
theorem dX6_bestPiece_212 : decode cX6_bestPiece 212 = .ok (.goto (-24), 3) := by decide +kernel
theorem dX6_bestPiece_215 : decode cX6_bestPiece 215 = .ok (.iinc 10 1, 3) := by decide +kernel
theorem dX6_bestPiece_218 : decode cX6_bestPiece 218 = .ok (.goto (-61), 3) := by decide +kernel
theorem dX6_bestPiece_221 : decode cX6_bestPiece 221 = .ok (.iinc 5 1, 3) := by decide +kernel
theorem dX6_bestPiece_224 : decode cX6_bestPiece 224 = .ok (.goto (-147), 3) := by decide +kernel
theorem dX6_bestPiece_227 : decode cX6_bestPiece 227 = .ok (.iinc 4 1, 3) := by decide +kernel
theorem dX6_bestPiece_230 : decode cX6_bestPiece 230 = .ok (.goto (-166), 3) := by decide +kernel
theorem dX6_bestPiece_233 : decode cX6_bestPiece 233 = .ok (.aload_n 0, 1) := by decide +kernel
theorem dX6_bestPiece_234 : decode cX6_bestPiece 234 = .ok (.getfield 50, 3) := by decide +kernel
theorem dX6_bestPiece_237 : decode cX6_bestPiece 237 = .ok (.areturn, 1) := by decide +kernel
theorem dX6_tryPiece_0 : decode cX6_tryPiece 0 = .ok (.iload 4, 2) := by decide +kernel
theorem dX6_tryPiece_2 : decode cX6_tryPiece 2 = .ok (.iload_n 3, 1) := by decide +kernel
theorem dX6_tryPiece_3 : decode cX6_tryPiece 3 = .ok (.isub, 1) := by decide +kernel
theorem dX6_tryPiece_4 : decode cX6_tryPiece 4 = .ok (.iconst 1, 1) := by decide +kernel
theorem dX6_tryPiece_5 : decode cX6_tryPiece 5 = .ok (.iadd, 1) := by decide +kernel
theorem dX6_tryPiece_6 : decode cX6_tryPiece 6 = .ok (.iload 6, 2) := by decide +kernel
theorem dX6_tryPiece_8 : decode cX6_tryPiece 8 = .ok (.iload 5, 2) := by decide +kernel
theorem dX6_tryPiece_10 : decode cX6_tryPiece 10 = .ok (.isub, 1) := by decide +kernel
theorem dX6_tryPiece_11 : decode cX6_tryPiece 11 = .ok (.iconst 1, 1) := by decide +kernel
theorem dX6_tryPiece_12 : decode cX6_tryPiece 12 = .ok (.iadd, 1) := by decide +kernel
theorem dX6_tryPiece_13 : decode cX6_tryPiece 13 = .ok (.imul, 1) := by decide +kernel
theorem dX6_tryPiece_14 : decode cX6_tryPiece 14 = .ok (.istore 7, 2) := by decide +kernel
theorem dX6_tryPiece_16 : decode cX6_tryPiece 16 = .ok (.iload_n 3, 1) := by decide +kernel
theorem dX6_tryPiece_17 : decode cX6_tryPiece 17 = .ok (.iload 4, 2) := by decide +kernel
theorem dX6_tryPiece_19 : decode cX6_tryPiece 19 = .ok (.if_icmp .gt 22, 3) := by decide +kernel
theorem dX6_tryPiece_22 : decode cX6_tryPiece 22 = .ok (.iload 7, 2) := by decide +kernel
theorem dX6_tryPiece_24 : decode cX6_tryPiece 24 = .ok (.iload_n 2, 1) := by decide +kernel
theorem dX6_tryPiece_25 : decode cX6_tryPiece 25 = .ok (.imul, 1) := by decide +kernel
theorem dX6_tryPiece_26 : decode cX6_tryPiece 26 = .ok (.aload_n 0, 1) := by decide +kernel
theorem dX6_tryPiece_27 : decode cX6_tryPiece 27 = .ok (.getfield 25, 3) := by decide +kernel
theorem dX6_tryPiece_30 : decode cX6_tryPiece 30 = .ok (.imul, 1) := by decide +kernel
theorem dX6_tryPiece_31 : decode cX6_tryPiece 31 = .ok (.aload_n 0, 1) := by decide +kernel
theorem dX6_tryPiece_32 : decode cX6_tryPiece 32 = .ok (.getfield 50, 3) := by decide +kernel
theorem dX6_tryPiece_35 : decode cX6_tryPiece 35 = .ok (.getfield 140, 3) := by decide +kernel
theorem dX6_tryPiece_38 : decode cX6_tryPiece 38 = .ok (.if_icmp .gt 4, 3) := by decide +kernel
theorem dX6_tryPiece_41 : decode cX6_tryPiece 41 = .ok (.return_, 1) := by decide +kernel
theorem dX6_tryPiece_42 : decode cX6_tryPiece 42 = .ok (.aload_n 0, 1) := by decide +kernel
theorem dX6_tryPiece_43 : decode cX6_tryPiece 43 = .ok (.iload_n 1, 1) := by decide +kernel
theorem dX6_tryPiece_44 : decode cX6_tryPiece 44 = .ok (.iload_n 2, 1) := by decide +kernel
theorem dX6_tryPiece_45 : decode cX6_tryPiece 45 = .ok (.iload_n 3, 1) := by decide +kernel
theorem dX6_tryPiece_46 : decode cX6_tryPiece 46 = .ok (.iload 4, 2) := by decide +kernel
theorem dX6_tryPiece_48 : decode cX6_tryPiece 48 = .ok (.iload 5, 2) := by decide +kernel
theorem dX6_tryPiece_50 : decode cX6_tryPiece 50 = .ok (.iload 6, 2) := by decide +kernel
theorem dX6_tryPiece_52 : decode cX6_tryPiece 52 = .ok (.invokevirtual 150, 3) := by decide +kernel
theorem dX6_tryPiece_55 : decode cX6_tryPiece 55 = .ok (.istore 8, 2) := by decide +kernel
theorem dX6_tryPiece_57 : decode cX6_tryPiece 57 = .ok (.iload 8, 2) := by decide +kernel
theorem dX6_tryPiece_59 : decode cX6_tryPiece 59 = .ok (.iconst 4, 1) := by decide +kernel
theorem dX6_tryPiece_60 : decode cX6_tryPiece 60 = .ok (.if_icmp .ge 20, 3) := by decide +kernel
theorem dX6_tryPiece_63 : decode cX6_tryPiece 63 = .ok (.iload 7, 2) := by decide +kernel
theorem dX6_tryPiece_65 : decode cX6_tryPiece 65 = .ok (.iload_n 2, 1) := by decide +kernel
theorem dX6_tryPiece_66 : decode cX6_tryPiece 66 = .ok (.imul, 1) := by decide +kernel
theorem dX6_tryPiece_67 : decode cX6_tryPiece 67 = .ok (.aload_n 0, 1) := by decide +kernel
theorem dX6_tryPiece_68 : decode cX6_tryPiece 68 = .ok (.getfield 28, 3) := by decide +kernel
theorem dX6_tryPiece_71 : decode cX6_tryPiece 71 = .ok (.iconst 2, 1) := by decide +kernel
theorem dX6_tryPiece_72 : decode cX6_tryPiece 72 = .ok (.iload 8, 2) := by decide +kernel
theorem dX6_tryPiece_74 : decode cX6_tryPiece 74 = .ok (.iadd, 1) := by decide +kernel
theorem dX6_tryPiece_75 : decode cX6_tryPiece 75 = .ok (.iaload, 1) := by decide +kernel
theorem dX6_tryPiece_76 : decode cX6_tryPiece 76 = .ok (.imul, 1) := by decide +kernel
theorem dX6_tryPiece_77 : decode cX6_tryPiece 77 = .ok (.goto 4, 3) := by decide +kernel
theorem dX6_tryPiece_80 : decode cX6_tryPiece 80 = .ok (.iconst 0, 1) := by decide +kernel
theorem dX6_tryPiece_81 : decode cX6_tryPiece 81 = .ok (.istore 9, 2) := by decide +kernel
theorem dX6_tryPiece_83 : decode cX6_tryPiece 83 = .ok (.iload 9, 2) := by decide +kernel
theorem dX6_tryPiece_85 : decode cX6_tryPiece 85 = .ok (.aload_n 0, 1) := by decide +kernel
theorem dX6_tryPiece_86 : decode cX6_tryPiece 86 = .ok (.getfield 50, 3) := by decide +kernel
theorem dX6_tryPiece_89 : decode cX6_tryPiece 89 = .ok (.getfield 140, 3) := by decide +kernel
theorem dX6_tryPiece_92 : decode cX6_tryPiece 92 = .ok (.if_icmp .gt 32, 3) := by decide +kernel
theorem dX6_tryPiece_95 : decode cX6_tryPiece 95 = .ok (.iload 9, 2) := by decide +kernel
theorem dX6_tryPiece_97 : decode cX6_tryPiece 97 = .ok (.ifCond .le 137, 3) := by decide +kernel
theorem dX6_tryPiece_100 : decode cX6_tryPiece 100 = .ok (.iload 9, 2) := by decide +kernel
theorem dX6_tryPiece_102 : decode cX6_tryPiece 102 = .ok (.aload_n 0, 1) := by decide +kernel
theorem dX6_tryPiece_103 : decode cX6_tryPiece 103 = .ok (.getfield 50, 3) := by decide +kernel
theorem dX6_tryPiece_106 : decode cX6_tryPiece 106 = .ok (.getfield 140, 3) := by decide +kernel
theorem dX6_tryPiece_109 : decode cX6_tryPiece 109 = .ok (.if_icmp .ne 125, 3) := by decide +kernel
theorem dX6_tryPiece_112 : decode cX6_tryPiece 112 = .ok (.iload 7, 2) := by decide +kernel
theorem dX6_tryPiece_114 : decode cX6_tryPiece 114 = .ok (.aload_n 0, 1) := by decide +kernel
theorem dX6_tryPiece_115 : decode cX6_tryPiece 115 = .ok (.getfield 50, 3) := by decide +kernel
theorem dX6_tryPiece_118 : decode cX6_tryPiece 118 = .ok (.getfield 143, 3) := by decide +kernel
theorem dX6_tryPiece_121 : decode cX6_tryPiece 121 = .ok (.if_icmp .le 113, 3) := by decide +kernel
theorem dX6_tryPiece_124 : decode cX6_tryPiece 124 = .ok (.aload_n 0, 1) := by decide +kernel
theorem dX6_tryPiece_125 : decode cX6_tryPiece 125 = .ok (.getfield 50, 3) := by decide +kernel
theorem dX6_tryPiece_128 : decode cX6_tryPiece 128 = .ok (.iload_n 3, 1) := by decide +kernel
theorem dX6_tryPiece_129 : decode cX6_tryPiece 129 = .ok (.putfield 154, 3) := by decide +kernel
theorem dX6_tryPiece_132 : decode cX6_tryPiece 132 = .ok (.aload_n 0, 1) := by decide +kernel
theorem dX6_tryPiece_133 : decode cX6_tryPiece 133 = .ok (.getfield 50, 3) := by decide +kernel
theorem dX6_tryPiece_136 : decode cX6_tryPiece 136 = .ok (.iload 4, 2) := by decide +kernel
theorem dX6_tryPiece_138 : decode cX6_tryPiece 138 = .ok (.putfield 157, 3) := by decide +kernel
theorem dX6_tryPiece_141 : decode cX6_tryPiece 141 = .ok (.aload_n 0, 1) := by decide +kernel
theorem dX6_tryPiece_142 : decode cX6_tryPiece 142 = .ok (.getfield 50, 3) := by decide +kernel
theorem dX6_tryPiece_145 : decode cX6_tryPiece 145 = .ok (.iload 5, 2) := by decide +kernel
theorem dX6_tryPiece_147 : decode cX6_tryPiece 147 = .ok (.putfield 160, 3) := by decide +kernel
theorem dX6_tryPiece_150 : decode cX6_tryPiece 150 = .ok (.aload_n 0, 1) := by decide +kernel
theorem dX6_tryPiece_151 : decode cX6_tryPiece 151 = .ok (.getfield 50, 3) := by decide +kernel
theorem dX6_tryPiece_154 : decode cX6_tryPiece 154 = .ok (.iload 6, 2) := by decide +kernel
theorem dX6_tryPiece_156 : decode cX6_tryPiece 156 = .ok (.putfield 163, 3) := by decide +kernel
theorem dX6_tryPiece_159 : decode cX6_tryPiece 159 = .ok (.aload_n 0, 1) := by decide +kernel
theorem dX6_tryPiece_160 : decode cX6_tryPiece 160 = .ok (.getfield 50, 3) := by decide +kernel
theorem dX6_tryPiece_163 : decode cX6_tryPiece 163 = .ok (.iload 8, 2) := by decide +kernel
theorem dX6_tryPiece_165 : decode cX6_tryPiece 165 = .ok (.putfield 166, 3) := by decide +kernel
theorem dX6_tryPiece_168 : decode cX6_tryPiece 168 = .ok (.aload_n 0, 1) := by decide +kernel
theorem dX6_tryPiece_169 : decode cX6_tryPiece 169 = .ok (.getfield 50, 3) := by decide +kernel
theorem dX6_tryPiece_172 : decode cX6_tryPiece 172 = .ok (.aload_n 0, 1) := by decide +kernel
theorem dX6_tryPiece_173 : decode cX6_tryPiece 173 = .ok (.getfield 38, 3) := by decide +kernel
theorem dX6_tryPiece_176 : decode cX6_tryPiece 176 = .ok (.iload_n 1, 1) := by decide +kernel
theorem dX6_tryPiece_177 : decode cX6_tryPiece 177 = .ok (.iload_n 3, 1) := by decide +kernel
theorem dX6_tryPiece_178 : decode cX6_tryPiece 178 = .ok (.iload 4, 2) := by decide +kernel
theorem dX6_tryPiece_180 : decode cX6_tryPiece 180 = .ok (.iload 5, 2) := by decide +kernel
theorem dX6_tryPiece_182 : decode cX6_tryPiece 182 = .ok (.iload 6, 2) := by decide +kernel
theorem dX6_tryPiece_184 : decode cX6_tryPiece 184 = .ok (.invokestatic 136, 3) := by decide +kernel
theorem dX6_tryPiece_187 : decode cX6_tryPiece 187 = .ok (.putfield 169, 3) := by decide +kernel
theorem dX6_tryPiece_190 : decode cX6_tryPiece 190 = .ok (.aload_n 0, 1) := by decide +kernel
theorem dX6_tryPiece_191 : decode cX6_tryPiece 191 = .ok (.getfield 50, 3) := by decide +kernel
theorem dX6_tryPiece_194 : decode cX6_tryPiece 194 = .ok (.aload_n 0, 1) := by decide +kernel
theorem dX6_tryPiece_195 : decode cX6_tryPiece 195 = .ok (.getfield 38, 3) := by decide +kernel
theorem dX6_tryPiece_198 : decode cX6_tryPiece 198 = .ok (.iload_n 1, 1) := by decide +kernel
theorem dX6_tryPiece_199 : decode cX6_tryPiece 199 = .ok (.iload_n 2, 1) := by decide +kernel
theorem dX6_tryPiece_200 : decode cX6_tryPiece 200 = .ok (.iadd, 1) := by decide +kernel
theorem dX6_tryPiece_201 : decode cX6_tryPiece 201 = .ok (.iconst 1, 1) := by decide +kernel
theorem dX6_tryPiece_202 : decode cX6_tryPiece 202 = .ok (.isub, 1) := by decide +kernel
theorem dX6_tryPiece_203 : decode cX6_tryPiece 203 = .ok (.iload_n 3, 1) := by decide +kernel
theorem dX6_tryPiece_204 : decode cX6_tryPiece 204 = .ok (.iload 4, 2) := by decide +kernel
theorem dX6_tryPiece_206 : decode cX6_tryPiece 206 = .ok (.iload 5, 2) := by decide +kernel
theorem dX6_tryPiece_208 : decode cX6_tryPiece 208 = .ok (.iload 6, 2) := by decide +kernel
theorem dX6_tryPiece_210 : decode cX6_tryPiece 210 = .ok (.invokestatic 136, 3) := by decide +kernel
theorem dX6_tryPiece_213 : decode cX6_tryPiece 213 = .ok (.putfield 172, 3) := by decide +kernel
theorem dX6_tryPiece_216 : decode cX6_tryPiece 216 = .ok (.aload_n 0, 1) := by decide +kernel
theorem dX6_tryPiece_217 : decode cX6_tryPiece 217 = .ok (.getfield 50, 3) := by decide +kernel
theorem dX6_tryPiece_220 : decode cX6_tryPiece 220 = .ok (.iload 7, 2) := by decide +kernel
theorem dX6_tryPiece_222 : decode cX6_tryPiece 222 = .ok (.putfield 143, 3) := by decide +kernel
theorem dX6_tryPiece_225 : decode cX6_tryPiece 225 = .ok (.aload_n 0, 1) := by decide +kernel
theorem dX6_tryPiece_226 : decode cX6_tryPiece 226 = .ok (.getfield 50, 3) := by decide +kernel
theorem dX6_tryPiece_229 : decode cX6_tryPiece 229 = .ok (.iload 9, 2) := by decide +kernel
theorem dX6_tryPiece_231 : decode cX6_tryPiece 231 = .ok (.putfield 140, 3) := by decide +kernel
theorem dX6_tryPiece_234 : decode cX6_tryPiece 234 = .ok (.return_, 1) := by decide +kernel
theorem dX6_open_0 : decode cX6_open 0 = .ok (.bipush 11, 2) := by decide +kernel
theorem dX6_open_2 : decode cX6_open 2 = .ok (.istore_n 2, 1) := by decide +kernel
theorem dX6_open_3 : decode cX6_open 3 = .ok (.iload_n 2, 1) := by decide +kernel
theorem dX6_open_4 : decode cX6_open 4 = .ok (.ifCond .lt 144, 3) := by decide +kernel
theorem dX6_open_7 : decode cX6_open 7 = .ok (.aload_n 0, 1) := by decide +kernel
theorem dX6_open_8 : decode cX6_open 8 = .ok (.getfield 54, 3) := by decide +kernel
theorem dX6_open_11 : decode cX6_open 11 = .ok (.iload_n 2, 1) := by decide +kernel
theorem dX6_open_12 : decode cX6_open 12 = .ok (.aload_n 0, 1) := by decide +kernel
theorem dX6_open_13 : decode cX6_open 13 = .ok (.getfield 54, 3) := by decide +kernel
theorem dX6_open_16 : decode cX6_open 16 = .ok (.iload_n 2, 1) := by decide +kernel
theorem dX6_open_17 : decode cX6_open 17 = .ok (.iconst 1, 1) := by decide +kernel
theorem dX6_open_18 : decode cX6_open 18 = .ok (.iadd, 1) := by decide +kernel
theorem dX6_open_19 : decode cX6_open 19 = .ok (.iaload, 1) := by decide +kernel
theorem dX6_open_20 : decode cX6_open 20 = .ok (.iastore, 1) := by decide +kernel
theorem dX6_open_21 : decode cX6_open 21 = .ok (.aload_n 0, 1) := by decide +kernel
theorem dX6_open_22 : decode cX6_open 22 = .ok (.getfield 57, 3) := by decide +kernel
theorem dX6_open_25 : decode cX6_open 25 = .ok (.iload_n 2, 1) := by decide +kernel
theorem dX6_open_26 : decode cX6_open 26 = .ok (.iconst 0, 1) := by decide +kernel
theorem dX6_open_27 : decode cX6_open 27 = .ok (.iastore, 1) := by decide +kernel
theorem dX6_open_28 : decode cX6_open 28 = .ok (.iconst 1, 1) := by decide +kernel
theorem dX6_open_29 : decode cX6_open 29 = .ok (.istore_n 3, 1) := by decide +kernel
theorem dX6_open_30 : decode cX6_open 30 = .ok (.iload_n 3, 1) := by decide +kernel
theorem dX6_open_31 : decode cX6_open 31 = .ok (.iconst 4, 1) := by decide +kernel
theorem dX6_open_32 : decode cX6_open 32 = .ok (.if_icmp .gt 110, 3) := by decide +kernel
theorem dX6_open_35 : decode cX6_open 35 = .ok (.iload_n 2, 1) := by decide +kernel
theorem dX6_open_36 : decode cX6_open 36 = .ok (.iload_n 3, 1) := by decide +kernel
theorem dX6_open_37 : decode cX6_open 37 = .ok (.iadd, 1) := by decide +kernel
theorem dX6_open_38 : decode cX6_open 38 = .ok (.bipush 12, 2) := by decide +kernel
theorem dX6_open_40 : decode cX6_open 40 = .ok (.if_icmp .gt 102, 3) := by decide +kernel
theorem dX6_open_43 : decode cX6_open 43 = .ok (.aload_n 0, 1) := by decide +kernel
theorem dX6_open_44 : decode cX6_open 44 = .ok (.getfield 28, 3) := by decide +kernel
theorem dX6_open_47 : decode cX6_open 47 = .ok (.bipush 6, 2) := by decide +kernel
theorem dX6_open_49 : decode cX6_open 49 = .ok (.iaload, 1) := by decide +kernel
theorem dX6_open_50 : decode cX6_open 50 = .ok (.iload_n 3, 1) := by decide +kernel
theorem dX6_open_51 : decode cX6_open 51 = .ok (.invokestatic 175, 3) := by decide +kernel
theorem dX6_open_54 : decode cX6_open 54 = .ok (.ifCond .ne 6, 3) := by decide +kernel
theorem dX6_open_57 : decode cX6_open 57 = .ok (.goto 79, 3) := by decide +kernel
theorem dX6_open_60 : decode cX6_open 60 = .ok (.aload_n 0, 1) := by decide +kernel
theorem dX6_open_61 : decode cX6_open 61 = .ok (.iload_n 2, 1) := by decide +kernel
theorem dX6_open_62 : decode cX6_open 62 = .ok (.iload_n 3, 1) := by decide +kernel
theorem dX6_open_63 : decode cX6_open 63 = .ok (.invokevirtual 178, 3) := by decide +kernel
theorem dX6_open_66 : decode cX6_open 66 = .ok (.astore 4, 2) := by decide +kernel
theorem dX6_open_68 : decode cX6_open 68 = .ok (.aload 4, 2) := by decide +kernel
theorem dX6_open_70 : decode cX6_open 70 = .ok (.getfield 140, 3) := by decide +kernel
theorem dX6_open_73 : decode cX6_open 73 = .ok (.aload_n 0, 1) := by decide +kernel
theorem dX6_open_74 : decode cX6_open 74 = .ok (.getfield 54, 3) := by decide +kernel
theorem dX6_open_77 : decode cX6_open 77 = .ok (.bipush 12, 2) := by decide +kernel
theorem dX6_open_79 : decode cX6_open 79 = .ok (.iload_n 2, 1) := by decide +kernel
theorem dX6_open_80 : decode cX6_open 80 = .ok (.iload_n 3, 1) := by decide +kernel
theorem dX6_open_81 : decode cX6_open 81 = .ok (.iadd, 1) := by decide +kernel
theorem dX6_open_82 : decode cX6_open 82 = .ok (.iload_n 1, 1) := by decide +kernel
theorem dX6_open_83 : decode cX6_open 83 = .ok (.iadd, 1) := by decide +kernel
theorem dX6_open_84 : decode cX6_open 84 = .ok (.invokestatic 69, 3) := by decide +kernel
theorem dX6_open_87 : decode cX6_open 87 = .ok (.iaload, 1) := by decide +kernel
theorem dX6_open_88 : decode cX6_open 88 = .ok (.iadd, 1) := by decide +kernel
theorem dX6_open_89 : decode cX6_open 89 = .ok (.istore 5, 2) := by decide +kernel
theorem dX6_open_91 : decode cX6_open 91 = .ok (.aload 4, 2) := by decide +kernel
theorem dX6_open_93 : decode cX6_open 93 = .ok (.getfield 140, 3) := by decide +kernel
theorem dX6_open_96 : decode cX6_open 96 = .ok (.ifCond .le 40, 3) := by decide +kernel
theorem dX6_open_99 : decode cX6_open 99 = .ok (.iload 5, 2) := by decide +kernel
theorem dX6_open_101 : decode cX6_open 101 = .ok (.aload_n 0, 1) := by decide +kernel
theorem dX6_open_102 : decode cX6_open 102 = .ok (.getfield 54, 3) := by decide +kernel
theorem dX6_open_105 : decode cX6_open 105 = .ok (.iload_n 2, 1) := by decide +kernel
theorem dX6_open_106 : decode cX6_open 106 = .ok (.iaload, 1) := by decide +kernel
theorem dX6_open_107 : decode cX6_open 107 = .ok (.if_icmp .lt 29, 3) := by decide +kernel
theorem dX6_open_110 : decode cX6_open 110 = .ok (.aload_n 0, 1) := by decide +kernel
theorem dX6_open_111 : decode cX6_open 111 = .ok (.getfield 54, 3) := by decide +kernel
theorem dX6_open_114 : decode cX6_open 114 = .ok (.iload_n 2, 1) := by decide +kernel
theorem dX6_open_115 : decode cX6_open 115 = .ok (.iload 5, 2) := by decide +kernel
theorem dX6_open_117 : decode cX6_open 117 = .ok (.iastore, 1) := by decide +kernel
theorem dX6_open_118 : decode cX6_open 118 = .ok (.aload_n 0, 1) := by decide +kernel
theorem dX6_open_119 : decode cX6_open 119 = .ok (.getfield 57, 3) := by decide +kernel
theorem dX6_open_122 : decode cX6_open 122 = .ok (.iload_n 2, 1) := by decide +kernel
theorem dX6_open_123 : decode cX6_open 123 = .ok (.iload_n 3, 1) := by decide +kernel
theorem dX6_open_124 : decode cX6_open 124 = .ok (.iastore, 1) := by decide +kernel
theorem dX6_open_125 : decode cX6_open 125 = .ok (.aload_n 0, 1) := by decide +kernel
theorem dX6_open_126 : decode cX6_open 126 = .ok (.getfield 60, 3) := by decide +kernel
theorem dX6_open_129 : decode cX6_open 129 = .ok (.iload_n 2, 1) := by decide +kernel
theorem dX6_open_130 : decode cX6_open 130 = .ok (.aload 4, 2) := by decide +kernel
theorem dX6_open_132 : decode cX6_open 132 = .ok (.getfield 166, 3) := by decide +kernel
theorem dX6_open_135 : decode cX6_open 135 = .ok (.iastore, 1) := by decide +kernel
theorem dX6_open_136 : decode cX6_open 136 = .ok (.iinc 3 1, 3) := by decide +kernel
theorem dX6_open_139 : decode cX6_open 139 = .ok (.goto (-109), 3) := by decide +kernel
theorem dX6_open_142 : decode cX6_open 142 = .ok (.iinc 2 (-1), 3) := by decide +kernel
theorem dX6_open_145 : decode cX6_open 145 = .ok (.goto (-142), 3) := by decide +kernel
theorem dX6_open_148 : decode cX6_open 148 = .ok (.aload_n 0, 1) := by decide +kernel
theorem dX6_open_149 : decode cX6_open 149 = .ok (.iload_n 1, 1) := by decide +kernel
theorem dX6_open_150 : decode cX6_open 150 = .ok (.invokevirtual 182, 3) := by decide +kernel
theorem dX6_open_153 : decode cX6_open 153 = .ok (.aload_n 0, 1) := by decide +kernel
theorem dX6_open_154 : decode cX6_open 154 = .ok (.iconst 1, 1) := by decide +kernel
theorem dX6_open_155 : decode cX6_open 155 = .ok (.putfield 15, 3) := by decide +kernel
theorem dX6_open_158 : decode cX6_open 158 = .ok (.aload_n 0, 1) := by decide +kernel
theorem dX6_open_159 : decode cX6_open 159 = .ok (.getfield 54, 3) := by decide +kernel
theorem dX6_open_162 : decode cX6_open 162 = .ok (.iconst 0, 1) := by decide +kernel
theorem dX6_open_163 : decode cX6_open 163 = .ok (.iaload, 1) := by decide +kernel
theorem dX6_open_164 : decode cX6_open 164 = .ok (.ireturn, 1) := by decide +kernel
theorem dX6_listRows_0 : decode cX6_listRows 0 = .ok (.aload_n 0, 1) := by decide +kernel
theorem dX6_listRows_1 : decode cX6_listRows 1 = .ok (.iconst 0, 1) := by decide +kernel
theorem dX6_listRows_2 : decode cX6_listRows 2 = .ok (.putfield 18, 3) := by decide +kernel
theorem dX6_listRows_5 : decode cX6_listRows 5 = .ok (.iconst 0, 1) := by decide +kernel
theorem dX6_listRows_6 : decode cX6_listRows 6 = .ok (.istore_n 2, 1) := by decide +kernel
theorem dX6_listRows_7 : decode cX6_listRows 7 = .ok (.iconst 0, 1) := by decide +kernel
theorem dX6_listRows_8 : decode cX6_listRows 8 = .ok (.istore_n 3, 1) := by decide +kernel
theorem dX6_listRows_9 : decode cX6_listRows 9 = .ok (.iload_n 3, 1) := by decide +kernel
theorem dX6_listRows_10 : decode cX6_listRows 10 = .ok (.bipush 12, 2) := by decide +kernel
theorem dX6_listRows_12 : decode cX6_listRows 12 = .ok (.if_icmp .ge 54, 3) := by decide +kernel
theorem dX6_listRows_15 : decode cX6_listRows 15 = .ok (.iload_n 3, 1) := by decide +kernel
theorem dX6_listRows_16 : decode cX6_listRows 16 = .ok (.iload_n 2, 1) := by decide +kernel
theorem dX6_listRows_17 : decode cX6_listRows 17 = .ok (.if_icmp .lt 43, 3) := by decide +kernel
theorem dX6_listRows_20 : decode cX6_listRows 20 = .ok (.aload_n 0, 1) := by decide +kernel
theorem dX6_listRows_21 : decode cX6_listRows 21 = .ok (.getfield 57, 3) := by decide +kernel
theorem dX6_listRows_24 : decode cX6_listRows 24 = .ok (.iload_n 3, 1) := by decide +kernel
theorem dX6_listRows_25 : decode cX6_listRows 25 = .ok (.iaload, 1) := by decide +kernel
theorem dX6_listRows_26 : decode cX6_listRows 26 = .ok (.ifCond .le 34, 3) := by decide +kernel
theorem dX6_listRows_29 : decode cX6_listRows 29 = .ok (.aload_n 0, 1) := by decide +kernel
theorem dX6_listRows_30 : decode cX6_listRows 30 = .ok (.getfield 63, 3) := by decide +kernel
theorem dX6_listRows_33 : decode cX6_listRows 33 = .ok (.aload_n 0, 1) := by decide +kernel
theorem dX6_listRows_34 : decode cX6_listRows 34 = .ok (.getfield 18, 3) := by decide +kernel
theorem dX6_listRows_37 : decode cX6_listRows 37 = .ok (.iload_n 3, 1) := by decide +kernel
theorem dX6_listRows_38 : decode cX6_listRows 38 = .ok (.iastore, 1) := by decide +kernel
theorem dX6_listRows_39 : decode cX6_listRows 39 = .ok (.aload_n 0, 1) := by decide +kernel
theorem dX6_listRows_40 : decode cX6_listRows 40 = .ok (.dup, 1) := by decide +kernel
theorem dX6_listRows_41 : decode cX6_listRows 41 = .ok (.getfield 18, 3) := by decide +kernel
theorem dX6_listRows_44 : decode cX6_listRows 44 = .ok (.iconst 1, 1) := by decide +kernel
theorem dX6_listRows_45 : decode cX6_listRows 45 = .ok (.iadd, 1) := by decide +kernel
theorem dX6_listRows_46 : decode cX6_listRows 46 = .ok (.putfield 18, 3) := by decide +kernel
theorem dX6_listRows_49 : decode cX6_listRows 49 = .ok (.iload_n 3, 1) := by decide +kernel
theorem dX6_listRows_50 : decode cX6_listRows 50 = .ok (.aload_n 0, 1) := by decide +kernel
theorem dX6_listRows_51 : decode cX6_listRows 51 = .ok (.getfield 57, 3) := by decide +kernel
theorem dX6_listRows_54 : decode cX6_listRows 54 = .ok (.iload_n 3, 1) := by decide +kernel
theorem dX6_listRows_55 : decode cX6_listRows 55 = .ok (.iaload, 1) := by decide +kernel
theorem dX6_listRows_56 : decode cX6_listRows 56 = .ok (.iadd, 1) := by decide +kernel
theorem dX6_listRows_57 : decode cX6_listRows 57 = .ok (.iload_n 1, 1) := by decide +kernel
theorem dX6_listRows_58 : decode cX6_listRows 58 = .ok (.iadd, 1) := by decide +kernel
theorem dX6_listRows_59 : decode cX6_listRows 59 = .ok (.istore_n 2, 1) := by decide +kernel
theorem dX6_listRows_60 : decode cX6_listRows 60 = .ok (.iinc 3 1, 3) := by decide +kernel
theorem dX6_listRows_63 : decode cX6_listRows 63 = .ok (.goto (-54), 3) := by decide +kernel
theorem dX6_listRows_66 : decode cX6_listRows 66 = .ok (.return_, 1) := by decide +kernel
theorem dX6_rowAt_0 : decode cX6_rowAt 0 = .ok (.iload_n 1, 1) := by decide +kernel
theorem dX6_rowAt_1 : decode cX6_rowAt 1 = .ok (.iconst 0, 1) := by decide +kernel
theorem dX6_rowAt_2 : decode cX6_rowAt 2 = .ok (.bipush 11, 2) := by decide +kernel
theorem dX6_rowAt_4 : decode cX6_rowAt 4 = .ok (.invokestatic 186, 3) := by decide +kernel
theorem dX6_rowAt_7 : decode cX6_rowAt 7 = .ok (.ifCond .eq 12, 3) := by decide +kernel
theorem dX6_rowAt_10 : decode cX6_rowAt 10 = .ok (.aload_n 0, 1) := by decide +kernel
theorem dX6_rowAt_11 : decode cX6_rowAt 11 = .ok (.getfield 63, 3) := by decide +kernel
theorem dX6_rowAt_14 : decode cX6_rowAt 14 = .ok (.iload_n 1, 1) := by decide +kernel
theorem dX6_rowAt_15 : decode cX6_rowAt 15 = .ok (.iaload, 1) := by decide +kernel
theorem dX6_rowAt_16 : decode cX6_rowAt 16 = .ok (.goto 4, 3) := by decide +kernel
theorem dX6_rowAt_19 : decode cX6_rowAt 19 = .ok (.iconst 0, 1) := by decide +kernel
theorem dX6_rowAt_20 : decode cX6_rowAt 20 = .ok (.ireturn, 1) := by decide +kernel
theorem dX6_thicknessAt_0 : decode cX6_thicknessAt 0 = .ok (.aload_n 0, 1) := by decide +kernel
theorem dX6_thicknessAt_1 : decode cX6_thicknessAt 1 = .ok (.getfield 57, 3) := by decide +kernel
theorem dX6_thicknessAt_4 : decode cX6_thicknessAt 4 = .ok (.aload_n 0, 1) := by decide +kernel
theorem dX6_thicknessAt_5 : decode cX6_thicknessAt 5 = .ok (.iload_n 1, 1) := by decide +kernel
theorem dX6_thicknessAt_6 : decode cX6_thicknessAt 6 = .ok (.invokevirtual 189, 3) := by decide +kernel
theorem dX6_thicknessAt_9 : decode cX6_thicknessAt 9 = .ok (.iaload, 1) := by decide +kernel
theorem dX6_thicknessAt_10 : decode cX6_thicknessAt 10 = .ok (.ireturn, 1) := by decide +kernel
theorem dX6_gradeAt_0 : decode cX6_gradeAt 0 = .ok (.aload_n 0, 1) := by decide +kernel
theorem dX6_gradeAt_1 : decode cX6_gradeAt 1 = .ok (.getfield 60, 3) := by decide +kernel
theorem dX6_gradeAt_4 : decode cX6_gradeAt 4 = .ok (.aload_n 0, 1) := by decide +kernel
theorem dX6_gradeAt_5 : decode cX6_gradeAt 5 = .ok (.iload_n 1, 1) := by decide +kernel
theorem dX6_gradeAt_6 : decode cX6_gradeAt 6 = .ok (.invokevirtual 189, 3) := by decide +kernel
theorem dX6_gradeAt_9 : decode cX6_gradeAt 9 = .ok (.iaload, 1) := by decide +kernel
theorem dX6_gradeAt_10 : decode cX6_gradeAt 10 = .ok (.ireturn, 1) := by decide +kernel
theorem dX6_pieceAt_0 : decode cX6_pieceAt 0 = .ok (.aload_n 0, 1) := by decide +kernel
theorem dX6_pieceAt_1 : decode cX6_pieceAt 1 = .ok (.aload_n 0, 1) := by decide +kernel
theorem dX6_pieceAt_2 : decode cX6_pieceAt 2 = .ok (.iload_n 1, 1) := by decide +kernel
theorem dX6_pieceAt_3 : decode cX6_pieceAt 3 = .ok (.invokevirtual 189, 3) := by decide +kernel
theorem dX6_pieceAt_6 : decode cX6_pieceAt 6 = .ok (.aload_n 0, 1) := by decide +kernel
theorem dX6_pieceAt_7 : decode cX6_pieceAt 7 = .ok (.iload_n 1, 1) := by decide +kernel
theorem dX6_pieceAt_8 : decode cX6_pieceAt 8 = .ok (.invokevirtual 192, 3) := by decide +kernel
theorem dX6_pieceAt_11 : decode cX6_pieceAt 11 = .ok (.invokevirtual 178, 3) := by decide +kernel
theorem dX6_pieceAt_14 : decode cX6_pieceAt 14 = .ok (.areturn, 1) := by decide +kernel
theorem dX7_init_0 : decode cX7_init 0 = .ok (.aload_n 0, 1) := by decide +kernel
theorem dX7_init_1 : decode cX7_init 1 = .ok (.iload_n 1, 1) := by decide +kernel
theorem dX7_init_2 : decode cX7_init 2 = .ok (.iload_n 2, 1) := by decide +kernel
theorem dX7_init_3 : decode cX7_init 3 = .ok (.iload_n 3, 1) := by decide +kernel
theorem dX7_init_4 : decode cX7_init 4 = .ok (.invokespecial 1, 3) := by decide +kernel
theorem dX7_init_7 : decode cX7_init 7 = .ok (.return_, 1) := by decide +kernel
theorem dX7_kind_0 : decode cX7_kind 0 = .ok (.iconst 3, 1) := by decide +kernel
theorem dX7_kind_1 : decode cX7_kind 1 = .ok (.ireturn, 1) := by decide +kernel
theorem dX7_isIn_0 : decode cX7_isIn 0 = .ok (.aload_n 0, 1) := by decide +kernel
theorem dX7_isIn_1 : decode cX7_isIn 1 = .ok (.iload_n 1, 1) := by decide +kernel
theorem dX7_isIn_2 : decode cX7_isIn 2 = .ok (.iload_n 2, 1) := by decide +kernel
theorem dX7_isIn_3 : decode cX7_isIn 3 = .ok (.invokevirtual 7, 3) := by decide +kernel
theorem dX7_isIn_6 : decode cX7_isIn 6 = .ok (.iconst 1, 1) := by decide +kernel
theorem dX7_isIn_7 : decode cX7_isIn 7 = .ok (.if_icmp .gt 7, 3) := by decide +kernel
theorem dX7_isIn_10 : decode cX7_isIn 10 = .ok (.iconst 1, 1) := by decide +kernel
theorem dX7_isIn_11 : decode cX7_isIn 11 = .ok (.goto 4, 3) := by decide +kernel
theorem dX7_isIn_14 : decode cX7_isIn 14 = .ok (.iconst 0, 1) := by decide +kernel
theorem dX7_isIn_15 : decode cX7_isIn 15 = .ok (.ireturn, 1) := by decide +kernel
theorem dX7_lasts_0 : decode cX7_lasts 0 = .ok (.aload_n 0, 1) := by decide +kernel
theorem dX7_lasts_1 : decode cX7_lasts 1 = .ok (.getfield 13, 3) := by decide +kernel
theorem dX7_lasts_4 : decode cX7_lasts 4 = .ok (.iconst 2, 1) := by decide +kernel
theorem dX7_lasts_5 : decode cX7_lasts 5 = .ok (.iadd, 1) := by decide +kernel
theorem dX7_lasts_6 : decode cX7_lasts 6 = .ok (.ireturn, 1) := by decide +kernel
theorem dX7_hurts_0 : decode cX7_hurts 0 = .ok (.iconst 3, 1) := by decide +kernel
theorem dX7_hurts_1 : decode cX7_hurts 1 = .ok (.ireturn, 1) := by decide +kernel
theorem dX8_init_0 : decode cX8_init 0 = .ok (.aload_n 0, 1) := by decide +kernel
theorem dX8_init_1 : decode cX8_init 1 = .ok (.iload_n 1, 1) := by decide +kernel
theorem dX8_init_2 : decode cX8_init 2 = .ok (.iload_n 2, 1) := by decide +kernel
theorem dX8_init_3 : decode cX8_init 3 = .ok (.iload_n 3, 1) := by decide +kernel
theorem dX8_init_4 : decode cX8_init 4 = .ok (.invokespecial 1, 3) := by decide +kernel
theorem dX8_init_7 : decode cX8_init 7 = .ok (.return_, 1) := by decide +kernel
theorem dX8_kind_0 : decode cX8_kind 0 = .ok (.iconst 2, 1) := by decide +kernel
theorem dX8_kind_1 : decode cX8_kind 1 = .ok (.ireturn, 1) := by decide +kernel
theorem dX8_lasts_0 : decode cX8_lasts 0 = .ok (.iconst 2, 1) := by decide +kernel
theorem dX8_lasts_1 : decode cX8_lasts 1 = .ok (.aload_n 0, 1) := by decide +kernel
theorem dX8_lasts_2 : decode cX8_lasts 2 = .ok (.iload_n 1, 1) := by decide +kernel
theorem dX8_lasts_3 : decode cX8_lasts 3 = .ok (.invokespecial 7, 3) := by decide +kernel
theorem dX8_lasts_6 : decode cX8_lasts 6 = .ok (.imul, 1) := by decide +kernel
theorem dX8_lasts_7 : decode cX8_lasts 7 = .ok (.ireturn, 1) := by decide +kernel
theorem dX9_init_0 : decode cX9_init 0 = .ok (.aload_n 0, 1) := by decide +kernel
theorem dX9_init_1 : decode cX9_init 1 = .ok (.iload_n 1, 1) := by decide +kernel
theorem dX9_init_2 : decode cX9_init 2 = .ok (.iload_n 2, 1) := by decide +kernel
theorem dX9_init_3 : decode cX9_init 3 = .ok (.iload_n 3, 1) := by decide +kernel
theorem dX9_init_4 : decode cX9_init 4 = .ok (.invokespecial 1, 3) := by decide +kernel
theorem dX9_init_7 : decode cX9_init 7 = .ok (.return_, 1) := by decide +kernel
theorem dX9_kind_0 : decode cX9_kind 0 = .ok (.bipush 6, 2) := by decide +kernel
theorem dX9_kind_2 : decode cX9_kind 2 = .ok (.ireturn, 1) := by decide +kernel
theorem dX9_isIn_0 : decode cX9_isIn 0 = .ok (.aload_n 0, 1) := by decide +kernel
theorem dX9_isIn_1 : decode cX9_isIn 1 = .ok (.iload_n 1, 1) := by decide +kernel
theorem dX9_isIn_2 : decode cX9_isIn 2 = .ok (.iload_n 2, 1) := by decide +kernel
theorem dX9_isIn_3 : decode cX9_isIn 3 = .ok (.invokespecial 7, 3) := by decide +kernel
theorem dX9_isIn_6 : decode cX9_isIn 6 = .ok (.ifCond .eq 16, 3) := by decide +kernel
theorem dX9_isIn_9 : decode cX9_isIn 9 = .ok (.aload_n 0, 1) := by decide +kernel
theorem dX9_isIn_10 : decode cX9_isIn 10 = .ok (.iload_n 1, 1) := by decide +kernel
theorem dX9_isIn_11 : decode cX9_isIn 11 = .ok (.iload_n 2, 1) := by decide +kernel
theorem dX9_isIn_12 : decode cX9_isIn 12 = .ok (.invokevirtual 11, 3) := by decide +kernel
theorem dX9_isIn_15 : decode cX9_isIn 15 = .ok (.ifCond .le 7, 3) := by decide +kernel
theorem dX9_isIn_18 : decode cX9_isIn 18 = .ok (.iconst 1, 1) := by decide +kernel
theorem dX9_isIn_19 : decode cX9_isIn 19 = .ok (.goto 4, 3) := by decide +kernel
theorem dX9_isIn_22 : decode cX9_isIn 22 = .ok (.iconst 0, 1) := by decide +kernel
theorem dX9_isIn_23 : decode cX9_isIn 23 = .ok (.ireturn, 1) := by decide +kernel
theorem dX9_hurts_0 : decode cX9_hurts 0 = .ok (.iconst 1, 1) := by decide +kernel
theorem dX9_hurts_1 : decode cX9_hurts 1 = .ok (.ireturn, 1) := by decide +kernel
theorem dX10_init_0 : decode cX10_init 0 = .ok (.aload_n 0, 1) := by decide +kernel
theorem dX10_init_1 : decode cX10_init 1 = .ok (.invokespecial 3, 3) := by decide +kernel
theorem dX10_init_4 : decode cX10_init 4 = .ok (.aload_n 0, 1) := by decide +kernel
theorem dX10_init_5 : decode cX10_init 5 = .ok (.iconst 0, 1) := by decide +kernel
theorem dX10_init_6 : decode cX10_init 6 = .ok (.putfield 9, 3) := by decide +kernel
theorem dX10_init_9 : decode cX10_init 9 = .ok (.aload_n 0, 1) := by decide +kernel
theorem dX10_init_10 : decode cX10_init 10 = .ok (.iconst 0, 1) := by decide +kernel
theorem dX10_init_11 : decode cX10_init 11 = .ok (.putfield 15, 3) := by decide +kernel
theorem dX10_init_14 : decode cX10_init 14 = .ok (.aload_n 0, 1) := by decide +kernel
theorem dX10_init_15 : decode cX10_init 15 = .ok (.iconst 0, 1) := by decide +kernel
theorem dX10_init_16 : decode cX10_init 16 = .ok (.putfield 18, 3) := by decide +kernel
theorem dX10_init_19 : decode cX10_init 19 = .ok (.aload_n 0, 1) := by decide +kernel
theorem dX10_init_20 : decode cX10_init 20 = .ok (.iconst 0, 1) := by decide +kernel
theorem dX10_init_21 : decode cX10_init 21 = .ok (.putfield 21, 3) := by decide +kernel
theorem dX10_init_24 : decode cX10_init 24 = .ok (.aload_n 0, 1) := by decide +kernel
theorem dX10_init_25 : decode cX10_init 25 = .ok (.bipush 8, 2) := by decide +kernel
theorem dX10_init_27 : decode cX10_init 27 = .ok (.anewarray 24, 3) := by decide +kernel
theorem dX10_init_30 : decode cX10_init 30 = .ok (.putfield 26, 3) := by decide +kernel
theorem dX10_init_33 : decode cX10_init 33 = .ok (.aload_n 0, 1) := by decide +kernel
theorem dX10_init_34 : decode cX10_init 34 = .ok (.iconst 0, 1) := by decide +kernel
theorem dX10_init_35 : decode cX10_init 35 = .ok (.putfield 30, 3) := by decide +kernel
theorem dX10_init_38 : decode cX10_init 38 = .ok (.aload_n 0, 1) := by decide +kernel
theorem dX10_init_39 : decode cX10_init 39 = .ok (.bipush 7, 2) := by decide +kernel
theorem dX10_init_41 : decode cX10_init 41 = .ok (.newarray .int, 2) := by decide +kernel
theorem dX10_init_43 : decode cX10_init 43 = .ok (.putfield 33, 3) := by decide +kernel
theorem dX10_init_46 : decode cX10_init 46 = .ok (.aload_n 0, 1) := by decide +kernel
theorem dX10_init_47 : decode cX10_init 47 = .ok (.bipush 64, 2) := by decide +kernel
theorem dX10_init_49 : decode cX10_init 49 = .ok (.newarray .int, 2) := by decide +kernel
theorem dX10_init_51 : decode cX10_init 51 = .ok (.putfield 37, 3) := by decide +kernel
theorem dX10_init_54 : decode cX10_init 54 = .ok (.aload_n 0, 1) := by decide +kernel
theorem dX10_init_55 : decode cX10_init 55 = .ok (.iconst 0, 1) := by decide +kernel
theorem dX10_init_56 : decode cX10_init 56 = .ok (.putfield 40, 3) := by decide +kernel
theorem dX10_init_59 : decode cX10_init 59 = .ok (.aload_n 0, 1) := by decide +kernel
theorem dX10_init_60 : decode cX10_init 60 = .ok (.bipush 24, 2) := by decide +kernel
theorem dX10_init_62 : decode cX10_init 62 = .ok (.newarray .int, 2) := by decide +kernel
theorem dX10_init_64 : decode cX10_init 64 = .ok (.putfield 43, 3) := by decide +kernel
theorem dX10_init_67 : decode cX10_init 67 = .ok (.aload_n 0, 1) := by decide +kernel
theorem dX10_init_68 : decode cX10_init 68 = .ok (.iconst 0, 1) := by decide +kernel
theorem dX10_init_69 : decode cX10_init 69 = .ok (.putfield 46, 3) := by decide +kernel
theorem dX10_init_72 : decode cX10_init 72 = .ok (.getstatic 49, 3) := by decide +kernel
theorem dX10_init_75 : decode cX10_init 75 = .ok (.iconst 0, 1) := by decide +kernel
theorem dX10_init_76 : decode cX10_init 76 = .ok (.aload_n 0, 1) := by decide +kernel
theorem dX10_init_77 : decode cX10_init 77 = .ok (.getfield 33, 3) := by decide +kernel
theorem dX10_init_80 : decode cX10_init 80 = .ok (.iconst 0, 1) := by decide +kernel
theorem dX10_init_81 : decode cX10_init 81 = .ok (.bipush 7, 2) := by decide +kernel
theorem dX10_init_83 : decode cX10_init 83 = .ok (.invokestatic 52, 3) := by decide +kernel
theorem dX10_init_86 : decode cX10_init 86 = .ok (.return_, 1) := by decide +kernel
theorem dX10_hasLog_0 : decode cX10_hasLog 0 = .ok (.aload_n 0, 1) := by decide +kernel
theorem dX10_hasLog_1 : decode cX10_hasLog 1 = .ok (.getfield 18, 3) := by decide +kernel
theorem dX10_hasLog_4 : decode cX10_hasLog 4 = .ok (.ifCond .le 7, 3) := by decide +kernel
theorem dX10_hasLog_7 : decode cX10_hasLog 7 = .ok (.iconst 1, 1) := by decide +kernel
theorem dX10_hasLog_8 : decode cX10_hasLog 8 = .ok (.goto 4, 3) := by decide +kernel
theorem dX10_hasLog_11 : decode cX10_hasLog 11 = .ok (.iconst 0, 1) := by decide +kernel
theorem dX10_hasLog_12 : decode cX10_hasLog 12 = .ok (.ireturn, 1) := by decide +kernel
theorem dX10_lay_0 : decode cX10_lay 0 = .ok (.aload_n 0, 1) := by decide +kernel
theorem dX10_lay_1 : decode cX10_lay 1 = .ok (.iload_n 1, 1) := by decide +kernel
theorem dX10_lay_2 : decode cX10_lay 2 = .ok (.putfield 9, 3) := by decide +kernel
theorem dX10_lay_5 : decode cX10_lay 5 = .ok (.aload_n 0, 1) := by decide +kernel
theorem dX10_lay_6 : decode cX10_lay 6 = .ok (.iload_n 2, 1) := by decide +kernel
theorem dX10_lay_7 : decode cX10_lay 7 = .ok (.putfield 15, 3) := by decide +kernel
theorem dX10_lay_10 : decode cX10_lay 10 = .ok (.aload_n 0, 1) := by decide +kernel
theorem dX10_lay_11 : decode cX10_lay 11 = .ok (.iload_n 3, 1) := by decide +kernel
theorem dX10_lay_12 : decode cX10_lay 12 = .ok (.putfield 18, 3) := by decide +kernel
theorem dX10_lay_15 : decode cX10_lay 15 = .ok (.aload_n 0, 1) := by decide +kernel
theorem dX10_lay_16 : decode cX10_lay 16 = .ok (.iconst 0, 1) := by decide +kernel
theorem dX10_lay_17 : decode cX10_lay 17 = .ok (.putfield 21, 3) := by decide +kernel
theorem dX10_lay_20 : decode cX10_lay 20 = .ok (.iconst 0, 1) := by decide +kernel
theorem dX10_lay_21 : decode cX10_lay 21 = .ok (.istore 4, 2) := by decide +kernel
theorem dX10_lay_23 : decode cX10_lay 23 = .ok (.iload 4, 2) := by decide +kernel
theorem dX10_lay_25 : decode cX10_lay 25 = .ok (.bipush 8, 2) := by decide +kernel
theorem dX10_lay_27 : decode cX10_lay 27 = .ok (.if_icmp .ge 17, 3) := by decide +kernel
theorem dX10_lay_30 : decode cX10_lay 30 = .ok (.aload_n 0, 1) := by decide +kernel
theorem dX10_lay_31 : decode cX10_lay 31 = .ok (.getfield 26, 3) := by decide +kernel
theorem dX10_lay_34 : decode cX10_lay 34 = .ok (.iload 4, 2) := by decide +kernel
theorem dX10_lay_36 : decode cX10_lay 36 = .ok (.aconst_null, 1) := by decide +kernel
theorem dX10_lay_37 : decode cX10_lay 37 = .ok (.aastore, 1) := by decide +kernel
theorem dX10_lay_38 : decode cX10_lay 38 = .ok (.iinc 4 1, 3) := by decide +kernel
theorem dX10_lay_41 : decode cX10_lay 41 = .ok (.goto (-18), 3) := by decide +kernel
theorem dX10_lay_44 : decode cX10_lay 44 = .ok (.aload_n 0, 1) := by decide +kernel
theorem dX10_lay_45 : decode cX10_lay 45 = .ok (.iconst 0, 1) := by decide +kernel
theorem dX10_lay_46 : decode cX10_lay 46 = .ok (.putfield 30, 3) := by decide +kernel
theorem dX10_lay_49 : decode cX10_lay 49 = .ok (.return_, 1) := by decide +kernel
theorem dX10_isWood_0 : decode cX10_isWood 0 = .ok (.iload_n 1, 1) := by decide +kernel
theorem dX10_isWood_1 : decode cX10_isWood 1 = .ok (.invokestatic 58, 3) := by decide +kernel
theorem dX10_isWood_4 : decode cX10_isWood 4 = .ok (.istore 4, 2) := by decide +kernel
theorem dX10_isWood_6 : decode cX10_isWood 6 = .ok (.iload_n 2, 1) := by decide +kernel
theorem dX10_isWood_7 : decode cX10_isWood 7 = .ok (.invokestatic 58, 3) := by decide +kernel
theorem dX10_isWood_10 : decode cX10_isWood 10 = .ok (.istore 5, 2) := by decide +kernel
theorem dX10_isWood_12 : decode cX10_isWood 12 = .ok (.iconst 1, 1) := by decide +kernel
theorem dX10_isWood_13 : decode cX10_isWood 13 = .ok (.aload_n 0, 1) := by decide +kernel
theorem dX10_isWood_14 : decode cX10_isWood 14 = .ok (.getfield 9, 3) := by decide +kernel
theorem dX10_isWood_17 : decode cX10_isWood 17 = .ok (.iload_n 3, 1) := by decide +kernel
theorem dX10_isWood_18 : decode cX10_isWood 18 = .ok (.aload_n 0, 1) := by decide +kernel
theorem dX10_isWood_19 : decode cX10_isWood 19 = .ok (.getfield 15, 3) := by decide +kernel
theorem dX10_isWood_22 : decode cX10_isWood 22 = .ok (.imul, 1) := by decide +kernel
theorem dX10_isWood_23 : decode cX10_isWood 23 = .ok (.iconst 4, 1) := by decide +kernel
theorem dX10_isWood_24 : decode cX10_isWood 24 = .ok (.idiv, 1) := by decide +kernel
theorem dX10_isWood_25 : decode cX10_isWood 25 = .ok (.isub, 1) := by decide +kernel
theorem dX10_isWood_26 : decode cX10_isWood 26 = .ok (.invokestatic 62, 3) := by decide +kernel
theorem dX10_isWood_29 : decode cX10_isWood 29 = .ok (.istore 6, 2) := by decide +kernel
theorem dX10_isWood_31 : decode cX10_isWood 31 = .ok (.iload 4, 2) := by decide +kernel
theorem dX10_isWood_33 : decode cX10_isWood 33 = .ok (.iload 4, 2) := by decide +kernel
theorem dX10_isWood_35 : decode cX10_isWood 35 = .ok (.imul, 1) := by decide +kernel
theorem dX10_isWood_36 : decode cX10_isWood 36 = .ok (.iload 5, 2) := by decide +kernel
theorem dX10_isWood_38 : decode cX10_isWood 38 = .ok (.iload 5, 2) := by decide +kernel
theorem dX10_isWood_40 : decode cX10_isWood 40 = .ok (.imul, 1) := by decide +kernel
theorem dX10_isWood_41 : decode cX10_isWood 41 = .ok (.iadd, 1) := by decide +kernel
theorem dX10_isWood_42 : decode cX10_isWood 42 = .ok (.iconst 4, 1) := by decide +kernel
theorem dX10_isWood_43 : decode cX10_isWood 43 = .ok (.iload 6, 2) := by decide +kernel
theorem dX10_isWood_45 : decode cX10_isWood 45 = .ok (.imul, 1) := by decide +kernel
theorem dX10_isWood_46 : decode cX10_isWood 46 = .ok (.iload 6, 2) := by decide +kernel
theorem dX10_isWood_48 : decode cX10_isWood 48 = .ok (.imul, 1) := by decide +kernel
theorem dX10_isWood_49 : decode cX10_isWood 49 = .ok (.if_icmp .gt 7, 3) := by decide +kernel
theorem dX10_isWood_52 : decode cX10_isWood 52 = .ok (.iconst 1, 1) := by decide +kernel
theorem dX10_isWood_53 : decode cX10_isWood 53 = .ok (.goto 4, 3) := by decide +kernel
theorem dX10_isWood_56 : decode cX10_isWood 56 = .ok (.iconst 0, 1) := by decide +kernel
theorem dX10_isWood_57 : decode cX10_isWood 57 = .ok (.ireturn, 1) := by decide +kernel
theorem dX10_faultOf_0 : decode cX10_faultOf 0 = .ok (.iload_n 1, 1) := by decide +kernel
theorem dX10_faultOf_1 : decode cX10_faultOf 1 = .ok (.iconst 0, 1) := by decide +kernel
theorem dX10_faultOf_2 : decode cX10_faultOf 2 = .ok (.aload_n 0, 1) := by decide +kernel
theorem dX10_faultOf_3 : decode cX10_faultOf 3 = .ok (.getfield 30, 3) := by decide +kernel
theorem dX10_faultOf_6 : decode cX10_faultOf 6 = .ok (.iconst 1, 1) := by decide +kernel
theorem dX10_faultOf_7 : decode cX10_faultOf 7 = .ok (.isub, 1) := by decide +kernel
theorem dX10_faultOf_8 : decode cX10_faultOf 8 = .ok (.invokestatic 68, 3) := by decide +kernel
theorem dX10_faultOf_11 : decode cX10_faultOf 11 = .ok (.ifCond .eq 12, 3) := by decide +kernel
theorem dX10_faultOf_14 : decode cX10_faultOf 14 = .ok (.aload_n 0, 1) := by decide +kernel
theorem dX10_faultOf_15 : decode cX10_faultOf 15 = .ok (.getfield 26, 3) := by decide +kernel
theorem dX10_faultOf_18 : decode cX10_faultOf 18 = .ok (.iload_n 1, 1) := by decide +kernel
theorem dX10_faultOf_19 : decode cX10_faultOf 19 = .ok (.aaload, 1) := by decide +kernel
theorem dX10_faultOf_20 : decode cX10_faultOf 20 = .ok (.goto 4, 3) := by decide +kernel
theorem dX10_faultOf_23 : decode cX10_faultOf 23 = .ok (.aconst_null, 1) := by decide +kernel
theorem dX10_faultOf_24 : decode cX10_faultOf 24 = .ok (.areturn, 1) := by decide +kernel
theorem dX10_addFault_0 : decode cX10_addFault 0 = .ok (.aload_n 0, 1) := by decide +kernel
theorem dX10_addFault_1 : decode cX10_addFault 1 = .ok (.getfield 30, 3) := by decide +kernel
theorem dX10_addFault_4 : decode cX10_addFault 4 = .ok (.bipush 8, 2) := by decide +kernel
theorem dX10_addFault_6 : decode cX10_addFault 6 = .ok (.if_icmp .ge 23, 3) := by decide +kernel
theorem dX10_addFault_9 : decode cX10_addFault 9 = .ok (.aload_n 0, 1) := by decide +kernel
theorem dX10_addFault_10 : decode cX10_addFault 10 = .ok (.getfield 26, 3) := by decide +kernel
theorem dX10_addFault_13 : decode cX10_addFault 13 = .ok (.aload_n 0, 1) := by decide +kernel
theorem dX10_addFault_14 : decode cX10_addFault 14 = .ok (.getfield 30, 3) := by decide +kernel
theorem dX10_addFault_17 : decode cX10_addFault 17 = .ok (.aload_n 1, 1) := by decide +kernel
theorem dX10_addFault_18 : decode cX10_addFault 18 = .ok (.aastore, 1) := by decide +kernel
theorem dX10_addFault_19 : decode cX10_addFault 19 = .ok (.aload_n 0, 1) := by decide +kernel
theorem dX10_addFault_20 : decode cX10_addFault 20 = .ok (.dup, 1) := by decide +kernel
theorem dX10_addFault_21 : decode cX10_addFault 21 = .ok (.getfield 30, 3) := by decide +kernel
theorem dX10_addFault_24 : decode cX10_addFault 24 = .ok (.iconst 1, 1) := by decide +kernel
theorem dX10_addFault_25 : decode cX10_addFault 25 = .ok (.iadd, 1) := by decide +kernel
theorem dX10_addFault_26 : decode cX10_addFault 26 = .ok (.putfield 30, 3) := by decide +kernel
theorem dX10_addFault_29 : decode cX10_addFault 29 = .ok (.return_, 1) := by decide +kernel
theorem dX10_dropFault_0 : decode cX10_dropFault 0 = .ok (.iconst 0, 1) := by decide +kernel
theorem dX10_dropFault_1 : decode cX10_dropFault 1 = .ok (.iload_n 1, 1) := by decide +kernel
theorem dX10_dropFault_2 : decode cX10_dropFault 2 = .ok (.invokestatic 62, 3) := by decide +kernel
theorem dX10_dropFault_5 : decode cX10_dropFault 5 = .ok (.istore_n 2, 1) := by decide +kernel
theorem dX10_dropFault_6 : decode cX10_dropFault 6 = .ok (.iload_n 2, 1) := by decide +kernel
theorem dX10_dropFault_7 : decode cX10_dropFault 7 = .ok (.iconst 1, 1) := by decide +kernel
theorem dX10_dropFault_8 : decode cX10_dropFault 8 = .ok (.iadd, 1) := by decide +kernel
theorem dX10_dropFault_9 : decode cX10_dropFault 9 = .ok (.aload_n 0, 1) := by decide +kernel
theorem dX10_dropFault_10 : decode cX10_dropFault 10 = .ok (.getfield 30, 3) := by decide +kernel
theorem dX10_dropFault_13 : decode cX10_dropFault 13 = .ok (.if_icmp .ge 23, 3) := by decide +kernel
theorem dX10_dropFault_16 : decode cX10_dropFault 16 = .ok (.aload_n 0, 1) := by decide +kernel
theorem dX10_dropFault_17 : decode cX10_dropFault 17 = .ok (.getfield 26, 3) := by decide +kernel
theorem dX10_dropFault_20 : decode cX10_dropFault 20 = .ok (.iload_n 2, 1) := by decide +kernel
theorem dX10_dropFault_21 : decode cX10_dropFault 21 = .ok (.aload_n 0, 1) := by decide +kernel
theorem dX10_dropFault_22 : decode cX10_dropFault 22 = .ok (.getfield 26, 3) := by decide +kernel
theorem dX10_dropFault_25 : decode cX10_dropFault 25 = .ok (.iload_n 2, 1) := by decide +kernel
theorem dX10_dropFault_26 : decode cX10_dropFault 26 = .ok (.iconst 1, 1) := by decide +kernel
theorem dX10_dropFault_27 : decode cX10_dropFault 27 = .ok (.iadd, 1) := by decide +kernel
theorem dX10_dropFault_28 : decode cX10_dropFault 28 = .ok (.aaload, 1) := by decide +kernel
theorem dX10_dropFault_29 : decode cX10_dropFault 29 = .ok (.aastore, 1) := by decide +kernel
theorem dX10_dropFault_30 : decode cX10_dropFault 30 = .ok (.iinc 2 1, 3) := by decide +kernel
theorem dX10_dropFault_33 : decode cX10_dropFault 33 = .ok (.goto (-27), 3) := by decide +kernel
theorem dX10_dropFault_36 : decode cX10_dropFault 36 = .ok (.aload_n 0, 1) := by decide +kernel
theorem dX10_dropFault_37 : decode cX10_dropFault 37 = .ok (.getfield 30, 3) := by decide +kernel
theorem dX10_dropFault_40 : decode cX10_dropFault 40 = .ok (.ifCond .le 23, 3) := by decide +kernel
theorem dX10_dropFault_43 : decode cX10_dropFault 43 = .ok (.aload_n 0, 1) := by decide +kernel
theorem dX10_dropFault_44 : decode cX10_dropFault 44 = .ok (.dup, 1) := by decide +kernel
theorem dX10_dropFault_45 : decode cX10_dropFault 45 = .ok (.getfield 30, 3) := by decide +kernel
theorem dX10_dropFault_48 : decode cX10_dropFault 48 = .ok (.iconst 1, 1) := by decide +kernel
theorem dX10_dropFault_49 : decode cX10_dropFault 49 = .ok (.isub, 1) := by decide +kernel
theorem dX10_dropFault_50 : decode cX10_dropFault 50 = .ok (.putfield 30, 3) := by decide +kernel
theorem dX10_dropFault_53 : decode cX10_dropFault 53 = .ok (.aload_n 0, 1) := by decide +kernel
theorem dX10_dropFault_54 : decode cX10_dropFault 54 = .ok (.getfield 26, 3) := by decide +kernel
theorem dX10_dropFault_57 : decode cX10_dropFault 57 = .ok (.aload_n 0, 1) := by decide +kernel
theorem dX10_dropFault_58 : decode cX10_dropFault 58 = .ok (.getfield 30, 3) := by decide +kernel
theorem dX10_dropFault_61 : decode cX10_dropFault 61 = .ok (.aconst_null, 1) := by decide +kernel
theorem dX10_dropFault_62 : decode cX10_dropFault 62 = .ok (.aastore, 1) := by decide +kernel
theorem dX10_dropFault_63 : decode cX10_dropFault 63 = .ok (.return_, 1) := by decide +kernel
theorem dX10_woodIn_0 : decode cX10_woodIn 0 = .ok (.aload_n 1, 1) := by decide +kernel
theorem dX10_woodIn_1 : decode cX10_woodIn 1 = .ok (.getfield 72, 3) := by decide +kernel
theorem dX10_woodIn_4 : decode cX10_woodIn 4 = .ok (.aload_n 1, 1) := by decide +kernel
theorem dX10_woodIn_5 : decode cX10_woodIn 5 = .ok (.aload_n 0, 1) := by decide +kernel
theorem dX10_woodIn_6 : decode cX10_woodIn 6 = .ok (.getfield 18, 3) := by decide +kernel
theorem dX10_woodIn_9 : decode cX10_woodIn 9 = .ok (.invokevirtual 75, 3) := by decide +kernel
theorem dX10_woodIn_12 : decode cX10_woodIn 12 = .ok (.iadd, 1) := by decide +kernel
theorem dX10_woodIn_13 : decode cX10_woodIn 13 = .ok (.istore_n 2, 1) := by decide +kernel
theorem dX10_woodIn_14 : decode cX10_woodIn 14 = .ok (.iconst 0, 1) := by decide +kernel
theorem dX10_woodIn_15 : decode cX10_woodIn 15 = .ok (.istore_n 3, 1) := by decide +kernel
theorem dX10_woodIn_16 : decode cX10_woodIn 16 = .ok (.aload_n 1, 1) := by decide +kernel
theorem dX10_woodIn_17 : decode cX10_woodIn 17 = .ok (.getfield 72, 3) := by decide +kernel
theorem dX10_woodIn_20 : decode cX10_woodIn 20 = .ok (.istore 4, 2) := by decide +kernel
theorem dX10_woodIn_22 : decode cX10_woodIn 22 = .ok (.iload 4, 2) := by decide +kernel
theorem dX10_woodIn_24 : decode cX10_woodIn 24 = .ok (.iload_n 2, 1) := by decide +kernel
theorem dX10_woodIn_25 : decode cX10_woodIn 25 = .ok (.if_icmp .ge 73, 3) := by decide +kernel
theorem dX10_woodIn_28 : decode cX10_woodIn 28 = .ok (.iconst 0, 1) := by decide +kernel
theorem dX10_woodIn_29 : decode cX10_woodIn 29 = .ok (.istore 5, 2) := by decide +kernel
theorem dX10_woodIn_31 : decode cX10_woodIn 31 = .ok (.iload 5, 2) := by decide +kernel
theorem dX10_woodIn_33 : decode cX10_woodIn 33 = .ok (.sipush 144, 3) := by decide +kernel
theorem dX10_woodIn_36 : decode cX10_woodIn 36 = .ok (.if_icmp .ge 56, 3) := by decide +kernel
theorem dX10_woodIn_39 : decode cX10_woodIn 39 = .ok (.iload 5, 2) := by decide +kernel
theorem dX10_woodIn_41 : decode cX10_woodIn 41 = .ok (.bipush 12, 2) := by decide +kernel
theorem dX10_woodIn_43 : decode cX10_woodIn 43 = .ok (.irem, 1) := by decide +kernel
theorem dX10_woodIn_44 : decode cX10_woodIn 44 = .ok (.istore 6, 2) := by decide +kernel
theorem dX10_woodIn_46 : decode cX10_woodIn 46 = .ok (.iload 5, 2) := by decide +kernel
theorem dX10_woodIn_48 : decode cX10_woodIn 48 = .ok (.bipush 12, 2) := by decide +kernel
theorem dX10_woodIn_50 : decode cX10_woodIn 50 = .ok (.idiv, 1) := by decide +kernel
theorem dX10_woodIn_51 : decode cX10_woodIn 51 = .ok (.istore 7, 2) := by decide +kernel
theorem dX10_woodIn_53 : decode cX10_woodIn 53 = .ok (.aload_n 0, 1) := by decide +kernel
theorem dX10_woodIn_54 : decode cX10_woodIn 54 = .ok (.iload 6, 2) := by decide +kernel
theorem dX10_woodIn_56 : decode cX10_woodIn 56 = .ok (.iload 7, 2) := by decide +kernel
theorem dX10_woodIn_58 : decode cX10_woodIn 58 = .ok (.iload 4, 2) := by decide +kernel
theorem dX10_woodIn_60 : decode cX10_woodIn 60 = .ok (.invokevirtual 78, 3) := by decide +kernel
theorem dX10_woodIn_63 : decode cX10_woodIn 63 = .ok (.ifCond .eq 23, 3) := by decide +kernel
theorem dX10_woodIn_66 : decode cX10_woodIn 66 = .ok (.aload_n 1, 1) := by decide +kernel
theorem dX10_woodIn_67 : decode cX10_woodIn 67 = .ok (.iload 6, 2) := by decide +kernel
theorem dX10_woodIn_69 : decode cX10_woodIn 69 = .ok (.invokestatic 58, 3) := by decide +kernel
theorem dX10_woodIn_72 : decode cX10_woodIn 72 = .ok (.iload 7, 2) := by decide +kernel
theorem dX10_woodIn_74 : decode cX10_woodIn 74 = .ok (.invokestatic 58, 3) := by decide +kernel
theorem dX10_woodIn_77 : decode cX10_woodIn 77 = .ok (.invokevirtual 81, 3) := by decide +kernel
theorem dX10_woodIn_80 : decode cX10_woodIn 80 = .ok (.ifCond .eq 6, 3) := by decide +kernel
theorem dX10_woodIn_83 : decode cX10_woodIn 83 = .ok (.iinc 3 1, 3) := by decide +kernel
theorem dX10_woodIn_86 : decode cX10_woodIn 86 = .ok (.iinc 5 1, 3) := by decide +kernel
theorem dX10_woodIn_89 : decode cX10_woodIn 89 = .ok (.goto (-58), 3) := by decide +kernel
theorem dX10_woodIn_92 : decode cX10_woodIn 92 = .ok (.iinc 4 1, 3) := by decide +kernel
theorem dX10_woodIn_95 : decode cX10_woodIn 95 = .ok (.goto (-73), 3) := by decide +kernel
theorem dX10_woodIn_98 : decode cX10_woodIn 98 = .ok (.iload_n 3, 1) := by decide +kernel
theorem dX10_woodIn_99 : decode cX10_woodIn 99 = .ok (.ireturn, 1) := by decide +kernel
theorem dX10_leastFaultIn_0 : decode cX10_leastFaultIn 0 = .ok (.iconst 0, 1) := by decide +kernel
theorem dX10_leastFaultIn_1 : decode cX10_leastFaultIn 1 = .ok (.istore 4, 2) := by decide +kernel
theorem dX10_leastFaultIn_3 : decode cX10_leastFaultIn 3 = .ok (.iload 4, 2) := by decide +kernel
theorem dX10_leastFaultIn_5 : decode cX10_leastFaultIn 5 = .ok (.aload_n 0, 1) := by decide +kernel
theorem dX10_leastFaultIn_6 : decode cX10_leastFaultIn 6 = .ok (.getfield 30, 3) := by decide +kernel
theorem dX10_leastFaultIn_9 : decode cX10_leastFaultIn 9 = .ok (.if_icmp .ge 54, 3) := by decide +kernel
theorem dX10_leastFaultIn_12 : decode cX10_leastFaultIn 12 = .ok (.aload_n 0, 1) := by decide +kernel
theorem dX10_leastFaultIn_13 : decode cX10_leastFaultIn 13 = .ok (.iload 4, 2) := by decide +kernel
theorem dX10_leastFaultIn_15 : decode cX10_leastFaultIn 15 = .ok (.invokevirtual 85, 3) := by decide +kernel
theorem dX10_leastFaultIn_18 : decode cX10_leastFaultIn 18 = .ok (.astore 5, 2) := by decide +kernel
theorem dX10_leastFaultIn_20 : decode cX10_leastFaultIn 20 = .ok (.aload 5, 2) := by decide +kernel
theorem dX10_leastFaultIn_22 : decode cX10_leastFaultIn 22 = .ok (.ifnull 35, 3) := by decide +kernel
theorem dX10_leastFaultIn_25 : decode cX10_leastFaultIn 25 = .ok (.aload 5, 2) := by decide +kernel
theorem dX10_leastFaultIn_27 : decode cX10_leastFaultIn 27 = .ok (.iload_n 3, 1) := by decide +kernel
theorem dX10_leastFaultIn_28 : decode cX10_leastFaultIn 28 = .ok (.aload_n 0, 1) := by decide +kernel
theorem dX10_leastFaultIn_29 : decode cX10_leastFaultIn 29 = .ok (.getfield 18, 3) := by decide +kernel
theorem dX10_leastFaultIn_32 : decode cX10_leastFaultIn 32 = .ok (.invokevirtual 89, 3) := by decide +kernel
theorem dX10_leastFaultIn_35 : decode cX10_leastFaultIn 35 = .ok (.ifCond .eq 22, 3) := by decide +kernel
theorem dX10_leastFaultIn_38 : decode cX10_leastFaultIn 38 = .ok (.aload 5, 2) := by decide +kernel
theorem dX10_leastFaultIn_40 : decode cX10_leastFaultIn 40 = .ok (.iload_n 1, 1) := by decide +kernel
theorem dX10_leastFaultIn_41 : decode cX10_leastFaultIn 41 = .ok (.invokestatic 58, 3) := by decide +kernel
theorem dX10_leastFaultIn_44 : decode cX10_leastFaultIn 44 = .ok (.iload_n 2, 1) := by decide +kernel
theorem dX10_leastFaultIn_45 : decode cX10_leastFaultIn 45 = .ok (.invokestatic 58, 3) := by decide +kernel
theorem dX10_leastFaultIn_48 : decode cX10_leastFaultIn 48 = .ok (.invokevirtual 81, 3) := by decide +kernel
theorem dX10_leastFaultIn_51 : decode cX10_leastFaultIn 51 = .ok (.ifCond .eq 6, 3) := by decide +kernel
theorem dX10_leastFaultIn_54 : decode cX10_leastFaultIn 54 = .ok (.iload 4, 2) := by decide +kernel
theorem dX10_leastFaultIn_56 : decode cX10_leastFaultIn 56 = .ok (.ireturn, 1) := by decide +kernel
theorem dX10_leastFaultIn_57 : decode cX10_leastFaultIn 57 = .ok (.iinc 4 1, 3) := by decide +kernel
theorem dX10_leastFaultIn_60 : decode cX10_leastFaultIn 60 = .ok (.goto (-57), 3) := by decide +kernel
theorem dX10_leastFaultIn_63 : decode cX10_leastFaultIn 63 = .ok (.iconst (-1), 1) := by decide +kernel
theorem dX10_leastFaultIn_64 : decode cX10_leastFaultIn 64 = .ok (.ireturn, 1) := by decide +kernel
theorem dX10_addBoard_0 : decode cX10_addBoard 0 = .ok (.aload_n 0, 1) := by decide +kernel
theorem dX10_addBoard_1 : decode cX10_addBoard 1 = .ok (.getfield 40, 3) := by decide +kernel
theorem dX10_addBoard_4 : decode cX10_addBoard 4 = .ok (.bipush 16, 2) := by decide +kernel
theorem dX10_addBoard_6 : decode cX10_addBoard 6 = .ok (.if_icmp .ge 31, 3) := by decide +kernel
theorem dX10_addBoard_9 : decode cX10_addBoard 9 = .ok (.aload_n 0, 1) := by decide +kernel
theorem dX10_addBoard_10 : decode cX10_addBoard 10 = .ok (.getfield 37, 3) := by decide +kernel
theorem dX10_addBoard_13 : decode cX10_addBoard 13 = .ok (.iconst 4, 1) := by decide +kernel
theorem dX10_addBoard_14 : decode cX10_addBoard 14 = .ok (.aload_n 0, 1) := by decide +kernel
theorem dX10_addBoard_15 : decode cX10_addBoard 15 = .ok (.getfield 40, 3) := by decide +kernel
theorem dX10_addBoard_18 : decode cX10_addBoard 18 = .ok (.imul, 1) := by decide +kernel
theorem dX10_addBoard_19 : decode cX10_addBoard 19 = .ok (.iload_n 1, 1) := by decide +kernel
theorem dX10_addBoard_20 : decode cX10_addBoard 20 = .ok (.iload_n 2, 1) := by decide +kernel
theorem dX10_addBoard_21 : decode cX10_addBoard 21 = .ok (.iload_n 3, 1) := by decide +kernel
theorem dX10_addBoard_22 : decode cX10_addBoard 22 = .ok (.iload 4, 2) := by decide +kernel
theorem dX10_addBoard_24 : decode cX10_addBoard 24 = .ok (.invokestatic 92, 3) := by decide +kernel
theorem dX10_addBoard_27 : decode cX10_addBoard 27 = .ok (.aload_n 0, 1) := by decide +kernel
theorem dX10_addBoard_28 : decode cX10_addBoard 28 = .ok (.dup, 1) := by decide +kernel
theorem dX10_addBoard_29 : decode cX10_addBoard 29 = .ok (.getfield 40, 3) := by decide +kernel
theorem dX10_addBoard_32 : decode cX10_addBoard 32 = .ok (.iconst 1, 1) := by decide +kernel
theorem dX10_addBoard_33 : decode cX10_addBoard 33 = .ok (.iadd, 1) := by decide +kernel
theorem dX10_addBoard_34 : decode cX10_addBoard 34 = .ok (.putfield 40, 3) := by decide +kernel
theorem dX10_addBoard_37 : decode cX10_addBoard 37 = .ok (.return_, 1) := by decide +kernel
theorem dX10_addOrder_0 : decode cX10_addOrder 0 = .ok (.aload_n 0, 1) := by decide +kernel
theorem dX10_addOrder_1 : decode cX10_addOrder 1 = .ok (.getfield 46, 3) := by decide +kernel
theorem dX10_addOrder_4 : decode cX10_addOrder 4 = .ok (.bipush 6, 2) := by decide +kernel
theorem dX10_addOrder_6 : decode cX10_addOrder 6 = .ok (.if_icmp .ge 31, 3) := by decide +kernel
theorem dX10_addOrder_9 : decode cX10_addOrder 9 = .ok (.aload_n 0, 1) := by decide +kernel
theorem dX10_addOrder_10 : decode cX10_addOrder 10 = .ok (.getfield 43, 3) := by decide +kernel
theorem dX10_addOrder_13 : decode cX10_addOrder 13 = .ok (.iconst 4, 1) := by decide +kernel
theorem dX10_addOrder_14 : decode cX10_addOrder 14 = .ok (.aload_n 0, 1) := by decide +kernel
theorem dX10_addOrder_15 : decode cX10_addOrder 15 = .ok (.getfield 46, 3) := by decide +kernel
theorem dX10_addOrder_18 : decode cX10_addOrder 18 = .ok (.imul, 1) := by decide +kernel
theorem dX10_addOrder_19 : decode cX10_addOrder 19 = .ok (.iload_n 1, 1) := by decide +kernel
theorem dX10_addOrder_20 : decode cX10_addOrder 20 = .ok (.iload_n 2, 1) := by decide +kernel
theorem dX10_addOrder_21 : decode cX10_addOrder 21 = .ok (.iload_n 3, 1) := by decide +kernel
theorem dX10_addOrder_22 : decode cX10_addOrder 22 = .ok (.iload 4, 2) := by decide +kernel
theorem dX10_addOrder_24 : decode cX10_addOrder 24 = .ok (.invokestatic 92, 3) := by decide +kernel
theorem dX10_addOrder_27 : decode cX10_addOrder 27 = .ok (.aload_n 0, 1) := by decide +kernel
theorem dX10_addOrder_28 : decode cX10_addOrder 28 = .ok (.dup, 1) := by decide +kernel
theorem dX10_addOrder_29 : decode cX10_addOrder 29 = .ok (.getfield 46, 3) := by decide +kernel
theorem dX10_addOrder_32 : decode cX10_addOrder 32 = .ok (.iconst 1, 1) := by decide +kernel
theorem dX10_addOrder_33 : decode cX10_addOrder 33 = .ok (.iadd, 1) := by decide +kernel
theorem dX10_addOrder_34 : decode cX10_addOrder 34 = .ok (.putfield 46, 3) := by decide +kernel
theorem dX10_addOrder_37 : decode cX10_addOrder 37 = .ok (.return_, 1) := by decide +kernel
theorem dX10_fillRow_0 : decode cX10_fillRow 0 = .ok (.iload_n 1, 1) := by decide +kernel
theorem dX10_fillRow_1 : decode cX10_fillRow 1 = .ok (.ifCond .lt 35, 3) := by decide +kernel
theorem dX10_fillRow_4 : decode cX10_fillRow 4 = .ok (.iload_n 1, 1) := by decide +kernel
theorem dX10_fillRow_5 : decode cX10_fillRow 5 = .ok (.iconst 3, 1) := by decide +kernel
theorem dX10_fillRow_6 : decode cX10_fillRow 6 = .ok (.iadd, 1) := by decide +kernel
theorem dX10_fillRow_7 : decode cX10_fillRow 7 = .ok (.aload_n 0, 1) := by decide +kernel
theorem dX10_fillRow_8 : decode cX10_fillRow 8 = .ok (.arraylength, 1) := by decide +kernel
theorem dX10_fillRow_9 : decode cX10_fillRow 9 = .ok (.if_icmp .ge 27, 3) := by decide +kernel
theorem dX10_fillRow_12 : decode cX10_fillRow 12 = .ok (.aload_n 0, 1) := by decide +kernel
theorem dX10_fillRow_13 : decode cX10_fillRow 13 = .ok (.iload_n 1, 1) := by decide +kernel
theorem dX10_fillRow_14 : decode cX10_fillRow 14 = .ok (.iload_n 2, 1) := by decide +kernel
theorem dX10_fillRow_15 : decode cX10_fillRow 15 = .ok (.iastore, 1) := by decide +kernel
theorem dX10_fillRow_16 : decode cX10_fillRow 16 = .ok (.aload_n 0, 1) := by decide +kernel
theorem dX10_fillRow_17 : decode cX10_fillRow 17 = .ok (.iload_n 1, 1) := by decide +kernel
theorem dX10_fillRow_18 : decode cX10_fillRow 18 = .ok (.iconst 1, 1) := by decide +kernel
theorem dX10_fillRow_19 : decode cX10_fillRow 19 = .ok (.iadd, 1) := by decide +kernel
theorem dX10_fillRow_20 : decode cX10_fillRow 20 = .ok (.iload_n 3, 1) := by decide +kernel
theorem dX10_fillRow_21 : decode cX10_fillRow 21 = .ok (.iastore, 1) := by decide +kernel
theorem dX10_fillRow_22 : decode cX10_fillRow 22 = .ok (.aload_n 0, 1) := by decide +kernel
theorem dX10_fillRow_23 : decode cX10_fillRow 23 = .ok (.iload_n 1, 1) := by decide +kernel
theorem dX10_fillRow_24 : decode cX10_fillRow 24 = .ok (.iconst 2, 1) := by decide +kernel
theorem dX10_fillRow_25 : decode cX10_fillRow 25 = .ok (.iadd, 1) := by decide +kernel
theorem dX10_fillRow_26 : decode cX10_fillRow 26 = .ok (.iload 4, 2) := by decide +kernel
theorem dX10_fillRow_28 : decode cX10_fillRow 28 = .ok (.iastore, 1) := by decide +kernel
theorem dX10_fillRow_29 : decode cX10_fillRow 29 = .ok (.aload_n 0, 1) := by decide +kernel
theorem dX10_fillRow_30 : decode cX10_fillRow 30 = .ok (.iload_n 1, 1) := by decide +kernel
theorem dX10_fillRow_31 : decode cX10_fillRow 31 = .ok (.iconst 3, 1) := by decide +kernel
theorem dX10_fillRow_32 : decode cX10_fillRow 32 = .ok (.iadd, 1) := by decide +kernel
theorem dX10_fillRow_33 : decode cX10_fillRow 33 = .ok (.iload 5, 2) := by decide +kernel
theorem dX10_fillRow_35 : decode cX10_fillRow 35 = .ok (.iastore, 1) := by decide +kernel
theorem dX10_fillRow_36 : decode cX10_fillRow 36 = .ok (.return_, 1) := by decide +kernel
theorem dX10_boardsThatMeet_0 : decode cX10_boardsThatMeet 0 = .ok (.iconst 0, 1) := by decide +kernel
theorem dX10_boardsThatMeet_1 : decode cX10_boardsThatMeet 1 = .ok (.istore_n 2, 1) := by decide +kernel
theorem dX10_boardsThatMeet_2 : decode cX10_boardsThatMeet 2 = .ok (.iconst 0, 1) := by decide +kernel
theorem dX10_boardsThatMeet_3 : decode cX10_boardsThatMeet 3 = .ok (.istore_n 3, 1) := by decide +kernel
theorem dX10_boardsThatMeet_4 : decode cX10_boardsThatMeet 4 = .ok (.iload_n 3, 1) := by decide +kernel
theorem dX10_boardsThatMeet_5 : decode cX10_boardsThatMeet 5 = .ok (.aload_n 0, 1) := by decide +kernel
theorem dX10_boardsThatMeet_6 : decode cX10_boardsThatMeet 6 = .ok (.getfield 40, 3) := by decide +kernel
theorem dX10_boardsThatMeet_9 : decode cX10_boardsThatMeet 9 = .ok (.if_icmp .ge 28, 3) := by decide +kernel
theorem dX10_boardsThatMeet_12 : decode cX10_boardsThatMeet 12 = .ok (.aload_n 0, 1) := by decide +kernel
theorem dX10_boardsThatMeet_13 : decode cX10_boardsThatMeet 13 = .ok (.iconst 4, 1) := by decide +kernel
theorem dX10_boardsThatMeet_14 : decode cX10_boardsThatMeet 14 = .ok (.iload_n 3, 1) := by decide +kernel
theorem dX10_boardsThatMeet_15 : decode cX10_boardsThatMeet 15 = .ok (.imul, 1) := by decide +kernel
theorem dX10_boardsThatMeet_16 : decode cX10_boardsThatMeet 16 = .ok (.iconst 4, 1) := by decide +kernel
theorem dX10_boardsThatMeet_17 : decode cX10_boardsThatMeet 17 = .ok (.iload_n 1, 1) := by decide +kernel
theorem dX10_boardsThatMeet_18 : decode cX10_boardsThatMeet 18 = .ok (.imul, 1) := by decide +kernel
theorem dX10_boardsThatMeet_19 : decode cX10_boardsThatMeet 19 = .ok (.invokevirtual 96, 3) := by decide +kernel
theorem dX10_boardsThatMeet_22 : decode cX10_boardsThatMeet 22 = .ok (.ifCond .eq 9, 3) := by decide +kernel
theorem dX10_boardsThatMeet_25 : decode cX10_boardsThatMeet 25 = .ok (.iload_n 2, 1) := by decide +kernel
theorem dX10_boardsThatMeet_26 : decode cX10_boardsThatMeet 26 = .ok (.iconst 1, 1) := by decide +kernel
theorem dX10_boardsThatMeet_27 : decode cX10_boardsThatMeet 27 = .ok (.iload_n 3, 1) := by decide +kernel
theorem dX10_boardsThatMeet_28 : decode cX10_boardsThatMeet 28 = .ok (.ishl, 1) := by decide +kernel
theorem dX10_boardsThatMeet_29 : decode cX10_boardsThatMeet 29 = .ok (.ior, 1) := by decide +kernel
theorem dX10_boardsThatMeet_30 : decode cX10_boardsThatMeet 30 = .ok (.istore_n 2, 1) := by decide +kernel
theorem dX10_boardsThatMeet_31 : decode cX10_boardsThatMeet 31 = .ok (.iinc 3 1, 3) := by decide +kernel
theorem dX10_boardsThatMeet_34 : decode cX10_boardsThatMeet 34 = .ok (.goto (-30), 3) := by decide +kernel
theorem dX10_boardsThatMeet_37 : decode cX10_boardsThatMeet 37 = .ok (.iload_n 2, 1) := by decide +kernel
theorem dX10_boardsThatMeet_38 : decode cX10_boardsThatMeet 38 = .ok (.ireturn, 1) := by decide +kernel
theorem dX10_meets_0 : decode cX10_meets 0 = .ok (.aload_n 0, 1) := by decide +kernel
theorem dX10_meets_1 : decode cX10_meets 1 = .ok (.getfield 37, 3) := by decide +kernel
theorem dX10_meets_4 : decode cX10_meets 4 = .ok (.iload_n 1, 1) := by decide +kernel
theorem dX10_meets_5 : decode cX10_meets 5 = .ok (.iaload, 1) := by decide +kernel
theorem dX10_meets_6 : decode cX10_meets 6 = .ok (.aload_n 0, 1) := by decide +kernel
theorem dX10_meets_7 : decode cX10_meets 7 = .ok (.getfield 43, 3) := by decide +kernel
theorem dX10_meets_10 : decode cX10_meets 10 = .ok (.iload_n 2, 1) := by decide +kernel
theorem dX10_meets_11 : decode cX10_meets 11 = .ok (.iaload, 1) := by decide +kernel
theorem dX10_meets_12 : decode cX10_meets 12 = .ok (.if_icmp .ne 64, 3) := by decide +kernel
theorem dX10_meets_15 : decode cX10_meets 15 = .ok (.aload_n 0, 1) := by decide +kernel
theorem dX10_meets_16 : decode cX10_meets 16 = .ok (.getfield 37, 3) := by decide +kernel
theorem dX10_meets_19 : decode cX10_meets 19 = .ok (.iload_n 1, 1) := by decide +kernel
theorem dX10_meets_20 : decode cX10_meets 20 = .ok (.iconst 1, 1) := by decide +kernel
theorem dX10_meets_21 : decode cX10_meets 21 = .ok (.iadd, 1) := by decide +kernel
theorem dX10_meets_22 : decode cX10_meets 22 = .ok (.iaload, 1) := by decide +kernel
theorem dX10_meets_23 : decode cX10_meets 23 = .ok (.aload_n 0, 1) := by decide +kernel
theorem dX10_meets_24 : decode cX10_meets 24 = .ok (.getfield 43, 3) := by decide +kernel
theorem dX10_meets_27 : decode cX10_meets 27 = .ok (.iload_n 2, 1) := by decide +kernel
theorem dX10_meets_28 : decode cX10_meets 28 = .ok (.iconst 1, 1) := by decide +kernel
theorem dX10_meets_29 : decode cX10_meets 29 = .ok (.iadd, 1) := by decide +kernel
theorem dX10_meets_30 : decode cX10_meets 30 = .ok (.iaload, 1) := by decide +kernel
theorem dX10_meets_31 : decode cX10_meets 31 = .ok (.if_icmp .lt 45, 3) := by decide +kernel
theorem dX10_meets_34 : decode cX10_meets 34 = .ok (.aload_n 0, 1) := by decide +kernel
theorem dX10_meets_35 : decode cX10_meets 35 = .ok (.getfield 37, 3) := by decide +kernel
theorem dX10_meets_38 : decode cX10_meets 38 = .ok (.iload_n 1, 1) := by decide +kernel
theorem dX10_meets_39 : decode cX10_meets 39 = .ok (.iconst 2, 1) := by decide +kernel
theorem dX10_meets_40 : decode cX10_meets 40 = .ok (.iadd, 1) := by decide +kernel
theorem dX10_meets_41 : decode cX10_meets 41 = .ok (.iaload, 1) := by decide +kernel
theorem dX10_meets_42 : decode cX10_meets 42 = .ok (.aload_n 0, 1) := by decide +kernel
theorem dX10_meets_43 : decode cX10_meets 43 = .ok (.getfield 43, 3) := by decide +kernel
theorem dX10_meets_46 : decode cX10_meets 46 = .ok (.iload_n 2, 1) := by decide +kernel
theorem dX10_meets_47 : decode cX10_meets 47 = .ok (.iconst 2, 1) := by decide +kernel
theorem dX10_meets_48 : decode cX10_meets 48 = .ok (.iadd, 1) := by decide +kernel
theorem dX10_meets_49 : decode cX10_meets 49 = .ok (.iaload, 1) := by decide +kernel
theorem dX10_meets_50 : decode cX10_meets 50 = .ok (.if_icmp .lt 26, 3) := by decide +kernel
theorem dX10_meets_53 : decode cX10_meets 53 = .ok (.aload_n 0, 1) := by decide +kernel
theorem dX10_meets_54 : decode cX10_meets 54 = .ok (.getfield 37, 3) := by decide +kernel
theorem dX10_meets_57 : decode cX10_meets 57 = .ok (.iload_n 1, 1) := by decide +kernel
theorem dX10_meets_58 : decode cX10_meets 58 = .ok (.iconst 3, 1) := by decide +kernel
theorem dX10_meets_59 : decode cX10_meets 59 = .ok (.iadd, 1) := by decide +kernel
theorem dX10_meets_60 : decode cX10_meets 60 = .ok (.iaload, 1) := by decide +kernel
theorem dX10_meets_61 : decode cX10_meets 61 = .ok (.aload_n 0, 1) := by decide +kernel
theorem dX10_meets_62 : decode cX10_meets 62 = .ok (.getfield 43, 3) := by decide +kernel
theorem dX10_meets_65 : decode cX10_meets 65 = .ok (.iload_n 2, 1) := by decide +kernel
theorem dX10_meets_66 : decode cX10_meets 66 = .ok (.iconst 3, 1) := by decide +kernel
theorem dX10_meets_67 : decode cX10_meets 67 = .ok (.iadd, 1) := by decide +kernel
theorem dX10_meets_68 : decode cX10_meets 68 = .ok (.iaload, 1) := by decide +kernel
theorem dX10_meets_69 : decode cX10_meets 69 = .ok (.if_icmp .gt 7, 3) := by decide +kernel
theorem dX10_meets_72 : decode cX10_meets 72 = .ok (.iconst 1, 1) := by decide +kernel
theorem dX10_meets_73 : decode cX10_meets 73 = .ok (.goto 4, 3) := by decide +kernel
theorem dX10_meets_76 : decode cX10_meets 76 = .ok (.iconst 0, 1) := by decide +kernel
theorem dX10_meets_77 : decode cX10_meets 77 = .ok (.ireturn, 1) := by decide +kernel
theorem dX10_keepBoards_0 : decode cX10_keepBoards 0 = .ok (.aload_n 0, 1) := by decide +kernel
theorem dX10_keepBoards_1 : decode cX10_keepBoards 1 = .ok (.aload_n 0, 1) := by decide +kernel
theorem dX10_keepBoards_2 : decode cX10_keepBoards 2 = .ok (.getfield 37, 3) := by decide +kernel
theorem dX10_keepBoards_5 : decode cX10_keepBoards 5 = .ok (.aload_n 0, 1) := by decide +kernel
theorem dX10_keepBoards_6 : decode cX10_keepBoards 6 = .ok (.getfield 40, 3) := by decide +kernel
theorem dX10_keepBoards_9 : decode cX10_keepBoards 9 = .ok (.iload_n 1, 1) := by decide +kernel
theorem dX10_keepBoards_10 : decode cX10_keepBoards 10 = .ok (.invokestatic 99, 3) := by decide +kernel
theorem dX10_keepBoards_13 : decode cX10_keepBoards 13 = .ok (.putfield 40, 3) := by decide +kernel
theorem dX10_keepBoards_16 : decode cX10_keepBoards 16 = .ok (.return_, 1) := by decide +kernel
theorem dX10_keepOrders_0 : decode cX10_keepOrders 0 = .ok (.aload_n 0, 1) := by decide +kernel
theorem dX10_keepOrders_1 : decode cX10_keepOrders 1 = .ok (.aload_n 0, 1) := by decide +kernel
theorem dX10_keepOrders_2 : decode cX10_keepOrders 2 = .ok (.getfield 43, 3) := by decide +kernel
theorem dX10_keepOrders_5 : decode cX10_keepOrders 5 = .ok (.aload_n 0, 1) := by decide +kernel
theorem dX10_keepOrders_6 : decode cX10_keepOrders 6 = .ok (.getfield 46, 3) := by decide +kernel
theorem dX10_keepOrders_9 : decode cX10_keepOrders 9 = .ok (.iload_n 1, 1) := by decide +kernel
theorem dX10_keepOrders_10 : decode cX10_keepOrders 10 = .ok (.invokestatic 99, 3) := by decide +kernel
theorem dX10_keepOrders_13 : decode cX10_keepOrders 13 = .ok (.putfield 46, 3) := by decide +kernel
theorem dX10_keepOrders_16 : decode cX10_keepOrders 16 = .ok (.return_, 1) := by decide +kernel
theorem dX10_keepRows_0 : decode cX10_keepRows 0 = .ok (.iconst 0, 1) := by decide +kernel
theorem dX10_keepRows_1 : decode cX10_keepRows 1 = .ok (.istore_n 3, 1) := by decide +kernel
theorem dX10_keepRows_2 : decode cX10_keepRows 2 = .ok (.iconst 0, 1) := by decide +kernel
theorem dX10_keepRows_3 : decode cX10_keepRows 3 = .ok (.istore 4, 2) := by decide +kernel
theorem dX10_keepRows_5 : decode cX10_keepRows 5 = .ok (.iload 4, 2) := by decide +kernel
theorem dX10_keepRows_7 : decode cX10_keepRows 7 = .ok (.iload_n 1, 1) := by decide +kernel
theorem dX10_keepRows_8 : decode cX10_keepRows 8 = .ok (.if_icmp .ge 34, 3) := by decide +kernel
theorem dX10_keepRows_11 : decode cX10_keepRows 11 = .ok (.iload_n 2, 1) := by decide +kernel
theorem dX10_keepRows_12 : decode cX10_keepRows 12 = .ok (.iload 4, 2) := by decide +kernel
theorem dX10_keepRows_14 : decode cX10_keepRows 14 = .ok (.invokestatic 103, 3) := by decide +kernel
theorem dX10_keepRows_17 : decode cX10_keepRows 17 = .ok (.ifCond .eq 19, 3) := by decide +kernel
theorem dX10_keepRows_20 : decode cX10_keepRows 20 = .ok (.aload_n 0, 1) := by decide +kernel
theorem dX10_keepRows_21 : decode cX10_keepRows 21 = .ok (.iconst 4, 1) := by decide +kernel
theorem dX10_keepRows_22 : decode cX10_keepRows 22 = .ok (.iload 4, 2) := by decide +kernel
theorem dX10_keepRows_24 : decode cX10_keepRows 24 = .ok (.imul, 1) := by decide +kernel
theorem dX10_keepRows_25 : decode cX10_keepRows 25 = .ok (.aload_n 0, 1) := by decide +kernel
theorem dX10_keepRows_26 : decode cX10_keepRows 26 = .ok (.iconst 4, 1) := by decide +kernel
theorem dX10_keepRows_27 : decode cX10_keepRows 27 = .ok (.iload_n 3, 1) := by decide +kernel
theorem dX10_keepRows_28 : decode cX10_keepRows 28 = .ok (.imul, 1) := by decide +kernel
theorem dX10_keepRows_29 : decode cX10_keepRows 29 = .ok (.iconst 4, 1) := by decide +kernel
theorem dX10_keepRows_30 : decode cX10_keepRows 30 = .ok (.invokestatic 52, 3) := by decide +kernel
theorem dX10_keepRows_33 : decode cX10_keepRows 33 = .ok (.iinc 3 1, 3) := by decide +kernel
theorem dX10_keepRows_36 : decode cX10_keepRows 36 = .ok (.iinc 4 1, 3) := by decide +kernel
theorem dX10_keepRows_39 : decode cX10_keepRows 39 = .ok (.goto (-34), 3) := by decide +kernel
theorem dX10_keepRows_42 : decode cX10_keepRows 42 = .ok (.iload_n 3, 1) := by decide +kernel
theorem dX10_keepRows_43 : decode cX10_keepRows 43 = .ok (.ireturn, 1) := by decide +kernel
theorem dX10_becomeAs_0 : decode cX10_becomeAs 0 = .ok (.aload_n 0, 1) := by decide +kernel
theorem dX10_becomeAs_1 : decode cX10_becomeAs 1 = .ok (.aload_n 1, 1) := by decide +kernel
theorem dX10_becomeAs_2 : decode cX10_becomeAs 2 = .ok (.getfield 9, 3) := by decide +kernel
theorem dX10_becomeAs_5 : decode cX10_becomeAs 5 = .ok (.putfield 9, 3) := by decide +kernel
theorem dX10_becomeAs_8 : decode cX10_becomeAs 8 = .ok (.aload_n 0, 1) := by decide +kernel
theorem dX10_becomeAs_9 : decode cX10_becomeAs 9 = .ok (.aload_n 1, 1) := by decide +kernel
theorem dX10_becomeAs_10 : decode cX10_becomeAs 10 = .ok (.getfield 15, 3) := by decide +kernel
theorem dX10_becomeAs_13 : decode cX10_becomeAs 13 = .ok (.putfield 15, 3) := by decide +kernel
theorem dX10_becomeAs_16 : decode cX10_becomeAs 16 = .ok (.aload_n 0, 1) := by decide +kernel
theorem dX10_becomeAs_17 : decode cX10_becomeAs 17 = .ok (.aload_n 1, 1) := by decide +kernel
theorem dX10_becomeAs_18 : decode cX10_becomeAs 18 = .ok (.getfield 18, 3) := by decide +kernel
theorem dX10_becomeAs_21 : decode cX10_becomeAs 21 = .ok (.putfield 18, 3) := by decide +kernel
theorem dX10_becomeAs_24 : decode cX10_becomeAs 24 = .ok (.aload_n 0, 1) := by decide +kernel
theorem dX10_becomeAs_25 : decode cX10_becomeAs 25 = .ok (.aload_n 1, 1) := by decide +kernel
theorem dX10_becomeAs_26 : decode cX10_becomeAs 26 = .ok (.getfield 21, 3) := by decide +kernel
theorem dX10_becomeAs_29 : decode cX10_becomeAs 29 = .ok (.putfield 21, 3) := by decide +kernel
theorem dX10_becomeAs_32 : decode cX10_becomeAs 32 = .ok (.aload_n 0, 1) := by decide +kernel
theorem dX10_becomeAs_33 : decode cX10_becomeAs 33 = .ok (.aload_n 1, 1) := by decide +kernel
theorem dX10_becomeAs_34 : decode cX10_becomeAs 34 = .ok (.getfield 30, 3) := by decide +kernel
theorem dX10_becomeAs_37 : decode cX10_becomeAs 37 = .ok (.putfield 30, 3) := by decide +kernel
theorem dX10_becomeAs_40 : decode cX10_becomeAs 40 = .ok (.aload_n 0, 1) := by decide +kernel
theorem dX10_becomeAs_41 : decode cX10_becomeAs 41 = .ok (.aload_n 1, 1) := by decide +kernel
theorem dX10_becomeAs_42 : decode cX10_becomeAs 42 = .ok (.getfield 40, 3) := by decide +kernel
theorem dX10_becomeAs_45 : decode cX10_becomeAs 45 = .ok (.putfield 40, 3) := by decide +kernel
theorem dX10_becomeAs_48 : decode cX10_becomeAs 48 = .ok (.aload_n 0, 1) := by decide +kernel
theorem dX10_becomeAs_49 : decode cX10_becomeAs 49 = .ok (.aload_n 1, 1) := by decide +kernel
theorem dX10_becomeAs_50 : decode cX10_becomeAs 50 = .ok (.getfield 46, 3) := by decide +kernel
theorem dX10_becomeAs_53 : decode cX10_becomeAs 53 = .ok (.putfield 46, 3) := by decide +kernel
theorem dX10_becomeAs_56 : decode cX10_becomeAs 56 = .ok (.iconst 0, 1) := by decide +kernel
theorem dX10_becomeAs_57 : decode cX10_becomeAs 57 = .ok (.istore_n 2, 1) := by decide +kernel
theorem dX10_becomeAs_58 : decode cX10_becomeAs 58 = .ok (.iload_n 2, 1) := by decide +kernel
theorem dX10_becomeAs_59 : decode cX10_becomeAs 59 = .ok (.bipush 8, 2) := by decide +kernel
theorem dX10_becomeAs_61 : decode cX10_becomeAs 61 = .ok (.if_icmp .ge 21, 3) := by decide +kernel
theorem dX10_becomeAs_64 : decode cX10_becomeAs 64 = .ok (.aload_n 0, 1) := by decide +kernel
theorem dX10_becomeAs_65 : decode cX10_becomeAs 65 = .ok (.getfield 26, 3) := by decide +kernel
theorem dX10_becomeAs_68 : decode cX10_becomeAs 68 = .ok (.iload_n 2, 1) := by decide +kernel
theorem dX10_becomeAs_69 : decode cX10_becomeAs 69 = .ok (.aload_n 1, 1) := by decide +kernel
theorem dX10_becomeAs_70 : decode cX10_becomeAs 70 = .ok (.getfield 26, 3) := by decide +kernel
theorem dX10_becomeAs_73 : decode cX10_becomeAs 73 = .ok (.iload_n 2, 1) := by decide +kernel
theorem dX10_becomeAs_74 : decode cX10_becomeAs 74 = .ok (.aaload, 1) := by decide +kernel
theorem dX10_becomeAs_75 : decode cX10_becomeAs 75 = .ok (.aastore, 1) := by decide +kernel
theorem dX10_becomeAs_76 : decode cX10_becomeAs 76 = .ok (.iinc 2 1, 3) := by decide +kernel
theorem dX10_becomeAs_79 : decode cX10_becomeAs 79 = .ok (.goto (-21), 3) := by decide +kernel
theorem dX10_becomeAs_82 : decode cX10_becomeAs 82 = .ok (.aload_n 1, 1) := by decide +kernel
theorem dX10_becomeAs_83 : decode cX10_becomeAs 83 = .ok (.getfield 33, 3) := by decide +kernel
theorem dX10_becomeAs_86 : decode cX10_becomeAs 86 = .ok (.iconst 0, 1) := by decide +kernel
theorem dX10_becomeAs_87 : decode cX10_becomeAs 87 = .ok (.aload_n 0, 1) := by decide +kernel
theorem dX10_becomeAs_88 : decode cX10_becomeAs 88 = .ok (.getfield 33, 3) := by decide +kernel
theorem dX10_becomeAs_91 : decode cX10_becomeAs 91 = .ok (.iconst 0, 1) := by decide +kernel
theorem dX10_becomeAs_92 : decode cX10_becomeAs 92 = .ok (.bipush 7, 2) := by decide +kernel
theorem dX10_becomeAs_94 : decode cX10_becomeAs 94 = .ok (.invokestatic 52, 3) := by decide +kernel
theorem dX10_becomeAs_97 : decode cX10_becomeAs 97 = .ok (.aload_n 1, 1) := by decide +kernel
theorem dX10_becomeAs_98 : decode cX10_becomeAs 98 = .ok (.getfield 37, 3) := by decide +kernel
theorem dX10_becomeAs_101 : decode cX10_becomeAs 101 = .ok (.iconst 0, 1) := by decide +kernel
theorem dX10_becomeAs_102 : decode cX10_becomeAs 102 = .ok (.aload_n 0, 1) := by decide +kernel
theorem dX10_becomeAs_103 : decode cX10_becomeAs 103 = .ok (.getfield 37, 3) := by decide +kernel
theorem dX10_becomeAs_106 : decode cX10_becomeAs 106 = .ok (.iconst 0, 1) := by decide +kernel
theorem dX10_becomeAs_107 : decode cX10_becomeAs 107 = .ok (.bipush 64, 2) := by decide +kernel
theorem dX10_becomeAs_109 : decode cX10_becomeAs 109 = .ok (.invokestatic 52, 3) := by decide +kernel
theorem dX10_becomeAs_112 : decode cX10_becomeAs 112 = .ok (.aload_n 1, 1) := by decide +kernel
theorem dX10_becomeAs_113 : decode cX10_becomeAs 113 = .ok (.getfield 43, 3) := by decide +kernel
theorem dX10_becomeAs_116 : decode cX10_becomeAs 116 = .ok (.iconst 0, 1) := by decide +kernel
theorem dX10_becomeAs_117 : decode cX10_becomeAs 117 = .ok (.aload_n 0, 1) := by decide +kernel
theorem dX10_becomeAs_118 : decode cX10_becomeAs 118 = .ok (.getfield 43, 3) := by decide +kernel
theorem dX10_becomeAs_121 : decode cX10_becomeAs 121 = .ok (.iconst 0, 1) := by decide +kernel
theorem dX10_becomeAs_122 : decode cX10_becomeAs 122 = .ok (.bipush 24, 2) := by decide +kernel
theorem dX10_becomeAs_124 : decode cX10_becomeAs 124 = .ok (.invokestatic 52, 3) := by decide +kernel
theorem dX10_becomeAs_127 : decode cX10_becomeAs 127 = .ok (.return_, 1) := by decide +kernel
theorem dX11_init_0 : decode cX11_init 0 = .ok (.aload_n 0, 1) := by decide +kernel
theorem dX11_init_1 : decode cX11_init 1 = .ok (.invokespecial 3, 3) := by decide +kernel
theorem dX11_init_4 : decode cX11_init 4 = .ok (.aload_n 0, 1) := by decide +kernel
theorem dX11_init_5 : decode cX11_init 5 = .ok (.new 9, 3) := by decide +kernel
theorem dX11_init_8 : decode cX11_init 8 = .ok (.dup, 1) := by decide +kernel
theorem dX11_init_9 : decode cX11_init 9 = .ok (.invokespecial 11, 3) := by decide +kernel
theorem dX11_init_12 : decode cX11_init 12 = .ok (.putfield 12, 3) := by decide +kernel
theorem dX11_init_15 : decode cX11_init 15 = .ok (.aload_n 0, 1) := by decide +kernel
theorem dX11_init_16 : decode cX11_init 16 = .ok (.new 9, 3) := by decide +kernel
theorem dX11_init_19 : decode cX11_init 19 = .ok (.dup, 1) := by decide +kernel
theorem dX11_init_20 : decode cX11_init 20 = .ok (.invokespecial 11, 3) := by decide +kernel
theorem dX11_init_23 : decode cX11_init 23 = .ok (.putfield 16, 3) := by decide +kernel
theorem dX11_init_26 : decode cX11_init 26 = .ok (.aload_n 0, 1) := by decide +kernel
theorem dX11_init_27 : decode cX11_init 27 = .ok (.iconst 0, 1) := by decide +kernel
theorem dX11_init_28 : decode cX11_init 28 = .ok (.putfield 19, 3) := by decide +kernel
theorem dX11_init_31 : decode cX11_init 31 = .ok (.aload_n 0, 1) := by decide +kernel
theorem dX11_init_32 : decode cX11_init 32 = .ok (.new 23, 3) := by decide +kernel
theorem dX11_init_35 : decode cX11_init 35 = .ok (.dup, 1) := by decide +kernel
theorem dX11_init_36 : decode cX11_init 36 = .ok (.invokespecial 25, 3) := by decide +kernel
theorem dX11_init_39 : decode cX11_init 39 = .ok (.putfield 26, 3) := by decide +kernel
theorem dX11_init_42 : decode cX11_init 42 = .ok (.aload_n 0, 1) := by decide +kernel
theorem dX11_init_43 : decode cX11_init 43 = .ok (.new 23, 3) := by decide +kernel
theorem dX11_init_46 : decode cX11_init 46 = .ok (.dup, 1) := by decide +kernel
theorem dX11_init_47 : decode cX11_init 47 = .ok (.invokespecial 25, 3) := by decide +kernel
theorem dX11_init_50 : decode cX11_init 50 = .ok (.putfield 30, 3) := by decide +kernel
theorem dX11_init_53 : decode cX11_init 53 = .ok (.aload_n 0, 1) := by decide +kernel
theorem dX11_init_54 : decode cX11_init 54 = .ok (.bipush 8, 2) := by decide +kernel
theorem dX11_init_56 : decode cX11_init 56 = .ok (.anewarray 33, 3) := by decide +kernel
theorem dX11_init_59 : decode cX11_init 59 = .ok (.putfield 35, 3) := by decide +kernel
theorem dX11_init_62 : decode cX11_init 62 = .ok (.aload_n 0, 1) := by decide +kernel
theorem dX11_init_63 : decode cX11_init 63 = .ok (.bipush 40, 2) := by decide +kernel
theorem dX11_init_65 : decode cX11_init 65 = .ok (.newarray .int, 2) := by decide +kernel
theorem dX11_init_67 : decode cX11_init 67 = .ok (.putfield 39, 3) := by decide +kernel
theorem dX11_init_70 : decode cX11_init 70 = .ok (.aload_n 0, 1) := by decide +kernel
theorem dX11_init_71 : decode cX11_init 71 = .ok (.iconst 0, 1) := by decide +kernel
theorem dX11_init_72 : decode cX11_init 72 = .ok (.putfield 43, 3) := by decide +kernel
theorem dX11_init_75 : decode cX11_init 75 = .ok (.aload_n 0, 1) := by decide +kernel
theorem dX11_init_76 : decode cX11_init 76 = .ok (.iconst 4, 1) := by decide +kernel
theorem dX11_init_77 : decode cX11_init 77 = .ok (.newarray .int, 2) := by decide +kernel
theorem dX11_init_79 : decode cX11_init 79 = .ok (.putfield 47, 3) := by decide +kernel
theorem dX11_init_82 : decode cX11_init 82 = .ok (.aload_n 0, 1) := by decide +kernel
theorem dX11_init_83 : decode cX11_init 83 = .ok (.iconst 4, 1) := by decide +kernel
theorem dX11_init_84 : decode cX11_init 84 = .ok (.newarray .int, 2) := by decide +kernel
theorem dX11_init_86 : decode cX11_init 86 = .ok (.putfield 50, 3) := by decide +kernel
theorem dX11_init_89 : decode cX11_init 89 = .ok (.aload_n 0, 1) := by decide +kernel
theorem dX11_init_90 : decode cX11_init 90 = .ok (.sipush 160, 3) := by decide +kernel
theorem dX11_init_93 : decode cX11_init 93 = .ok (.newarray .long, 2) := by decide +kernel
theorem dX11_init_95 : decode cX11_init 95 = .ok (.putfield 53, 3) := by decide +kernel
theorem dX11_init_98 : decode cX11_init 98 = .ok (.aload_n 0, 1) := by decide +kernel
theorem dX11_init_99 : decode cX11_init 99 = .ok (.bipush 6, 2) := by decide +kernel
theorem dX11_init_101 : decode cX11_init 101 = .ok (.newarray .int, 2) := by decide +kernel
theorem dX11_init_103 : decode cX11_init 103 = .ok (.putfield 57, 3) := by decide +kernel
theorem dX11_init_106 : decode cX11_init 106 = .ok (.aload_n 0, 1) := by decide +kernel
theorem dX11_init_107 : decode cX11_init 107 = .ok (.iconst 4, 1) := by decide +kernel
theorem dX11_init_108 : decode cX11_init 108 = .ok (.newarray .int, 2) := by decide +kernel
theorem dX11_init_110 : decode cX11_init 110 = .ok (.putfield 60, 3) := by decide +kernel
theorem dX11_init_113 : decode cX11_init 113 = .ok (.aload_n 0, 1) := by decide +kernel
theorem dX11_init_114 : decode cX11_init 114 = .ok (.getfield 47, 3) := by decide +kernel
theorem dX11_init_117 : decode cX11_init 117 = .ok (.iconst (-1), 1) := by decide +kernel
theorem dX11_init_118 : decode cX11_init 118 = .ok (.invokestatic 63, 3) := by decide +kernel
theorem dX11_init_121 : decode cX11_init 121 = .ok (.return_, 1) := by decide +kernel
theorem dX11_log_0 : decode cX11_log 0 = .ok (.iload_n 1, 1) := by decide +kernel
theorem dX11_log_1 : decode cX11_log 1 = .ok (.iconst 2, 1) := by decide +kernel
theorem dX11_log_2 : decode cX11_log 2 = .ok (.bipush 6, 2) := by decide +kernel
theorem dX11_log_4 : decode cX11_log 4 = .ok (.invokestatic 69, 3) := by decide +kernel
theorem dX11_log_7 : decode cX11_log 7 = .ok (.ifCond .eq 22, 3) := by decide +kernel
theorem dX11_log_10 : decode cX11_log 10 = .ok (.iload_n 2, 1) := by decide +kernel
theorem dX11_log_11 : decode cX11_log 11 = .ok (.iconst 0, 1) := by decide +kernel
theorem dX11_log_12 : decode cX11_log 12 = .ok (.iconst 4, 1) := by decide +kernel
theorem dX11_log_13 : decode cX11_log 13 = .ok (.invokestatic 69, 3) := by decide +kernel
theorem dX11_log_16 : decode cX11_log 16 = .ok (.ifCond .eq 13, 3) := by decide +kernel
theorem dX11_log_19 : decode cX11_log 19 = .ok (.iload_n 3, 1) := by decide +kernel
theorem dX11_log_20 : decode cX11_log 20 = .ok (.iconst 1, 1) := by decide +kernel
theorem dX11_log_21 : decode cX11_log 21 = .ok (.bipush 8, 2) := by decide +kernel
theorem dX11_log_23 : decode cX11_log 23 = .ok (.invokestatic 69, 3) := by decide +kernel
theorem dX11_log_26 : decode cX11_log 26 = .ok (.ifCond .ne 6, 3) := by decide +kernel
theorem dX11_log_29 : decode cX11_log 29 = .ok (.bipush (-2), 2) := by decide +kernel
theorem dX11_log_31 : decode cX11_log 31 = .ok (.ireturn, 1) := by decide +kernel
theorem dX11_log_32 : decode cX11_log 32 = .ok (.aload_n 0, 1) := by decide +kernel
theorem dX11_log_33 : decode cX11_log 33 = .ok (.getfield 12, 3) := by decide +kernel
theorem dX11_log_36 : decode cX11_log 36 = .ok (.iload_n 1, 1) := by decide +kernel
theorem dX11_log_37 : decode cX11_log 37 = .ok (.iload_n 2, 1) := by decide +kernel
theorem dX11_log_38 : decode cX11_log 38 = .ok (.iload_n 3, 1) := by decide +kernel
theorem dX11_log_39 : decode cX11_log 39 = .ok (.invokevirtual 73, 3) := by decide +kernel
theorem dX11_log_42 : decode cX11_log 42 = .ok (.aload_n 0, 1) := by decide +kernel
theorem dX11_log_43 : decode cX11_log 43 = .ok (.getfield 26, 3) := by decide +kernel
theorem dX11_log_46 : decode cX11_log 46 = .ok (.iconst 0, 1) := by decide +kernel
theorem dX11_log_47 : decode cX11_log 47 = .ok (.putfield 77, 3) := by decide +kernel
theorem dX11_log_50 : decode cX11_log 50 = .ok (.aload_n 0, 1) := by decide +kernel
theorem dX11_log_51 : decode cX11_log 51 = .ok (.invokevirtual 80, 3) := by decide +kernel
theorem dX11_log_54 : decode cX11_log 54 = .ok (.ireturn, 1) := by decide +kernel
theorem dX11_woodOfLog_0 : decode cX11_woodOfLog 0 = .ok (.iconst 0, 1) := by decide +kernel
theorem dX11_woodOfLog_1 : decode cX11_woodOfLog 1 = .ok (.istore_n 1, 1) := by decide +kernel
theorem dX11_woodOfLog_2 : decode cX11_woodOfLog 2 = .ok (.iconst 0, 1) := by decide +kernel
theorem dX11_woodOfLog_3 : decode cX11_woodOfLog 3 = .ok (.istore_n 2, 1) := by decide +kernel
theorem dX11_woodOfLog_4 : decode cX11_woodOfLog 4 = .ok (.iload_n 2, 1) := by decide +kernel
theorem dX11_woodOfLog_5 : decode cX11_woodOfLog 5 = .ok (.aload_n 0, 1) := by decide +kernel
theorem dX11_woodOfLog_6 : decode cX11_woodOfLog 6 = .ok (.getfield 12, 3) := by decide +kernel
theorem dX11_woodOfLog_9 : decode cX11_woodOfLog 9 = .ok (.getfield 84, 3) := by decide +kernel
theorem dX11_woodOfLog_12 : decode cX11_woodOfLog 12 = .ok (.if_icmp .ge 46, 3) := by decide +kernel
theorem dX11_woodOfLog_15 : decode cX11_woodOfLog 15 = .ok (.iconst 0, 1) := by decide +kernel
theorem dX11_woodOfLog_16 : decode cX11_woodOfLog 16 = .ok (.istore_n 3, 1) := by decide +kernel
theorem dX11_woodOfLog_17 : decode cX11_woodOfLog 17 = .ok (.iload_n 3, 1) := by decide +kernel
theorem dX11_woodOfLog_18 : decode cX11_woodOfLog 18 = .ok (.sipush 144, 3) := by decide +kernel
theorem dX11_woodOfLog_21 : decode cX11_woodOfLog 21 = .ok (.if_icmp .ge 31, 3) := by decide +kernel
theorem dX11_woodOfLog_24 : decode cX11_woodOfLog 24 = .ok (.aload_n 0, 1) := by decide +kernel
theorem dX11_woodOfLog_25 : decode cX11_woodOfLog 25 = .ok (.getfield 12, 3) := by decide +kernel
theorem dX11_woodOfLog_28 : decode cX11_woodOfLog 28 = .ok (.iload_n 3, 1) := by decide +kernel
theorem dX11_woodOfLog_29 : decode cX11_woodOfLog 29 = .ok (.bipush 12, 2) := by decide +kernel
theorem dX11_woodOfLog_31 : decode cX11_woodOfLog 31 = .ok (.irem, 1) := by decide +kernel
theorem dX11_woodOfLog_32 : decode cX11_woodOfLog 32 = .ok (.iload_n 3, 1) := by decide +kernel
theorem dX11_woodOfLog_33 : decode cX11_woodOfLog 33 = .ok (.bipush 12, 2) := by decide +kernel
theorem dX11_woodOfLog_35 : decode cX11_woodOfLog 35 = .ok (.idiv, 1) := by decide +kernel
theorem dX11_woodOfLog_36 : decode cX11_woodOfLog 36 = .ok (.iload_n 2, 1) := by decide +kernel
theorem dX11_woodOfLog_37 : decode cX11_woodOfLog 37 = .ok (.invokevirtual 87, 3) := by decide +kernel
theorem dX11_woodOfLog_40 : decode cX11_woodOfLog 40 = .ok (.ifCond .eq 6, 3) := by decide +kernel
theorem dX11_woodOfLog_43 : decode cX11_woodOfLog 43 = .ok (.iinc 1 1, 3) := by decide +kernel
theorem dX11_woodOfLog_46 : decode cX11_woodOfLog 46 = .ok (.iinc 3 1, 3) := by decide +kernel
theorem dX11_woodOfLog_49 : decode cX11_woodOfLog 49 = .ok (.goto (-32), 3) := by decide +kernel
theorem dX11_woodOfLog_52 : decode cX11_woodOfLog 52 = .ok (.iinc 2 1, 3) := by decide +kernel
theorem dX11_woodOfLog_55 : decode cX11_woodOfLog 55 = .ok (.goto (-51), 3) := by decide +kernel
theorem dX11_woodOfLog_58 : decode cX11_woodOfLog 58 = .ok (.iload_n 1, 1) := by decide +kernel
theorem dX11_woodOfLog_59 : decode cX11_woodOfLog 59 = .ok (.ireturn, 1) := by decide +kernel
theorem dX11_feed_0 : decode cX11_feed 0 = .ok (.iload_n 1, 1) := by decide +kernel
theorem dX11_feed_1 : decode cX11_feed 1 = .ok (.iconst 1, 1) := by decide +kernel
theorem dX11_feed_2 : decode cX11_feed 2 = .ok (.iconst 5, 1) := by decide +kernel
theorem dX11_feed_3 : decode cX11_feed 3 = .ok (.invokestatic 69, 3) := by decide +kernel
theorem dX11_feed_6 : decode cX11_feed 6 = .ok (.ifCond .eq 41, 3) := by decide +kernel
theorem dX11_feed_9 : decode cX11_feed 9 = .ok (.iload_n 2, 1) := by decide +kernel
theorem dX11_feed_10 : decode cX11_feed 10 = .ok (.invokestatic 90, 3) := by decide +kernel
theorem dX11_feed_13 : decode cX11_feed 13 = .ok (.ifCond .eq 34, 3) := by decide +kernel
theorem dX11_feed_16 : decode cX11_feed 16 = .ok (.iload_n 3, 1) := by decide +kernel
theorem dX11_feed_17 : decode cX11_feed 17 = .ok (.invokestatic 90, 3) := by decide +kernel
theorem dX11_feed_20 : decode cX11_feed 20 = .ok (.ifCond .eq 27, 3) := by decide +kernel
theorem dX11_feed_23 : decode cX11_feed 23 = .ok (.iload 4, 2) := by decide +kernel
theorem dX11_feed_25 : decode cX11_feed 25 = .ok (.invokestatic 90, 3) := by decide +kernel
theorem dX11_feed_28 : decode cX11_feed 28 = .ok (.ifCond .eq 19, 3) := by decide +kernel
theorem dX11_feed_31 : decode cX11_feed 31 = .ok (.iload 5, 2) := by decide +kernel
theorem dX11_feed_33 : decode cX11_feed 33 = .ok (.invokestatic 90, 3) := by decide +kernel
theorem dX11_feed_36 : decode cX11_feed 36 = .ok (.ifCond .eq 11, 3) := by decide +kernel
theorem dX11_feed_39 : decode cX11_feed 39 = .ok (.iload 6, 2) := by decide +kernel
theorem dX11_feed_41 : decode cX11_feed 41 = .ok (.invokestatic 90, 3) := by decide +kernel
theorem dX11_feed_44 : decode cX11_feed 44 = .ok (.ifCond .ne 6, 3) := by decide +kernel
theorem dX11_feed_47 : decode cX11_feed 47 = .ok (.bipush (-2), 2) := by decide +kernel
theorem dX11_feed_49 : decode cX11_feed 49 = .ok (.ireturn, 1) := by decide +kernel
theorem dX11_feed_50 : decode cX11_feed 50 = .ok (.aload_n 0, 1) := by decide +kernel
theorem dX11_feed_51 : decode cX11_feed 51 = .ok (.getfield 43, 3) := by decide +kernel
theorem dX11_feed_54 : decode cX11_feed 54 = .ok (.iload_n 1, 1) := by decide +kernel
theorem dX11_feed_55 : decode cX11_feed 55 = .ok (.iadd, 1) := by decide +kernel
theorem dX11_feed_56 : decode cX11_feed 56 = .ok (.bipush 40, 2) := by decide +kernel
theorem dX11_feed_58 : decode cX11_feed 58 = .ok (.if_icmp .le 6, 3) := by decide +kernel
theorem dX11_feed_61 : decode cX11_feed 61 = .ok (.bipush (-4), 2) := by decide +kernel
theorem dX11_feed_63 : decode cX11_feed 63 = .ok (.ireturn, 1) := by decide +kernel
theorem dX11_feed_64 : decode cX11_feed 64 = .ok (.aload_n 0, 1) := by decide +kernel
theorem dX11_feed_65 : decode cX11_feed 65 = .ok (.iload_n 2, 1) := by decide +kernel
theorem dX11_feed_66 : decode cX11_feed 66 = .ok (.iload_n 1, 1) := by decide +kernel
theorem dX11_feed_67 : decode cX11_feed 67 = .ok (.iconst 1, 1) := by decide +kernel
theorem dX11_feed_68 : decode cX11_feed 68 = .ok (.if_icmp .lt 7, 3) := by decide +kernel
theorem dX11_feed_71 : decode cX11_feed 71 = .ok (.iconst 1, 1) := by decide +kernel
theorem dX11_feed_72 : decode cX11_feed 72 = .ok (.goto 4, 3) := by decide +kernel
theorem dX11_feed_75 : decode cX11_feed 75 = .ok (.iconst 0, 1) := by decide +kernel
theorem dX11_feed_76 : decode cX11_feed 76 = .ok (.invokevirtual 94, 3) := by decide +kernel
theorem dX11_feed_79 : decode cX11_feed 79 = .ok (.aload_n 0, 1) := by decide +kernel
theorem dX11_feed_80 : decode cX11_feed 80 = .ok (.iload_n 3, 1) := by decide +kernel
theorem dX11_feed_81 : decode cX11_feed 81 = .ok (.iload_n 1, 1) := by decide +kernel
theorem dX11_feed_82 : decode cX11_feed 82 = .ok (.iconst 2, 1) := by decide +kernel
theorem dX11_feed_83 : decode cX11_feed 83 = .ok (.if_icmp .lt 7, 3) := by decide +kernel
theorem dX11_feed_86 : decode cX11_feed 86 = .ok (.iconst 1, 1) := by decide +kernel
theorem dX11_feed_87 : decode cX11_feed 87 = .ok (.goto 4, 3) := by decide +kernel
theorem dX11_feed_90 : decode cX11_feed 90 = .ok (.iconst 0, 1) := by decide +kernel
theorem dX11_feed_91 : decode cX11_feed 91 = .ok (.invokevirtual 94, 3) := by decide +kernel
theorem dX11_feed_94 : decode cX11_feed 94 = .ok (.aload_n 0, 1) := by decide +kernel
theorem dX11_feed_95 : decode cX11_feed 95 = .ok (.iload 4, 2) := by decide +kernel
theorem dX11_feed_97 : decode cX11_feed 97 = .ok (.iload_n 1, 1) := by decide +kernel
theorem dX11_feed_98 : decode cX11_feed 98 = .ok (.iconst 3, 1) := by decide +kernel
theorem dX11_feed_99 : decode cX11_feed 99 = .ok (.if_icmp .lt 7, 3) := by decide +kernel
theorem dX11_feed_102 : decode cX11_feed 102 = .ok (.iconst 1, 1) := by decide +kernel
theorem dX11_feed_103 : decode cX11_feed 103 = .ok (.goto 4, 3) := by decide +kernel
theorem dX11_feed_106 : decode cX11_feed 106 = .ok (.iconst 0, 1) := by decide +kernel
theorem dX11_feed_107 : decode cX11_feed 107 = .ok (.invokevirtual 94, 3) := by decide +kernel
theorem dX11_feed_110 : decode cX11_feed 110 = .ok (.aload_n 0, 1) := by decide +kernel
theorem dX11_feed_111 : decode cX11_feed 111 = .ok (.iload 5, 2) := by decide +kernel
theorem dX11_feed_113 : decode cX11_feed 113 = .ok (.iload_n 1, 1) := by decide +kernel
theorem dX11_feed_114 : decode cX11_feed 114 = .ok (.iconst 4, 1) := by decide +kernel
theorem dX11_feed_115 : decode cX11_feed 115 = .ok (.if_icmp .lt 7, 3) := by decide +kernel
theorem dX11_feed_118 : decode cX11_feed 118 = .ok (.iconst 1, 1) := by decide +kernel
theorem dX11_feed_119 : decode cX11_feed 119 = .ok (.goto 4, 3) := by decide +kernel
theorem dX11_feed_122 : decode cX11_feed 122 = .ok (.iconst 0, 1) := by decide +kernel
theorem dX11_feed_123 : decode cX11_feed 123 = .ok (.invokevirtual 94, 3) := by decide +kernel
theorem dX11_feed_126 : decode cX11_feed 126 = .ok (.aload_n 0, 1) := by decide +kernel
theorem dX11_feed_127 : decode cX11_feed 127 = .ok (.iload 6, 2) := by decide +kernel
theorem dX11_feed_129 : decode cX11_feed 129 = .ok (.iload_n 1, 1) := by decide +kernel
theorem dX11_feed_130 : decode cX11_feed 130 = .ok (.iconst 5, 1) := by decide +kernel
theorem dX11_feed_131 : decode cX11_feed 131 = .ok (.if_icmp .lt 7, 3) := by decide +kernel
theorem dX11_feed_134 : decode cX11_feed 134 = .ok (.iconst 1, 1) := by decide +kernel
theorem dX11_feed_135 : decode cX11_feed 135 = .ok (.goto 4, 3) := by decide +kernel
theorem dX11_feed_138 : decode cX11_feed 138 = .ok (.iconst 0, 1) := by decide +kernel
theorem dX11_feed_139 : decode cX11_feed 139 = .ok (.invokevirtual 94, 3) := by decide +kernel
theorem dX11_feed_142 : decode cX11_feed 142 = .ok (.aload_n 0, 1) := by decide +kernel
theorem dX11_feed_143 : decode cX11_feed 143 = .ok (.getfield 43, 3) := by decide +kernel
theorem dX11_feed_146 : decode cX11_feed 146 = .ok (.ireturn, 1) := by decide +kernel
theorem dX11_feedOne_0 : decode cX11_feedOne 0 = .ok (.iload_n 2, 1) := by decide +kernel
theorem dX11_feedOne_1 : decode cX11_feedOne 1 = .ok (.ifCond .eq 32, 3) := by decide +kernel
theorem dX11_feedOne_4 : decode cX11_feedOne 4 = .ok (.aload_n 0, 1) := by decide +kernel
theorem dX11_feedOne_5 : decode cX11_feedOne 5 = .ok (.getfield 43, 3) := by decide +kernel
theorem dX11_feedOne_8 : decode cX11_feedOne 8 = .ok (.bipush 40, 2) := by decide +kernel
theorem dX11_feedOne_10 : decode cX11_feedOne 10 = .ok (.if_icmp .ge 23, 3) := by decide +kernel
theorem dX11_feedOne_13 : decode cX11_feedOne 13 = .ok (.aload_n 0, 1) := by decide +kernel
theorem dX11_feedOne_14 : decode cX11_feedOne 14 = .ok (.getfield 39, 3) := by decide +kernel
theorem dX11_feedOne_17 : decode cX11_feedOne 17 = .ok (.aload_n 0, 1) := by decide +kernel
theorem dX11_feedOne_18 : decode cX11_feedOne 18 = .ok (.getfield 43, 3) := by decide +kernel
theorem dX11_feedOne_21 : decode cX11_feedOne 21 = .ok (.iload_n 1, 1) := by decide +kernel
theorem dX11_feedOne_22 : decode cX11_feedOne 22 = .ok (.iastore, 1) := by decide +kernel
theorem dX11_feedOne_23 : decode cX11_feedOne 23 = .ok (.aload_n 0, 1) := by decide +kernel
theorem dX11_feedOne_24 : decode cX11_feedOne 24 = .ok (.dup, 1) := by decide +kernel
theorem dX11_feedOne_25 : decode cX11_feedOne 25 = .ok (.getfield 43, 3) := by decide +kernel
theorem dX11_feedOne_28 : decode cX11_feedOne 28 = .ok (.iconst 1, 1) := by decide +kernel
theorem dX11_feedOne_29 : decode cX11_feedOne 29 = .ok (.iadd, 1) := by decide +kernel
theorem dX11_feedOne_30 : decode cX11_feedOne 30 = .ok (.putfield 43, 3) := by decide +kernel
theorem dX11_feedOne_33 : decode cX11_feedOne 33 = .ok (.return_, 1) := by decide +kernel
theorem dX11_text_0 : decode cX11_text 0 = .ok (.aload_n 0, 1) := by decide +kernel
theorem dX11_text_1 : decode cX11_text 1 = .ok (.getfield 12, 3) := by decide +kernel
theorem dX11_text_4 : decode cX11_text 4 = .ok (.invokevirtual 98, 3) := by decide +kernel
theorem dX11_text_7 : decode cX11_text 7 = .ok (.ifCond .ne 6, 3) := by decide +kernel
theorem dX11_text_10 : decode cX11_text 10 = .ok (.bipush (-3), 2) := by decide +kernel
theorem dX11_text_12 : decode cX11_text 12 = .ok (.ireturn, 1) := by decide +kernel
theorem dX11_text_13 : decode cX11_text 13 = .ok (.aload_n 0, 1) := by decide +kernel
theorem dX11_text_14 : decode cX11_text 14 = .ok (.getfield 43, 3) := by decide +kernel
theorem dX11_text_17 : decode cX11_text 17 = .ok (.istore_n 1, 1) := by decide +kernel
theorem dX11_text_18 : decode cX11_text 18 = .ok (.aload_n 0, 1) := by decide +kernel
theorem dX11_text_19 : decode cX11_text 19 = .ok (.iload_n 1, 1) := by decide +kernel
theorem dX11_text_20 : decode cX11_text 20 = .ok (.invokevirtual 102, 3) := by decide +kernel
theorem dX11_text_23 : decode cX11_text 23 = .ok (.istore_n 2, 1) := by decide +kernel
theorem dX11_text_24 : decode cX11_text 24 = .ok (.aload_n 0, 1) := by decide +kernel
theorem dX11_text_25 : decode cX11_text 25 = .ok (.iconst 0, 1) := by decide +kernel
theorem dX11_text_26 : decode cX11_text 26 = .ok (.putfield 43, 3) := by decide +kernel
theorem dX11_text_29 : decode cX11_text 29 = .ok (.iload_n 2, 1) := by decide +kernel
theorem dX11_text_30 : decode cX11_text 30 = .ok (.iconst (-1), 1) := by decide +kernel
theorem dX11_text_31 : decode cX11_text 31 = .ok (.if_icmp .eq 8, 3) := by decide +kernel
theorem dX11_text_34 : decode cX11_text 34 = .ok (.bipush (-100), 2) := by decide +kernel
theorem dX11_text_36 : decode cX11_text 36 = .ok (.iload_n 2, 1) := by decide +kernel
theorem dX11_text_37 : decode cX11_text 37 = .ok (.isub, 1) := by decide +kernel
theorem dX11_text_38 : decode cX11_text 38 = .ok (.ireturn, 1) := by decide +kernel
theorem dX11_text_39 : decode cX11_text 39 = .ok (.aload_n 0, 1) := by decide +kernel
theorem dX11_text_40 : decode cX11_text 40 = .ok (.getfield 12, 3) := by decide +kernel
theorem dX11_text_43 : decode cX11_text 43 = .ok (.getfield 106, 3) := by decide +kernel
theorem dX11_text_46 : decode cX11_text 46 = .ok (.aload_n 0, 1) := by decide +kernel
theorem dX11_text_47 : decode cX11_text 47 = .ok (.iload_n 1, 1) := by decide +kernel
theorem dX11_text_48 : decode cX11_text 48 = .ok (.invokevirtual 109, 3) := by decide +kernel
theorem dX11_text_51 : decode cX11_text 51 = .ok (.iadd, 1) := by decide +kernel
theorem dX11_text_52 : decode cX11_text 52 = .ok (.bipush 8, 2) := by decide +kernel
theorem dX11_text_54 : decode cX11_text 54 = .ok (.if_icmp .le 6, 3) := by decide +kernel
theorem dX11_text_57 : decode cX11_text 57 = .ok (.bipush (-4), 2) := by decide +kernel
theorem dX11_text_59 : decode cX11_text 59 = .ok (.ireturn, 1) := by decide +kernel
theorem dX11_text_60 : decode cX11_text 60 = .ok (.aload_n 0, 1) := by decide +kernel
theorem dX11_text_61 : decode cX11_text 61 = .ok (.iload_n 1, 1) := by decide +kernel
theorem dX11_text_62 : decode cX11_text 62 = .ok (.invokevirtual 112, 3) := by decide +kernel
theorem dX11_text_65 : decode cX11_text 65 = .ok (.aload_n 0, 1) := by decide +kernel
theorem dX11_text_66 : decode cX11_text 66 = .ok (.getfield 26, 3) := by decide +kernel
theorem dX11_text_69 : decode cX11_text 69 = .ok (.iconst 0, 1) := by decide +kernel
theorem dX11_text_70 : decode cX11_text 70 = .ok (.putfield 77, 3) := by decide +kernel
theorem dX11_text_73 : decode cX11_text 73 = .ok (.aload_n 0, 1) := by decide +kernel
theorem dX11_text_74 : decode cX11_text 74 = .ok (.getfield 12, 3) := by decide +kernel
theorem dX11_text_77 : decode cX11_text 77 = .ok (.getfield 106, 3) := by decide +kernel
theorem dX11_text_80 : decode cX11_text 80 = .ok (.ireturn, 1) := by decide +kernel
theorem dX11_wrongPlace_0 : decode cX11_wrongPlace 0 = .ok (.iconst 0, 1) := by decide +kernel
theorem dX11_wrongPlace_1 : decode cX11_wrongPlace 1 = .ok (.istore_n 2, 1) := by decide +kernel
theorem dX11_wrongPlace_2 : decode cX11_wrongPlace 2 = .ok (.iconst 0, 1) := by decide +kernel
theorem dX11_wrongPlace_3 : decode cX11_wrongPlace 3 = .ok (.istore_n 3, 1) := by decide +kernel
theorem dX11_wrongPlace_4 : decode cX11_wrongPlace 4 = .ok (.iconst 0, 1) := by decide +kernel
theorem dX11_wrongPlace_5 : decode cX11_wrongPlace 5 = .ok (.istore 4, 2) := by decide +kernel
theorem dX11_wrongPlace_7 : decode cX11_wrongPlace 7 = .ok (.iload 4, 2) := by decide +kernel
theorem dX11_wrongPlace_9 : decode cX11_wrongPlace 9 = .ok (.iload_n 1, 1) := by decide +kernel
theorem dX11_wrongPlace_10 : decode cX11_wrongPlace 10 = .ok (.if_icmp .ge 61, 3) := by decide +kernel
theorem dX11_wrongPlace_13 : decode cX11_wrongPlace 13 = .ok (.iload 4, 2) := by decide +kernel
theorem dX11_wrongPlace_15 : decode cX11_wrongPlace 15 = .ok (.bipush 40, 2) := by decide +kernel
theorem dX11_wrongPlace_17 : decode cX11_wrongPlace 17 = .ok (.if_icmp .ge 54, 3) := by decide +kernel
theorem dX11_wrongPlace_20 : decode cX11_wrongPlace 20 = .ok (.iload_n 2, 1) := by decide +kernel
theorem dX11_wrongPlace_21 : decode cX11_wrongPlace 21 = .ok (.ifCond .ne 19, 3) := by decide +kernel
theorem dX11_wrongPlace_24 : decode cX11_wrongPlace 24 = .ok (.aload_n 0, 1) := by decide +kernel
theorem dX11_wrongPlace_25 : decode cX11_wrongPlace 25 = .ok (.getfield 39, 3) := by decide +kernel
theorem dX11_wrongPlace_28 : decode cX11_wrongPlace 28 = .ok (.iload 4, 2) := by decide +kernel
theorem dX11_wrongPlace_30 : decode cX11_wrongPlace 30 = .ok (.iaload, 1) := by decide +kernel
theorem dX11_wrongPlace_31 : decode cX11_wrongPlace 31 = .ok (.invokestatic 116, 3) := by decide +kernel
theorem dX11_wrongPlace_34 : decode cX11_wrongPlace 34 = .ok (.ifCond .eq 6, 3) := by decide +kernel
theorem dX11_wrongPlace_37 : decode cX11_wrongPlace 37 = .ok (.goto 28, 3) := by decide +kernel
theorem dX11_wrongPlace_40 : decode cX11_wrongPlace 40 = .ok (.aload_n 0, 1) := by decide +kernel
theorem dX11_wrongPlace_41 : decode cX11_wrongPlace 41 = .ok (.getfield 39, 3) := by decide +kernel
theorem dX11_wrongPlace_44 : decode cX11_wrongPlace 44 = .ok (.iload 4, 2) := by decide +kernel
theorem dX11_wrongPlace_46 : decode cX11_wrongPlace 46 = .ok (.iaload, 1) := by decide +kernel
theorem dX11_wrongPlace_47 : decode cX11_wrongPlace 47 = .ok (.iload_n 2, 1) := by decide +kernel
theorem dX11_wrongPlace_48 : decode cX11_wrongPlace 48 = .ok (.invokestatic 119, 3) := by decide +kernel
theorem dX11_wrongPlace_51 : decode cX11_wrongPlace 51 = .ok (.ifCond .ne 6, 3) := by decide +kernel
theorem dX11_wrongPlace_54 : decode cX11_wrongPlace 54 = .ok (.iload 4, 2) := by decide +kernel
theorem dX11_wrongPlace_56 : decode cX11_wrongPlace 56 = .ok (.ireturn, 1) := by decide +kernel
theorem dX11_wrongPlace_57 : decode cX11_wrongPlace 57 = .ok (.iconst 1, 1) := by decide +kernel
theorem dX11_wrongPlace_58 : decode cX11_wrongPlace 58 = .ok (.istore_n 3, 1) := by decide +kernel
theorem dX11_wrongPlace_59 : decode cX11_wrongPlace 59 = .ok (.iload_n 2, 1) := by decide +kernel
theorem dX11_wrongPlace_60 : decode cX11_wrongPlace 60 = .ok (.iconst 1, 1) := by decide +kernel
theorem dX11_wrongPlace_61 : decode cX11_wrongPlace 61 = .ok (.iadd, 1) := by decide +kernel
theorem dX11_wrongPlace_62 : decode cX11_wrongPlace 62 = .ok (.iconst 4, 1) := by decide +kernel
theorem dX11_wrongPlace_63 : decode cX11_wrongPlace 63 = .ok (.irem, 1) := by decide +kernel
theorem dX11_wrongPlace_64 : decode cX11_wrongPlace 64 = .ok (.istore_n 2, 1) := by decide +kernel
theorem dX11_wrongPlace_65 : decode cX11_wrongPlace 65 = .ok (.iinc 4 1, 3) := by decide +kernel
theorem dX11_wrongPlace_68 : decode cX11_wrongPlace 68 = .ok (.goto (-61), 3) := by decide +kernel
theorem dX11_wrongPlace_71 : decode cX11_wrongPlace 71 = .ok (.iload_n 3, 1) := by decide +kernel
theorem dX11_wrongPlace_72 : decode cX11_wrongPlace 72 = .ok (.ifCond .eq 11, 3) := by decide +kernel
theorem dX11_wrongPlace_75 : decode cX11_wrongPlace 75 = .ok (.iload_n 2, 1) := by decide +kernel
theorem dX11_wrongPlace_76 : decode cX11_wrongPlace 76 = .ok (.ifCond .ne 7, 3) := by decide +kernel
theorem dX11_wrongPlace_79 : decode cX11_wrongPlace 79 = .ok (.iconst (-1), 1) := by decide +kernel
theorem dX11_wrongPlace_80 : decode cX11_wrongPlace 80 = .ok (.goto 4, 3) := by decide +kernel
theorem dX11_wrongPlace_83 : decode cX11_wrongPlace 83 = .ok (.iload_n 1, 1) := by decide +kernel
theorem dX11_wrongPlace_84 : decode cX11_wrongPlace 84 = .ok (.ireturn, 1) := by decide +kernel
theorem dX11_isBlank_0 : decode cX11_isBlank 0 = .ok (.iload_n 0, 1) := by decide +kernel
theorem dX11_isBlank_1 : decode cX11_isBlank 1 = .ok (.bipush 32, 2) := by decide +kernel
theorem dX11_isBlank_3 : decode cX11_isBlank 3 = .ok (.if_icmp .eq 9, 3) := by decide +kernel
theorem dX11_isBlank_6 : decode cX11_isBlank 6 = .ok (.iload_n 0, 1) := by decide +kernel
theorem dX11_isBlank_7 : decode cX11_isBlank 7 = .ok (.bipush 10, 2) := by decide +kernel
theorem dX11_isBlank_9 : decode cX11_isBlank 9 = .ok (.if_icmp .ne 7, 3) := by decide +kernel
theorem dX11_isBlank_12 : decode cX11_isBlank 12 = .ok (.iconst 1, 1) := by decide +kernel
theorem dX11_isBlank_13 : decode cX11_isBlank 13 = .ok (.goto 4, 3) := by decide +kernel
theorem dX11_isBlank_16 : decode cX11_isBlank 16 = .ok (.iconst 0, 1) := by decide +kernel
theorem dX11_isBlank_17 : decode cX11_isBlank 17 = .ok (.ireturn, 1) := by decide +kernel
theorem dX11_canBePart_0 : decode cX11_canBePart 0 = .ok (.iload_n 1, 1) := by decide +kernel
theorem dX11_canBePart_1 : decode cX11_canBePart 1 = .ok (.ifCond .ne 16, 3) := by decide +kernel
theorem dX11_canBePart_4 : decode cX11_canBePart 4 = .ok (.iload_n 0, 1) := by decide +kernel
theorem dX11_canBePart_5 : decode cX11_canBePart 5 = .ok (.invokestatic 123, 3) := by decide +kernel
theorem dX11_canBePart_8 : decode cX11_canBePart 8 = .ok (.ifCond .lt 7, 3) := by decide +kernel
theorem dX11_canBePart_11 : decode cX11_canBePart 11 = .ok (.iconst 1, 1) := by decide +kernel
theorem dX11_canBePart_12 : decode cX11_canBePart 12 = .ok (.goto 4, 3) := by decide +kernel
theorem dX11_canBePart_15 : decode cX11_canBePart 15 = .ok (.iconst 0, 1) := by decide +kernel
theorem dX11_canBePart_16 : decode cX11_canBePart 16 = .ok (.ireturn, 1) := by decide +kernel
theorem dX11_canBePart_17 : decode cX11_canBePart 17 = .ok (.iload_n 1, 1) := by decide +kernel
theorem dX11_canBePart_18 : decode cX11_canBePart 18 = .ok (.iconst 3, 1) := by decide +kernel
theorem dX11_canBePart_19 : decode cX11_canBePart 19 = .ok (.if_icmp .ne 14, 3) := by decide +kernel
theorem dX11_canBePart_22 : decode cX11_canBePart 22 = .ok (.iload_n 0, 1) := by decide +kernel
theorem dX11_canBePart_23 : decode cX11_canBePart 23 = .ok (.bipush 49, 2) := by decide +kernel
theorem dX11_canBePart_25 : decode cX11_canBePart 25 = .ok (.bipush 52, 2) := by decide +kernel
theorem dX11_canBePart_27 : decode cX11_canBePart 27 = .ok (.invokestatic 69, 3) := by decide +kernel
theorem dX11_canBePart_30 : decode cX11_canBePart 30 = .ok (.goto 11, 3) := by decide +kernel
theorem dX11_canBePart_33 : decode cX11_canBePart 33 = .ok (.iload_n 0, 1) := by decide +kernel
theorem dX11_canBePart_34 : decode cX11_canBePart 34 = .ok (.bipush 48, 2) := by decide +kernel
theorem dX11_canBePart_36 : decode cX11_canBePart 36 = .ok (.bipush 55, 2) := by decide +kernel
theorem dX11_canBePart_38 : decode cX11_canBePart 38 = .ok (.invokestatic 69, 3) := by decide +kernel
theorem dX11_canBePart_41 : decode cX11_canBePart 41 = .ok (.ireturn, 1) := by decide +kernel
theorem dX11_kindOf_0 : decode cX11_kindOf 0 = .ok (.ldc 126, 2) := by decide +kernel
theorem dX11_kindOf_2 : decode cX11_kindOf 2 = .ok (.iload_n 0, 1) := by decide +kernel
theorem dX11_kindOf_3 : decode cX11_kindOf 3 = .ok (.i2c, 1) := by decide +kernel
theorem dX11_kindOf_4 : decode cX11_kindOf 4 = .ok (.invokevirtual 128, 3) := by decide +kernel
theorem dX11_kindOf_7 : decode cX11_kindOf 7 = .ok (.ireturn, 1) := by decide +kernel
theorem dX11_itemsOf_0 : decode cX11_itemsOf 0 = .ok (.iconst 0, 1) := by decide +kernel
theorem dX11_itemsOf_1 : decode cX11_itemsOf 1 = .ok (.istore_n 2, 1) := by decide +kernel
theorem dX11_itemsOf_2 : decode cX11_itemsOf 2 = .ok (.iconst 0, 1) := by decide +kernel
theorem dX11_itemsOf_3 : decode cX11_itemsOf 3 = .ok (.istore_n 3, 1) := by decide +kernel
theorem dX11_itemsOf_4 : decode cX11_itemsOf 4 = .ok (.iload_n 3, 1) := by decide +kernel
theorem dX11_itemsOf_5 : decode cX11_itemsOf 5 = .ok (.iload_n 1, 1) := by decide +kernel
theorem dX11_itemsOf_6 : decode cX11_itemsOf 6 = .ok (.if_icmp .ge 30, 3) := by decide +kernel
theorem dX11_itemsOf_9 : decode cX11_itemsOf 9 = .ok (.iload_n 3, 1) := by decide +kernel
theorem dX11_itemsOf_10 : decode cX11_itemsOf 10 = .ok (.bipush 40, 2) := by decide +kernel
theorem dX11_itemsOf_12 : decode cX11_itemsOf 12 = .ok (.if_icmp .ge 24, 3) := by decide +kernel
theorem dX11_itemsOf_15 : decode cX11_itemsOf 15 = .ok (.aload_n 0, 1) := by decide +kernel
theorem dX11_itemsOf_16 : decode cX11_itemsOf 16 = .ok (.getfield 39, 3) := by decide +kernel
theorem dX11_itemsOf_19 : decode cX11_itemsOf 19 = .ok (.iload_n 3, 1) := by decide +kernel
theorem dX11_itemsOf_20 : decode cX11_itemsOf 20 = .ok (.iaload, 1) := by decide +kernel
theorem dX11_itemsOf_21 : decode cX11_itemsOf 21 = .ok (.invokestatic 123, 3) := by decide +kernel
theorem dX11_itemsOf_24 : decode cX11_itemsOf 24 = .ok (.ifCond .lt 6, 3) := by decide +kernel
theorem dX11_itemsOf_27 : decode cX11_itemsOf 27 = .ok (.iinc 2 1, 3) := by decide +kernel
theorem dX11_itemsOf_30 : decode cX11_itemsOf 30 = .ok (.iinc 3 1, 3) := by decide +kernel
theorem dX11_itemsOf_33 : decode cX11_itemsOf 33 = .ok (.goto (-29), 3) := by decide +kernel
theorem dX11_itemsOf_36 : decode cX11_itemsOf 36 = .ok (.iload_n 2, 1) := by decide +kernel
theorem dX11_itemsOf_37 : decode cX11_itemsOf 37 = .ok (.ireturn, 1) := by decide +kernel
theorem dX11_readItems_0 : decode cX11_readItems 0 = .ok (.iconst 0, 1) := by decide +kernel
theorem dX11_readItems_1 : decode cX11_readItems 1 = .ok (.istore_n 2, 1) := by decide +kernel
theorem dX11_readItems_2 : decode cX11_readItems 2 = .ok (.iload_n 2, 1) := by decide +kernel
theorem dX11_readItems_3 : decode cX11_readItems 3 = .ok (.iconst 3, 1) := by decide +kernel
theorem dX11_readItems_4 : decode cX11_readItems 4 = .ok (.iadd, 1) := by decide +kernel
theorem dX11_readItems_5 : decode cX11_readItems 5 = .ok (.iload_n 1, 1) := by decide +kernel
theorem dX11_readItems_6 : decode cX11_readItems 6 = .ok (.if_icmp .ge 75, 3) := by decide +kernel
theorem dX11_readItems_9 : decode cX11_readItems 9 = .ok (.iload_n 2, 1) := by decide +kernel
theorem dX11_readItems_10 : decode cX11_readItems 10 = .ok (.iconst 3, 1) := by decide +kernel
theorem dX11_readItems_11 : decode cX11_readItems 11 = .ok (.iadd, 1) := by decide +kernel
theorem dX11_readItems_12 : decode cX11_readItems 12 = .ok (.bipush 40, 2) := by decide +kernel
theorem dX11_readItems_14 : decode cX11_readItems 14 = .ok (.if_icmp .ge 67, 3) := by decide +kernel
theorem dX11_readItems_17 : decode cX11_readItems 17 = .ok (.aload_n 0, 1) := by decide +kernel
theorem dX11_readItems_18 : decode cX11_readItems 18 = .ok (.getfield 39, 3) := by decide +kernel
theorem dX11_readItems_21 : decode cX11_readItems 21 = .ok (.iload_n 2, 1) := by decide +kernel
theorem dX11_readItems_22 : decode cX11_readItems 22 = .ok (.iaload, 1) := by decide +kernel
theorem dX11_readItems_23 : decode cX11_readItems 23 = .ok (.invokestatic 123, 3) := by decide +kernel
theorem dX11_readItems_26 : decode cX11_readItems 26 = .ok (.istore_n 3, 1) := by decide +kernel
theorem dX11_readItems_27 : decode cX11_readItems 27 = .ok (.iload_n 3, 1) := by decide +kernel
theorem dX11_readItems_28 : decode cX11_readItems 28 = .ok (.ifCond .lt 47, 3) := by decide +kernel
theorem dX11_readItems_31 : decode cX11_readItems 31 = .ok (.aload_n 0, 1) := by decide +kernel
theorem dX11_readItems_32 : decode cX11_readItems 32 = .ok (.getfield 12, 3) := by decide +kernel
theorem dX11_readItems_35 : decode cX11_readItems 35 = .ok (.iload_n 3, 1) := by decide +kernel
theorem dX11_readItems_36 : decode cX11_readItems 36 = .ok (.aload_n 0, 1) := by decide +kernel
theorem dX11_readItems_37 : decode cX11_readItems 37 = .ok (.getfield 39, 3) := by decide +kernel
theorem dX11_readItems_40 : decode cX11_readItems 40 = .ok (.iload_n 2, 1) := by decide +kernel
theorem dX11_readItems_41 : decode cX11_readItems 41 = .ok (.iconst 1, 1) := by decide +kernel
theorem dX11_readItems_42 : decode cX11_readItems 42 = .ok (.iadd, 1) := by decide +kernel
theorem dX11_readItems_43 : decode cX11_readItems 43 = .ok (.iaload, 1) := by decide +kernel
theorem dX11_readItems_44 : decode cX11_readItems 44 = .ok (.bipush 48, 2) := by decide +kernel
theorem dX11_readItems_46 : decode cX11_readItems 46 = .ok (.isub, 1) := by decide +kernel
theorem dX11_readItems_47 : decode cX11_readItems 47 = .ok (.aload_n 0, 1) := by decide +kernel
theorem dX11_readItems_48 : decode cX11_readItems 48 = .ok (.getfield 39, 3) := by decide +kernel
theorem dX11_readItems_51 : decode cX11_readItems 51 = .ok (.iload_n 2, 1) := by decide +kernel
theorem dX11_readItems_52 : decode cX11_readItems 52 = .ok (.iconst 2, 1) := by decide +kernel
theorem dX11_readItems_53 : decode cX11_readItems 53 = .ok (.iadd, 1) := by decide +kernel
theorem dX11_readItems_54 : decode cX11_readItems 54 = .ok (.iaload, 1) := by decide +kernel
theorem dX11_readItems_55 : decode cX11_readItems 55 = .ok (.bipush 48, 2) := by decide +kernel
theorem dX11_readItems_57 : decode cX11_readItems 57 = .ok (.isub, 1) := by decide +kernel
theorem dX11_readItems_58 : decode cX11_readItems 58 = .ok (.aload_n 0, 1) := by decide +kernel
theorem dX11_readItems_59 : decode cX11_readItems 59 = .ok (.getfield 39, 3) := by decide +kernel
theorem dX11_readItems_62 : decode cX11_readItems 62 = .ok (.iload_n 2, 1) := by decide +kernel
theorem dX11_readItems_63 : decode cX11_readItems 63 = .ok (.iconst 3, 1) := by decide +kernel
theorem dX11_readItems_64 : decode cX11_readItems 64 = .ok (.iadd, 1) := by decide +kernel
theorem dX11_readItems_65 : decode cX11_readItems 65 = .ok (.iaload, 1) := by decide +kernel
theorem dX11_readItems_66 : decode cX11_readItems 66 = .ok (.bipush 48, 2) := by decide +kernel
theorem dX11_readItems_68 : decode cX11_readItems 68 = .ok (.isub, 1) := by decide +kernel
theorem dX11_readItems_69 : decode cX11_readItems 69 = .ok (.invokestatic 133, 3) := by decide +kernel
theorem dX11_readItems_72 : decode cX11_readItems 72 = .ok (.invokevirtual 137, 3) := by decide +kernel
theorem dX11_readItems_75 : decode cX11_readItems 75 = .ok (.iinc 2 1, 3) := by decide +kernel
theorem dX11_readItems_78 : decode cX11_readItems 78 = .ok (.goto (-76), 3) := by decide +kernel
theorem dX11_readItems_81 : decode cX11_readItems 81 = .ok (.return_, 1) := by decide +kernel
theorem dX11_newFault_0 : decode cX11_newFault 0 = .ok (.iload_n 0, 1) := by decide +kernel
theorem dX11_newFault_1 : decode cX11_newFault 1 = .ok (.tableswitch 105 0 5 #[39, 50, 61, 72, 83, 94], 39) := by decide +kernel
theorem dX11_newFault_40 : decode cX11_newFault 40 = .ok (.new 141, 3) := by decide +kernel
theorem dX11_newFault_43 : decode cX11_newFault 43 = .ok (.dup, 1) := by decide +kernel
theorem dX11_newFault_44 : decode cX11_newFault 44 = .ok (.iload_n 1, 1) := by decide +kernel
theorem dX11_newFault_45 : decode cX11_newFault 45 = .ok (.iload_n 2, 1) := by decide +kernel
theorem dX11_newFault_46 : decode cX11_newFault 46 = .ok (.iload_n 3, 1) := by decide +kernel
theorem dX11_newFault_47 : decode cX11_newFault 47 = .ok (.invokespecial 143, 3) := by decide +kernel
theorem dX11_newFault_50 : decode cX11_newFault 50 = .ok (.areturn, 1) := by decide +kernel
theorem dX11_newFault_51 : decode cX11_newFault 51 = .ok (.new 145, 3) := by decide +kernel
theorem dX11_newFault_54 : decode cX11_newFault 54 = .ok (.dup, 1) := by decide +kernel
theorem dX11_newFault_55 : decode cX11_newFault 55 = .ok (.iload_n 1, 1) := by decide +kernel
theorem dX11_newFault_56 : decode cX11_newFault 56 = .ok (.iload_n 2, 1) := by decide +kernel
theorem dX11_newFault_57 : decode cX11_newFault 57 = .ok (.iload_n 3, 1) := by decide +kernel
theorem dX11_newFault_58 : decode cX11_newFault 58 = .ok (.invokespecial 147, 3) := by decide +kernel
theorem dX11_newFault_61 : decode cX11_newFault 61 = .ok (.areturn, 1) := by decide +kernel
theorem dX11_newFault_62 : decode cX11_newFault 62 = .ok (.new 148, 3) := by decide +kernel
theorem dX11_newFault_65 : decode cX11_newFault 65 = .ok (.dup, 1) := by decide +kernel
theorem dX11_newFault_66 : decode cX11_newFault 66 = .ok (.iload_n 1, 1) := by decide +kernel
theorem dX11_newFault_67 : decode cX11_newFault 67 = .ok (.iload_n 2, 1) := by decide +kernel
theorem dX11_newFault_68 : decode cX11_newFault 68 = .ok (.iload_n 3, 1) := by decide +kernel
theorem dX11_newFault_69 : decode cX11_newFault 69 = .ok (.invokespecial 150, 3) := by decide +kernel
theorem dX11_newFault_72 : decode cX11_newFault 72 = .ok (.areturn, 1) := by decide +kernel
theorem dX11_newFault_73 : decode cX11_newFault 73 = .ok (.new 151, 3) := by decide +kernel
theorem dX11_newFault_76 : decode cX11_newFault 76 = .ok (.dup, 1) := by decide +kernel
theorem dX11_newFault_77 : decode cX11_newFault 77 = .ok (.iload_n 1, 1) := by decide +kernel
theorem dX11_newFault_78 : decode cX11_newFault 78 = .ok (.iload_n 2, 1) := by decide +kernel
theorem dX11_newFault_79 : decode cX11_newFault 79 = .ok (.iload_n 3, 1) := by decide +kernel
theorem dX11_newFault_80 : decode cX11_newFault 80 = .ok (.invokespecial 153, 3) := by decide +kernel
theorem dX11_newFault_83 : decode cX11_newFault 83 = .ok (.areturn, 1) := by decide +kernel
theorem dX11_newFault_84 : decode cX11_newFault 84 = .ok (.new 154, 3) := by decide +kernel
theorem dX11_newFault_87 : decode cX11_newFault 87 = .ok (.dup, 1) := by decide +kernel
theorem dX11_newFault_88 : decode cX11_newFault 88 = .ok (.iload_n 1, 1) := by decide +kernel
theorem dX11_newFault_89 : decode cX11_newFault 89 = .ok (.iload_n 2, 1) := by decide +kernel
theorem dX11_newFault_90 : decode cX11_newFault 90 = .ok (.iload_n 3, 1) := by decide +kernel
theorem dX11_newFault_91 : decode cX11_newFault 91 = .ok (.invokespecial 156, 3) := by decide +kernel
theorem dX11_newFault_94 : decode cX11_newFault 94 = .ok (.areturn, 1) := by decide +kernel
theorem dX11_newFault_95 : decode cX11_newFault 95 = .ok (.new 157, 3) := by decide +kernel
theorem dX11_newFault_98 : decode cX11_newFault 98 = .ok (.dup, 1) := by decide +kernel
theorem dX11_newFault_99 : decode cX11_newFault 99 = .ok (.iload_n 1, 1) := by decide +kernel
theorem dX11_newFault_100 : decode cX11_newFault 100 = .ok (.iload_n 2, 1) := by decide +kernel
theorem dX11_newFault_101 : decode cX11_newFault 101 = .ok (.iload_n 3, 1) := by decide +kernel
theorem dX11_newFault_102 : decode cX11_newFault 102 = .ok (.invokespecial 159, 3) := by decide +kernel
theorem dX11_newFault_105 : decode cX11_newFault 105 = .ok (.areturn, 1) := by decide +kernel
theorem dX11_newFault_106 : decode cX11_newFault 106 = .ok (.new 160, 3) := by decide +kernel
theorem dX11_newFault_109 : decode cX11_newFault 109 = .ok (.dup, 1) := by decide +kernel
theorem dX11_newFault_110 : decode cX11_newFault 110 = .ok (.iload_n 1, 1) := by decide +kernel
theorem dX11_newFault_111 : decode cX11_newFault 111 = .ok (.iload_n 2, 1) := by decide +kernel
theorem dX11_newFault_112 : decode cX11_newFault 112 = .ok (.iload_n 3, 1) := by decide +kernel
theorem dX11_newFault_113 : decode cX11_newFault 113 = .ok (.invokespecial 162, 3) := by decide +kernel
theorem dX11_newFault_116 : decode cX11_newFault 116 = .ok (.areturn, 1) := by decide +kernel
theorem dX11_fault_0 : decode cX11_fault 0 = .ok (.aload_n 0, 1) := by decide +kernel
theorem dX11_fault_1 : decode cX11_fault 1 = .ok (.getfield 12, 3) := by decide +kernel
theorem dX11_fault_4 : decode cX11_fault 4 = .ok (.invokevirtual 98, 3) := by decide +kernel
theorem dX11_fault_7 : decode cX11_fault 7 = .ok (.ifCond .ne 6, 3) := by decide +kernel
theorem dX11_fault_10 : decode cX11_fault 10 = .ok (.bipush (-3), 2) := by decide +kernel
theorem dX11_fault_12 : decode cX11_fault 12 = .ok (.ireturn, 1) := by decide +kernel
