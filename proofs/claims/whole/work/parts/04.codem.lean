theorem dX6_init_0 : decode cX6_init 0 = .ok (.aload_n 0, 1) := by decide +kernel
theorem dX6_init_1 : decode cX6_init 1 = .ok (.invokespecial 1, 3) := by decide +kernel
theorem dX6_init_4 : decode cX6_init 4 = .ok (.aload_n 0, 1) := by decide +kernel
theorem dX6_init_5 : decode cX6_init 5 = .ok (.bipush 8, 2) := by decide +kernel
theorem dX6_init_7 : decode cX6_init 7 = .ok (.newarray .int, 2) := by decide +kernel
theorem dX6_init_9 : decode cX6_init 9 = .ok (.putfield 7, 3) := by decide +kernel
theorem dX6_init_12 : decode cX6_init 12 = .ok (.aload_n 0, 1) := by decide +kernel
theorem dX6_init_13 : decode cX6_init 13 = .ok (.bipush 8, 2) := by decide +kernel
theorem dX6_init_15 : decode cX6_init 15 = .ok (.newarray .int, 2) := by decide +kernel
theorem dX6_init_17 : decode cX6_init 17 = .ok (.putfield 13, 3) := by decide +kernel
theorem dX6_init_20 : decode cX6_init 20 = .ok (.aload_n 0, 1) := by decide +kernel
theorem dX6_init_21 : decode cX6_init 21 = .ok (.sipush 320, 3) := by decide +kernel
theorem dX6_init_24 : decode cX6_init 24 = .ok (.newarray .int, 2) := by decide +kernel
theorem dX6_init_26 : decode cX6_init 26 = .ok (.putfield 16, 3) := by decide +kernel
theorem dX6_init_29 : decode cX6_init 29 = .ok (.aload_n 0, 1) := by decide +kernel
theorem dX6_init_30 : decode cX6_init 30 = .ok (.bipush 40, 2) := by decide +kernel
theorem dX6_init_32 : decode cX6_init 32 = .ok (.newarray .int, 2) := by decide +kernel
theorem dX6_init_34 : decode cX6_init 34 = .ok (.putfield 19, 3) := by decide +kernel
theorem dX6_init_37 : decode cX6_init 37 = .ok (.aload_n 0, 1) := by decide +kernel
theorem dX6_init_38 : decode cX6_init 38 = .ok (.bipush 110, 2) := by decide +kernel
theorem dX6_init_40 : decode cX6_init 40 = .ok (.newarray .int, 2) := by decide +kernel
theorem dX6_init_42 : decode cX6_init 42 = .ok (.putfield 22, 3) := by decide +kernel
theorem dX6_init_45 : decode cX6_init 45 = .ok (.aload_n 0, 1) := by decide +kernel
theorem dX6_init_46 : decode cX6_init 46 = .ok (.bipush 45, 2) := by decide +kernel
theorem dX6_init_48 : decode cX6_init 48 = .ok (.newarray .int, 2) := by decide +kernel
theorem dX6_init_50 : decode cX6_init 50 = .ok (.putfield 25, 3) := by decide +kernel
theorem dX6_init_53 : decode cX6_init 53 = .ok (.aload_n 0, 1) := by decide +kernel
theorem dX6_init_54 : decode cX6_init 54 = .ok (.bipush 45, 2) := by decide +kernel
theorem dX6_init_56 : decode cX6_init 56 = .ok (.newarray .int, 2) := by decide +kernel
theorem dX6_init_58 : decode cX6_init 58 = .ok (.putfield 28, 3) := by decide +kernel
theorem dX6_init_61 : decode cX6_init 61 = .ok (.aload_n 0, 1) := by decide +kernel
theorem dX6_init_62 : decode cX6_init 62 = .ok (.bipush 45, 2) := by decide +kernel
theorem dX6_init_64 : decode cX6_init 64 = .ok (.newarray .int, 2) := by decide +kernel
theorem dX6_init_66 : decode cX6_init 66 = .ok (.putfield 31, 3) := by decide +kernel
theorem dX6_init_69 : decode cX6_init 69 = .ok (.aload_n 0, 1) := by decide +kernel
theorem dX6_init_70 : decode cX6_init 70 = .ok (.sipush 1080, 3) := by decide +kernel
theorem dX6_init_73 : decode cX6_init 73 = .ok (.newarray .int, 2) := by decide +kernel
theorem dX6_init_75 : decode cX6_init 75 = .ok (.putfield 34, 3) := by decide +kernel
theorem dX6_init_78 : decode cX6_init 78 = .ok (.aload_n 0, 1) := by decide +kernel
theorem dX6_init_79 : decode cX6_init 79 = .ok (.bipush 90, 2) := by decide +kernel
theorem dX6_init_81 : decode cX6_init 81 = .ok (.newarray .int, 2) := by decide +kernel
theorem dX6_init_83 : decode cX6_init 83 = .ok (.putfield 37, 3) := by decide +kernel
theorem dX6_init_86 : decode cX6_init 86 = .ok (.aload_n 0, 1) := by decide +kernel
theorem dX6_init_87 : decode cX6_init 87 = .ok (.iconst 2, 1) := by decide +kernel
theorem dX6_init_88 : decode cX6_init 88 = .ok (.newarray .boolean, 2) := by decide +kernel
theorem dX6_init_90 : decode cX6_init 90 = .ok (.putfield 40, 3) := by decide +kernel
theorem dX6_init_93 : decode cX6_init 93 = .ok (.aload_n 0, 1) := by decide +kernel
theorem dX6_init_94 : decode cX6_init 94 = .ok (.bipush 16, 2) := by decide +kernel
theorem dX6_init_96 : decode cX6_init 96 = .ok (.newarray .int, 2) := by decide +kernel
theorem dX6_init_98 : decode cX6_init 98 = .ok (.putfield 44, 3) := by decide +kernel
theorem dX6_init_101 : decode cX6_init 101 = .ok (.iconst 0, 1) := by decide +kernel
theorem dX6_init_102 : decode cX6_init 102 = .ok (.istore_n 1, 1) := by decide +kernel
theorem dX6_init_103 : decode cX6_init 103 = .ok (.iload_n 1, 1) := by decide +kernel
theorem dX6_init_104 : decode cX6_init 104 = .ok (.bipush 8, 2) := by decide +kernel
theorem dX6_init_106 : decode cX6_init 106 = .ok (.if_icmp .ge 17, 3) := by decide +kernel
theorem dX6_init_109 : decode cX6_init 109 = .ok (.aload_n 0, 1) := by decide +kernel
theorem dX6_init_110 : decode cX6_init 110 = .ok (.getfield 7, 3) := by decide +kernel
theorem dX6_init_113 : decode cX6_init 113 = .ok (.iload_n 1, 1) := by decide +kernel
theorem dX6_init_114 : decode cX6_init 114 = .ok (.ldc 47, 2) := by decide +kernel
theorem dX6_init_116 : decode cX6_init 116 = .ok (.iastore, 1) := by decide +kernel
theorem dX6_init_117 : decode cX6_init 117 = .ok (.iinc 1 1, 3) := by decide +kernel
theorem dX6_init_120 : decode cX6_init 120 = .ok (.goto (-17), 3) := by decide +kernel
theorem dX6_init_123 : decode cX6_init 123 = .ok (.return_, 1) := by decide +kernel
theorem dX6_in_0 : decode cX6_in 0 = .ok (.iload_n 0, 1) := by decide +kernel
theorem dX6_in_1 : decode cX6_in 1 = .ok (.iload_n 1, 1) := by decide +kernel
theorem dX6_in_2 : decode cX6_in 2 = .ok (.if_icmp .lt 12, 3) := by decide +kernel
theorem dX6_in_5 : decode cX6_in 5 = .ok (.iload_n 0, 1) := by decide +kernel
theorem dX6_in_6 : decode cX6_in 6 = .ok (.iload_n 2, 1) := by decide +kernel
theorem dX6_in_7 : decode cX6_in 7 = .ok (.if_icmp .gt 7, 3) := by decide +kernel
theorem dX6_in_10 : decode cX6_in 10 = .ok (.iconst 1, 1) := by decide +kernel
theorem dX6_in_11 : decode cX6_in 11 = .ok (.goto 4, 3) := by decide +kernel
theorem dX6_in_14 : decode cX6_in 14 = .ok (.iconst 0, 1) := by decide +kernel
theorem dX6_in_15 : decode cX6_in 15 = .ok (.ireturn, 1) := by decide +kernel
theorem dX6_has_0 : decode cX6_has 0 = .ok (.iload_n 0, 1) := by decide +kernel
theorem dX6_has_1 : decode cX6_has 1 = .ok (.iload_n 1, 1) := by decide +kernel
theorem dX6_has_2 : decode cX6_has 2 = .ok (.ishr, 1) := by decide +kernel
theorem dX6_has_3 : decode cX6_has 3 = .ok (.iconst 1, 1) := by decide +kernel
theorem dX6_has_4 : decode cX6_has 4 = .ok (.iand, 1) := by decide +kernel
theorem dX6_has_5 : decode cX6_has 5 = .ok (.iconst 1, 1) := by decide +kernel
theorem dX6_has_6 : decode cX6_has 6 = .ok (.if_icmp .ne 7, 3) := by decide +kernel
theorem dX6_has_9 : decode cX6_has 9 = .ok (.iconst 1, 1) := by decide +kernel
theorem dX6_has_10 : decode cX6_has 10 = .ok (.goto 4, 3) := by decide +kernel
theorem dX6_has_13 : decode cX6_has 13 = .ok (.iconst 0, 1) := by decide +kernel
theorem dX6_has_14 : decode cX6_has 14 = .ok (.ireturn, 1) := by decide +kernel
theorem dX6_ones_0 : decode cX6_ones 0 = .ok (.iconst 0, 1) := by decide +kernel
theorem dX6_ones_1 : decode cX6_ones 1 = .ok (.istore_n 1, 1) := by decide +kernel
theorem dX6_ones_2 : decode cX6_ones 2 = .ok (.iconst 0, 1) := by decide +kernel
theorem dX6_ones_3 : decode cX6_ones 3 = .ok (.istore_n 2, 1) := by decide +kernel
theorem dX6_ones_4 : decode cX6_ones 4 = .ok (.iload_n 2, 1) := by decide +kernel
theorem dX6_ones_5 : decode cX6_ones 5 = .ok (.bipush 12, 2) := by decide +kernel
theorem dX6_ones_7 : decode cX6_ones 7 = .ok (.if_icmp .ge 17, 3) := by decide +kernel
theorem dX6_ones_10 : decode cX6_ones 10 = .ok (.iload_n 1, 1) := by decide +kernel
theorem dX6_ones_11 : decode cX6_ones 11 = .ok (.iload_n 0, 1) := by decide +kernel
theorem dX6_ones_12 : decode cX6_ones 12 = .ok (.iload_n 2, 1) := by decide +kernel
theorem dX6_ones_13 : decode cX6_ones 13 = .ok (.ishr, 1) := by decide +kernel
theorem dX6_ones_14 : decode cX6_ones 14 = .ok (.iconst 1, 1) := by decide +kernel
theorem dX6_ones_15 : decode cX6_ones 15 = .ok (.iand, 1) := by decide +kernel
theorem dX6_ones_16 : decode cX6_ones 16 = .ok (.iadd, 1) := by decide +kernel
theorem dX6_ones_17 : decode cX6_ones 17 = .ok (.istore_n 1, 1) := by decide +kernel
theorem dX6_ones_18 : decode cX6_ones 18 = .ok (.iinc 2 1, 3) := by decide +kernel
theorem dX6_ones_21 : decode cX6_ones 21 = .ok (.goto (-17), 3) := by decide +kernel
theorem dX6_ones_24 : decode cX6_ones 24 = .ok (.iload_n 1, 1) := by decide +kernel
theorem dX6_ones_25 : decode cX6_ones 25 = .ok (.ireturn, 1) := by decide +kernel
theorem dX6_found_0 : decode cX6_found 0 = .ok (.aload_n 0, 1) := by decide +kernel
theorem dX6_found_1 : decode cX6_found 1 = .ok (.iload_n 1, 1) := by decide +kernel
theorem dX6_found_2 : decode cX6_found 2 = .ok (.putfield 48, 3) := by decide +kernel
theorem dX6_found_5 : decode cX6_found 5 = .ok (.ldc 52, 2) := by decide +kernel
theorem dX6_found_7 : decode cX6_found 7 = .ok (.iload_n 1, 1) := by decide +kernel
theorem dX6_found_8 : decode cX6_found 8 = .ok (.isub, 1) := by decide +kernel
theorem dX6_found_9 : decode cX6_found 9 = .ok (.ireturn, 1) := by decide +kernel
theorem dX6_well_0 : decode cX6_well 0 = .ok (.aload_n 0, 1) := by decide +kernel
theorem dX6_well_1 : decode cX6_well 1 = .ok (.iconst 0, 1) := by decide +kernel
theorem dX6_well_2 : decode cX6_well 2 = .ok (.putfield 48, 3) := by decide +kernel
theorem dX6_well_5 : decode cX6_well 5 = .ok (.iload_n 1, 1) := by decide +kernel
theorem dX6_well_6 : decode cX6_well 6 = .ok (.ireturn, 1) := by decide +kernel
theorem dX6_copies_0 : decode cX6_copies 0 = .ok (.iconst 0, 1) := by decide +kernel
theorem dX6_copies_1 : decode cX6_copies 1 = .ok (.istore 4, 2) := by decide +kernel
theorem dX6_copies_3 : decode cX6_copies 3 = .ok (.iload 4, 2) := by decide +kernel
theorem dX6_copies_5 : decode cX6_copies 5 = .ok (.bipush 45, 2) := by decide +kernel
theorem dX6_copies_7 : decode cX6_copies 7 = .ok (.if_icmp .ge 21, 3) := by decide +kernel
theorem dX6_copies_10 : decode cX6_copies 10 = .ok (.aload_n 2, 1) := by decide +kernel
theorem dX6_copies_11 : decode cX6_copies 11 = .ok (.iload_n 3, 1) := by decide +kernel
theorem dX6_copies_12 : decode cX6_copies 12 = .ok (.iload 4, 2) := by decide +kernel
theorem dX6_copies_14 : decode cX6_copies 14 = .ok (.iadd, 1) := by decide +kernel
theorem dX6_copies_15 : decode cX6_copies 15 = .ok (.aload_n 0, 1) := by decide +kernel
theorem dX6_copies_16 : decode cX6_copies 16 = .ok (.iload_n 1, 1) := by decide +kernel
theorem dX6_copies_17 : decode cX6_copies 17 = .ok (.iload 4, 2) := by decide +kernel
theorem dX6_copies_19 : decode cX6_copies 19 = .ok (.iadd, 1) := by decide +kernel
theorem dX6_copies_20 : decode cX6_copies 20 = .ok (.iaload, 1) := by decide +kernel
theorem dX6_copies_21 : decode cX6_copies 21 = .ok (.iastore, 1) := by decide +kernel
theorem dX6_copies_22 : decode cX6_copies 22 = .ok (.iinc 4 1, 3) := by decide +kernel
theorem dX6_copies_25 : decode cX6_copies 25 = .ok (.goto (-22), 3) := by decide +kernel
theorem dX6_copies_28 : decode cX6_copies 28 = .ok (.return_, 1) := by decide +kernel
theorem dX6_isRow_0 : decode cX6_isRow 0 = .ok (.iload_n 0, 1) := by decide +kernel
theorem dX6_isRow_1 : decode cX6_isRow 1 = .ok (.iconst 0, 1) := by decide +kernel
theorem dX6_isRow_2 : decode cX6_isRow 2 = .ok (.bipush 7, 2) := by decide +kernel
theorem dX6_isRow_4 : decode cX6_isRow 4 = .ok (.invokestatic 53, 3) := by decide +kernel
theorem dX6_isRow_7 : decode cX6_isRow 7 = .ok (.ireturn, 1) := by decide +kernel
theorem dX6_isMissing_0 : decode cX6_isMissing 0 = .ok (.aload_n 0, 1) := by decide +kernel
theorem dX6_isMissing_1 : decode cX6_isMissing 1 = .ok (.getfield 7, 3) := by decide +kernel
theorem dX6_isMissing_4 : decode cX6_isMissing 4 = .ok (.iload_n 1, 1) := by decide +kernel
theorem dX6_isMissing_5 : decode cX6_isMissing 5 = .ok (.iaload, 1) := by decide +kernel
theorem dX6_isMissing_6 : decode cX6_isMissing 6 = .ok (.ldc 47, 2) := by decide +kernel
theorem dX6_isMissing_8 : decode cX6_isMissing 8 = .ok (.if_icmp .ne 7, 3) := by decide +kernel
theorem dX6_isMissing_11 : decode cX6_isMissing 11 = .ok (.iconst 1, 1) := by decide +kernel
theorem dX6_isMissing_12 : decode cX6_isMissing 12 = .ok (.goto 4, 3) := by decide +kernel
theorem dX6_isMissing_15 : decode cX6_isMissing 15 = .ok (.iconst 0, 1) := by decide +kernel
theorem dX6_isMissing_16 : decode cX6_isMissing 16 = .ok (.ireturn, 1) := by decide +kernel
theorem dX6_cut_0 : decode cX6_cut 0 = .ok (.iload_n 0, 1) := by decide +kernel
theorem dX6_cut_1 : decode cX6_cut 1 = .ok (.ifCond .ne 13, 3) := by decide +kernel
theorem dX6_cut_4 : decode cX6_cut 4 = .ok (.iload_n 1, 1) := by decide +kernel
theorem dX6_cut_5 : decode cX6_cut 5 = .ok (.bipush 24, 2) := by decide +kernel
theorem dX6_cut_7 : decode cX6_cut 7 = .ok (.ishl, 1) := by decide +kernel
theorem dX6_cut_8 : decode cX6_cut 8 = .ok (.bipush 24, 2) := by decide +kernel
theorem dX6_cut_10 : decode cX6_cut 10 = .ok (.ishr, 1) := by decide +kernel
theorem dX6_cut_11 : decode cX6_cut 11 = .ok (.goto 19, 3) := by decide +kernel
theorem dX6_cut_14 : decode cX6_cut 14 = .ok (.iload_n 0, 1) := by decide +kernel
theorem dX6_cut_15 : decode cX6_cut 15 = .ok (.iconst 1, 1) := by decide +kernel
theorem dX6_cut_16 : decode cX6_cut 16 = .ok (.if_icmp .ne 13, 3) := by decide +kernel
theorem dX6_cut_19 : decode cX6_cut 19 = .ok (.iload_n 1, 1) := by decide +kernel
theorem dX6_cut_20 : decode cX6_cut 20 = .ok (.bipush 16, 2) := by decide +kernel
theorem dX6_cut_22 : decode cX6_cut 22 = .ok (.ishl, 1) := by decide +kernel
theorem dX6_cut_23 : decode cX6_cut 23 = .ok (.bipush 16, 2) := by decide +kernel
theorem dX6_cut_25 : decode cX6_cut 25 = .ok (.ishr, 1) := by decide +kernel
theorem dX6_cut_26 : decode cX6_cut 26 = .ok (.goto 4, 3) := by decide +kernel
theorem dX6_cut_29 : decode cX6_cut 29 = .ok (.iload_n 1, 1) := by decide +kernel
theorem dX6_cut_30 : decode cX6_cut 30 = .ok (.ireturn, 1) := by decide +kernel
theorem dX6_row_0 : decode cX6_row 0 = .ok (.iload_n 1, 1) := by decide +kernel
theorem dX6_row_1 : decode cX6_row 1 = .ok (.invokestatic 57, 3) := by decide +kernel
theorem dX6_row_4 : decode cX6_row 4 = .ok (.ifCond .eq 18, 3) := by decide +kernel
theorem dX6_row_7 : decode cX6_row 7 = .ok (.iload_n 2, 1) := by decide +kernel
theorem dX6_row_8 : decode cX6_row 8 = .ok (.iconst 0, 1) := by decide +kernel
theorem dX6_row_9 : decode cX6_row 9 = .ok (.iconst 2, 1) := by decide +kernel
theorem dX6_row_10 : decode cX6_row 10 = .ok (.invokestatic 53, 3) := by decide +kernel
theorem dX6_row_13 : decode cX6_row 13 = .ok (.ifCond .eq 9, 3) := by decide +kernel
theorem dX6_row_16 : decode cX6_row 16 = .ok (.iload_n 3, 1) := by decide +kernel
theorem dX6_row_17 : decode cX6_row 17 = .ok (.bipush 40, 2) := by decide +kernel
theorem dX6_row_19 : decode cX6_row 19 = .ok (.if_icmp .le 6, 3) := by decide +kernel
theorem dX6_row_22 : decode cX6_row 22 = .ok (.ldc 61, 2) := by decide +kernel
theorem dX6_row_24 : decode cX6_row 24 = .ok (.ireturn, 1) := by decide +kernel
theorem dX6_row_25 : decode cX6_row 25 = .ok (.iload_n 3, 1) := by decide +kernel
theorem dX6_row_26 : decode cX6_row 26 = .ok (.ifCond .ge 9, 3) := by decide +kernel
theorem dX6_row_29 : decode cX6_row 29 = .ok (.aload_n 0, 1) := by decide +kernel
theorem dX6_row_30 : decode cX6_row 30 = .ok (.iconst 4, 1) := by decide +kernel
theorem dX6_row_31 : decode cX6_row 31 = .ok (.invokevirtual 62, 3) := by decide +kernel
theorem dX6_row_34 : decode cX6_row 34 = .ok (.ireturn, 1) := by decide +kernel
theorem dX6_row_35 : decode cX6_row 35 = .ok (.aload_n 0, 1) := by decide +kernel
theorem dX6_row_36 : decode cX6_row 36 = .ok (.getfield 7, 3) := by decide +kernel
theorem dX6_row_39 : decode cX6_row 39 = .ok (.iload_n 1, 1) := by decide +kernel
theorem dX6_row_40 : decode cX6_row 40 = .ok (.iload_n 2, 1) := by decide +kernel
theorem dX6_row_41 : decode cX6_row 41 = .ok (.iastore, 1) := by decide +kernel
theorem dX6_row_42 : decode cX6_row 42 = .ok (.aload_n 0, 1) := by decide +kernel
theorem dX6_row_43 : decode cX6_row 43 = .ok (.getfield 13, 3) := by decide +kernel
theorem dX6_row_46 : decode cX6_row 46 = .ok (.iload_n 1, 1) := by decide +kernel
theorem dX6_row_47 : decode cX6_row 47 = .ok (.iload_n 3, 1) := by decide +kernel
theorem dX6_row_48 : decode cX6_row 48 = .ok (.iastore, 1) := by decide +kernel
theorem dX6_row_49 : decode cX6_row 49 = .ok (.iconst 0, 1) := by decide +kernel
theorem dX6_row_50 : decode cX6_row 50 = .ok (.istore 4, 2) := by decide +kernel
theorem dX6_row_52 : decode cX6_row 52 = .ok (.iload 4, 2) := by decide +kernel
theorem dX6_row_54 : decode cX6_row 54 = .ok (.bipush 40, 2) := by decide +kernel
theorem dX6_row_56 : decode cX6_row 56 = .ok (.if_icmp .ge 22, 3) := by decide +kernel
theorem dX6_row_59 : decode cX6_row 59 = .ok (.aload_n 0, 1) := by decide +kernel
theorem dX6_row_60 : decode cX6_row 60 = .ok (.getfield 16, 3) := by decide +kernel
theorem dX6_row_63 : decode cX6_row 63 = .ok (.bipush 40, 2) := by decide +kernel
theorem dX6_row_65 : decode cX6_row 65 = .ok (.iload_n 1, 1) := by decide +kernel
theorem dX6_row_66 : decode cX6_row 66 = .ok (.imul, 1) := by decide +kernel
theorem dX6_row_67 : decode cX6_row 67 = .ok (.iload 4, 2) := by decide +kernel
theorem dX6_row_69 : decode cX6_row 69 = .ok (.iadd, 1) := by decide +kernel
theorem dX6_row_70 : decode cX6_row 70 = .ok (.iconst 0, 1) := by decide +kernel
theorem dX6_row_71 : decode cX6_row 71 = .ok (.iastore, 1) := by decide +kernel
theorem dX6_row_72 : decode cX6_row 72 = .ok (.iinc 4 1, 3) := by decide +kernel
theorem dX6_row_75 : decode cX6_row 75 = .ok (.goto (-23), 3) := by decide +kernel
theorem dX6_row_78 : decode cX6_row 78 = .ok (.aload_n 0, 1) := by decide +kernel
theorem dX6_row_79 : decode cX6_row 79 = .ok (.iload_n 3, 1) := by decide +kernel
theorem dX6_row_80 : decode cX6_row 80 = .ok (.invokevirtual 66, 3) := by decide +kernel
theorem dX6_row_83 : decode cX6_row 83 = .ok (.ireturn, 1) := by decide +kernel
theorem dX6_set_0 : decode cX6_set 0 = .ok (.iload_n 1, 1) := by decide +kernel
theorem dX6_set_1 : decode cX6_set 1 = .ok (.invokestatic 57, 3) := by decide +kernel
theorem dX6_set_4 : decode cX6_set 4 = .ok (.ifCond .ne 6, 3) := by decide +kernel
theorem dX6_set_7 : decode cX6_set 7 = .ok (.ldc 61, 2) := by decide +kernel
theorem dX6_set_9 : decode cX6_set 9 = .ok (.ireturn, 1) := by decide +kernel
theorem dX6_set_10 : decode cX6_set 10 = .ok (.aload_n 0, 1) := by decide +kernel
theorem dX6_set_11 : decode cX6_set 11 = .ok (.iload_n 1, 1) := by decide +kernel
theorem dX6_set_12 : decode cX6_set 12 = .ok (.invokevirtual 69, 3) := by decide +kernel
theorem dX6_set_15 : decode cX6_set 15 = .ok (.ifCond .eq 9, 3) := by decide +kernel
theorem dX6_set_18 : decode cX6_set 18 = .ok (.aload_n 0, 1) := by decide +kernel
theorem dX6_set_19 : decode cX6_set 19 = .ok (.iconst 1, 1) := by decide +kernel
theorem dX6_set_20 : decode cX6_set 20 = .ok (.invokevirtual 62, 3) := by decide +kernel
theorem dX6_set_23 : decode cX6_set 23 = .ok (.ireturn, 1) := by decide +kernel
theorem dX6_set_24 : decode cX6_set 24 = .ok (.iload_n 2, 1) := by decide +kernel
theorem dX6_set_25 : decode cX6_set 25 = .ok (.iconst 0, 1) := by decide +kernel
theorem dX6_set_26 : decode cX6_set 26 = .ok (.aload_n 0, 1) := by decide +kernel
theorem dX6_set_27 : decode cX6_set 27 = .ok (.getfield 13, 3) := by decide +kernel
theorem dX6_set_30 : decode cX6_set 30 = .ok (.iload_n 1, 1) := by decide +kernel
theorem dX6_set_31 : decode cX6_set 31 = .ok (.iaload, 1) := by decide +kernel
theorem dX6_set_32 : decode cX6_set 32 = .ok (.iconst 1, 1) := by decide +kernel
theorem dX6_set_33 : decode cX6_set 33 = .ok (.isub, 1) := by decide +kernel
theorem dX6_set_34 : decode cX6_set 34 = .ok (.invokestatic 53, 3) := by decide +kernel
theorem dX6_set_37 : decode cX6_set 37 = .ok (.ifCond .ne 9, 3) := by decide +kernel
theorem dX6_set_40 : decode cX6_set 40 = .ok (.aload_n 0, 1) := by decide +kernel
theorem dX6_set_41 : decode cX6_set 41 = .ok (.iconst 2, 1) := by decide +kernel
theorem dX6_set_42 : decode cX6_set 42 = .ok (.invokevirtual 62, 3) := by decide +kernel
theorem dX6_set_45 : decode cX6_set 45 = .ok (.ireturn, 1) := by decide +kernel
theorem dX6_set_46 : decode cX6_set 46 = .ok (.aload_n 0, 1) := by decide +kernel
theorem dX6_set_47 : decode cX6_set 47 = .ok (.getfield 16, 3) := by decide +kernel
theorem dX6_set_50 : decode cX6_set 50 = .ok (.bipush 40, 2) := by decide +kernel
theorem dX6_set_52 : decode cX6_set 52 = .ok (.iload_n 1, 1) := by decide +kernel
theorem dX6_set_53 : decode cX6_set 53 = .ok (.imul, 1) := by decide +kernel
theorem dX6_set_54 : decode cX6_set 54 = .ok (.iload_n 2, 1) := by decide +kernel
theorem dX6_set_55 : decode cX6_set 55 = .ok (.iadd, 1) := by decide +kernel
theorem dX6_set_56 : decode cX6_set 56 = .ok (.aload_n 0, 1) := by decide +kernel
theorem dX6_set_57 : decode cX6_set 57 = .ok (.getfield 7, 3) := by decide +kernel
theorem dX6_set_60 : decode cX6_set 60 = .ok (.iload_n 1, 1) := by decide +kernel
theorem dX6_set_61 : decode cX6_set 61 = .ok (.iaload, 1) := by decide +kernel
theorem dX6_set_62 : decode cX6_set 62 = .ok (.iload_n 3, 1) := by decide +kernel
theorem dX6_set_63 : decode cX6_set 63 = .ok (.invokestatic 72, 3) := by decide +kernel
theorem dX6_set_66 : decode cX6_set 66 = .ok (.iastore, 1) := by decide +kernel
theorem dX6_set_67 : decode cX6_set 67 = .ok (.aload_n 0, 1) := by decide +kernel
theorem dX6_set_68 : decode cX6_set 68 = .ok (.aload_n 0, 1) := by decide +kernel
theorem dX6_set_69 : decode cX6_set 69 = .ok (.getfield 16, 3) := by decide +kernel
theorem dX6_set_72 : decode cX6_set 72 = .ok (.bipush 40, 2) := by decide +kernel
theorem dX6_set_74 : decode cX6_set 74 = .ok (.iload_n 1, 1) := by decide +kernel
theorem dX6_set_75 : decode cX6_set 75 = .ok (.imul, 1) := by decide +kernel
theorem dX6_set_76 : decode cX6_set 76 = .ok (.iload_n 2, 1) := by decide +kernel
theorem dX6_set_77 : decode cX6_set 77 = .ok (.iadd, 1) := by decide +kernel
theorem dX6_set_78 : decode cX6_set 78 = .ok (.iaload, 1) := by decide +kernel
theorem dX6_set_79 : decode cX6_set 79 = .ok (.invokevirtual 66, 3) := by decide +kernel
theorem dX6_set_82 : decode cX6_set 82 = .ok (.ireturn, 1) := by decide +kernel
theorem dX6_isPart_0 : decode cX6_isPart 0 = .ok (.iload_n 2, 1) := by decide +kernel
theorem dX6_isPart_1 : decode cX6_isPart 1 = .ok (.ifCond .lt 33, 3) := by decide +kernel
theorem dX6_isPart_4 : decode cX6_isPart 4 = .ok (.iload_n 3, 1) := by decide +kernel
theorem dX6_isPart_5 : decode cX6_isPart 5 = .ok (.ifCond .lt 29, 3) := by decide +kernel
theorem dX6_isPart_8 : decode cX6_isPart 8 = .ok (.iload_n 2, 1) := by decide +kernel
theorem dX6_isPart_9 : decode cX6_isPart 9 = .ok (.aload_n 0, 1) := by decide +kernel
theorem dX6_isPart_10 : decode cX6_isPart 10 = .ok (.getfield 13, 3) := by decide +kernel
theorem dX6_isPart_13 : decode cX6_isPart 13 = .ok (.iload_n 1, 1) := by decide +kernel
theorem dX6_isPart_14 : decode cX6_isPart 14 = .ok (.iaload, 1) := by decide +kernel
theorem dX6_isPart_15 : decode cX6_isPart 15 = .ok (.if_icmp .gt 19, 3) := by decide +kernel
theorem dX6_isPart_18 : decode cX6_isPart 18 = .ok (.iload_n 3, 1) := by decide +kernel
theorem dX6_isPart_19 : decode cX6_isPart 19 = .ok (.aload_n 0, 1) := by decide +kernel
theorem dX6_isPart_20 : decode cX6_isPart 20 = .ok (.getfield 13, 3) := by decide +kernel
theorem dX6_isPart_23 : decode cX6_isPart 23 = .ok (.iload_n 1, 1) := by decide +kernel
theorem dX6_isPart_24 : decode cX6_isPart 24 = .ok (.iaload, 1) := by decide +kernel
theorem dX6_isPart_25 : decode cX6_isPart 25 = .ok (.iload_n 2, 1) := by decide +kernel
theorem dX6_isPart_26 : decode cX6_isPart 26 = .ok (.isub, 1) := by decide +kernel
theorem dX6_isPart_27 : decode cX6_isPart 27 = .ok (.if_icmp .gt 7, 3) := by decide +kernel
theorem dX6_isPart_30 : decode cX6_isPart 30 = .ok (.iconst 1, 1) := by decide +kernel
theorem dX6_isPart_31 : decode cX6_isPart 31 = .ok (.goto 4, 3) := by decide +kernel
theorem dX6_isPart_34 : decode cX6_isPart 34 = .ok (.iconst 0, 1) := by decide +kernel
theorem dX6_isPart_35 : decode cX6_isPart 35 = .ok (.ireturn, 1) := by decide +kernel
theorem dX6_copy_0 : decode cX6_copy 0 = .ok (.iload_n 1, 1) := by decide +kernel
theorem dX6_copy_1 : decode cX6_copy 1 = .ok (.invokestatic 57, 3) := by decide +kernel
theorem dX6_copy_4 : decode cX6_copy 4 = .ok (.ifCond .eq 10, 3) := by decide +kernel
theorem dX6_copy_7 : decode cX6_copy 7 = .ok (.iload_n 3, 1) := by decide +kernel
theorem dX6_copy_8 : decode cX6_copy 8 = .ok (.invokestatic 57, 3) := by decide +kernel
theorem dX6_copy_11 : decode cX6_copy 11 = .ok (.ifCond .ne 6, 3) := by decide +kernel
theorem dX6_copy_14 : decode cX6_copy 14 = .ok (.ldc 61, 2) := by decide +kernel
theorem dX6_copy_16 : decode cX6_copy 16 = .ok (.ireturn, 1) := by decide +kernel
theorem dX6_copy_17 : decode cX6_copy 17 = .ok (.aload_n 0, 1) := by decide +kernel
theorem dX6_copy_18 : decode cX6_copy 18 = .ok (.iload_n 1, 1) := by decide +kernel
theorem dX6_copy_19 : decode cX6_copy 19 = .ok (.invokevirtual 69, 3) := by decide +kernel
theorem dX6_copy_22 : decode cX6_copy 22 = .ok (.ifCond .ne 11, 3) := by decide +kernel
theorem dX6_copy_25 : decode cX6_copy 25 = .ok (.aload_n 0, 1) := by decide +kernel
theorem dX6_copy_26 : decode cX6_copy 26 = .ok (.iload_n 3, 1) := by decide +kernel
theorem dX6_copy_27 : decode cX6_copy 27 = .ok (.invokevirtual 69, 3) := by decide +kernel
theorem dX6_copy_30 : decode cX6_copy 30 = .ok (.ifCond .eq 9, 3) := by decide +kernel
theorem dX6_copy_33 : decode cX6_copy 33 = .ok (.aload_n 0, 1) := by decide +kernel
theorem dX6_copy_34 : decode cX6_copy 34 = .ok (.iconst 1, 1) := by decide +kernel
theorem dX6_copy_35 : decode cX6_copy 35 = .ok (.invokevirtual 62, 3) := by decide +kernel
theorem dX6_copy_38 : decode cX6_copy 38 = .ok (.ireturn, 1) := by decide +kernel
theorem dX6_copy_39 : decode cX6_copy 39 = .ok (.aload_n 0, 1) := by decide +kernel
theorem dX6_copy_40 : decode cX6_copy 40 = .ok (.getfield 7, 3) := by decide +kernel
theorem dX6_copy_43 : decode cX6_copy 43 = .ok (.iload_n 1, 1) := by decide +kernel
theorem dX6_copy_44 : decode cX6_copy 44 = .ok (.iaload, 1) := by decide +kernel
theorem dX6_copy_45 : decode cX6_copy 45 = .ok (.aload_n 0, 1) := by decide +kernel
theorem dX6_copy_46 : decode cX6_copy 46 = .ok (.getfield 7, 3) := by decide +kernel
theorem dX6_copy_49 : decode cX6_copy 49 = .ok (.iload_n 3, 1) := by decide +kernel
theorem dX6_copy_50 : decode cX6_copy 50 = .ok (.iaload, 1) := by decide +kernel
theorem dX6_copy_51 : decode cX6_copy 51 = .ok (.if_icmp .eq 9, 3) := by decide +kernel
theorem dX6_copy_54 : decode cX6_copy 54 = .ok (.aload_n 0, 1) := by decide +kernel
theorem dX6_copy_55 : decode cX6_copy 55 = .ok (.iconst 5, 1) := by decide +kernel
theorem dX6_copy_56 : decode cX6_copy 56 = .ok (.invokevirtual 62, 3) := by decide +kernel
theorem dX6_copy_59 : decode cX6_copy 59 = .ok (.ireturn, 1) := by decide +kernel
theorem dX6_copy_60 : decode cX6_copy 60 = .ok (.aload_n 0, 1) := by decide +kernel
theorem dX6_copy_61 : decode cX6_copy 61 = .ok (.iload_n 1, 1) := by decide +kernel
theorem dX6_copy_62 : decode cX6_copy 62 = .ok (.iload_n 2, 1) := by decide +kernel
theorem dX6_copy_63 : decode cX6_copy 63 = .ok (.iload 5, 2) := by decide +kernel
theorem dX6_copy_65 : decode cX6_copy 65 = .ok (.invokevirtual 76, 3) := by decide +kernel
theorem dX6_copy_68 : decode cX6_copy 68 = .ok (.ifCond .eq 15, 3) := by decide +kernel
theorem dX6_copy_71 : decode cX6_copy 71 = .ok (.aload_n 0, 1) := by decide +kernel
theorem dX6_copy_72 : decode cX6_copy 72 = .ok (.iload_n 3, 1) := by decide +kernel
theorem dX6_copy_73 : decode cX6_copy 73 = .ok (.iload 4, 2) := by decide +kernel
theorem dX6_copy_75 : decode cX6_copy 75 = .ok (.iload 5, 2) := by decide +kernel
theorem dX6_copy_77 : decode cX6_copy 77 = .ok (.invokevirtual 76, 3) := by decide +kernel
theorem dX6_copy_80 : decode cX6_copy 80 = .ok (.ifCond .ne 9, 3) := by decide +kernel
theorem dX6_copy_83 : decode cX6_copy 83 = .ok (.aload_n 0, 1) := by decide +kernel
theorem dX6_copy_84 : decode cX6_copy 84 = .ok (.iconst 2, 1) := by decide +kernel
theorem dX6_copy_85 : decode cX6_copy 85 = .ok (.invokevirtual 62, 3) := by decide +kernel
theorem dX6_copy_88 : decode cX6_copy 88 = .ok (.ireturn, 1) := by decide +kernel
theorem dX6_copy_89 : decode cX6_copy 89 = .ok (.iconst 0, 1) := by decide +kernel
theorem dX6_copy_90 : decode cX6_copy 90 = .ok (.istore 6, 2) := by decide +kernel
theorem dX6_copy_92 : decode cX6_copy 92 = .ok (.iload 6, 2) := by decide +kernel
theorem dX6_copy_94 : decode cX6_copy 94 = .ok (.iload 5, 2) := by decide +kernel
theorem dX6_copy_96 : decode cX6_copy 96 = .ok (.if_icmp .ge 30, 3) := by decide +kernel
theorem dX6_copy_99 : decode cX6_copy 99 = .ok (.aload_n 0, 1) := by decide +kernel
theorem dX6_copy_100 : decode cX6_copy 100 = .ok (.getfield 19, 3) := by decide +kernel
theorem dX6_copy_103 : decode cX6_copy 103 = .ok (.iload 6, 2) := by decide +kernel
theorem dX6_copy_105 : decode cX6_copy 105 = .ok (.aload_n 0, 1) := by decide +kernel
theorem dX6_copy_106 : decode cX6_copy 106 = .ok (.getfield 16, 3) := by decide +kernel
theorem dX6_copy_109 : decode cX6_copy 109 = .ok (.bipush 40, 2) := by decide +kernel
theorem dX6_copy_111 : decode cX6_copy 111 = .ok (.iload_n 1, 1) := by decide +kernel
theorem dX6_copy_112 : decode cX6_copy 112 = .ok (.imul, 1) := by decide +kernel
theorem dX6_copy_113 : decode cX6_copy 113 = .ok (.iload_n 2, 1) := by decide +kernel
theorem dX6_copy_114 : decode cX6_copy 114 = .ok (.iadd, 1) := by decide +kernel
theorem dX6_copy_115 : decode cX6_copy 115 = .ok (.iload 6, 2) := by decide +kernel
theorem dX6_copy_117 : decode cX6_copy 117 = .ok (.iadd, 1) := by decide +kernel
theorem dX6_copy_118 : decode cX6_copy 118 = .ok (.iaload, 1) := by decide +kernel
theorem dX6_copy_119 : decode cX6_copy 119 = .ok (.iastore, 1) := by decide +kernel
theorem dX6_copy_120 : decode cX6_copy 120 = .ok (.iinc 6 1, 3) := by decide +kernel
theorem dX6_copy_123 : decode cX6_copy 123 = .ok (.goto (-31), 3) := by decide +kernel
theorem dX6_copy_126 : decode cX6_copy 126 = .ok (.iconst 0, 1) := by decide +kernel
theorem dX6_copy_127 : decode cX6_copy 127 = .ok (.istore 6, 2) := by decide +kernel
theorem dX6_copy_129 : decode cX6_copy 129 = .ok (.iload 6, 2) := by decide +kernel
theorem dX6_copy_131 : decode cX6_copy 131 = .ok (.iload 5, 2) := by decide +kernel
theorem dX6_copy_133 : decode cX6_copy 133 = .ok (.if_icmp .ge 31, 3) := by decide +kernel
theorem dX6_copy_136 : decode cX6_copy 136 = .ok (.aload_n 0, 1) := by decide +kernel
theorem dX6_copy_137 : decode cX6_copy 137 = .ok (.getfield 16, 3) := by decide +kernel
theorem dX6_copy_140 : decode cX6_copy 140 = .ok (.bipush 40, 2) := by decide +kernel
theorem dX6_copy_142 : decode cX6_copy 142 = .ok (.iload_n 3, 1) := by decide +kernel
theorem dX6_copy_143 : decode cX6_copy 143 = .ok (.imul, 1) := by decide +kernel
theorem dX6_copy_144 : decode cX6_copy 144 = .ok (.iload 4, 2) := by decide +kernel
theorem dX6_copy_146 : decode cX6_copy 146 = .ok (.iadd, 1) := by decide +kernel
theorem dX6_copy_147 : decode cX6_copy 147 = .ok (.iload 6, 2) := by decide +kernel
theorem dX6_copy_149 : decode cX6_copy 149 = .ok (.iadd, 1) := by decide +kernel
theorem dX6_copy_150 : decode cX6_copy 150 = .ok (.aload_n 0, 1) := by decide +kernel
theorem dX6_copy_151 : decode cX6_copy 151 = .ok (.getfield 19, 3) := by decide +kernel
theorem dX6_copy_154 : decode cX6_copy 154 = .ok (.iload 6, 2) := by decide +kernel
theorem dX6_copy_156 : decode cX6_copy 156 = .ok (.iaload, 1) := by decide +kernel
theorem dX6_copy_157 : decode cX6_copy 157 = .ok (.iastore, 1) := by decide +kernel
theorem dX6_copy_158 : decode cX6_copy 158 = .ok (.iinc 6 1, 3) := by decide +kernel
theorem dX6_copy_161 : decode cX6_copy 161 = .ok (.goto (-32), 3) := by decide +kernel
theorem dX6_copy_164 : decode cX6_copy 164 = .ok (.aload_n 0, 1) := by decide +kernel
theorem dX6_copy_165 : decode cX6_copy 165 = .ok (.iload 5, 2) := by decide +kernel
theorem dX6_copy_167 : decode cX6_copy 167 = .ok (.invokevirtual 66, 3) := by decide +kernel
theorem dX6_copy_170 : decode cX6_copy 170 = .ok (.ireturn, 1) := by decide +kernel
theorem dX6_drop_0 : decode cX6_drop 0 = .ok (.iload_n 1, 1) := by decide +kernel
theorem dX6_drop_1 : decode cX6_drop 1 = .ok (.invokestatic 57, 3) := by decide +kernel
theorem dX6_drop_4 : decode cX6_drop 4 = .ok (.ifCond .ne 6, 3) := by decide +kernel
theorem dX6_drop_7 : decode cX6_drop 7 = .ok (.ldc 61, 2) := by decide +kernel
theorem dX6_drop_9 : decode cX6_drop 9 = .ok (.ireturn, 1) := by decide +kernel
theorem dX6_drop_10 : decode cX6_drop 10 = .ok (.aload_n 0, 1) := by decide +kernel
theorem dX6_drop_11 : decode cX6_drop 11 = .ok (.iload_n 1, 1) := by decide +kernel
theorem dX6_drop_12 : decode cX6_drop 12 = .ok (.invokevirtual 69, 3) := by decide +kernel
theorem dX6_drop_15 : decode cX6_drop 15 = .ok (.ifCond .eq 9, 3) := by decide +kernel
theorem dX6_drop_18 : decode cX6_drop 18 = .ok (.aload_n 0, 1) := by decide +kernel
theorem dX6_drop_19 : decode cX6_drop 19 = .ok (.iconst 1, 1) := by decide +kernel
theorem dX6_drop_20 : decode cX6_drop 20 = .ok (.invokevirtual 62, 3) := by decide +kernel
theorem dX6_drop_23 : decode cX6_drop 23 = .ok (.ireturn, 1) := by decide +kernel
theorem dX6_drop_24 : decode cX6_drop 24 = .ok (.aload_n 0, 1) := by decide +kernel
theorem dX6_drop_25 : decode cX6_drop 25 = .ok (.getfield 7, 3) := by decide +kernel
theorem dX6_drop_28 : decode cX6_drop 28 = .ok (.iload_n 1, 1) := by decide +kernel
theorem dX6_drop_29 : decode cX6_drop 29 = .ok (.ldc 47, 2) := by decide +kernel
theorem dX6_drop_31 : decode cX6_drop 31 = .ok (.iastore, 1) := by decide +kernel
theorem dX6_drop_32 : decode cX6_drop 32 = .ok (.aload_n 0, 1) := by decide +kernel
theorem dX6_drop_33 : decode cX6_drop 33 = .ok (.aload_n 0, 1) := by decide +kernel
theorem dX6_drop_34 : decode cX6_drop 34 = .ok (.getfield 13, 3) := by decide +kernel
theorem dX6_drop_37 : decode cX6_drop 37 = .ok (.iload_n 1, 1) := by decide +kernel
theorem dX6_drop_38 : decode cX6_drop 38 = .ok (.iaload, 1) := by decide +kernel
theorem dX6_drop_39 : decode cX6_drop 39 = .ok (.invokevirtual 66, 3) := by decide +kernel
theorem dX6_drop_42 : decode cX6_drop 42 = .ok (.ireturn, 1) := by decide +kernel
theorem dX6_feed_0 : decode cX6_feed 0 = .ok (.iload_n 1, 1) := by decide +kernel
theorem dX6_feed_1 : decode cX6_feed 1 = .ok (.iconst 0, 1) := by decide +kernel
theorem dX6_feed_2 : decode cX6_feed 2 = .ok (.sipush 255, 3) := by decide +kernel
theorem dX6_feed_5 : decode cX6_feed 5 = .ok (.invokestatic 53, 3) := by decide +kernel
theorem dX6_feed_8 : decode cX6_feed 8 = .ok (.ifCond .ne 6, 3) := by decide +kernel
theorem dX6_feed_11 : decode cX6_feed 11 = .ok (.ldc 61, 2) := by decide +kernel
theorem dX6_feed_13 : decode cX6_feed 13 = .ok (.ireturn, 1) := by decide +kernel
theorem dX6_feed_14 : decode cX6_feed 14 = .ok (.aload_n 0, 1) := by decide +kernel
theorem dX6_feed_15 : decode cX6_feed 15 = .ok (.getfield 79, 3) := by decide +kernel
theorem dX6_feed_18 : decode cX6_feed 18 = .ok (.bipush 110, 2) := by decide +kernel
theorem dX6_feed_20 : decode cX6_feed 20 = .ok (.if_icmp .ne 6, 3) := by decide +kernel
theorem dX6_feed_23 : decode cX6_feed 23 = .ok (.ldc 82, 2) := by decide +kernel
theorem dX6_feed_25 : decode cX6_feed 25 = .ok (.ireturn, 1) := by decide +kernel
theorem dX6_feed_26 : decode cX6_feed 26 = .ok (.aload_n 0, 1) := by decide +kernel
theorem dX6_feed_27 : decode cX6_feed 27 = .ok (.getfield 22, 3) := by decide +kernel
theorem dX6_feed_30 : decode cX6_feed 30 = .ok (.aload_n 0, 1) := by decide +kernel
theorem dX6_feed_31 : decode cX6_feed 31 = .ok (.getfield 79, 3) := by decide +kernel
theorem dX6_feed_34 : decode cX6_feed 34 = .ok (.iload_n 1, 1) := by decide +kernel
theorem dX6_feed_35 : decode cX6_feed 35 = .ok (.iastore, 1) := by decide +kernel
theorem dX6_feed_36 : decode cX6_feed 36 = .ok (.aload_n 0, 1) := by decide +kernel
theorem dX6_feed_37 : decode cX6_feed 37 = .ok (.dup, 1) := by decide +kernel
theorem dX6_feed_38 : decode cX6_feed 38 = .ok (.getfield 79, 3) := by decide +kernel
theorem dX6_feed_41 : decode cX6_feed 41 = .ok (.iconst 1, 1) := by decide +kernel
theorem dX6_feed_42 : decode cX6_feed 42 = .ok (.iadd, 1) := by decide +kernel
theorem dX6_feed_43 : decode cX6_feed 43 = .ok (.putfield 79, 3) := by decide +kernel
theorem dX6_feed_46 : decode cX6_feed 46 = .ok (.aload_n 0, 1) := by decide +kernel
theorem dX6_feed_47 : decode cX6_feed 47 = .ok (.getfield 79, 3) := by decide +kernel
theorem dX6_feed_50 : decode cX6_feed 50 = .ok (.ireturn, 1) := by decide +kernel
theorem dX6_byteAt_0 : decode cX6_byteAt 0 = .ok (.iload_n 1, 1) := by decide +kernel
theorem dX6_byteAt_1 : decode cX6_byteAt 1 = .ok (.aload_n 0, 1) := by decide +kernel
theorem dX6_byteAt_2 : decode cX6_byteAt 2 = .ok (.getfield 79, 3) := by decide +kernel
theorem dX6_byteAt_5 : decode cX6_byteAt 5 = .ok (.if_icmp .ge 12, 3) := by decide +kernel
theorem dX6_byteAt_8 : decode cX6_byteAt 8 = .ok (.aload_n 0, 1) := by decide +kernel
theorem dX6_byteAt_9 : decode cX6_byteAt 9 = .ok (.getfield 22, 3) := by decide +kernel
theorem dX6_byteAt_12 : decode cX6_byteAt 12 = .ok (.iload_n 1, 1) := by decide +kernel
theorem dX6_byteAt_13 : decode cX6_byteAt 13 = .ok (.iaload, 1) := by decide +kernel
theorem dX6_byteAt_14 : decode cX6_byteAt 14 = .ok (.goto 4, 3) := by decide +kernel
theorem dX6_byteAt_17 : decode cX6_byteAt 17 = .ok (.iconst (-1), 1) := by decide +kernel
theorem dX6_byteAt_18 : decode cX6_byteAt 18 = .ok (.ireturn, 1) := by decide +kernel
theorem dX6_advances_0 : decode cX6_advances 0 = .ok (.aload_n 0, 1) := by decide +kernel
theorem dX6_advances_1 : decode cX6_advances 1 = .ok (.aload_n 0, 1) := by decide +kernel
theorem dX6_advances_2 : decode cX6_advances 2 = .ok (.getfield 83, 3) := by decide +kernel
theorem dX6_advances_5 : decode cX6_advances 5 = .ok (.putfield 86, 3) := by decide +kernel
theorem dX6_advances_8 : decode cX6_advances 8 = .ok (.aload_n 0, 1) := by decide +kernel
theorem dX6_advances_9 : decode cX6_advances 9 = .ok (.aload_n 0, 1) := by decide +kernel
theorem dX6_advances_10 : decode cX6_advances 10 = .ok (.getfield 83, 3) := by decide +kernel
theorem dX6_advances_13 : decode cX6_advances 13 = .ok (.invokevirtual 89, 3) := by decide +kernel
theorem dX6_advances_16 : decode cX6_advances 16 = .ok (.istore_n 1, 1) := by decide +kernel
theorem dX6_advances_17 : decode cX6_advances 17 = .ok (.aload_n 0, 1) := by decide +kernel
theorem dX6_advances_18 : decode cX6_advances 18 = .ok (.iload_n 1, 1) := by decide +kernel
theorem dX6_advances_19 : decode cX6_advances 19 = .ok (.putfield 92, 3) := by decide +kernel
theorem dX6_advances_22 : decode cX6_advances 22 = .ok (.iload_n 1, 1) := by decide +kernel
theorem dX6_advances_23 : decode cX6_advances 23 = .ok (.bipush 48, 2) := by decide +kernel
theorem dX6_advances_25 : decode cX6_advances 25 = .ok (.bipush 57, 2) := by decide +kernel
theorem dX6_advances_27 : decode cX6_advances 27 = .ok (.invokestatic 53, 3) := by decide +kernel
theorem dX6_advances_30 : decode cX6_advances 30 = .ok (.ifCond .eq 105, 3) := by decide +kernel
theorem dX6_advances_33 : decode cX6_advances 33 = .ok (.aload_n 0, 1) := by decide +kernel
theorem dX6_advances_34 : decode cX6_advances 34 = .ok (.iconst 0, 1) := by decide +kernel
theorem dX6_advances_35 : decode cX6_advances 35 = .ok (.putfield 92, 3) := by decide +kernel
theorem dX6_advances_38 : decode cX6_advances 38 = .ok (.aload_n 0, 1) := by decide +kernel
theorem dX6_advances_39 : decode cX6_advances 39 = .ok (.aload_n 0, 1) := by decide +kernel
theorem dX6_advances_40 : decode cX6_advances 40 = .ok (.getfield 83, 3) := by decide +kernel
theorem dX6_advances_43 : decode cX6_advances 43 = .ok (.invokevirtual 89, 3) := by decide +kernel
theorem dX6_advances_46 : decode cX6_advances 46 = .ok (.bipush 48, 2) := by decide +kernel
theorem dX6_advances_48 : decode cX6_advances 48 = .ok (.bipush 57, 2) := by decide +kernel
theorem dX6_advances_50 : decode cX6_advances 50 = .ok (.invokestatic 53, 3) := by decide +kernel
theorem dX6_advances_53 : decode cX6_advances 53 = .ok (.ifCond .eq 59, 3) := by decide +kernel
theorem dX6_advances_56 : decode cX6_advances 56 = .ok (.aload_n 0, 1) := by decide +kernel
theorem dX6_advances_57 : decode cX6_advances 57 = .ok (.aload_n 0, 1) := by decide +kernel
theorem dX6_advances_58 : decode cX6_advances 58 = .ok (.getfield 83, 3) := by decide +kernel
theorem dX6_advances_61 : decode cX6_advances 61 = .ok (.aload_n 0, 1) := by decide +kernel
theorem dX6_advances_62 : decode cX6_advances 62 = .ok (.getfield 86, 3) := by decide +kernel
theorem dX6_advances_65 : decode cX6_advances 65 = .ok (.isub, 1) := by decide +kernel
theorem dX6_advances_66 : decode cX6_advances 66 = .ok (.iconst 2, 1) := by decide +kernel
theorem dX6_advances_67 : decode cX6_advances 67 = .ok (.if_icmp .ge 25, 3) := by decide +kernel
theorem dX6_advances_70 : decode cX6_advances 70 = .ok (.bipush 10, 2) := by decide +kernel
theorem dX6_advances_72 : decode cX6_advances 72 = .ok (.aload_n 0, 1) := by decide +kernel
theorem dX6_advances_73 : decode cX6_advances 73 = .ok (.getfield 92, 3) := by decide +kernel
theorem dX6_advances_76 : decode cX6_advances 76 = .ok (.imul, 1) := by decide +kernel
theorem dX6_advances_77 : decode cX6_advances 77 = .ok (.aload_n 0, 1) := by decide +kernel
theorem dX6_advances_78 : decode cX6_advances 78 = .ok (.aload_n 0, 1) := by decide +kernel
theorem dX6_advances_79 : decode cX6_advances 79 = .ok (.getfield 83, 3) := by decide +kernel
theorem dX6_advances_82 : decode cX6_advances 82 = .ok (.invokevirtual 89, 3) := by decide +kernel
theorem dX6_advances_85 : decode cX6_advances 85 = .ok (.iadd, 1) := by decide +kernel
theorem dX6_advances_86 : decode cX6_advances 86 = .ok (.bipush 48, 2) := by decide +kernel
theorem dX6_advances_88 : decode cX6_advances 88 = .ok (.isub, 1) := by decide +kernel
theorem dX6_advances_89 : decode cX6_advances 89 = .ok (.goto 7, 3) := by decide +kernel
theorem dX6_advances_92 : decode cX6_advances 92 = .ok (.aload_n 0, 1) := by decide +kernel
theorem dX6_advances_93 : decode cX6_advances 93 = .ok (.getfield 92, 3) := by decide +kernel
theorem dX6_advances_96 : decode cX6_advances 96 = .ok (.putfield 92, 3) := by decide +kernel
theorem dX6_advances_99 : decode cX6_advances 99 = .ok (.aload_n 0, 1) := by decide +kernel
theorem dX6_advances_100 : decode cX6_advances 100 = .ok (.dup, 1) := by decide +kernel
theorem dX6_advances_101 : decode cX6_advances 101 = .ok (.getfield 83, 3) := by decide +kernel
theorem dX6_advances_104 : decode cX6_advances 104 = .ok (.iconst 1, 1) := by decide +kernel
theorem dX6_advances_105 : decode cX6_advances 105 = .ok (.iadd, 1) := by decide +kernel
theorem dX6_advances_106 : decode cX6_advances 106 = .ok (.putfield 83, 3) := by decide +kernel
theorem dX6_advances_109 : decode cX6_advances 109 = .ok (.goto (-71), 3) := by decide +kernel
theorem dX6_advances_112 : decode cX6_advances 112 = .ok (.aload_n 0, 1) := by decide +kernel
theorem dX6_advances_113 : decode cX6_advances 113 = .ok (.aload_n 0, 1) := by decide +kernel
theorem dX6_advances_114 : decode cX6_advances 114 = .ok (.getfield 83, 3) := by decide +kernel
theorem dX6_advances_117 : decode cX6_advances 117 = .ok (.aload_n 0, 1) := by decide +kernel
theorem dX6_advances_118 : decode cX6_advances 118 = .ok (.getfield 86, 3) := by decide +kernel
theorem dX6_advances_121 : decode cX6_advances 121 = .ok (.isub, 1) := by decide +kernel
theorem dX6_advances_122 : decode cX6_advances 122 = .ok (.iconst 3, 1) := by decide +kernel
theorem dX6_advances_123 : decode cX6_advances 123 = .ok (.if_icmp .ge 7, 3) := by decide +kernel
theorem dX6_advances_126 : decode cX6_advances 126 = .ok (.iconst 2, 1) := by decide +kernel
theorem dX6_advances_127 : decode cX6_advances 127 = .ok (.goto 4, 3) := by decide +kernel
theorem dX6_advances_130 : decode cX6_advances 130 = .ok (.iconst 5, 1) := by decide +kernel
theorem dX6_advances_131 : decode cX6_advances 131 = .ok (.putfield 95, 3) := by decide +kernel
theorem dX6_advances_134 : decode cX6_advances 134 = .ok (.return_, 1) := by decide +kernel
theorem dX6_advances_135 : decode cX6_advances 135 = .ok (.aload_n 0, 1) := by decide +kernel
theorem dX6_advances_136 : decode cX6_advances 136 = .ok (.iload_n 1, 1) := by decide +kernel
theorem dX6_advances_137 : decode cX6_advances 137 = .ok (.ifCond .ge 7, 3) := by decide +kernel
theorem dX6_advances_140 : decode cX6_advances 140 = .ok (.iconst 0, 1) := by decide +kernel
theorem dX6_advances_141 : decode cX6_advances 141 = .ok (.goto 39, 3) := by decide +kernel
theorem dX6_advances_144 : decode cX6_advances 144 = .ok (.iload_n 1, 1) := by decide +kernel
theorem dX6_advances_145 : decode cX6_advances 145 = .ok (.bipush 97, 2) := by decide +kernel
theorem dX6_advances_147 : decode cX6_advances 147 = .ok (.bipush 122, 2) := by decide +kernel
theorem dX6_advances_149 : decode cX6_advances 149 = .ok (.invokestatic 53, 3) := by decide +kernel
theorem dX6_advances_152 : decode cX6_advances 152 = .ok (.ifCond .eq 7, 3) := by decide +kernel
theorem dX6_advances_155 : decode cX6_advances 155 = .ok (.iconst 1, 1) := by decide +kernel
theorem dX6_advances_156 : decode cX6_advances 156 = .ok (.goto 24, 3) := by decide +kernel
theorem dX6_advances_159 : decode cX6_advances 159 = .ok (.iload_n 1, 1) := by decide +kernel
theorem dX6_advances_160 : decode cX6_advances 160 = .ok (.bipush 44, 2) := by decide +kernel
theorem dX6_advances_162 : decode cX6_advances 162 = .ok (.if_icmp .ne 7, 3) := by decide +kernel
theorem dX6_advances_165 : decode cX6_advances 165 = .ok (.iconst 3, 1) := by decide +kernel
theorem dX6_advances_166 : decode cX6_advances 166 = .ok (.goto 14, 3) := by decide +kernel
theorem dX6_advances_169 : decode cX6_advances 169 = .ok (.iload_n 1, 1) := by decide +kernel
theorem dX6_advances_170 : decode cX6_advances 170 = .ok (.bipush 59, 2) := by decide +kernel
theorem dX6_advances_172 : decode cX6_advances 172 = .ok (.if_icmp .ne 7, 3) := by decide +kernel
theorem dX6_advances_175 : decode cX6_advances 175 = .ok (.iconst 4, 1) := by decide +kernel
theorem dX6_advances_176 : decode cX6_advances 176 = .ok (.goto 4, 3) := by decide +kernel
theorem dX6_advances_179 : decode cX6_advances 179 = .ok (.iconst 5, 1) := by decide +kernel
theorem dX6_advances_180 : decode cX6_advances 180 = .ok (.putfield 95, 3) := by decide +kernel
theorem dX6_advances_183 : decode cX6_advances 183 = .ok (.aload_n 0, 1) := by decide +kernel
theorem dX6_advances_184 : decode cX6_advances 184 = .ok (.dup, 1) := by decide +kernel
theorem dX6_advances_185 : decode cX6_advances 185 = .ok (.getfield 83, 3) := by decide +kernel
theorem dX6_advances_188 : decode cX6_advances 188 = .ok (.aload_n 0, 1) := by decide +kernel
theorem dX6_advances_189 : decode cX6_advances 189 = .ok (.getfield 95, 3) := by decide +kernel
theorem dX6_advances_192 : decode cX6_advances 192 = .ok (.ifCond .ne 7, 3) := by decide +kernel
theorem dX6_advances_195 : decode cX6_advances 195 = .ok (.iconst 0, 1) := by decide +kernel
theorem dX6_advances_196 : decode cX6_advances 196 = .ok (.goto 4, 3) := by decide +kernel
theorem dX6_advances_199 : decode cX6_advances 199 = .ok (.iconst 1, 1) := by decide +kernel
theorem dX6_advances_200 : decode cX6_advances 200 = .ok (.iadd, 1) := by decide +kernel
theorem dX6_advances_201 : decode cX6_advances 201 = .ok (.putfield 83, 3) := by decide +kernel
theorem dX6_advances_204 : decode cX6_advances 204 = .ok (.return_, 1) := by decide +kernel
theorem dX6_isWell_0 : decode cX6_isWell 0 = .ok (.aload_n 0, 1) := by decide +kernel
theorem dX6_isWell_1 : decode cX6_isWell 1 = .ok (.getfield 98, 3) := by decide +kernel
theorem dX6_isWell_4 : decode cX6_isWell 4 = .ok (.ifCond .ge 7, 3) := by decide +kernel
theorem dX6_isWell_7 : decode cX6_isWell 7 = .ok (.iconst 1, 1) := by decide +kernel
theorem dX6_isWell_8 : decode cX6_isWell 8 = .ok (.goto 4, 3) := by decide +kernel
theorem dX6_isWell_11 : decode cX6_isWell 11 = .ok (.iconst 0, 1) := by decide +kernel
theorem dX6_isWell_12 : decode cX6_isWell 12 = .ok (.ireturn, 1) := by decide +kernel
theorem dX6_takes_0 : decode cX6_takes 0 = .ok (.aload_n 0, 1) := by decide +kernel
theorem dX6_takes_1 : decode cX6_takes 1 = .ok (.invokevirtual 101, 3) := by decide +kernel
theorem dX6_takes_4 : decode cX6_takes 4 = .ok (.ifCond .ne 5, 3) := by decide +kernel
theorem dX6_takes_7 : decode cX6_takes 7 = .ok (.iconst 0, 1) := by decide +kernel
theorem dX6_takes_8 : decode cX6_takes 8 = .ok (.ireturn, 1) := by decide +kernel
theorem dX6_takes_9 : decode cX6_takes 9 = .ok (.iload_n 1, 1) := by decide +kernel
theorem dX6_takes_10 : decode cX6_takes 10 = .ok (.ifCond .ne 18, 3) := by decide +kernel
theorem dX6_takes_13 : decode cX6_takes 13 = .ok (.aload_n 0, 1) := by decide +kernel
theorem dX6_takes_14 : decode cX6_takes 14 = .ok (.aload_n 0, 1) := by decide +kernel
theorem dX6_takes_15 : decode cX6_takes 15 = .ok (.getfield 86, 3) := by decide +kernel
theorem dX6_takes_18 : decode cX6_takes 18 = .ok (.putfield 98, 3) := by decide +kernel
theorem dX6_takes_21 : decode cX6_takes 21 = .ok (.aload_n 0, 1) := by decide +kernel
theorem dX6_takes_22 : decode cX6_takes 22 = .ok (.iload_n 2, 1) := by decide +kernel
theorem dX6_takes_23 : decode cX6_takes 23 = .ok (.putfield 105, 3) := by decide +kernel
theorem dX6_takes_26 : decode cX6_takes 26 = .ok (.iconst 0, 1) := by decide +kernel
theorem dX6_takes_27 : decode cX6_takes 27 = .ok (.ireturn, 1) := by decide +kernel
theorem dX6_takes_28 : decode cX6_takes 28 = .ok (.aload_n 0, 1) := by decide +kernel
theorem dX6_takes_29 : decode cX6_takes 29 = .ok (.getfield 92, 3) := by decide +kernel
theorem dX6_takes_32 : decode cX6_takes 32 = .ok (.istore_n 3, 1) := by decide +kernel
theorem dX6_takes_33 : decode cX6_takes 33 = .ok (.aload_n 0, 1) := by decide +kernel
theorem dX6_takes_34 : decode cX6_takes 34 = .ok (.invokevirtual 108, 3) := by decide +kernel
theorem dX6_takes_37 : decode cX6_takes 37 = .ok (.iload_n 3, 1) := by decide +kernel
theorem dX6_takes_38 : decode cX6_takes 38 = .ok (.ireturn, 1) := by decide +kernel
theorem dX6_figure_0 : decode cX6_figure 0 = .ok (.aload_n 0, 1) := by decide +kernel
theorem dX6_figure_1 : decode cX6_figure 1 = .ok (.invokevirtual 101, 3) := by decide +kernel
theorem dX6_figure_4 : decode cX6_figure 4 = .ok (.ifCond .eq 18, 3) := by decide +kernel
theorem dX6_figure_7 : decode cX6_figure 7 = .ok (.aload_n 0, 1) := by decide +kernel
theorem dX6_figure_8 : decode cX6_figure 8 = .ok (.getfield 95, 3) := by decide +kernel
theorem dX6_figure_11 : decode cX6_figure 11 = .ok (.iconst 2, 1) := by decide +kernel
theorem dX6_figure_12 : decode cX6_figure 12 = .ok (.if_icmp .eq 10, 3) := by decide +kernel
theorem dX6_figure_15 : decode cX6_figure 15 = .ok (.aload_n 0, 1) := by decide +kernel
theorem dX6_figure_16 : decode cX6_figure 16 = .ok (.iconst 0, 1) := by decide +kernel
theorem dX6_figure_17 : decode cX6_figure 17 = .ok (.iconst 1, 1) := by decide +kernel
theorem dX6_figure_18 : decode cX6_figure 18 = .ok (.invokevirtual 111, 3) := by decide +kernel
theorem dX6_figure_21 : decode cX6_figure 21 = .ok (.ireturn, 1) := by decide +kernel
theorem dX6_figure_22 : decode cX6_figure 22 = .ok (.aload_n 0, 1) := by decide +kernel
theorem dX6_figure_23 : decode cX6_figure 23 = .ok (.aload_n 0, 1) := by decide +kernel
theorem dX6_figure_24 : decode cX6_figure 24 = .ok (.getfield 92, 3) := by decide +kernel
theorem dX6_figure_27 : decode cX6_figure 27 = .ok (.iload_n 1, 1) := by decide +kernel
theorem dX6_figure_28 : decode cX6_figure 28 = .ok (.iload_n 2, 1) := by decide +kernel
theorem dX6_figure_29 : decode cX6_figure 29 = .ok (.invokestatic 53, 3) := by decide +kernel
theorem dX6_figure_32 : decode cX6_figure 32 = .ok (.iconst 2, 1) := by decide +kernel
theorem dX6_figure_33 : decode cX6_figure 33 = .ok (.invokevirtual 111, 3) := by decide +kernel
theorem dX6_figure_36 : decode cX6_figure 36 = .ok (.ireturn, 1) := by decide +kernel
theorem dX6_kindOf_0 : decode cX6_kindOf 0 = .ok (.iload_n 0, 1) := by decide +kernel
theorem dX6_kindOf_1 : decode cX6_kindOf 1 = .ok (.bipush 115, 2) := by decide +kernel
theorem dX6_kindOf_3 : decode cX6_kindOf 3 = .ok (.if_icmp .ne 7, 3) := by decide +kernel
theorem dX6_kindOf_6 : decode cX6_kindOf 6 = .ok (.iconst 1, 1) := by decide +kernel
theorem dX6_kindOf_7 : decode cX6_kindOf 7 = .ok (.goto 44, 3) := by decide +kernel
theorem dX6_kindOf_10 : decode cX6_kindOf 10 = .ok (.iload_n 0, 1) := by decide +kernel
theorem dX6_kindOf_11 : decode cX6_kindOf 11 = .ok (.bipush 104, 2) := by decide +kernel
theorem dX6_kindOf_13 : decode cX6_kindOf 13 = .ok (.if_icmp .ne 7, 3) := by decide +kernel
theorem dX6_kindOf_16 : decode cX6_kindOf 16 = .ok (.iconst 2, 1) := by decide +kernel
theorem dX6_kindOf_17 : decode cX6_kindOf 17 = .ok (.goto 34, 3) := by decide +kernel
theorem dX6_kindOf_20 : decode cX6_kindOf 20 = .ok (.iload_n 0, 1) := by decide +kernel
theorem dX6_kindOf_21 : decode cX6_kindOf 21 = .ok (.bipush 102, 2) := by decide +kernel
theorem dX6_kindOf_23 : decode cX6_kindOf 23 = .ok (.if_icmp .ne 7, 3) := by decide +kernel
theorem dX6_kindOf_26 : decode cX6_kindOf 26 = .ok (.iconst 3, 1) := by decide +kernel
theorem dX6_kindOf_27 : decode cX6_kindOf 27 = .ok (.goto 24, 3) := by decide +kernel
theorem dX6_kindOf_30 : decode cX6_kindOf 30 = .ok (.iload_n 0, 1) := by decide +kernel
theorem dX6_kindOf_31 : decode cX6_kindOf 31 = .ok (.bipush 109, 2) := by decide +kernel
theorem dX6_kindOf_33 : decode cX6_kindOf 33 = .ok (.if_icmp .ne 7, 3) := by decide +kernel
theorem dX6_kindOf_36 : decode cX6_kindOf 36 = .ok (.iconst 4, 1) := by decide +kernel
theorem dX6_kindOf_37 : decode cX6_kindOf 37 = .ok (.goto 14, 3) := by decide +kernel
theorem dX6_kindOf_40 : decode cX6_kindOf 40 = .ok (.iload_n 0, 1) := by decide +kernel
theorem dX6_kindOf_41 : decode cX6_kindOf 41 = .ok (.bipush 101, 2) := by decide +kernel
theorem dX6_kindOf_43 : decode cX6_kindOf 43 = .ok (.if_icmp .ne 7, 3) := by decide +kernel
theorem dX6_kindOf_46 : decode cX6_kindOf 46 = .ok (.iconst 5, 1) := by decide +kernel
theorem dX6_kindOf_47 : decode cX6_kindOf 47 = .ok (.goto 4, 3) := by decide +kernel
theorem dX6_kindOf_50 : decode cX6_kindOf 50 = .ok (.iconst 0, 1) := by decide +kernel
theorem dX6_kindOf_51 : decode cX6_kindOf 51 = .ok (.ireturn, 1) := by decide +kernel
theorem dX6_follows_0 : decode cX6_follows 0 = .ok (.aload_n 0, 1) := by decide +kernel
theorem dX6_follows_1 : decode cX6_follows 1 = .ok (.aload_n 0, 1) := by decide +kernel
theorem dX6_follows_2 : decode cX6_follows 2 = .ok (.getfield 95, 3) := by decide +kernel
theorem dX6_follows_5 : decode cX6_follows 5 = .ok (.iconst 3, 1) := by decide +kernel
theorem dX6_follows_6 : decode cX6_follows 6 = .ok (.if_icmp .ne 7, 3) := by decide +kernel
theorem dX6_follows_9 : decode cX6_follows 9 = .ok (.iconst 1, 1) := by decide +kernel
theorem dX6_follows_10 : decode cX6_follows 10 = .ok (.goto 4, 3) := by decide +kernel
theorem dX6_follows_13 : decode cX6_follows 13 = .ok (.iconst 0, 1) := by decide +kernel
theorem dX6_follows_14 : decode cX6_follows 14 = .ok (.iconst 1, 1) := by decide +kernel
theorem dX6_follows_15 : decode cX6_follows 15 = .ok (.invokevirtual 111, 3) := by decide +kernel
theorem dX6_follows_18 : decode cX6_follows 18 = .ok (.pop, 1) := by decide +kernel
theorem dX6_follows_19 : decode cX6_follows 19 = .ok (.aload_n 0, 1) := by decide +kernel
theorem dX6_follows_20 : decode cX6_follows 20 = .ok (.iload_n 1, 1) := by decide +kernel
theorem dX6_follows_21 : decode cX6_follows 21 = .ok (.iload_n 2, 1) := by decide +kernel
theorem dX6_follows_22 : decode cX6_follows 22 = .ok (.invokevirtual 115, 3) := by decide +kernel
theorem dX6_follows_25 : decode cX6_follows 25 = .ok (.ireturn, 1) := by decide +kernel
theorem dX6_readsCell_0 : decode cX6_readsCell 0 = .ok (.aload_n 0, 1) := by decide +kernel
theorem dX6_readsCell_1 : decode cX6_readsCell 1 = .ok (.aload_n 0, 1) := by decide +kernel
theorem dX6_readsCell_2 : decode cX6_readsCell 2 = .ok (.getfield 28, 3) := by decide +kernel
theorem dX6_readsCell_5 : decode cX6_readsCell 5 = .ok (.iconst 2, 1) := by decide +kernel
theorem dX6_readsCell_6 : decode cX6_readsCell 6 = .ok (.iaload, 1) := by decide +kernel
theorem dX6_readsCell_7 : decode cX6_readsCell 7 = .ok (.bipush 12, 2) := by decide +kernel
theorem dX6_readsCell_9 : decode cX6_readsCell 9 = .ok (.if_icmp .ge 7, 3) := by decide +kernel
theorem dX6_readsCell_12 : decode cX6_readsCell 12 = .ok (.iconst 1, 1) := by decide +kernel
theorem dX6_readsCell_13 : decode cX6_readsCell 13 = .ok (.goto 4, 3) := by decide +kernel
theorem dX6_readsCell_16 : decode cX6_readsCell 16 = .ok (.iconst 0, 1) := by decide +kernel
theorem dX6_readsCell_17 : decode cX6_readsCell 17 = .ok (.iconst 3, 1) := by decide +kernel
theorem dX6_readsCell_18 : decode cX6_readsCell 18 = .ok (.invokevirtual 111, 3) := by decide +kernel
theorem dX6_readsCell_21 : decode cX6_readsCell 21 = .ok (.pop, 1) := by decide +kernel
theorem dX6_readsCell_22 : decode cX6_readsCell 22 = .ok (.iconst 5, 1) := by decide +kernel
theorem dX6_readsCell_23 : decode cX6_readsCell 23 = .ok (.aload_n 0, 1) := by decide +kernel
theorem dX6_readsCell_24 : decode cX6_readsCell 24 = .ok (.getfield 28, 3) := by decide +kernel
theorem dX6_readsCell_27 : decode cX6_readsCell 27 = .ok (.iconst 2, 1) := by decide +kernel
theorem dX6_readsCell_28 : decode cX6_readsCell 28 = .ok (.iaload, 1) := by decide +kernel
theorem dX6_readsCell_29 : decode cX6_readsCell 29 = .ok (.bipush 12, 2) := by decide +kernel
theorem dX6_readsCell_31 : decode cX6_readsCell 31 = .ok (.if_icmp .ge 12, 3) := by decide +kernel
theorem dX6_readsCell_34 : decode cX6_readsCell 34 = .ok (.aload_n 0, 1) := by decide +kernel
theorem dX6_readsCell_35 : decode cX6_readsCell 35 = .ok (.getfield 28, 3) := by decide +kernel
theorem dX6_readsCell_38 : decode cX6_readsCell 38 = .ok (.iconst 2, 1) := by decide +kernel
theorem dX6_readsCell_39 : decode cX6_readsCell 39 = .ok (.iaload, 1) := by decide +kernel
theorem dX6_readsCell_40 : decode cX6_readsCell 40 = .ok (.goto 4, 3) := by decide +kernel
theorem dX6_readsCell_43 : decode cX6_readsCell 43 = .ok (.iconst 0, 1) := by decide +kernel
theorem dX6_readsCell_44 : decode cX6_readsCell 44 = .ok (.iadd, 1) := by decide +kernel
theorem dX6_readsCell_45 : decode cX6_readsCell 45 = .ok (.istore_n 1, 1) := by decide +kernel
theorem dX6_readsCell_46 : decode cX6_readsCell 46 = .ok (.aload_n 0, 1) := by decide +kernel
theorem dX6_readsCell_47 : decode cX6_readsCell 47 = .ok (.iconst 0, 1) := by decide +kernel
theorem dX6_readsCell_48 : decode cX6_readsCell 48 = .ok (.iconst 3, 1) := by decide +kernel
theorem dX6_readsCell_49 : decode cX6_readsCell 49 = .ok (.invokevirtual 115, 3) := by decide +kernel
theorem dX6_readsCell_52 : decode cX6_readsCell 52 = .ok (.istore_n 2, 1) := by decide +kernel
theorem dX6_readsCell_53 : decode cX6_readsCell 53 = .ok (.aload_n 0, 1) := by decide +kernel
theorem dX6_readsCell_54 : decode cX6_readsCell 54 = .ok (.aload_n 0, 1) := by decide +kernel
theorem dX6_readsCell_55 : decode cX6_readsCell 55 = .ok (.getfield 95, 3) := by decide +kernel
theorem dX6_readsCell_58 : decode cX6_readsCell 58 = .ok (.iconst 4, 1) := by decide +kernel
theorem dX6_readsCell_59 : decode cX6_readsCell 59 = .ok (.if_icmp .ne 7, 3) := by decide +kernel
theorem dX6_readsCell_62 : decode cX6_readsCell 62 = .ok (.iconst 1, 1) := by decide +kernel
theorem dX6_readsCell_63 : decode cX6_readsCell 63 = .ok (.goto 4, 3) := by decide +kernel
theorem dX6_readsCell_66 : decode cX6_readsCell 66 = .ok (.iconst 0, 1) := by decide +kernel
theorem dX6_readsCell_67 : decode cX6_readsCell 67 = .ok (.iconst 1, 1) := by decide +kernel
theorem dX6_readsCell_68 : decode cX6_readsCell 68 = .ok (.invokevirtual 111, 3) := by decide +kernel
theorem dX6_readsCell_71 : decode cX6_readsCell 71 = .ok (.pop, 1) := by decide +kernel
theorem dX6_readsCell_72 : decode cX6_readsCell 72 = .ok (.aload_n 0, 1) := by decide +kernel
theorem dX6_readsCell_73 : decode cX6_readsCell 73 = .ok (.invokevirtual 101, 3) := by decide +kernel
theorem dX6_readsCell_76 : decode cX6_readsCell 76 = .ok (.ifCond .eq 20, 3) := by decide +kernel
theorem dX6_readsCell_79 : decode cX6_readsCell 79 = .ok (.aload_n 0, 1) := by decide +kernel
theorem dX6_readsCell_80 : decode cX6_readsCell 80 = .ok (.getfield 28, 3) := by decide +kernel
theorem dX6_readsCell_83 : decode cX6_readsCell 83 = .ok (.iload_n 1, 1) := by decide +kernel
theorem dX6_readsCell_84 : decode cX6_readsCell 84 = .ok (.iload_n 2, 1) := by decide +kernel
theorem dX6_readsCell_85 : decode cX6_readsCell 85 = .ok (.iastore, 1) := by decide +kernel
theorem dX6_readsCell_86 : decode cX6_readsCell 86 = .ok (.aload_n 0, 1) := by decide +kernel
theorem dX6_readsCell_87 : decode cX6_readsCell 87 = .ok (.getfield 28, 3) := by decide +kernel
theorem dX6_readsCell_90 : decode cX6_readsCell 90 = .ok (.iconst 2, 1) := by decide +kernel
theorem dX6_readsCell_91 : decode cX6_readsCell 91 = .ok (.dup2, 1) := by decide +kernel
theorem dX6_readsCell_92 : decode cX6_readsCell 92 = .ok (.iaload, 1) := by decide +kernel
theorem dX6_readsCell_93 : decode cX6_readsCell 93 = .ok (.iconst 1, 1) := by decide +kernel
theorem dX6_readsCell_94 : decode cX6_readsCell 94 = .ok (.iadd, 1) := by decide +kernel
theorem dX6_readsCell_95 : decode cX6_readsCell 95 = .ok (.iastore, 1) := by decide +kernel
theorem dX6_readsCell_96 : decode cX6_readsCell 96 = .ok (.return_, 1) := by decide +kernel
theorem dX6_readsWord_0 : decode cX6_readsWord 0 = .ok (.aload_n 0, 1) := by decide +kernel
theorem dX6_readsWord_1 : decode cX6_readsWord 1 = .ok (.getfield 92, 3) := by decide +kernel
theorem dX6_readsWord_4 : decode cX6_readsWord 4 = .ok (.invokestatic 118, 3) := by decide +kernel
theorem dX6_readsWord_7 : decode cX6_readsWord 7 = .ok (.istore_n 1, 1) := by decide +kernel
theorem dX6_readsWord_8 : decode cX6_readsWord 8 = .ok (.aload_n 0, 1) := by decide +kernel
theorem dX6_readsWord_9 : decode cX6_readsWord 9 = .ok (.aload_n 0, 1) := by decide +kernel
theorem dX6_readsWord_10 : decode cX6_readsWord 10 = .ok (.getfield 28, 3) := by decide +kernel
theorem dX6_readsWord_13 : decode cX6_readsWord 13 = .ok (.iconst 3, 1) := by decide +kernel
theorem dX6_readsWord_14 : decode cX6_readsWord 14 = .ok (.iaload, 1) := by decide +kernel
theorem dX6_readsWord_15 : decode cX6_readsWord 15 = .ok (.bipush 7, 2) := by decide +kernel
theorem dX6_readsWord_17 : decode cX6_readsWord 17 = .ok (.if_icmp .ge 7, 3) := by decide +kernel
theorem dX6_readsWord_20 : decode cX6_readsWord 20 = .ok (.iconst 1, 1) := by decide +kernel
theorem dX6_readsWord_21 : decode cX6_readsWord 21 = .ok (.goto 4, 3) := by decide +kernel
theorem dX6_readsWord_24 : decode cX6_readsWord 24 = .ok (.iconst 0, 1) := by decide +kernel
theorem dX6_readsWord_25 : decode cX6_readsWord 25 = .ok (.iconst 3, 1) := by decide +kernel
theorem dX6_readsWord_26 : decode cX6_readsWord 26 = .ok (.invokevirtual 111, 3) := by decide +kernel
theorem dX6_readsWord_29 : decode cX6_readsWord 29 = .ok (.pop, 1) := by decide +kernel
theorem dX6_readsWord_30 : decode cX6_readsWord 30 = .ok (.bipush 17, 2) := by decide +kernel
theorem dX6_readsWord_32 : decode cX6_readsWord 32 = .ok (.iconst 4, 1) := by decide +kernel
theorem dX6_readsWord_33 : decode cX6_readsWord 33 = .ok (.aload_n 0, 1) := by decide +kernel
theorem dX6_readsWord_34 : decode cX6_readsWord 34 = .ok (.getfield 28, 3) := by decide +kernel
theorem dX6_readsWord_37 : decode cX6_readsWord 37 = .ok (.iconst 3, 1) := by decide +kernel
theorem dX6_readsWord_38 : decode cX6_readsWord 38 = .ok (.iaload, 1) := by decide +kernel
theorem dX6_readsWord_39 : decode cX6_readsWord 39 = .ok (.bipush 7, 2) := by decide +kernel
theorem dX6_readsWord_41 : decode cX6_readsWord 41 = .ok (.if_icmp .ge 12, 3) := by decide +kernel
theorem dX6_readsWord_44 : decode cX6_readsWord 44 = .ok (.aload_n 0, 1) := by decide +kernel
theorem dX6_readsWord_45 : decode cX6_readsWord 45 = .ok (.getfield 28, 3) := by decide +kernel
theorem dX6_readsWord_48 : decode cX6_readsWord 48 = .ok (.iconst 3, 1) := by decide +kernel
theorem dX6_readsWord_49 : decode cX6_readsWord 49 = .ok (.iaload, 1) := by decide +kernel
theorem dX6_readsWord_50 : decode cX6_readsWord 50 = .ok (.goto 4, 3) := by decide +kernel
theorem dX6_readsWord_53 : decode cX6_readsWord 53 = .ok (.iconst 0, 1) := by decide +kernel
theorem dX6_readsWord_54 : decode cX6_readsWord 54 = .ok (.imul, 1) := by decide +kernel
theorem dX6_readsWord_55 : decode cX6_readsWord 55 = .ok (.iadd, 1) := by decide +kernel
theorem dX6_readsWord_56 : decode cX6_readsWord 56 = .ok (.istore_n 2, 1) := by decide +kernel
theorem dX6_readsWord_57 : decode cX6_readsWord 57 = .ok (.aload_n 0, 1) := by decide +kernel
theorem dX6_readsWord_58 : decode cX6_readsWord 58 = .ok (.iconst 1, 1) := by decide +kernel
theorem dX6_readsWord_59 : decode cX6_readsWord 59 = .ok (.bipush 60, 2) := by decide +kernel
theorem dX6_readsWord_61 : decode cX6_readsWord 61 = .ok (.invokevirtual 115, 3) := by decide +kernel
theorem dX6_readsWord_64 : decode cX6_readsWord 64 = .ok (.istore_n 3, 1) := by decide +kernel
theorem dX6_readsWord_65 : decode cX6_readsWord 65 = .ok (.aload_n 0, 1) := by decide +kernel
theorem dX6_readsWord_66 : decode cX6_readsWord 66 = .ok (.iconst 0, 1) := by decide +kernel
theorem dX6_readsWord_67 : decode cX6_readsWord 67 = .ok (.aload_n 0, 1) := by decide +kernel
theorem dX6_readsWord_68 : decode cX6_readsWord 68 = .ok (.getfield 28, 3) := by decide +kernel
theorem dX6_readsWord_71 : decode cX6_readsWord 71 = .ok (.iconst 2, 1) := by decide +kernel
theorem dX6_readsWord_72 : decode cX6_readsWord 72 = .ok (.iaload, 1) := by decide +kernel
theorem dX6_readsWord_73 : decode cX6_readsWord 73 = .ok (.iconst 1, 1) := by decide +kernel
theorem dX6_readsWord_74 : decode cX6_readsWord 74 = .ok (.isub, 1) := by decide +kernel
theorem dX6_readsWord_75 : decode cX6_readsWord 75 = .ok (.invokevirtual 121, 3) := by decide +kernel
theorem dX6_readsWord_78 : decode cX6_readsWord 78 = .ok (.istore 4, 2) := by decide +kernel
theorem dX6_readsWord_80 : decode cX6_readsWord 80 = .ok (.aload_n 0, 1) := by decide +kernel
theorem dX6_readsWord_81 : decode cX6_readsWord 81 = .ok (.aload_n 0, 1) := by decide +kernel
theorem dX6_readsWord_82 : decode cX6_readsWord 82 = .ok (.getfield 95, 3) := by decide +kernel
theorem dX6_readsWord_85 : decode cX6_readsWord 85 = .ok (.iconst 4, 1) := by decide +kernel
theorem dX6_readsWord_86 : decode cX6_readsWord 86 = .ok (.if_icmp .ne 7, 3) := by decide +kernel
theorem dX6_readsWord_89 : decode cX6_readsWord 89 = .ok (.iconst 1, 1) := by decide +kernel
theorem dX6_readsWord_90 : decode cX6_readsWord 90 = .ok (.goto 4, 3) := by decide +kernel
theorem dX6_readsWord_93 : decode cX6_readsWord 93 = .ok (.iconst 0, 1) := by decide +kernel
theorem dX6_readsWord_94 : decode cX6_readsWord 94 = .ok (.iconst 1, 1) := by decide +kernel
theorem dX6_readsWord_95 : decode cX6_readsWord 95 = .ok (.invokevirtual 111, 3) := by decide +kernel
theorem dX6_readsWord_98 : decode cX6_readsWord 98 = .ok (.pop, 1) := by decide +kernel
theorem dX6_readsWord_99 : decode cX6_readsWord 99 = .ok (.aload_n 0, 1) := by decide +kernel
theorem dX6_readsWord_100 : decode cX6_readsWord 100 = .ok (.invokevirtual 101, 3) := by decide +kernel
theorem dX6_readsWord_103 : decode cX6_readsWord 103 = .ok (.ifCond .eq 39, 3) := by decide +kernel
theorem dX6_readsWord_106 : decode cX6_readsWord 106 = .ok (.aload_n 0, 1) := by decide +kernel
theorem dX6_readsWord_107 : decode cX6_readsWord 107 = .ok (.getfield 28, 3) := by decide +kernel
theorem dX6_readsWord_110 : decode cX6_readsWord 110 = .ok (.iload_n 2, 1) := by decide +kernel
theorem dX6_readsWord_111 : decode cX6_readsWord 111 = .ok (.iload_n 1, 1) := by decide +kernel
theorem dX6_readsWord_112 : decode cX6_readsWord 112 = .ok (.iastore, 1) := by decide +kernel
theorem dX6_readsWord_113 : decode cX6_readsWord 113 = .ok (.aload_n 0, 1) := by decide +kernel
theorem dX6_readsWord_114 : decode cX6_readsWord 114 = .ok (.getfield 28, 3) := by decide +kernel
theorem dX6_readsWord_117 : decode cX6_readsWord 117 = .ok (.iload_n 2, 1) := by decide +kernel
theorem dX6_readsWord_118 : decode cX6_readsWord 118 = .ok (.iconst 1, 1) := by decide +kernel
theorem dX6_readsWord_119 : decode cX6_readsWord 119 = .ok (.iadd, 1) := by decide +kernel
theorem dX6_readsWord_120 : decode cX6_readsWord 120 = .ok (.iload_n 3, 1) := by decide +kernel
theorem dX6_readsWord_121 : decode cX6_readsWord 121 = .ok (.iastore, 1) := by decide +kernel
theorem dX6_readsWord_122 : decode cX6_readsWord 122 = .ok (.aload_n 0, 1) := by decide +kernel
theorem dX6_readsWord_123 : decode cX6_readsWord 123 = .ok (.getfield 28, 3) := by decide +kernel
theorem dX6_readsWord_126 : decode cX6_readsWord 126 = .ok (.iload_n 2, 1) := by decide +kernel
theorem dX6_readsWord_127 : decode cX6_readsWord 127 = .ok (.iconst 2, 1) := by decide +kernel
theorem dX6_readsWord_128 : decode cX6_readsWord 128 = .ok (.iadd, 1) := by decide +kernel
theorem dX6_readsWord_129 : decode cX6_readsWord 129 = .ok (.iload 4, 2) := by decide +kernel
theorem dX6_readsWord_131 : decode cX6_readsWord 131 = .ok (.iastore, 1) := by decide +kernel
theorem dX6_readsWord_132 : decode cX6_readsWord 132 = .ok (.aload_n 0, 1) := by decide +kernel
theorem dX6_readsWord_133 : decode cX6_readsWord 133 = .ok (.getfield 28, 3) := by decide +kernel
theorem dX6_readsWord_136 : decode cX6_readsWord 136 = .ok (.iconst 3, 1) := by decide +kernel
theorem dX6_readsWord_137 : decode cX6_readsWord 137 = .ok (.dup2, 1) := by decide +kernel
theorem dX6_readsWord_138 : decode cX6_readsWord 138 = .ok (.iaload, 1) := by decide +kernel
theorem dX6_readsWord_139 : decode cX6_readsWord 139 = .ok (.iconst 1, 1) := by decide +kernel
theorem dX6_readsWord_140 : decode cX6_readsWord 140 = .ok (.iadd, 1) := by decide +kernel
theorem dX6_readsWord_141 : decode cX6_readsWord 141 = .ok (.iastore, 1) := by decide +kernel
theorem dX6_readsWord_142 : decode cX6_readsWord 142 = .ok (.return_, 1) := by decide +kernel
theorem dX6_must_0 : decode cX6_must 0 = .ok (.aload_n 0, 1) := by decide +kernel
theorem dX6_must_1 : decode cX6_must 1 = .ok (.invokevirtual 101, 3) := by decide +kernel
theorem dX6_must_4 : decode cX6_must 4 = .ok (.ifCond .eq 14, 3) := by decide +kernel
theorem dX6_must_7 : decode cX6_must 7 = .ok (.iload_n 1, 1) := by decide +kernel
theorem dX6_must_8 : decode cX6_must 8 = .ok (.ifCond .ne 10, 3) := by decide +kernel
theorem dX6_must_11 : decode cX6_must 11 = .ok (.aload_n 0, 1) := by decide +kernel
theorem dX6_must_12 : decode cX6_must 12 = .ok (.iconst 0, 1) := by decide +kernel
theorem dX6_must_13 : decode cX6_must 13 = .ok (.iconst 1, 1) := by decide +kernel
theorem dX6_must_14 : decode cX6_must 14 = .ok (.invokevirtual 111, 3) := by decide +kernel
theorem dX6_must_17 : decode cX6_must 17 = .ok (.pop, 1) := by decide +kernel
theorem dX6_must_18 : decode cX6_must 18 = .ok (.return_, 1) := by decide +kernel
theorem dX6_river_0 : decode cX6_river 0 = .ok (.iconst 0, 1) := by decide +kernel
theorem dX6_river_1 : decode cX6_river 1 = .ok (.istore_n 1, 1) := by decide +kernel
theorem dX6_river_2 : decode cX6_river 2 = .ok (.iload_n 1, 1) := by decide +kernel
theorem dX6_river_3 : decode cX6_river 3 = .ok (.bipush 45, 2) := by decide +kernel
theorem dX6_river_5 : decode cX6_river 5 = .ok (.if_icmp .ge 16, 3) := by decide +kernel
theorem dX6_river_8 : decode cX6_river 8 = .ok (.aload_n 0, 1) := by decide +kernel
theorem dX6_river_9 : decode cX6_river 9 = .ok (.getfield 28, 3) := by decide +kernel
theorem dX6_river_12 : decode cX6_river 12 = .ok (.iload_n 1, 1) := by decide +kernel
theorem dX6_river_13 : decode cX6_river 13 = .ok (.iconst 0, 1) := by decide +kernel
theorem dX6_river_14 : decode cX6_river 14 = .ok (.iastore, 1) := by decide +kernel
theorem dX6_river_15 : decode cX6_river 15 = .ok (.iinc 1 1, 3) := by decide +kernel
theorem dX6_river_18 : decode cX6_river 18 = .ok (.goto (-16), 3) := by decide +kernel
theorem dX6_river_21 : decode cX6_river 21 = .ok (.aload_n 0, 1) := by decide +kernel
theorem dX6_river_22 : decode cX6_river 22 = .ok (.iconst 0, 1) := by decide +kernel
theorem dX6_river_23 : decode cX6_river 23 = .ok (.putfield 83, 3) := by decide +kernel
theorem dX6_river_26 : decode cX6_river 26 = .ok (.aload_n 0, 1) := by decide +kernel
theorem dX6_river_27 : decode cX6_river 27 = .ok (.iconst (-1), 1) := by decide +kernel
theorem dX6_river_28 : decode cX6_river 28 = .ok (.putfield 98, 3) := by decide +kernel
theorem dX6_river_31 : decode cX6_river 31 = .ok (.aload_n 0, 1) := by decide +kernel
theorem dX6_river_32 : decode cX6_river 32 = .ok (.invokevirtual 108, 3) := by decide +kernel
theorem dX6_river_35 : decode cX6_river 35 = .ok (.aload_n 0, 1) := by decide +kernel
theorem dX6_river_36 : decode cX6_river 36 = .ok (.aload_n 0, 1) := by decide +kernel
theorem dX6_river_37 : decode cX6_river 37 = .ok (.getfield 95, 3) := by decide +kernel
theorem dX6_river_40 : decode cX6_river 40 = .ok (.iconst 1, 1) := by decide +kernel
theorem dX6_river_41 : decode cX6_river 41 = .ok (.if_icmp .ne 16, 3) := by decide +kernel
theorem dX6_river_44 : decode cX6_river 44 = .ok (.aload_n 0, 1) := by decide +kernel
theorem dX6_river_45 : decode cX6_river 45 = .ok (.getfield 92, 3) := by decide +kernel
theorem dX6_river_48 : decode cX6_river 48 = .ok (.bipush 114, 2) := by decide +kernel
theorem dX6_river_50 : decode cX6_river 50 = .ok (.if_icmp .ne 7, 3) := by decide +kernel
theorem dX6_river_53 : decode cX6_river 53 = .ok (.iconst 1, 1) := by decide +kernel
theorem dX6_river_54 : decode cX6_river 54 = .ok (.goto 4, 3) := by decide +kernel
theorem dX6_river_57 : decode cX6_river 57 = .ok (.iconst 0, 1) := by decide +kernel
theorem dX6_river_58 : decode cX6_river 58 = .ok (.iconst 1, 1) := by decide +kernel
theorem dX6_river_59 : decode cX6_river 59 = .ok (.invokevirtual 111, 3) := by decide +kernel
theorem dX6_river_62 : decode cX6_river 62 = .ok (.pop, 1) := by decide +kernel
theorem dX6_river_63 : decode cX6_river 63 = .ok (.aload_n 0, 1) := by decide +kernel
theorem dX6_river_64 : decode cX6_river 64 = .ok (.getfield 28, 3) := by decide +kernel
theorem dX6_river_67 : decode cX6_river 67 = .ok (.iconst 0, 1) := by decide +kernel
theorem dX6_river_68 : decode cX6_river 68 = .ok (.aload_n 0, 1) := by decide +kernel
theorem dX6_river_69 : decode cX6_river 69 = .ok (.iconst 0, 1) := by decide +kernel
theorem dX6_river_70 : decode cX6_river 70 = .ok (.bipush 15, 2) := by decide +kernel
theorem dX6_river_72 : decode cX6_river 72 = .ok (.invokevirtual 115, 3) := by decide +kernel
theorem dX6_river_75 : decode cX6_river 75 = .ok (.iastore, 1) := by decide +kernel
theorem dX6_river_76 : decode cX6_river 76 = .ok (.aload_n 0, 1) := by decide +kernel
theorem dX6_river_77 : decode cX6_river 77 = .ok (.getfield 28, 3) := by decide +kernel
theorem dX6_river_80 : decode cX6_river 80 = .ok (.iconst 1, 1) := by decide +kernel
theorem dX6_river_81 : decode cX6_river 81 = .ok (.aload_n 0, 1) := by decide +kernel
theorem dX6_river_82 : decode cX6_river 82 = .ok (.iconst 0, 1) := by decide +kernel
theorem dX6_river_83 : decode cX6_river 83 = .ok (.bipush 10, 2) := by decide +kernel
theorem dX6_river_85 : decode cX6_river 85 = .ok (.invokevirtual 121, 3) := by decide +kernel
theorem dX6_river_88 : decode cX6_river 88 = .ok (.iastore, 1) := by decide +kernel
theorem dX6_river_89 : decode cX6_river 89 = .ok (.aload_n 0, 1) := by decide +kernel
theorem dX6_river_90 : decode cX6_river 90 = .ok (.aload_n 0, 1) := by decide +kernel
theorem dX6_river_91 : decode cX6_river 91 = .ok (.getfield 95, 3) := by decide +kernel
theorem dX6_river_94 : decode cX6_river 94 = .ok (.iconst 4, 1) := by decide +kernel
theorem dX6_river_95 : decode cX6_river 95 = .ok (.if_icmp .ne 7, 3) := by decide +kernel
theorem dX6_river_98 : decode cX6_river 98 = .ok (.iconst 1, 1) := by decide +kernel
theorem dX6_river_99 : decode cX6_river 99 = .ok (.goto 4, 3) := by decide +kernel
theorem dX6_river_102 : decode cX6_river 102 = .ok (.iconst 0, 1) := by decide +kernel
theorem dX6_river_103 : decode cX6_river 103 = .ok (.iconst 1, 1) := by decide +kernel
theorem dX6_river_104 : decode cX6_river 104 = .ok (.invokevirtual 111, 3) := by decide +kernel
theorem dX6_river_107 : decode cX6_river 107 = .ok (.pop, 1) := by decide +kernel
theorem dX6_river_108 : decode cX6_river 108 = .ok (.aload_n 0, 1) := by decide +kernel
theorem dX6_river_109 : decode cX6_river 109 = .ok (.invokevirtual 101, 3) := by decide +kernel
theorem dX6_river_112 : decode cX6_river 112 = .ok (.ifCond .eq 27, 3) := by decide +kernel
theorem dX6_river_115 : decode cX6_river 115 = .ok (.aload_n 0, 1) := by decide +kernel
theorem dX6_river_116 : decode cX6_river 116 = .ok (.getfield 95, 3) := by decide +kernel
theorem dX6_river_119 : decode cX6_river 119 = .ok (.iconst 1, 1) := by decide +kernel
theorem dX6_river_120 : decode cX6_river 120 = .ok (.if_icmp .ne 19, 3) := by decide +kernel
theorem dX6_river_123 : decode cX6_river 123 = .ok (.aload_n 0, 1) := by decide +kernel
theorem dX6_river_124 : decode cX6_river 124 = .ok (.getfield 92, 3) := by decide +kernel
theorem dX6_river_127 : decode cX6_river 127 = .ok (.bipush 99, 2) := by decide +kernel
theorem dX6_river_129 : decode cX6_river 129 = .ok (.if_icmp .ne 10, 3) := by decide +kernel
theorem dX6_river_132 : decode cX6_river 132 = .ok (.aload_n 0, 1) := by decide +kernel
theorem dX6_river_133 : decode cX6_river 133 = .ok (.invokevirtual 124, 3) := by decide +kernel
theorem dX6_river_136 : decode cX6_river 136 = .ok (.goto (-28), 3) := by decide +kernel
theorem dX6_river_139 : decode cX6_river 139 = .ok (.aload_n 0, 1) := by decide +kernel
theorem dX6_river_140 : decode cX6_river 140 = .ok (.aload_n 0, 1) := by decide +kernel
theorem dX6_river_141 : decode cX6_river 141 = .ok (.getfield 28, 3) := by decide +kernel
theorem dX6_river_144 : decode cX6_river 144 = .ok (.iconst 2, 1) := by decide +kernel
theorem dX6_river_145 : decode cX6_river 145 = .ok (.iaload, 1) := by decide +kernel
theorem dX6_river_146 : decode cX6_river 146 = .ok (.iconst 3, 1) := by decide +kernel
theorem dX6_river_147 : decode cX6_river 147 = .ok (.if_icmp .le 7, 3) := by decide +kernel
theorem dX6_river_150 : decode cX6_river 150 = .ok (.iconst 1, 1) := by decide +kernel
theorem dX6_river_151 : decode cX6_river 151 = .ok (.goto 4, 3) := by decide +kernel
theorem dX6_river_154 : decode cX6_river 154 = .ok (.iconst 0, 1) := by decide +kernel
theorem dX6_river_155 : decode cX6_river 155 = .ok (.invokevirtual 127, 3) := by decide +kernel
theorem dX6_river_158 : decode cX6_river 158 = .ok (.aload_n 0, 1) := by decide +kernel
theorem dX6_river_159 : decode cX6_river 159 = .ok (.invokevirtual 101, 3) := by decide +kernel
theorem dX6_river_162 : decode cX6_river 162 = .ok (.ifCond .eq 28, 3) := by decide +kernel
theorem dX6_river_165 : decode cX6_river 165 = .ok (.aload_n 0, 1) := by decide +kernel
theorem dX6_river_166 : decode cX6_river 166 = .ok (.getfield 95, 3) := by decide +kernel
theorem dX6_river_169 : decode cX6_river 169 = .ok (.iconst 1, 1) := by decide +kernel
theorem dX6_river_170 : decode cX6_river 170 = .ok (.if_icmp .ne 20, 3) := by decide +kernel
theorem dX6_river_173 : decode cX6_river 173 = .ok (.aload_n 0, 1) := by decide +kernel
theorem dX6_river_174 : decode cX6_river 174 = .ok (.getfield 92, 3) := by decide +kernel
theorem dX6_river_177 : decode cX6_river 177 = .ok (.invokestatic 118, 3) := by decide +kernel
theorem dX6_river_180 : decode cX6_river 180 = .ok (.ifCond .le 10, 3) := by decide +kernel
theorem dX6_river_183 : decode cX6_river 183 = .ok (.aload_n 0, 1) := by decide +kernel
theorem dX6_river_184 : decode cX6_river 184 = .ok (.invokevirtual 131, 3) := by decide +kernel
theorem dX6_river_187 : decode cX6_river 187 = .ok (.goto (-29), 3) := by decide +kernel
theorem dX6_river_190 : decode cX6_river 190 = .ok (.aload_n 0, 1) := by decide +kernel
theorem dX6_river_191 : decode cX6_river 191 = .ok (.aload_n 0, 1) := by decide +kernel
theorem dX6_river_192 : decode cX6_river 192 = .ok (.getfield 95, 3) := by decide +kernel
theorem dX6_river_195 : decode cX6_river 195 = .ok (.ifCond .ne 7, 3) := by decide +kernel
theorem dX6_river_198 : decode cX6_river 198 = .ok (.iconst 1, 1) := by decide +kernel
theorem dX6_river_199 : decode cX6_river 199 = .ok (.goto 4, 3) := by decide +kernel
theorem dX6_river_202 : decode cX6_river 202 = .ok (.iconst 0, 1) := by decide +kernel
theorem dX6_river_203 : decode cX6_river 203 = .ok (.invokevirtual 127, 3) := by decide +kernel
theorem dX6_river_206 : decode cX6_river 206 = .ok (.aload_n 0, 1) := by decide +kernel
theorem dX6_river_207 : decode cX6_river 207 = .ok (.iconst 0, 1) := by decide +kernel
theorem dX6_river_208 : decode cX6_river 208 = .ok (.putfield 79, 3) := by decide +kernel
theorem dX6_river_211 : decode cX6_river 211 = .ok (.aload_n 0, 1) := by decide +kernel
theorem dX6_river_212 : decode cX6_river 212 = .ok (.invokevirtual 101, 3) := by decide +kernel
theorem dX6_river_215 : decode cX6_river 215 = .ok (.ifCond .ne 11, 3) := by decide +kernel
theorem dX6_river_218 : decode cX6_river 218 = .ok (.ldc 134, 2) := by decide +kernel
theorem dX6_river_220 : decode cX6_river 220 = .ok (.aload_n 0, 1) := by decide +kernel
theorem dX6_river_221 : decode cX6_river 221 = .ok (.getfield 98, 3) := by decide +kernel
theorem dX6_river_224 : decode cX6_river 224 = .ok (.isub, 1) := by decide +kernel
theorem dX6_river_225 : decode cX6_river 225 = .ok (.ireturn, 1) := by decide +kernel
theorem dX6_river_226 : decode cX6_river 226 = .ok (.aload_n 0, 1) := by decide +kernel
theorem dX6_river_227 : decode cX6_river 227 = .ok (.getfield 28, 3) := by decide +kernel
theorem dX6_river_230 : decode cX6_river 230 = .ok (.iconst 0, 1) := by decide +kernel
theorem dX6_river_231 : decode cX6_river 231 = .ok (.aload_n 0, 1) := by decide +kernel
theorem dX6_river_232 : decode cX6_river 232 = .ok (.getfield 25, 3) := by decide +kernel
theorem dX6_river_235 : decode cX6_river 235 = .ok (.iconst 0, 1) := by decide +kernel
theorem dX6_river_236 : decode cX6_river 236 = .ok (.invokestatic 135, 3) := by decide +kernel
theorem dX6_river_239 : decode cX6_river 239 = .ok (.aload_n 0, 1) := by decide +kernel
theorem dX6_river_240 : decode cX6_river 240 = .ok (.iconst 0, 1) := by decide +kernel
theorem dX6_river_241 : decode cX6_river 241 = .ok (.putfield 139, 3) := by decide +kernel
theorem dX6_river_244 : decode cX6_river 244 = .ok (.aload_n 0, 1) := by decide +kernel
theorem dX6_river_245 : decode cX6_river 245 = .ok (.getfield 25, 3) := by decide +kernel
theorem dX6_river_248 : decode cX6_river 248 = .ok (.iconst 2, 1) := by decide +kernel
theorem dX6_river_249 : decode cX6_river 249 = .ok (.iaload, 1) := by decide +kernel
theorem dX6_river_250 : decode cX6_river 250 = .ok (.ireturn, 1) := by decide +kernel
theorem dX6_fault_0 : decode cX6_fault 0 = .ok (.aload_n 0, 1) := by decide +kernel
theorem dX6_fault_1 : decode cX6_fault 1 = .ok (.getfield 105, 3) := by decide +kernel
theorem dX6_fault_4 : decode cX6_fault 4 = .ok (.ireturn, 1) := by decide +kernel
theorem dX6_isRiver_0 : decode cX6_isRiver 0 = .ok (.aload_n 0, 1) := by decide +kernel
theorem dX6_isRiver_1 : decode cX6_isRiver 1 = .ok (.getfield 25, 3) := by decide +kernel
theorem dX6_isRiver_4 : decode cX6_isRiver 4 = .ok (.iconst 2, 1) := by decide +kernel
theorem dX6_isRiver_5 : decode cX6_isRiver 5 = .ok (.iaload, 1) := by decide +kernel
theorem dX6_isRiver_6 : decode cX6_isRiver 6 = .ok (.ifCond .le 7, 3) := by decide +kernel
theorem dX6_isRiver_9 : decode cX6_isRiver 9 = .ok (.iconst 1, 1) := by decide +kernel
theorem dX6_isRiver_10 : decode cX6_isRiver 10 = .ok (.goto 4, 3) := by decide +kernel
theorem dX6_isRiver_13 : decode cX6_isRiver 13 = .ok (.iconst 0, 1) := by decide +kernel
theorem dX6_isRiver_14 : decode cX6_isRiver 14 = .ok (.ireturn, 1) := by decide +kernel
theorem dX6_isWord_0 : decode cX6_isWord 0 = .ok (.iload_n 1, 1) := by decide +kernel
theorem dX6_isWord_1 : decode cX6_isWord 1 = .ok (.iconst 0, 1) := by decide +kernel
theorem dX6_isWord_2 : decode cX6_isWord 2 = .ok (.aload_n 0, 1) := by decide +kernel
theorem dX6_isWord_3 : decode cX6_isWord 3 = .ok (.getfield 25, 3) := by decide +kernel
theorem dX6_isWord_6 : decode cX6_isWord 6 = .ok (.iconst 3, 1) := by decide +kernel
theorem dX6_isWord_7 : decode cX6_isWord 7 = .ok (.iaload, 1) := by decide +kernel
theorem dX6_isWord_8 : decode cX6_isWord 8 = .ok (.iconst 1, 1) := by decide +kernel
theorem dX6_isWord_9 : decode cX6_isWord 9 = .ok (.isub, 1) := by decide +kernel
theorem dX6_isWord_10 : decode cX6_isWord 10 = .ok (.invokestatic 53, 3) := by decide +kernel
theorem dX6_isWord_13 : decode cX6_isWord 13 = .ok (.ireturn, 1) := by decide +kernel
theorem dX6_isCell_0 : decode cX6_isCell 0 = .ok (.iload_n 1, 1) := by decide +kernel
theorem dX6_isCell_1 : decode cX6_isCell 1 = .ok (.iconst 0, 1) := by decide +kernel
theorem dX6_isCell_2 : decode cX6_isCell 2 = .ok (.aload_n 0, 1) := by decide +kernel
theorem dX6_isCell_3 : decode cX6_isCell 3 = .ok (.getfield 25, 3) := by decide +kernel
theorem dX6_isCell_6 : decode cX6_isCell 6 = .ok (.iconst 2, 1) := by decide +kernel
theorem dX6_isCell_7 : decode cX6_isCell 7 = .ok (.iaload, 1) := by decide +kernel
theorem dX6_isCell_8 : decode cX6_isCell 8 = .ok (.iconst 1, 1) := by decide +kernel
theorem dX6_isCell_9 : decode cX6_isCell 9 = .ok (.isub, 1) := by decide +kernel
theorem dX6_isCell_10 : decode cX6_isCell 10 = .ok (.invokestatic 53, 3) := by decide +kernel
theorem dX6_isCell_13 : decode cX6_isCell 13 = .ok (.ireturn, 1) := by decide +kernel
theorem dX6_isGone_0 : decode cX6_isGone 0 = .ok (.aload_n 0, 1) := by decide +kernel
theorem dX6_isGone_1 : decode cX6_isGone 1 = .ok (.getfield 25, 3) := by decide +kernel
theorem dX6_isGone_4 : decode cX6_isGone 4 = .ok (.bipush 17, 2) := by decide +kernel
theorem dX6_isGone_6 : decode cX6_isGone 6 = .ok (.iconst 4, 1) := by decide +kernel
theorem dX6_isGone_7 : decode cX6_isGone 7 = .ok (.iload_n 1, 1) := by decide +kernel
theorem dX6_isGone_8 : decode cX6_isGone 8 = .ok (.imul, 1) := by decide +kernel
theorem dX6_isGone_9 : decode cX6_isGone 9 = .ok (.iadd, 1) := by decide +kernel
theorem dX6_isGone_10 : decode cX6_isGone 10 = .ok (.iconst 3, 1) := by decide +kernel
theorem dX6_isGone_11 : decode cX6_isGone 11 = .ok (.iadd, 1) := by decide +kernel
theorem dX6_isGone_12 : decode cX6_isGone 12 = .ok (.iaload, 1) := by decide +kernel
theorem dX6_isGone_13 : decode cX6_isGone 13 = .ok (.iconst 1, 1) := by decide +kernel
theorem dX6_isGone_14 : decode cX6_isGone 14 = .ok (.if_icmp .ne 7, 3) := by decide +kernel
theorem dX6_isGone_17 : decode cX6_isGone 17 = .ok (.iconst 1, 1) := by decide +kernel
theorem dX6_isGone_18 : decode cX6_isGone 18 = .ok (.goto 4, 3) := by decide +kernel
theorem dX6_isGone_21 : decode cX6_isGone 21 = .ok (.iconst 0, 1) := by decide +kernel
theorem dX6_isGone_22 : decode cX6_isGone 22 = .ok (.ireturn, 1) := by decide +kernel
theorem dX6_pace_0 : decode cX6_pace 0 = .ok (.aload_n 0, 1) := by decide +kernel
theorem dX6_pace_1 : decode cX6_pace 1 = .ok (.iconst 5, 1) := by decide +kernel
theorem dX6_pace_2 : decode cX6_pace 2 = .ok (.iload_n 1, 1) := by decide +kernel
theorem dX6_pace_3 : decode cX6_pace 3 = .ok (.iadd, 1) := by decide +kernel
theorem dX6_pace_4 : decode cX6_pace 4 = .ok (.iaload, 1) := by decide +kernel
theorem dX6_pace_5 : decode cX6_pace 5 = .ok (.ifCond .ne 7, 3) := by decide +kernel
theorem dX6_pace_8 : decode cX6_pace 8 = .ok (.iconst 0, 1) := by decide +kernel
theorem dX6_pace_9 : decode cX6_pace 9 = .ok (.goto 28, 3) := by decide +kernel
theorem dX6_pace_12 : decode cX6_pace 12 = .ok (.aload_n 0, 1) := by decide +kernel
theorem dX6_pace_13 : decode cX6_pace 13 = .ok (.iconst 5, 1) := by decide +kernel
theorem dX6_pace_14 : decode cX6_pace 14 = .ok (.iload_n 1, 1) := by decide +kernel
theorem dX6_pace_15 : decode cX6_pace 15 = .ok (.iadd, 1) := by decide +kernel
theorem dX6_pace_16 : decode cX6_pace 16 = .ok (.iaload, 1) := by decide +kernel
theorem dX6_pace_17 : decode cX6_pace 17 = .ok (.aload_n 0, 1) := by decide +kernel
theorem dX6_pace_18 : decode cX6_pace 18 = .ok (.iconst 0, 1) := by decide +kernel
theorem dX6_pace_19 : decode cX6_pace 19 = .ok (.iaload, 1) := by decide +kernel
theorem dX6_pace_20 : decode cX6_pace 20 = .ok (.aload_n 0, 1) := by decide +kernel
theorem dX6_pace_21 : decode cX6_pace 21 = .ok (.iconst 4, 1) := by decide +kernel
theorem dX6_pace_22 : decode cX6_pace 22 = .ok (.iaload, 1) := by decide +kernel
theorem dX6_pace_23 : decode cX6_pace 23 = .ok (.iconst 4, 1) := by decide +kernel
theorem dX6_pace_24 : decode cX6_pace 24 = .ok (.irem, 1) := by decide +kernel
theorem dX6_pace_25 : decode cX6_pace 25 = .ok (.invokestatic 142, 3) := by decide +kernel
theorem dX6_pace_28 : decode cX6_pace 28 = .ok (.ifCond .eq 7, 3) := by decide +kernel
theorem dX6_pace_31 : decode cX6_pace 31 = .ok (.iconst 1, 1) := by decide +kernel
theorem dX6_pace_32 : decode cX6_pace 32 = .ok (.goto 4, 3) := by decide +kernel
theorem dX6_pace_35 : decode cX6_pace 35 = .ok (.iconst 0, 1) := by decide +kernel
theorem dX6_pace_36 : decode cX6_pace 36 = .ok (.iadd, 1) := by decide +kernel
theorem dX6_pace_37 : decode cX6_pace 37 = .ok (.ireturn, 1) := by decide +kernel
theorem dX6_upFrom_0 : decode cX6_upFrom 0 = .ok (.iload_n 1, 1) := by decide +kernel
theorem dX6_upFrom_1 : decode cX6_upFrom 1 = .ok (.aload_n 0, 1) := by decide +kernel
theorem dX6_upFrom_2 : decode cX6_upFrom 2 = .ok (.iconst 1, 1) := by decide +kernel
theorem dX6_upFrom_3 : decode cX6_upFrom 3 = .ok (.iaload, 1) := by decide +kernel
theorem dX6_upFrom_4 : decode cX6_upFrom 4 = .ok (.iconst 1, 1) := by decide +kernel
theorem dX6_upFrom_5 : decode cX6_upFrom 5 = .ok (.iadd, 1) := by decide +kernel
theorem dX6_upFrom_6 : decode cX6_upFrom 6 = .ok (.if_icmp .ne 13, 3) := by decide +kernel
theorem dX6_upFrom_9 : decode cX6_upFrom 9 = .ok (.iload_n 2, 1) := by decide +kernel
theorem dX6_upFrom_10 : decode cX6_upFrom 10 = .ok (.bipush 20, 2) := by decide +kernel
theorem dX6_upFrom_12 : decode cX6_upFrom 12 = .ok (.if_icmp .ge 7, 3) := by decide +kernel
theorem dX6_upFrom_15 : decode cX6_upFrom 15 = .ok (.iconst 1, 1) := by decide +kernel
theorem dX6_upFrom_16 : decode cX6_upFrom 16 = .ok (.goto 4, 3) := by decide +kernel
theorem dX6_upFrom_19 : decode cX6_upFrom 19 = .ok (.iconst 0, 1) := by decide +kernel
theorem dX6_upFrom_20 : decode cX6_upFrom 20 = .ok (.istore_n 3, 1) := by decide +kernel
theorem dX6_upFrom_21 : decode cX6_upFrom 21 = .ok (.iload_n 1, 1) := by decide +kernel
theorem dX6_upFrom_22 : decode cX6_upFrom 22 = .ok (.ifCond .eq 16, 3) := by decide +kernel
theorem dX6_upFrom_25 : decode cX6_upFrom 25 = .ok (.aload_n 0, 1) := by decide +kernel
theorem dX6_upFrom_26 : decode cX6_upFrom 26 = .ok (.iload_n 1, 1) := by decide +kernel
theorem dX6_upFrom_27 : decode cX6_upFrom 27 = .ok (.invokestatic 146, 3) := by decide +kernel
theorem dX6_upFrom_30 : decode cX6_upFrom 30 = .ok (.iconst 2, 1) := by decide +kernel
theorem dX6_upFrom_31 : decode cX6_upFrom 31 = .ok (.if_icmp .gt 7, 3) := by decide +kernel
theorem dX6_upFrom_34 : decode cX6_upFrom 34 = .ok (.iload_n 3, 1) := by decide +kernel
theorem dX6_upFrom_35 : decode cX6_upFrom 35 = .ok (.ifCond .eq 7, 3) := by decide +kernel
theorem dX6_upFrom_38 : decode cX6_upFrom 38 = .ok (.iload_n 1, 1) := by decide +kernel
theorem dX6_upFrom_39 : decode cX6_upFrom 39 = .ok (.goto 6, 3) := by decide +kernel
theorem dX6_upFrom_42 : decode cX6_upFrom 42 = .ok (.iload_n 1, 1) := by decide +kernel
theorem dX6_upFrom_43 : decode cX6_upFrom 43 = .ok (.iconst 1, 1) := by decide +kernel
theorem dX6_upFrom_44 : decode cX6_upFrom 44 = .ok (.isub, 1) := by decide +kernel
theorem dX6_upFrom_45 : decode cX6_upFrom 45 = .ok (.ireturn, 1) := by decide +kernel
theorem dX6_goesTo_0 : decode cX6_goesTo 0 = .ok (.aload_n 0, 1) := by decide +kernel
theorem dX6_goesTo_1 : decode cX6_goesTo 1 = .ok (.bipush 17, 2) := by decide +kernel
theorem dX6_goesTo_3 : decode cX6_goesTo 3 = .ok (.iconst 4, 1) := by decide +kernel
theorem dX6_goesTo_4 : decode cX6_goesTo 4 = .ok (.iload_n 1, 1) := by decide +kernel
theorem dX6_goesTo_5 : decode cX6_goesTo 5 = .ok (.imul, 1) := by decide +kernel
theorem dX6_goesTo_6 : decode cX6_goesTo 6 = .ok (.iadd, 1) := by decide +kernel
theorem dX6_goesTo_7 : decode cX6_goesTo 7 = .ok (.iconst 2, 1) := by decide +kernel
theorem dX6_goesTo_8 : decode cX6_goesTo 8 = .ok (.iadd, 1) := by decide +kernel
theorem dX6_goesTo_9 : decode cX6_goesTo 9 = .ok (.iaload, 1) := by decide +kernel
theorem dX6_goesTo_10 : decode cX6_goesTo 10 = .ok (.istore_n 2, 1) := by decide +kernel
theorem dX6_goesTo_11 : decode cX6_goesTo 11 = .ok (.aload_n 0, 1) := by decide +kernel
theorem dX6_goesTo_12 : decode cX6_goesTo 12 = .ok (.bipush 17, 2) := by decide +kernel
theorem dX6_goesTo_14 : decode cX6_goesTo 14 = .ok (.iconst 4, 1) := by decide +kernel
theorem dX6_goesTo_15 : decode cX6_goesTo 15 = .ok (.iload_n 1, 1) := by decide +kernel
theorem dX6_goesTo_16 : decode cX6_goesTo 16 = .ok (.imul, 1) := by decide +kernel
theorem dX6_goesTo_17 : decode cX6_goesTo 17 = .ok (.iadd, 1) := by decide +kernel
theorem dX6_goesTo_18 : decode cX6_goesTo 18 = .ok (.iconst 1, 1) := by decide +kernel
theorem dX6_goesTo_19 : decode cX6_goesTo 19 = .ok (.iadd, 1) := by decide +kernel
theorem dX6_goesTo_20 : decode cX6_goesTo 20 = .ok (.iaload, 1) := by decide +kernel
theorem dX6_goesTo_21 : decode cX6_goesTo 21 = .ok (.istore_n 3, 1) := by decide +kernel
theorem dX6_goesTo_22 : decode cX6_goesTo 22 = .ok (.aload_n 0, 1) := by decide +kernel
theorem dX6_goesTo_23 : decode cX6_goesTo 23 = .ok (.iload_n 2, 1) := by decide +kernel
theorem dX6_goesTo_24 : decode cX6_goesTo 24 = .ok (.invokestatic 146, 3) := by decide +kernel
theorem dX6_goesTo_27 : decode cX6_goesTo 27 = .ok (.istore 4, 2) := by decide +kernel
theorem dX6_goesTo_29 : decode cX6_goesTo 29 = .ok (.aload_n 0, 1) := by decide +kernel
theorem dX6_goesTo_30 : decode cX6_goesTo 30 = .ok (.bipush 17, 2) := by decide +kernel
theorem dX6_goesTo_32 : decode cX6_goesTo 32 = .ok (.iconst 4, 1) := by decide +kernel
theorem dX6_goesTo_33 : decode cX6_goesTo 33 = .ok (.iload_n 1, 1) := by decide +kernel
theorem dX6_goesTo_34 : decode cX6_goesTo 34 = .ok (.imul, 1) := by decide +kernel
theorem dX6_goesTo_35 : decode cX6_goesTo 35 = .ok (.iadd, 1) := by decide +kernel
theorem dX6_goesTo_36 : decode cX6_goesTo 36 = .ok (.iaload, 1) := by decide +kernel
theorem dX6_goesTo_37 : decode cX6_goesTo 37 = .ok (.tableswitch 66 1 4 #[31, 36, 41, 59], 31) := by decide +kernel
theorem dX6_goesTo_68 : decode cX6_goesTo 68 = .ok (.iload_n 2, 1) := by decide +kernel
theorem dX6_goesTo_69 : decode cX6_goesTo 69 = .ok (.iload 4, 2) := by decide +kernel
theorem dX6_goesTo_71 : decode cX6_goesTo 71 = .ok (.iadd, 1) := by decide +kernel
theorem dX6_goesTo_72 : decode cX6_goesTo 72 = .ok (.ireturn, 1) := by decide +kernel
theorem dX6_goesTo_73 : decode cX6_goesTo 73 = .ok (.iload_n 2, 1) := by decide +kernel
theorem dX6_goesTo_74 : decode cX6_goesTo 74 = .ok (.iload 4, 2) := by decide +kernel
theorem dX6_goesTo_76 : decode cX6_goesTo 76 = .ok (.iadd, 1) := by decide +kernel
theorem dX6_goesTo_77 : decode cX6_goesTo 77 = .ok (.ireturn, 1) := by decide +kernel
theorem dX6_goesTo_78 : decode cX6_goesTo 78 = .ok (.iload_n 2, 1) := by decide +kernel
theorem dX6_goesTo_79 : decode cX6_goesTo 79 = .ok (.iload 4, 2) := by decide +kernel
theorem dX6_goesTo_81 : decode cX6_goesTo 81 = .ok (.iconst 1, 1) := by decide +kernel
theorem dX6_goesTo_82 : decode cX6_goesTo 82 = .ok (.if_icmp .le 10, 3) := by decide +kernel
theorem dX6_goesTo_85 : decode cX6_goesTo 85 = .ok (.iload 4, 2) := by decide +kernel
theorem dX6_goesTo_87 : decode cX6_goesTo 87 = .ok (.iconst 1, 1) := by decide +kernel
theorem dX6_goesTo_88 : decode cX6_goesTo 88 = .ok (.isub, 1) := by decide +kernel
theorem dX6_goesTo_89 : decode cX6_goesTo 89 = .ok (.goto 5, 3) := by decide +kernel
theorem dX6_goesTo_92 : decode cX6_goesTo 92 = .ok (.iload 4, 2) := by decide +kernel
theorem dX6_goesTo_94 : decode cX6_goesTo 94 = .ok (.iadd, 1) := by decide +kernel
theorem dX6_goesTo_95 : decode cX6_goesTo 95 = .ok (.ireturn, 1) := by decide +kernel
theorem dX6_goesTo_96 : decode cX6_goesTo 96 = .ok (.aload_n 0, 1) := by decide +kernel
theorem dX6_goesTo_97 : decode cX6_goesTo 97 = .ok (.iload_n 2, 1) := by decide +kernel
theorem dX6_goesTo_98 : decode cX6_goesTo 98 = .ok (.iload_n 3, 1) := by decide +kernel
theorem dX6_goesTo_99 : decode cX6_goesTo 99 = .ok (.invokestatic 150, 3) := by decide +kernel
theorem dX6_goesTo_102 : decode cX6_goesTo 102 = .ok (.ireturn, 1) := by decide +kernel
theorem dX6_goesTo_103 : decode cX6_goesTo 103 = .ok (.aload_n 0, 1) := by decide +kernel
theorem dX6_goesTo_104 : decode cX6_goesTo 104 = .ok (.iload_n 2, 1) := by decide +kernel
theorem dX6_goesTo_105 : decode cX6_goesTo 105 = .ok (.iload_n 3, 1) := by decide +kernel
theorem dX6_goesTo_106 : decode cX6_goesTo 106 = .ok (.invokestatic 150, 3) := by decide +kernel
theorem dX6_goesTo_109 : decode cX6_goesTo 109 = .ok (.istore 5, 2) := by decide +kernel
theorem dX6_goesTo_111 : decode cX6_goesTo 111 = .ok (.aload_n 0, 1) := by decide +kernel
theorem dX6_goesTo_112 : decode cX6_goesTo 112 = .ok (.iconst 4, 1) := by decide +kernel
theorem dX6_goesTo_113 : decode cX6_goesTo 113 = .ok (.iaload, 1) := by decide +kernel
theorem dX6_goesTo_114 : decode cX6_goesTo 114 = .ok (.iconst 2, 1) := by decide +kernel
theorem dX6_goesTo_115 : decode cX6_goesTo 115 = .ok (.irem, 1) := by decide +kernel
theorem dX6_goesTo_116 : decode cX6_goesTo 116 = .ok (.ifCond .ne 13, 3) := by decide +kernel
theorem dX6_goesTo_119 : decode cX6_goesTo 119 = .ok (.aload_n 0, 1) := by decide +kernel
theorem dX6_goesTo_120 : decode cX6_goesTo 120 = .ok (.iload 5, 2) := by decide +kernel
theorem dX6_goesTo_122 : decode cX6_goesTo 122 = .ok (.iload_n 3, 1) := by decide +kernel
theorem dX6_goesTo_123 : decode cX6_goesTo 123 = .ok (.invokestatic 150, 3) := by decide +kernel
theorem dX6_goesTo_126 : decode cX6_goesTo 126 = .ok (.goto 5, 3) := by decide +kernel
theorem dX6_goesTo_129 : decode cX6_goesTo 129 = .ok (.iload 5, 2) := by decide +kernel
theorem dX6_goesTo_131 : decode cX6_goesTo 131 = .ok (.ireturn, 1) := by decide +kernel
theorem dX6_goes_0 : decode cX6_goes 0 = .ok (.bipush 17, 2) := by decide +kernel
theorem dX6_goes_2 : decode cX6_goes 2 = .ok (.iconst 4, 1) := by decide +kernel
theorem dX6_goes_3 : decode cX6_goes 3 = .ok (.iload_n 1, 1) := by decide +kernel
theorem dX6_goes_4 : decode cX6_goes 4 = .ok (.imul, 1) := by decide +kernel
theorem dX6_goes_5 : decode cX6_goes 5 = .ok (.iadd, 1) := by decide +kernel
theorem dX6_goes_6 : decode cX6_goes 6 = .ok (.istore_n 2, 1) := by decide +kernel
theorem dX6_goes_7 : decode cX6_goes 7 = .ok (.aload_n 0, 1) := by decide +kernel
theorem dX6_goes_8 : decode cX6_goes 8 = .ok (.iload_n 2, 1) := by decide +kernel
theorem dX6_goes_9 : decode cX6_goes 9 = .ok (.iconst 2, 1) := by decide +kernel
theorem dX6_goes_10 : decode cX6_goes 10 = .ok (.iadd, 1) := by decide +kernel
theorem dX6_goes_11 : decode cX6_goes 11 = .ok (.iaload, 1) := by decide +kernel
theorem dX6_goes_12 : decode cX6_goes 12 = .ok (.istore_n 3, 1) := by decide +kernel
theorem dX6_goes_13 : decode cX6_goes 13 = .ok (.aload_n 0, 1) := by decide +kernel
theorem dX6_goes_14 : decode cX6_goes 14 = .ok (.iload_n 1, 1) := by decide +kernel
theorem dX6_goes_15 : decode cX6_goes 15 = .ok (.invokestatic 154, 3) := by decide +kernel
theorem dX6_goes_18 : decode cX6_goes 18 = .ok (.istore 4, 2) := by decide +kernel
theorem dX6_goes_20 : decode cX6_goes 20 = .ok (.iload_n 3, 1) := by decide +kernel
theorem dX6_goes_21 : decode cX6_goes 21 = .ok (.aload_n 0, 1) := by decide +kernel
theorem dX6_goes_22 : decode cX6_goes 22 = .ok (.iconst 1, 1) := by decide +kernel
theorem dX6_goes_23 : decode cX6_goes 23 = .ok (.iaload, 1) := by decide +kernel
theorem dX6_goes_24 : decode cX6_goes 24 = .ok (.if_icmp .gt 20, 3) := by decide +kernel
theorem dX6_goes_27 : decode cX6_goes 27 = .ok (.iload 4, 2) := by decide +kernel
theorem dX6_goes_29 : decode cX6_goes 29 = .ok (.aload_n 0, 1) := by decide +kernel
theorem dX6_goes_30 : decode cX6_goes 30 = .ok (.iconst 1, 1) := by decide +kernel
theorem dX6_goes_31 : decode cX6_goes 31 = .ok (.iaload, 1) := by decide +kernel
theorem dX6_goes_32 : decode cX6_goes 32 = .ok (.if_icmp .le 12, 3) := by decide +kernel
theorem dX6_goes_35 : decode cX6_goes 35 = .ok (.aload_n 0, 1) := by decide +kernel
theorem dX6_goes_36 : decode cX6_goes 36 = .ok (.iload_n 2, 1) := by decide +kernel
theorem dX6_goes_37 : decode cX6_goes 37 = .ok (.iconst 1, 1) := by decide +kernel
theorem dX6_goes_38 : decode cX6_goes 38 = .ok (.iadd, 1) := by decide +kernel
theorem dX6_goes_39 : decode cX6_goes 39 = .ok (.dup2, 1) := by decide +kernel
theorem dX6_goes_40 : decode cX6_goes 40 = .ok (.iaload, 1) := by decide +kernel
theorem dX6_goes_41 : decode cX6_goes 41 = .ok (.iconst 2, 1) := by decide +kernel
theorem dX6_goes_42 : decode cX6_goes 42 = .ok (.idiv, 1) := by decide +kernel
theorem dX6_goes_43 : decode cX6_goes 43 = .ok (.iastore, 1) := by decide +kernel
theorem dX6_goes_44 : decode cX6_goes 44 = .ok (.aload_n 0, 1) := by decide +kernel
theorem dX6_goes_45 : decode cX6_goes 45 = .ok (.iload_n 2, 1) := by decide +kernel
theorem dX6_goes_46 : decode cX6_goes 46 = .ok (.iaload, 1) := by decide +kernel
theorem dX6_goes_47 : decode cX6_goes 47 = .ok (.iconst 2, 1) := by decide +kernel
theorem dX6_goes_48 : decode cX6_goes 48 = .ok (.if_icmp .ne 20, 3) := by decide +kernel
theorem dX6_goes_51 : decode cX6_goes 51 = .ok (.aload_n 0, 1) := by decide +kernel
theorem dX6_goes_52 : decode cX6_goes 52 = .ok (.iload_n 2, 1) := by decide +kernel
theorem dX6_goes_53 : decode cX6_goes 53 = .ok (.iconst 1, 1) := by decide +kernel
theorem dX6_goes_54 : decode cX6_goes 54 = .ok (.iadd, 1) := by decide +kernel
theorem dX6_goes_55 : decode cX6_goes 55 = .ok (.iaload, 1) := by decide +kernel
theorem dX6_goes_56 : decode cX6_goes 56 = .ok (.ifCond .le 12, 3) := by decide +kernel
theorem dX6_goes_59 : decode cX6_goes 59 = .ok (.aload_n 0, 1) := by decide +kernel
theorem dX6_goes_60 : decode cX6_goes 60 = .ok (.iload_n 2, 1) := by decide +kernel
theorem dX6_goes_61 : decode cX6_goes 61 = .ok (.iconst 1, 1) := by decide +kernel
theorem dX6_goes_62 : decode cX6_goes 62 = .ok (.iadd, 1) := by decide +kernel
theorem dX6_goes_63 : decode cX6_goes 63 = .ok (.dup2, 1) := by decide +kernel
theorem dX6_goes_64 : decode cX6_goes 64 = .ok (.iaload, 1) := by decide +kernel
theorem dX6_goes_65 : decode cX6_goes 65 = .ok (.iconst 1, 1) := by decide +kernel
theorem dX6_goes_66 : decode cX6_goes 66 = .ok (.isub, 1) := by decide +kernel
theorem dX6_goes_67 : decode cX6_goes 67 = .ok (.iastore, 1) := by decide +kernel
theorem dX6_goes_68 : decode cX6_goes 68 = .ok (.iload 4, 2) := by decide +kernel
theorem dX6_goes_70 : decode cX6_goes 70 = .ok (.aload_n 0, 1) := by decide +kernel
theorem dX6_goes_71 : decode cX6_goes 71 = .ok (.iconst 2, 1) := by decide +kernel
theorem dX6_goes_72 : decode cX6_goes 72 = .ok (.iaload, 1) := by decide +kernel
theorem dX6_goes_73 : decode cX6_goes 73 = .ok (.if_icmp .lt 7, 3) := by decide +kernel
theorem dX6_goes_76 : decode cX6_goes 76 = .ok (.iconst 1, 1) := by decide +kernel
theorem dX6_goes_77 : decode cX6_goes 77 = .ok (.goto 4, 3) := by decide +kernel
theorem dX6_goes_80 : decode cX6_goes 80 = .ok (.iconst 0, 1) := by decide +kernel
theorem dX6_goes_81 : decode cX6_goes 81 = .ok (.istore 5, 2) := by decide +kernel
theorem dX6_goes_83 : decode cX6_goes 83 = .ok (.aload_n 0, 1) := by decide +kernel
theorem dX6_goes_84 : decode cX6_goes 84 = .ok (.iload_n 2, 1) := by decide +kernel
theorem dX6_goes_85 : decode cX6_goes 85 = .ok (.iconst 2, 1) := by decide +kernel
theorem dX6_goes_86 : decode cX6_goes 86 = .ok (.iadd, 1) := by decide +kernel
theorem dX6_goes_87 : decode cX6_goes 87 = .ok (.iload 5, 2) := by decide +kernel
theorem dX6_goes_89 : decode cX6_goes 89 = .ok (.ifCond .eq 7, 3) := by decide +kernel
theorem dX6_goes_92 : decode cX6_goes 92 = .ok (.iload_n 3, 1) := by decide +kernel
theorem dX6_goes_93 : decode cX6_goes 93 = .ok (.goto 5, 3) := by decide +kernel
theorem dX6_goes_96 : decode cX6_goes 96 = .ok (.iload 4, 2) := by decide +kernel
theorem dX6_goes_98 : decode cX6_goes 98 = .ok (.iastore, 1) := by decide +kernel
theorem dX6_goes_99 : decode cX6_goes 99 = .ok (.aload_n 0, 1) := by decide +kernel
theorem dX6_goes_100 : decode cX6_goes 100 = .ok (.iload_n 2, 1) := by decide +kernel
theorem dX6_goes_101 : decode cX6_goes 101 = .ok (.iconst 1, 1) := by decide +kernel
theorem dX6_goes_102 : decode cX6_goes 102 = .ok (.iadd, 1) := by decide +kernel
theorem dX6_goes_103 : decode cX6_goes 103 = .ok (.iload 5, 2) := by decide +kernel
theorem dX6_goes_105 : decode cX6_goes 105 = .ok (.ifCond .eq 7, 3) := by decide +kernel
theorem dX6_goes_108 : decode cX6_goes 108 = .ok (.iconst 0, 1) := by decide +kernel
theorem dX6_goes_109 : decode cX6_goes 109 = .ok (.goto 8, 3) := by decide +kernel
theorem dX6_goes_112 : decode cX6_goes 112 = .ok (.aload_n 0, 1) := by decide +kernel
theorem dX6_goes_113 : decode cX6_goes 113 = .ok (.iload_n 2, 1) := by decide +kernel
theorem dX6_goes_114 : decode cX6_goes 114 = .ok (.iconst 1, 1) := by decide +kernel
theorem dX6_goes_115 : decode cX6_goes 115 = .ok (.iadd, 1) := by decide +kernel
theorem dX6_goes_116 : decode cX6_goes 116 = .ok (.iaload, 1) := by decide +kernel
theorem dX6_goes_117 : decode cX6_goes 117 = .ok (.iastore, 1) := by decide +kernel
theorem dX6_goes_118 : decode cX6_goes 118 = .ok (.aload_n 0, 1) := by decide +kernel
theorem dX6_goes_119 : decode cX6_goes 119 = .ok (.iload_n 2, 1) := by decide +kernel
theorem dX6_goes_120 : decode cX6_goes 120 = .ok (.iconst 3, 1) := by decide +kernel
theorem dX6_goes_121 : decode cX6_goes 121 = .ok (.iadd, 1) := by decide +kernel
theorem dX6_goes_122 : decode cX6_goes 122 = .ok (.aload_n 0, 1) := by decide +kernel
theorem dX6_goes_123 : decode cX6_goes 123 = .ok (.iload_n 2, 1) := by decide +kernel
theorem dX6_goes_124 : decode cX6_goes 124 = .ok (.iconst 1, 1) := by decide +kernel
theorem dX6_goes_125 : decode cX6_goes 125 = .ok (.iadd, 1) := by decide +kernel
theorem dX6_goes_126 : decode cX6_goes 126 = .ok (.iaload, 1) := by decide +kernel
theorem dX6_goes_127 : decode cX6_goes 127 = .ok (.ifCond .ne 7, 3) := by decide +kernel
theorem dX6_goes_130 : decode cX6_goes 130 = .ok (.iconst 1, 1) := by decide +kernel
theorem dX6_goes_131 : decode cX6_goes 131 = .ok (.goto 4, 3) := by decide +kernel
theorem dX6_goes_134 : decode cX6_goes 134 = .ok (.iconst 0, 1) := by decide +kernel
theorem dX6_goes_135 : decode cX6_goes 135 = .ok (.iastore, 1) := by decide +kernel
theorem dX6_goes_136 : decode cX6_goes 136 = .ok (.return_, 1) := by decide +kernel
theorem dX6_passes_0 : decode cX6_passes 0 = .ok (.iconst 0, 1) := by decide +kernel
theorem dX6_passes_1 : decode cX6_passes 1 = .ok (.istore_n 1, 1) := by decide +kernel
theorem dX6_passes_2 : decode cX6_passes 2 = .ok (.iload_n 1, 1) := by decide +kernel
theorem dX6_passes_3 : decode cX6_passes 3 = .ok (.aload_n 0, 1) := by decide +kernel
theorem dX6_passes_4 : decode cX6_passes 4 = .ok (.iconst 3, 1) := by decide +kernel
theorem dX6_passes_5 : decode cX6_passes 5 = .ok (.iaload, 1) := by decide +kernel
theorem dX6_passes_6 : decode cX6_passes 6 = .ok (.if_icmp .ge 27, 3) := by decide +kernel
theorem dX6_passes_9 : decode cX6_passes 9 = .ok (.aload_n 0, 1) := by decide +kernel
theorem dX6_passes_10 : decode cX6_passes 10 = .ok (.bipush 17, 2) := by decide +kernel
theorem dX6_passes_12 : decode cX6_passes 12 = .ok (.iconst 4, 1) := by decide +kernel
theorem dX6_passes_13 : decode cX6_passes 13 = .ok (.iload_n 1, 1) := by decide +kernel
theorem dX6_passes_14 : decode cX6_passes 14 = .ok (.imul, 1) := by decide +kernel
theorem dX6_passes_15 : decode cX6_passes 15 = .ok (.iadd, 1) := by decide +kernel
theorem dX6_passes_16 : decode cX6_passes 16 = .ok (.iconst 3, 1) := by decide +kernel
theorem dX6_passes_17 : decode cX6_passes 17 = .ok (.iadd, 1) := by decide +kernel
theorem dX6_passes_18 : decode cX6_passes 18 = .ok (.iaload, 1) := by decide +kernel
theorem dX6_passes_19 : decode cX6_passes 19 = .ok (.ifCond .ne 8, 3) := by decide +kernel
theorem dX6_passes_22 : decode cX6_passes 22 = .ok (.aload_n 0, 1) := by decide +kernel
theorem dX6_passes_23 : decode cX6_passes 23 = .ok (.iload_n 1, 1) := by decide +kernel
theorem dX6_passes_24 : decode cX6_passes 24 = .ok (.invokestatic 157, 3) := by decide +kernel
theorem dX6_passes_27 : decode cX6_passes 27 = .ok (.iinc 1 1, 3) := by decide +kernel
theorem dX6_passes_30 : decode cX6_passes 30 = .ok (.goto (-28), 3) := by decide +kernel
theorem dX6_passes_33 : decode cX6_passes 33 = .ok (.aload_n 0, 1) := by decide +kernel
theorem dX6_passes_34 : decode cX6_passes 34 = .ok (.iconst 4, 1) := by decide +kernel
theorem dX6_passes_35 : decode cX6_passes 35 = .ok (.dup2, 1) := by decide +kernel
theorem dX6_passes_36 : decode cX6_passes 36 = .ok (.iaload, 1) := by decide +kernel
theorem dX6_passes_37 : decode cX6_passes 37 = .ok (.iconst 1, 1) := by decide +kernel
theorem dX6_passes_38 : decode cX6_passes 38 = .ok (.iadd, 1) := by decide +kernel
theorem dX6_passes_39 : decode cX6_passes 39 = .ok (.iastore, 1) := by decide +kernel
theorem dX6_passes_40 : decode cX6_passes 40 = .ok (.return_, 1) := by decide +kernel
theorem dX6_goneOf_0 : decode cX6_goneOf 0 = .ok (.iconst 0, 1) := by decide +kernel
theorem dX6_goneOf_1 : decode cX6_goneOf 1 = .ok (.istore_n 1, 1) := by decide +kernel
theorem dX6_goneOf_2 : decode cX6_goneOf 2 = .ok (.iconst 0, 1) := by decide +kernel
theorem dX6_goneOf_3 : decode cX6_goneOf 3 = .ok (.istore_n 2, 1) := by decide +kernel
theorem dX6_goneOf_4 : decode cX6_goneOf 4 = .ok (.iload_n 2, 1) := by decide +kernel
theorem dX6_goneOf_5 : decode cX6_goneOf 5 = .ok (.aload_n 0, 1) := by decide +kernel
theorem dX6_goneOf_6 : decode cX6_goneOf 6 = .ok (.iconst 3, 1) := by decide +kernel
theorem dX6_goneOf_7 : decode cX6_goneOf 7 = .ok (.iaload, 1) := by decide +kernel
theorem dX6_goneOf_8 : decode cX6_goneOf 8 = .ok (.if_icmp .ge 24, 3) := by decide +kernel
theorem dX6_goneOf_11 : decode cX6_goneOf 11 = .ok (.iload_n 1, 1) := by decide +kernel
theorem dX6_goneOf_12 : decode cX6_goneOf 12 = .ok (.aload_n 0, 1) := by decide +kernel
theorem dX6_goneOf_13 : decode cX6_goneOf 13 = .ok (.bipush 17, 2) := by decide +kernel
theorem dX6_goneOf_15 : decode cX6_goneOf 15 = .ok (.iconst 4, 1) := by decide +kernel
theorem dX6_goneOf_16 : decode cX6_goneOf 16 = .ok (.iload_n 2, 1) := by decide +kernel
theorem dX6_goneOf_17 : decode cX6_goneOf 17 = .ok (.imul, 1) := by decide +kernel
theorem dX6_goneOf_18 : decode cX6_goneOf 18 = .ok (.iadd, 1) := by decide +kernel
theorem dX6_goneOf_19 : decode cX6_goneOf 19 = .ok (.iconst 3, 1) := by decide +kernel
theorem dX6_goneOf_20 : decode cX6_goneOf 20 = .ok (.iadd, 1) := by decide +kernel
theorem dX6_goneOf_21 : decode cX6_goneOf 21 = .ok (.iaload, 1) := by decide +kernel
theorem dX6_goneOf_22 : decode cX6_goneOf 22 = .ok (.iload_n 2, 1) := by decide +kernel
theorem dX6_goneOf_23 : decode cX6_goneOf 23 = .ok (.ishl, 1) := by decide +kernel
theorem dX6_goneOf_24 : decode cX6_goneOf 24 = .ok (.ior, 1) := by decide +kernel
theorem dX6_goneOf_25 : decode cX6_goneOf 25 = .ok (.istore_n 1, 1) := by decide +kernel
theorem dX6_goneOf_26 : decode cX6_goneOf 26 = .ok (.iinc 2 1, 3) := by decide +kernel
theorem dX6_goneOf_29 : decode cX6_goneOf 29 = .ok (.goto (-25), 3) := by decide +kernel
theorem dX6_goneOf_32 : decode cX6_goneOf 32 = .ok (.iload_n 1, 1) := by decide +kernel
theorem dX6_goneOf_33 : decode cX6_goneOf 33 = .ok (.ireturn, 1) := by decide +kernel
theorem dX6_sizes_0 : decode cX6_sizes 0 = .ok (.iconst 0, 1) := by decide +kernel
theorem dX6_sizes_1 : decode cX6_sizes 1 = .ok (.istore_n 1, 1) := by decide +kernel
theorem dX6_sizes_2 : decode cX6_sizes 2 = .ok (.iconst 0, 1) := by decide +kernel
theorem dX6_sizes_3 : decode cX6_sizes 3 = .ok (.istore_n 2, 1) := by decide +kernel
theorem dX6_sizes_4 : decode cX6_sizes 4 = .ok (.iload_n 2, 1) := by decide +kernel
theorem dX6_sizes_5 : decode cX6_sizes 5 = .ok (.aload_n 0, 1) := by decide +kernel
theorem dX6_sizes_6 : decode cX6_sizes 6 = .ok (.iconst 3, 1) := by decide +kernel
theorem dX6_sizes_7 : decode cX6_sizes 7 = .ok (.iaload, 1) := by decide +kernel
theorem dX6_sizes_8 : decode cX6_sizes 8 = .ok (.if_icmp .ge 22, 3) := by decide +kernel
theorem dX6_sizes_11 : decode cX6_sizes 11 = .ok (.iload_n 1, 1) := by decide +kernel
theorem dX6_sizes_12 : decode cX6_sizes 12 = .ok (.aload_n 0, 1) := by decide +kernel
theorem dX6_sizes_13 : decode cX6_sizes 13 = .ok (.bipush 17, 2) := by decide +kernel
theorem dX6_sizes_15 : decode cX6_sizes 15 = .ok (.iconst 4, 1) := by decide +kernel
theorem dX6_sizes_16 : decode cX6_sizes 16 = .ok (.iload_n 2, 1) := by decide +kernel
theorem dX6_sizes_17 : decode cX6_sizes 17 = .ok (.imul, 1) := by decide +kernel
theorem dX6_sizes_18 : decode cX6_sizes 18 = .ok (.iadd, 1) := by decide +kernel
theorem dX6_sizes_19 : decode cX6_sizes 19 = .ok (.iconst 1, 1) := by decide +kernel
theorem dX6_sizes_20 : decode cX6_sizes 20 = .ok (.iadd, 1) := by decide +kernel
theorem dX6_sizes_21 : decode cX6_sizes 21 = .ok (.iaload, 1) := by decide +kernel
theorem dX6_sizes_22 : decode cX6_sizes 22 = .ok (.iadd, 1) := by decide +kernel
theorem dX6_sizes_23 : decode cX6_sizes 23 = .ok (.istore_n 1, 1) := by decide +kernel
theorem dX6_sizes_24 : decode cX6_sizes 24 = .ok (.iinc 2 1, 3) := by decide +kernel
theorem dX6_sizes_27 : decode cX6_sizes 27 = .ok (.goto (-23), 3) := by decide +kernel
theorem dX6_sizes_30 : decode cX6_sizes 30 = .ok (.iload_n 1, 1) := by decide +kernel
theorem dX6_sizes_31 : decode cX6_sizes 31 = .ok (.ireturn, 1) := by decide +kernel
theorem dX6_all_0 : decode cX6_all 0 = .ok (.iconst 1, 1) := by decide +kernel
theorem dX6_all_1 : decode cX6_all 1 = .ok (.aload_n 0, 1) := by decide +kernel
theorem dX6_all_2 : decode cX6_all 2 = .ok (.iconst 3, 1) := by decide +kernel
theorem dX6_all_3 : decode cX6_all 3 = .ok (.iaload, 1) := by decide +kernel
theorem dX6_all_4 : decode cX6_all 4 = .ok (.ishl, 1) := by decide +kernel
theorem dX6_all_5 : decode cX6_all 5 = .ok (.iconst 1, 1) := by decide +kernel
theorem dX6_all_6 : decode cX6_all 6 = .ok (.isub, 1) := by decide +kernel
theorem dX6_all_7 : decode cX6_all 7 = .ok (.ireturn, 1) := by decide +kernel
theorem dX6_whereIs_0 : decode cX6_whereIs 0 = .ok (.aload_n 0, 1) := by decide +kernel
theorem dX6_whereIs_1 : decode cX6_whereIs 1 = .ok (.bipush 17, 2) := by decide +kernel
theorem dX6_whereIs_3 : decode cX6_whereIs 3 = .ok (.iconst 4, 1) := by decide +kernel
theorem dX6_whereIs_4 : decode cX6_whereIs 4 = .ok (.iload_n 1, 1) := by decide +kernel
theorem dX6_whereIs_5 : decode cX6_whereIs 5 = .ok (.imul, 1) := by decide +kernel
theorem dX6_whereIs_6 : decode cX6_whereIs 6 = .ok (.iadd, 1) := by decide +kernel
theorem dX6_whereIs_7 : decode cX6_whereIs 7 = .ok (.iconst 3, 1) := by decide +kernel
theorem dX6_whereIs_8 : decode cX6_whereIs 8 = .ok (.iadd, 1) := by decide +kernel
theorem dX6_whereIs_9 : decode cX6_whereIs 9 = .ok (.iaload, 1) := by decide +kernel
theorem dX6_whereIs_10 : decode cX6_whereIs 10 = .ok (.iconst 1, 1) := by decide +kernel
theorem dX6_whereIs_11 : decode cX6_whereIs 11 = .ok (.if_icmp .ne 8, 3) := by decide +kernel
theorem dX6_whereIs_14 : decode cX6_whereIs 14 = .ok (.ldc 47, 2) := by decide +kernel
theorem dX6_whereIs_16 : decode cX6_whereIs 16 = .ok (.goto 13, 3) := by decide +kernel
theorem dX6_whereIs_19 : decode cX6_whereIs 19 = .ok (.aload_n 0, 1) := by decide +kernel
theorem dX6_whereIs_20 : decode cX6_whereIs 20 = .ok (.bipush 17, 2) := by decide +kernel
theorem dX6_whereIs_22 : decode cX6_whereIs 22 = .ok (.iconst 4, 1) := by decide +kernel
theorem dX6_whereIs_23 : decode cX6_whereIs 23 = .ok (.iload_n 1, 1) := by decide +kernel
theorem dX6_whereIs_24 : decode cX6_whereIs 24 = .ok (.imul, 1) := by decide +kernel
theorem dX6_whereIs_25 : decode cX6_whereIs 25 = .ok (.iadd, 1) := by decide +kernel
theorem dX6_whereIs_26 : decode cX6_whereIs 26 = .ok (.iconst 2, 1) := by decide +kernel
theorem dX6_whereIs_27 : decode cX6_whereIs 27 = .ok (.iadd, 1) := by decide +kernel
theorem dX6_whereIs_28 : decode cX6_whereIs 28 = .ok (.iaload, 1) := by decide +kernel
theorem dX6_whereIs_29 : decode cX6_whereIs 29 = .ok (.ireturn, 1) := by decide +kernel
theorem dX6_says_0 : decode cX6_says 0 = .ok (.aload_n 0, 1) := by decide +kernel
theorem dX6_says_1 : decode cX6_says 1 = .ok (.bipush 17, 2) := by decide +kernel
theorem dX6_says_3 : decode cX6_says 3 = .ok (.iconst 4, 1) := by decide +kernel
theorem dX6_says_4 : decode cX6_says 4 = .ok (.iload_n 1, 1) := by decide +kernel
theorem dX6_says_5 : decode cX6_says 5 = .ok (.imul, 1) := by decide +kernel
theorem dX6_says_6 : decode cX6_says 6 = .ok (.iadd, 1) := by decide +kernel
theorem dX6_says_7 : decode cX6_says 7 = .ok (.iconst 1, 1) := by decide +kernel
theorem dX6_says_8 : decode cX6_says 8 = .ok (.iadd, 1) := by decide +kernel
theorem dX6_says_9 : decode cX6_says 9 = .ok (.iload_n 2, 1) := by decide +kernel
theorem dX6_says_10 : decode cX6_says 10 = .ok (.iastore, 1) := by decide +kernel
theorem dX6_says_11 : decode cX6_says 11 = .ok (.aload_n 0, 1) := by decide +kernel
theorem dX6_says_12 : decode cX6_says 12 = .ok (.bipush 17, 2) := by decide +kernel
theorem dX6_says_14 : decode cX6_says 14 = .ok (.iconst 4, 1) := by decide +kernel
theorem dX6_says_15 : decode cX6_says 15 = .ok (.iload_n 1, 1) := by decide +kernel
theorem dX6_says_16 : decode cX6_says 16 = .ok (.imul, 1) := by decide +kernel
theorem dX6_says_17 : decode cX6_says 17 = .ok (.iadd, 1) := by decide +kernel
theorem dX6_says_18 : decode cX6_says 18 = .ok (.iconst 2, 1) := by decide +kernel
theorem dX6_says_19 : decode cX6_says 19 = .ok (.iadd, 1) := by decide +kernel
theorem dX6_says_20 : decode cX6_says 20 = .ok (.iload_n 3, 1) := by decide +kernel
theorem dX6_says_21 : decode cX6_says 21 = .ok (.iastore, 1) := by decide +kernel
theorem dX6_says_22 : decode cX6_says 22 = .ok (.aload_n 0, 1) := by decide +kernel
theorem dX6_says_23 : decode cX6_says 23 = .ok (.bipush 17, 2) := by decide +kernel
theorem dX6_says_25 : decode cX6_says 25 = .ok (.iconst 4, 1) := by decide +kernel
theorem dX6_says_26 : decode cX6_says 26 = .ok (.iload_n 1, 1) := by decide +kernel
theorem dX6_says_27 : decode cX6_says 27 = .ok (.imul, 1) := by decide +kernel
theorem dX6_says_28 : decode cX6_says 28 = .ok (.iadd, 1) := by decide +kernel
theorem dX6_says_29 : decode cX6_says 29 = .ok (.iconst 3, 1) := by decide +kernel
theorem dX6_says_30 : decode cX6_says 30 = .ok (.iadd, 1) := by decide +kernel
theorem dX6_says_31 : decode cX6_says 31 = .ok (.iconst 0, 1) := by decide +kernel
theorem dX6_says_32 : decode cX6_says 32 = .ok (.iastore, 1) := by decide +kernel
theorem dX6_says_33 : decode cX6_says 33 = .ok (.return_, 1) := by decide +kernel
theorem dX6_notes_0 : decode cX6_notes 0 = .ok (.aload_n 0, 1) := by decide +kernel
theorem dX6_notes_1 : decode cX6_notes 1 = .ok (.getfield 139, 3) := by decide +kernel
theorem dX6_notes_4 : decode cX6_notes 4 = .ok (.bipush 24, 2) := by decide +kernel
theorem dX6_notes_6 : decode cX6_notes 6 = .ok (.if_icmp .ne 43, 3) := by decide +kernel
theorem dX6_notes_9 : decode cX6_notes 9 = .ok (.iconst 0, 1) := by decide +kernel
theorem dX6_notes_10 : decode cX6_notes 10 = .ok (.istore_n 1, 1) := by decide +kernel
theorem dX6_notes_11 : decode cX6_notes 11 = .ok (.iload_n 1, 1) := by decide +kernel
theorem dX6_notes_12 : decode cX6_notes 12 = .ok (.sipush 1035, 3) := by decide +kernel
theorem dX6_notes_15 : decode cX6_notes 15 = .ok (.if_icmp .ge 24, 3) := by decide +kernel
theorem dX6_notes_18 : decode cX6_notes 18 = .ok (.aload_n 0, 1) := by decide +kernel
theorem dX6_notes_19 : decode cX6_notes 19 = .ok (.getfield 34, 3) := by decide +kernel
theorem dX6_notes_22 : decode cX6_notes 22 = .ok (.iload_n 1, 1) := by decide +kernel
theorem dX6_notes_23 : decode cX6_notes 23 = .ok (.aload_n 0, 1) := by decide +kernel
theorem dX6_notes_24 : decode cX6_notes 24 = .ok (.getfield 34, 3) := by decide +kernel
theorem dX6_notes_27 : decode cX6_notes 27 = .ok (.iload_n 1, 1) := by decide +kernel
theorem dX6_notes_28 : decode cX6_notes 28 = .ok (.bipush 45, 2) := by decide +kernel
theorem dX6_notes_30 : decode cX6_notes 30 = .ok (.iadd, 1) := by decide +kernel
theorem dX6_notes_31 : decode cX6_notes 31 = .ok (.iaload, 1) := by decide +kernel
theorem dX6_notes_32 : decode cX6_notes 32 = .ok (.iastore, 1) := by decide +kernel
theorem dX6_notes_33 : decode cX6_notes 33 = .ok (.iinc 1 1, 3) := by decide +kernel
theorem dX6_notes_36 : decode cX6_notes 36 = .ok (.goto (-25), 3) := by decide +kernel
theorem dX6_notes_39 : decode cX6_notes 39 = .ok (.aload_n 0, 1) := by decide +kernel
theorem dX6_notes_40 : decode cX6_notes 40 = .ok (.dup, 1) := by decide +kernel
theorem dX6_notes_41 : decode cX6_notes 41 = .ok (.getfield 139, 3) := by decide +kernel
theorem dX6_notes_44 : decode cX6_notes 44 = .ok (.iconst 1, 1) := by decide +kernel
theorem dX6_notes_45 : decode cX6_notes 45 = .ok (.isub, 1) := by decide +kernel
theorem dX6_notes_46 : decode cX6_notes 46 = .ok (.putfield 139, 3) := by decide +kernel
theorem dX6_notes_49 : decode cX6_notes 49 = .ok (.aload_n 0, 1) := by decide +kernel
theorem dX6_notes_50 : decode cX6_notes 50 = .ok (.getfield 25, 3) := by decide +kernel
theorem dX6_notes_53 : decode cX6_notes 53 = .ok (.iconst 0, 1) := by decide +kernel
theorem dX6_notes_54 : decode cX6_notes 54 = .ok (.aload_n 0, 1) := by decide +kernel
theorem dX6_notes_55 : decode cX6_notes 55 = .ok (.getfield 34, 3) := by decide +kernel
theorem dX6_notes_58 : decode cX6_notes 58 = .ok (.bipush 45, 2) := by decide +kernel
theorem dX6_notes_60 : decode cX6_notes 60 = .ok (.aload_n 0, 1) := by decide +kernel
theorem dX6_notes_61 : decode cX6_notes 61 = .ok (.getfield 139, 3) := by decide +kernel
theorem dX6_notes_64 : decode cX6_notes 64 = .ok (.imul, 1) := by decide +kernel
theorem dX6_notes_65 : decode cX6_notes 65 = .ok (.invokestatic 135, 3) := by decide +kernel
theorem dX6_notes_68 : decode cX6_notes 68 = .ok (.aload_n 0, 1) := by decide +kernel
theorem dX6_notes_69 : decode cX6_notes 69 = .ok (.dup, 1) := by decide +kernel
theorem dX6_notes_70 : decode cX6_notes 70 = .ok (.getfield 139, 3) := by decide +kernel
theorem dX6_notes_73 : decode cX6_notes 73 = .ok (.iconst 1, 1) := by decide +kernel
theorem dX6_notes_74 : decode cX6_notes 74 = .ok (.iadd, 1) := by decide +kernel
theorem dX6_notes_75 : decode cX6_notes 75 = .ok (.putfield 139, 3) := by decide +kernel
theorem dX6_notes_78 : decode cX6_notes 78 = .ok (.return_, 1) := by decide +kernel
theorem dX6_minutes_0 : decode cX6_minutes 0 = .ok (.aload_n 0, 1) := by decide +kernel
theorem dX6_minutes_1 : decode cX6_minutes 1 = .ok (.invokevirtual 161, 3) := by decide +kernel
theorem dX6_minutes_4 : decode cX6_minutes 4 = .ok (.ifCond .ne 6, 3) := by decide +kernel
theorem dX6_minutes_7 : decode cX6_minutes 7 = .ok (.ldc 164, 2) := by decide +kernel
theorem dX6_minutes_9 : decode cX6_minutes 9 = .ok (.ireturn, 1) := by decide +kernel
theorem dX6_minutes_10 : decode cX6_minutes 10 = .ok (.iload_n 1, 1) := by decide +kernel
theorem dX6_minutes_11 : decode cX6_minutes 11 = .ok (.iconst 1, 1) := by decide +kernel
theorem dX6_minutes_12 : decode cX6_minutes 12 = .ok (.bipush 24, 2) := by decide +kernel
theorem dX6_minutes_14 : decode cX6_minutes 14 = .ok (.invokestatic 53, 3) := by decide +kernel
theorem dX6_minutes_17 : decode cX6_minutes 17 = .ok (.ifCond .ne 6, 3) := by decide +kernel
theorem dX6_minutes_20 : decode cX6_minutes 20 = .ok (.ldc 61, 2) := by decide +kernel
theorem dX6_minutes_22 : decode cX6_minutes 22 = .ok (.ireturn, 1) := by decide +kernel
theorem dX6_minutes_23 : decode cX6_minutes 23 = .ok (.aload_n 0, 1) := by decide +kernel
theorem dX6_minutes_24 : decode cX6_minutes 24 = .ok (.getfield 25, 3) := by decide +kernel
theorem dX6_minutes_27 : decode cX6_minutes 27 = .ok (.iconst 4, 1) := by decide +kernel
theorem dX6_minutes_28 : decode cX6_minutes 28 = .ok (.iaload, 1) := by decide +kernel
theorem dX6_minutes_29 : decode cX6_minutes 29 = .ok (.iload_n 1, 1) := by decide +kernel
theorem dX6_minutes_30 : decode cX6_minutes 30 = .ok (.iadd, 1) := by decide +kernel
theorem dX6_minutes_31 : decode cX6_minutes 31 = .ok (.sipush 9999, 3) := by decide +kernel
theorem dX6_minutes_34 : decode cX6_minutes 34 = .ok (.if_icmp .le 6, 3) := by decide +kernel
theorem dX6_minutes_37 : decode cX6_minutes 37 = .ok (.ldc 82, 2) := by decide +kernel
theorem dX6_minutes_39 : decode cX6_minutes 39 = .ok (.ireturn, 1) := by decide +kernel
theorem dX6_minutes_40 : decode cX6_minutes 40 = .ok (.iconst 0, 1) := by decide +kernel
theorem dX6_minutes_41 : decode cX6_minutes 41 = .ok (.istore_n 2, 1) := by decide +kernel
theorem dX6_minutes_42 : decode cX6_minutes 42 = .ok (.iload_n 2, 1) := by decide +kernel
theorem dX6_minutes_43 : decode cX6_minutes 43 = .ok (.iload_n 1, 1) := by decide +kernel
theorem dX6_minutes_44 : decode cX6_minutes 44 = .ok (.if_icmp .ge 20, 3) := by decide +kernel
theorem dX6_minutes_47 : decode cX6_minutes 47 = .ok (.aload_n 0, 1) := by decide +kernel
theorem dX6_minutes_48 : decode cX6_minutes 48 = .ok (.invokevirtual 165, 3) := by decide +kernel
theorem dX6_minutes_51 : decode cX6_minutes 51 = .ok (.aload_n 0, 1) := by decide +kernel
theorem dX6_minutes_52 : decode cX6_minutes 52 = .ok (.getfield 25, 3) := by decide +kernel
theorem dX6_minutes_55 : decode cX6_minutes 55 = .ok (.invokestatic 168, 3) := by decide +kernel
theorem dX6_minutes_58 : decode cX6_minutes 58 = .ok (.iinc 2 1, 3) := by decide +kernel
theorem dX6_minutes_61 : decode cX6_minutes 61 = .ok (.goto (-19), 3) := by decide +kernel
theorem dX6_minutes_64 : decode cX6_minutes 64 = .ok (.aload_n 0, 1) := by decide +kernel
theorem dX6_minutes_65 : decode cX6_minutes 65 = .ok (.getfield 25, 3) := by decide +kernel
theorem dX6_minutes_68 : decode cX6_minutes 68 = .ok (.invokestatic 172, 3) := by decide +kernel
theorem dX6_minutes_71 : decode cX6_minutes 71 = .ok (.ireturn, 1) := by decide +kernel
theorem dX6_say_0 : decode cX6_say 0 = .ok (.aload_n 0, 1) := by decide +kernel
theorem dX6_say_1 : decode cX6_say 1 = .ok (.iload_n 1, 1) := by decide +kernel
theorem dX6_say_2 : decode cX6_say 2 = .ok (.invokevirtual 176, 3) := by decide +kernel
theorem dX6_say_5 : decode cX6_say 5 = .ok (.ifCond .eq 21, 3) := by decide +kernel
theorem dX6_say_8 : decode cX6_say 8 = .ok (.iload_n 2, 1) := by decide +kernel
theorem dX6_say_9 : decode cX6_say 9 = .ok (.iconst 1, 1) := by decide +kernel
theorem dX6_say_10 : decode cX6_say 10 = .ok (.bipush 60, 2) := by decide +kernel
theorem dX6_say_12 : decode cX6_say 12 = .ok (.invokestatic 53, 3) := by decide +kernel
theorem dX6_say_15 : decode cX6_say 15 = .ok (.ifCond .eq 11, 3) := by decide +kernel
theorem dX6_say_18 : decode cX6_say 18 = .ok (.aload_n 0, 1) := by decide +kernel
theorem dX6_say_19 : decode cX6_say 19 = .ok (.iload_n 3, 1) := by decide +kernel
theorem dX6_say_20 : decode cX6_say 20 = .ok (.invokevirtual 179, 3) := by decide +kernel
theorem dX6_say_23 : decode cX6_say 23 = .ok (.ifCond .ne 6, 3) := by decide +kernel
theorem dX6_say_26 : decode cX6_say 26 = .ok (.ldc 61, 2) := by decide +kernel
theorem dX6_say_28 : decode cX6_say 28 = .ok (.ireturn, 1) := by decide +kernel
theorem dX6_say_29 : decode cX6_say 29 = .ok (.aload_n 0, 1) := by decide +kernel
theorem dX6_say_30 : decode cX6_say 30 = .ok (.invokevirtual 165, 3) := by decide +kernel
theorem dX6_say_33 : decode cX6_say 33 = .ok (.aload_n 0, 1) := by decide +kernel
theorem dX6_say_34 : decode cX6_say 34 = .ok (.getfield 25, 3) := by decide +kernel
theorem dX6_say_37 : decode cX6_say 37 = .ok (.bipush 17, 2) := by decide +kernel
theorem dX6_say_39 : decode cX6_say 39 = .ok (.iconst 4, 1) := by decide +kernel
theorem dX6_say_40 : decode cX6_say 40 = .ok (.iload_n 1, 1) := by decide +kernel
theorem dX6_say_41 : decode cX6_say 41 = .ok (.imul, 1) := by decide +kernel
theorem dX6_say_42 : decode cX6_say 42 = .ok (.iadd, 1) := by decide +kernel
theorem dX6_say_43 : decode cX6_say 43 = .ok (.iconst 1, 1) := by decide +kernel
theorem dX6_say_44 : decode cX6_say 44 = .ok (.iadd, 1) := by decide +kernel
theorem dX6_say_45 : decode cX6_say 45 = .ok (.iaload, 1) := by decide +kernel
theorem dX6_say_46 : decode cX6_say 46 = .ok (.istore 4, 2) := by decide +kernel
theorem dX6_say_48 : decode cX6_say 48 = .ok (.aload_n 0, 1) := by decide +kernel
theorem dX6_say_49 : decode cX6_say 49 = .ok (.getfield 25, 3) := by decide +kernel
theorem dX6_say_52 : decode cX6_say 52 = .ok (.iload_n 1, 1) := by decide +kernel
theorem dX6_say_53 : decode cX6_say 53 = .ok (.iload_n 2, 1) := by decide +kernel
theorem dX6_say_54 : decode cX6_say 54 = .ok (.iload_n 3, 1) := by decide +kernel
theorem dX6_say_55 : decode cX6_say 55 = .ok (.invokestatic 182, 3) := by decide +kernel
theorem dX6_say_58 : decode cX6_say 58 = .ok (.iload 4, 2) := by decide +kernel
theorem dX6_say_60 : decode cX6_say 60 = .ok (.ireturn, 1) := by decide +kernel
theorem dX6_speed_0 : decode cX6_speed 0 = .ok (.aload_n 0, 1) := by decide +kernel
theorem dX6_speed_1 : decode cX6_speed 1 = .ok (.iload_n 1, 1) := by decide +kernel
theorem dX6_speed_2 : decode cX6_speed 2 = .ok (.invokevirtual 179, 3) := by decide +kernel
theorem dX6_speed_5 : decode cX6_speed 5 = .ok (.ifCond .eq 12, 3) := by decide +kernel
theorem dX6_speed_8 : decode cX6_speed 8 = .ok (.iload_n 2, 1) := by decide +kernel
theorem dX6_speed_9 : decode cX6_speed 9 = .ok (.iconst 0, 1) := by decide +kernel
theorem dX6_speed_10 : decode cX6_speed 10 = .ok (.iconst 3, 1) := by decide +kernel
theorem dX6_speed_11 : decode cX6_speed 11 = .ok (.invokestatic 53, 3) := by decide +kernel
theorem dX6_speed_14 : decode cX6_speed 14 = .ok (.ifCond .ne 6, 3) := by decide +kernel
theorem dX6_speed_17 : decode cX6_speed 17 = .ok (.ldc 61, 2) := by decide +kernel
theorem dX6_speed_19 : decode cX6_speed 19 = .ok (.ireturn, 1) := by decide +kernel
theorem dX6_speed_20 : decode cX6_speed 20 = .ok (.aload_n 0, 1) := by decide +kernel
theorem dX6_speed_21 : decode cX6_speed 21 = .ok (.invokevirtual 165, 3) := by decide +kernel
theorem dX6_speed_24 : decode cX6_speed 24 = .ok (.aload_n 0, 1) := by decide +kernel
theorem dX6_speed_25 : decode cX6_speed 25 = .ok (.getfield 25, 3) := by decide +kernel
theorem dX6_speed_28 : decode cX6_speed 28 = .ok (.iconst 5, 1) := by decide +kernel
theorem dX6_speed_29 : decode cX6_speed 29 = .ok (.iload_n 1, 1) := by decide +kernel
theorem dX6_speed_30 : decode cX6_speed 30 = .ok (.iadd, 1) := by decide +kernel
theorem dX6_speed_31 : decode cX6_speed 31 = .ok (.iaload, 1) := by decide +kernel
theorem dX6_speed_32 : decode cX6_speed 32 = .ok (.istore_n 3, 1) := by decide +kernel
theorem dX6_speed_33 : decode cX6_speed 33 = .ok (.aload_n 0, 1) := by decide +kernel
theorem dX6_speed_34 : decode cX6_speed 34 = .ok (.getfield 25, 3) := by decide +kernel
theorem dX6_speed_37 : decode cX6_speed 37 = .ok (.iconst 5, 1) := by decide +kernel
theorem dX6_speed_38 : decode cX6_speed 38 = .ok (.iload_n 1, 1) := by decide +kernel
theorem dX6_speed_39 : decode cX6_speed 39 = .ok (.iadd, 1) := by decide +kernel
theorem dX6_speed_40 : decode cX6_speed 40 = .ok (.iload_n 2, 1) := by decide +kernel
theorem dX6_speed_41 : decode cX6_speed 41 = .ok (.iastore, 1) := by decide +kernel
theorem dX6_speed_42 : decode cX6_speed 42 = .ok (.iload_n 3, 1) := by decide +kernel
theorem dX6_speed_43 : decode cX6_speed 43 = .ok (.ireturn, 1) := by decide +kernel
theorem dX6_rain_0 : decode cX6_rain 0 = .ok (.aload_n 0, 1) := by decide +kernel
theorem dX6_rain_1 : decode cX6_rain 1 = .ok (.invokevirtual 161, 3) := by decide +kernel
theorem dX6_rain_4 : decode cX6_rain 4 = .ok (.ifCond .ne 6, 3) := by decide +kernel
theorem dX6_rain_7 : decode cX6_rain 7 = .ok (.ldc 164, 2) := by decide +kernel
theorem dX6_rain_9 : decode cX6_rain 9 = .ok (.ireturn, 1) := by decide +kernel
theorem dX6_rain_10 : decode cX6_rain 10 = .ok (.iload_n 1, 1) := by decide +kernel
theorem dX6_rain_11 : decode cX6_rain 11 = .ok (.iconst 0, 1) := by decide +kernel
theorem dX6_rain_12 : decode cX6_rain 12 = .ok (.bipush 15, 2) := by decide +kernel
theorem dX6_rain_14 : decode cX6_rain 14 = .ok (.invokestatic 53, 3) := by decide +kernel
theorem dX6_rain_17 : decode cX6_rain 17 = .ok (.ifCond .ne 6, 3) := by decide +kernel
theorem dX6_rain_20 : decode cX6_rain 20 = .ok (.ldc 61, 2) := by decide +kernel
theorem dX6_rain_22 : decode cX6_rain 22 = .ok (.ireturn, 1) := by decide +kernel
theorem dX6_rain_23 : decode cX6_rain 23 = .ok (.aload_n 0, 1) := by decide +kernel
theorem dX6_rain_24 : decode cX6_rain 24 = .ok (.invokevirtual 165, 3) := by decide +kernel
theorem dX6_rain_27 : decode cX6_rain 27 = .ok (.aload_n 0, 1) := by decide +kernel
theorem dX6_rain_28 : decode cX6_rain 28 = .ok (.getfield 25, 3) := by decide +kernel
theorem dX6_rain_31 : decode cX6_rain 31 = .ok (.iconst 0, 1) := by decide +kernel
theorem dX6_rain_32 : decode cX6_rain 32 = .ok (.iaload, 1) := by decide +kernel
theorem dX6_rain_33 : decode cX6_rain 33 = .ok (.istore_n 2, 1) := by decide +kernel
theorem dX6_rain_34 : decode cX6_rain 34 = .ok (.aload_n 0, 1) := by decide +kernel
theorem dX6_rain_35 : decode cX6_rain 35 = .ok (.getfield 25, 3) := by decide +kernel
theorem dX6_rain_38 : decode cX6_rain 38 = .ok (.iconst 0, 1) := by decide +kernel
theorem dX6_rain_39 : decode cX6_rain 39 = .ok (.iload_n 1, 1) := by decide +kernel
theorem dX6_rain_40 : decode cX6_rain 40 = .ok (.iastore, 1) := by decide +kernel
theorem dX6_rain_41 : decode cX6_rain 41 = .ok (.iload_n 2, 1) := by decide +kernel
theorem dX6_rain_42 : decode cX6_rain 42 = .ok (.ireturn, 1) := by decide +kernel
theorem dX6_undo_0 : decode cX6_undo 0 = .ok (.aload_n 0, 1) := by decide +kernel
theorem dX6_undo_1 : decode cX6_undo 1 = .ok (.getfield 139, 3) := by decide +kernel
theorem dX6_undo_4 : decode cX6_undo 4 = .ok (.ifCond .ne 6, 3) := by decide +kernel
theorem dX6_undo_7 : decode cX6_undo 7 = .ok (.ldc 164, 2) := by decide +kernel
theorem dX6_undo_9 : decode cX6_undo 9 = .ok (.ireturn, 1) := by decide +kernel
theorem dX6_undo_10 : decode cX6_undo 10 = .ok (.aload_n 0, 1) := by decide +kernel
theorem dX6_undo_11 : decode cX6_undo 11 = .ok (.dup, 1) := by decide +kernel
theorem dX6_undo_12 : decode cX6_undo 12 = .ok (.getfield 139, 3) := by decide +kernel
theorem dX6_undo_15 : decode cX6_undo 15 = .ok (.iconst 1, 1) := by decide +kernel
theorem dX6_undo_16 : decode cX6_undo 16 = .ok (.isub, 1) := by decide +kernel
theorem dX6_undo_17 : decode cX6_undo 17 = .ok (.putfield 139, 3) := by decide +kernel
theorem dX6_undo_20 : decode cX6_undo 20 = .ok (.aload_n 0, 1) := by decide +kernel
theorem dX6_undo_21 : decode cX6_undo 21 = .ok (.getfield 34, 3) := by decide +kernel
theorem dX6_undo_24 : decode cX6_undo 24 = .ok (.bipush 45, 2) := by decide +kernel
theorem dX6_undo_26 : decode cX6_undo 26 = .ok (.aload_n 0, 1) := by decide +kernel
theorem dX6_undo_27 : decode cX6_undo 27 = .ok (.getfield 139, 3) := by decide +kernel
theorem dX6_undo_30 : decode cX6_undo 30 = .ok (.imul, 1) := by decide +kernel
theorem dX6_undo_31 : decode cX6_undo 31 = .ok (.aload_n 0, 1) := by decide +kernel
theorem dX6_undo_32 : decode cX6_undo 32 = .ok (.getfield 25, 3) := by decide +kernel
theorem dX6_undo_35 : decode cX6_undo 35 = .ok (.iconst 0, 1) := by decide +kernel
theorem dX6_undo_36 : decode cX6_undo 36 = .ok (.invokestatic 135, 3) := by decide +kernel
theorem dX6_undo_39 : decode cX6_undo 39 = .ok (.aload_n 0, 1) := by decide +kernel
theorem dX6_undo_40 : decode cX6_undo 40 = .ok (.getfield 139, 3) := by decide +kernel
theorem dX6_undo_43 : decode cX6_undo 43 = .ok (.ireturn, 1) := by decide +kernel
theorem dX6_word_0 : decode cX6_word 0 = .ok (.aload_n 0, 1) := by decide +kernel
theorem dX6_word_1 : decode cX6_word 1 = .ok (.iload_n 1, 1) := by decide +kernel
theorem dX6_word_2 : decode cX6_word 2 = .ok (.invokevirtual 176, 3) := by decide +kernel
theorem dX6_word_5 : decode cX6_word 5 = .ok (.ifCond .ne 6, 3) := by decide +kernel
theorem dX6_word_8 : decode cX6_word 8 = .ok (.ldc 61, 2) := by decide +kernel
theorem dX6_word_10 : decode cX6_word 10 = .ok (.ireturn, 1) := by decide +kernel
theorem dX6_word_11 : decode cX6_word 11 = .ok (.iload_n 2, 1) := by decide +kernel
theorem dX6_word_12 : decode cX6_word 12 = .ok (.tableswitch 83 0 3 #[32, 46, 55, 69], 32) := by decide +kernel
theorem dX6_word_44 : decode cX6_word 44 = .ok (.aload_n 0, 1) := by decide +kernel
theorem dX6_word_45 : decode cX6_word 45 = .ok (.getfield 25, 3) := by decide +kernel
theorem dX6_word_48 : decode cX6_word 48 = .ok (.bipush 17, 2) := by decide +kernel
theorem dX6_word_50 : decode cX6_word 50 = .ok (.iconst 4, 1) := by decide +kernel
theorem dX6_word_51 : decode cX6_word 51 = .ok (.iload_n 1, 1) := by decide +kernel
theorem dX6_word_52 : decode cX6_word 52 = .ok (.imul, 1) := by decide +kernel
theorem dX6_word_53 : decode cX6_word 53 = .ok (.iadd, 1) := by decide +kernel
theorem dX6_word_54 : decode cX6_word 54 = .ok (.iconst 1, 1) := by decide +kernel
theorem dX6_word_55 : decode cX6_word 55 = .ok (.iadd, 1) := by decide +kernel
theorem dX6_word_56 : decode cX6_word 56 = .ok (.iaload, 1) := by decide +kernel
theorem dX6_word_57 : decode cX6_word 57 = .ok (.ireturn, 1) := by decide +kernel
theorem dX6_word_58 : decode cX6_word 58 = .ok (.aload_n 0, 1) := by decide +kernel
theorem dX6_word_59 : decode cX6_word 59 = .ok (.getfield 25, 3) := by decide +kernel
theorem dX6_word_62 : decode cX6_word 62 = .ok (.iload_n 1, 1) := by decide +kernel
theorem dX6_word_63 : decode cX6_word 63 = .ok (.invokestatic 186, 3) := by decide +kernel
theorem dX6_word_66 : decode cX6_word 66 = .ok (.ireturn, 1) := by decide +kernel
theorem dX6_word_67 : decode cX6_word 67 = .ok (.aload_n 0, 1) := by decide +kernel
theorem dX6_word_68 : decode cX6_word 68 = .ok (.getfield 25, 3) := by decide +kernel
theorem dX6_word_71 : decode cX6_word 71 = .ok (.bipush 17, 2) := by decide +kernel
theorem dX6_word_73 : decode cX6_word 73 = .ok (.iconst 4, 1) := by decide +kernel
theorem dX6_word_74 : decode cX6_word 74 = .ok (.iload_n 1, 1) := by decide +kernel
theorem dX6_word_75 : decode cX6_word 75 = .ok (.imul, 1) := by decide +kernel
theorem dX6_word_76 : decode cX6_word 76 = .ok (.iadd, 1) := by decide +kernel
theorem dX6_word_77 : decode cX6_word 77 = .ok (.iconst 3, 1) := by decide +kernel
theorem dX6_word_78 : decode cX6_word 78 = .ok (.iadd, 1) := by decide +kernel
theorem dX6_word_79 : decode cX6_word 79 = .ok (.iaload, 1) := by decide +kernel
theorem dX6_word_80 : decode cX6_word 80 = .ok (.ireturn, 1) := by decide +kernel
theorem dX6_word_81 : decode cX6_word 81 = .ok (.aload_n 0, 1) := by decide +kernel
theorem dX6_word_82 : decode cX6_word 82 = .ok (.getfield 25, 3) := by decide +kernel
theorem dX6_word_85 : decode cX6_word 85 = .ok (.bipush 17, 2) := by decide +kernel
theorem dX6_word_87 : decode cX6_word 87 = .ok (.iconst 4, 1) := by decide +kernel
theorem dX6_word_88 : decode cX6_word 88 = .ok (.iload_n 1, 1) := by decide +kernel
theorem dX6_word_89 : decode cX6_word 89 = .ok (.imul, 1) := by decide +kernel
theorem dX6_word_90 : decode cX6_word 90 = .ok (.iadd, 1) := by decide +kernel
theorem dX6_word_91 : decode cX6_word 91 = .ok (.iconst 2, 1) := by decide +kernel
theorem dX6_word_92 : decode cX6_word 92 = .ok (.iadd, 1) := by decide +kernel
theorem dX6_word_93 : decode cX6_word 93 = .ok (.iaload, 1) := by decide +kernel
theorem dX6_word_94 : decode cX6_word 94 = .ok (.ireturn, 1) := by decide +kernel
theorem dX6_word_95 : decode cX6_word 95 = .ok (.ldc 61, 2) := by decide +kernel
theorem dX6_word_97 : decode cX6_word 97 = .ok (.ireturn, 1) := by decide +kernel
theorem dX6_wordsIn_0 : decode cX6_wordsIn 0 = .ok (.iconst 0, 1) := by decide +kernel
theorem dX6_wordsIn_1 : decode cX6_wordsIn 1 = .ok (.istore_n 2, 1) := by decide +kernel
theorem dX6_wordsIn_2 : decode cX6_wordsIn 2 = .ok (.iconst 0, 1) := by decide +kernel
theorem dX6_wordsIn_3 : decode cX6_wordsIn 3 = .ok (.istore_n 3, 1) := by decide +kernel
theorem dX6_wordsIn_4 : decode cX6_wordsIn 4 = .ok (.iload_n 3, 1) := by decide +kernel
theorem dX6_wordsIn_5 : decode cX6_wordsIn 5 = .ok (.aload_n 0, 1) := by decide +kernel
theorem dX6_wordsIn_6 : decode cX6_wordsIn 6 = .ok (.getfield 25, 3) := by decide +kernel
theorem dX6_wordsIn_9 : decode cX6_wordsIn 9 = .ok (.iconst 3, 1) := by decide +kernel
theorem dX6_wordsIn_10 : decode cX6_wordsIn 10 = .ok (.iaload, 1) := by decide +kernel
theorem dX6_wordsIn_11 : decode cX6_wordsIn 11 = .ok (.if_icmp .ge 31, 3) := by decide +kernel
theorem dX6_wordsIn_14 : decode cX6_wordsIn 14 = .ok (.iload_n 2, 1) := by decide +kernel
theorem dX6_wordsIn_15 : decode cX6_wordsIn 15 = .ok (.aload_n 0, 1) := by decide +kernel
theorem dX6_wordsIn_16 : decode cX6_wordsIn 16 = .ok (.getfield 25, 3) := by decide +kernel
theorem dX6_wordsIn_19 : decode cX6_wordsIn 19 = .ok (.iload_n 3, 1) := by decide +kernel
theorem dX6_wordsIn_20 : decode cX6_wordsIn 20 = .ok (.invokestatic 186, 3) := by decide +kernel
theorem dX6_wordsIn_23 : decode cX6_wordsIn 23 = .ok (.iload_n 1, 1) := by decide +kernel
theorem dX6_wordsIn_24 : decode cX6_wordsIn 24 = .ok (.if_icmp .ne 9, 3) := by decide +kernel
theorem dX6_wordsIn_27 : decode cX6_wordsIn 27 = .ok (.iconst 1, 1) := by decide +kernel
theorem dX6_wordsIn_28 : decode cX6_wordsIn 28 = .ok (.iload_n 3, 1) := by decide +kernel
theorem dX6_wordsIn_29 : decode cX6_wordsIn 29 = .ok (.ishl, 1) := by decide +kernel
theorem dX6_wordsIn_30 : decode cX6_wordsIn 30 = .ok (.goto 4, 3) := by decide +kernel
theorem dX6_wordsIn_33 : decode cX6_wordsIn 33 = .ok (.iconst 0, 1) := by decide +kernel
theorem dX6_wordsIn_34 : decode cX6_wordsIn 34 = .ok (.ior, 1) := by decide +kernel
theorem dX6_wordsIn_35 : decode cX6_wordsIn 35 = .ok (.istore_n 2, 1) := by decide +kernel
theorem dX6_wordsIn_36 : decode cX6_wordsIn 36 = .ok (.iinc 3 1, 3) := by decide +kernel
theorem dX6_wordsIn_39 : decode cX6_wordsIn 39 = .ok (.goto (-35), 3) := by decide +kernel
theorem dX6_wordsIn_42 : decode cX6_wordsIn 42 = .ok (.iload_n 2, 1) := by decide +kernel
theorem dX6_wordsIn_43 : decode cX6_wordsIn 43 = .ok (.ireturn, 1) := by decide +kernel
theorem dX6_cell_0 : decode cX6_cell 0 = .ok (.aload_n 0, 1) := by decide +kernel
theorem dX6_cell_1 : decode cX6_cell 1 = .ok (.iload_n 1, 1) := by decide +kernel
theorem dX6_cell_2 : decode cX6_cell 2 = .ok (.invokevirtual 179, 3) := by decide +kernel
theorem dX6_cell_5 : decode cX6_cell 5 = .ok (.ifCond .ne 6, 3) := by decide +kernel
theorem dX6_cell_8 : decode cX6_cell 8 = .ok (.ldc 61, 2) := by decide +kernel
theorem dX6_cell_10 : decode cX6_cell 10 = .ok (.ireturn, 1) := by decide +kernel
theorem dX6_cell_11 : decode cX6_cell 11 = .ok (.iload_n 2, 1) := by decide +kernel
theorem dX6_cell_12 : decode cX6_cell 12 = .ok (.tableswitch 52 0 2 #[28, 37, 46], 28) := by decide +kernel
theorem dX6_cell_40 : decode cX6_cell 40 = .ok (.aload_n 0, 1) := by decide +kernel
theorem dX6_cell_41 : decode cX6_cell 41 = .ok (.getfield 25, 3) := by decide +kernel
theorem dX6_cell_44 : decode cX6_cell 44 = .ok (.iconst 5, 1) := by decide +kernel
theorem dX6_cell_45 : decode cX6_cell 45 = .ok (.iload_n 1, 1) := by decide +kernel
theorem dX6_cell_46 : decode cX6_cell 46 = .ok (.iadd, 1) := by decide +kernel
theorem dX6_cell_47 : decode cX6_cell 47 = .ok (.iaload, 1) := by decide +kernel
theorem dX6_cell_48 : decode cX6_cell 48 = .ok (.ireturn, 1) := by decide +kernel
theorem dX6_cell_49 : decode cX6_cell 49 = .ok (.aload_n 0, 1) := by decide +kernel
theorem dX6_cell_50 : decode cX6_cell 50 = .ok (.getfield 25, 3) := by decide +kernel
theorem dX6_cell_53 : decode cX6_cell 53 = .ok (.iload_n 1, 1) := by decide +kernel
theorem dX6_cell_54 : decode cX6_cell 54 = .ok (.invokestatic 146, 3) := by decide +kernel
theorem dX6_cell_57 : decode cX6_cell 57 = .ok (.ireturn, 1) := by decide +kernel
theorem dX6_cell_58 : decode cX6_cell 58 = .ok (.aload_n 0, 1) := by decide +kernel
theorem dX6_cell_59 : decode cX6_cell 59 = .ok (.iload_n 1, 1) := by decide +kernel
theorem dX6_cell_60 : decode cX6_cell 60 = .ok (.invokevirtual 189, 3) := by decide +kernel
theorem dX6_cell_63 : decode cX6_cell 63 = .ok (.ireturn, 1) := by decide +kernel
theorem dX6_cell_64 : decode cX6_cell 64 = .ok (.ldc 61, 2) := by decide +kernel
theorem dX6_cell_66 : decode cX6_cell 66 = .ok (.ireturn, 1) := by decide +kernel
theorem dX6_goesOn_0 : decode cX6_goesOn 0 = .ok (.iconst 0, 1) := by decide +kernel
theorem dX6_goesOn_1 : decode cX6_goesOn 1 = .ok (.istore_n 2, 1) := by decide +kernel
theorem dX6_goesOn_2 : decode cX6_goesOn 2 = .ok (.iload_n 2, 1) := by decide +kernel
theorem dX6_goesOn_3 : decode cX6_goesOn 3 = .ok (.iload_n 1, 1) := by decide +kernel
theorem dX6_goesOn_4 : decode cX6_goesOn 4 = .ok (.if_icmp .ge 16, 3) := by decide +kernel
theorem dX6_goesOn_7 : decode cX6_goesOn 7 = .ok (.aload_n 0, 1) := by decide +kernel
theorem dX6_goesOn_8 : decode cX6_goesOn 8 = .ok (.getfield 31, 3) := by decide +kernel
theorem dX6_goesOn_11 : decode cX6_goesOn 11 = .ok (.invokestatic 168, 3) := by decide +kernel
theorem dX6_goesOn_14 : decode cX6_goesOn 14 = .ok (.iinc 2 1, 3) := by decide +kernel
theorem dX6_goesOn_17 : decode cX6_goesOn 17 = .ok (.goto (-15), 3) := by decide +kernel
theorem dX6_goesOn_20 : decode cX6_goesOn 20 = .ok (.return_, 1) := by decide +kernel
theorem dX6_ahead_0 : decode cX6_ahead 0 = .ok (.aload_n 0, 1) := by decide +kernel
theorem dX6_ahead_1 : decode cX6_ahead 1 = .ok (.iload_n 1, 1) := by decide +kernel
theorem dX6_ahead_2 : decode cX6_ahead 2 = .ok (.invokevirtual 176, 3) := by decide +kernel
theorem dX6_ahead_5 : decode cX6_ahead 5 = .ok (.ifCond .eq 22, 3) := by decide +kernel
theorem dX6_ahead_8 : decode cX6_ahead 8 = .ok (.iload_n 2, 1) := by decide +kernel
theorem dX6_ahead_9 : decode cX6_ahead 9 = .ok (.iconst 0, 1) := by decide +kernel
theorem dX6_ahead_10 : decode cX6_ahead 10 = .ok (.bipush 60, 2) := by decide +kernel
theorem dX6_ahead_12 : decode cX6_ahead 12 = .ok (.invokestatic 53, 3) := by decide +kernel
theorem dX6_ahead_15 : decode cX6_ahead 15 = .ok (.ifCond .eq 12, 3) := by decide +kernel
theorem dX6_ahead_18 : decode cX6_ahead 18 = .ok (.iload_n 3, 1) := by decide +kernel
theorem dX6_ahead_19 : decode cX6_ahead 19 = .ok (.iconst 0, 1) := by decide +kernel
theorem dX6_ahead_20 : decode cX6_ahead 20 = .ok (.iconst 1, 1) := by decide +kernel
theorem dX6_ahead_21 : decode cX6_ahead 21 = .ok (.invokestatic 53, 3) := by decide +kernel
theorem dX6_ahead_24 : decode cX6_ahead 24 = .ok (.ifCond .ne 6, 3) := by decide +kernel
theorem dX6_ahead_27 : decode cX6_ahead 27 = .ok (.ldc 61, 2) := by decide +kernel
theorem dX6_ahead_29 : decode cX6_ahead 29 = .ok (.ireturn, 1) := by decide +kernel
theorem dX6_ahead_30 : decode cX6_ahead 30 = .ok (.aload_n 0, 1) := by decide +kernel
theorem dX6_ahead_31 : decode cX6_ahead 31 = .ok (.getfield 25, 3) := by decide +kernel
theorem dX6_ahead_34 : decode cX6_ahead 34 = .ok (.iconst 0, 1) := by decide +kernel
theorem dX6_ahead_35 : decode cX6_ahead 35 = .ok (.aload_n 0, 1) := by decide +kernel
theorem dX6_ahead_36 : decode cX6_ahead 36 = .ok (.getfield 31, 3) := by decide +kernel
theorem dX6_ahead_39 : decode cX6_ahead 39 = .ok (.iconst 0, 1) := by decide +kernel
theorem dX6_ahead_40 : decode cX6_ahead 40 = .ok (.invokestatic 135, 3) := by decide +kernel
theorem dX6_ahead_43 : decode cX6_ahead 43 = .ok (.aload_n 0, 1) := by decide +kernel
theorem dX6_ahead_44 : decode cX6_ahead 44 = .ok (.iload_n 2, 1) := by decide +kernel
theorem dX6_ahead_45 : decode cX6_ahead 45 = .ok (.invokevirtual 192, 3) := by decide +kernel
theorem dX6_ahead_48 : decode cX6_ahead 48 = .ok (.iload_n 3, 1) := by decide +kernel
theorem dX6_ahead_49 : decode cX6_ahead 49 = .ok (.ifCond .ne 14, 3) := by decide +kernel
theorem dX6_ahead_52 : decode cX6_ahead 52 = .ok (.aload_n 0, 1) := by decide +kernel
theorem dX6_ahead_53 : decode cX6_ahead 53 = .ok (.getfield 31, 3) := by decide +kernel
theorem dX6_ahead_56 : decode cX6_ahead 56 = .ok (.iload_n 1, 1) := by decide +kernel
theorem dX6_ahead_57 : decode cX6_ahead 57 = .ok (.invokestatic 186, 3) := by decide +kernel
theorem dX6_ahead_60 : decode cX6_ahead 60 = .ok (.goto 16, 3) := by decide +kernel
theorem dX6_ahead_63 : decode cX6_ahead 63 = .ok (.aload_n 0, 1) := by decide +kernel
theorem dX6_ahead_64 : decode cX6_ahead 64 = .ok (.getfield 31, 3) := by decide +kernel
theorem dX6_ahead_67 : decode cX6_ahead 67 = .ok (.bipush 17, 2) := by decide +kernel
theorem dX6_ahead_69 : decode cX6_ahead 69 = .ok (.iconst 4, 1) := by decide +kernel
theorem dX6_ahead_70 : decode cX6_ahead 70 = .ok (.iload_n 1, 1) := by decide +kernel
theorem dX6_ahead_71 : decode cX6_ahead 71 = .ok (.imul, 1) := by decide +kernel
theorem dX6_ahead_72 : decode cX6_ahead 72 = .ok (.iadd, 1) := by decide +kernel
theorem dX6_ahead_73 : decode cX6_ahead 73 = .ok (.iconst 1, 1) := by decide +kernel
theorem dX6_ahead_74 : decode cX6_ahead 74 = .ok (.iadd, 1) := by decide +kernel
theorem dX6_ahead_75 : decode cX6_ahead 75 = .ok (.iaload, 1) := by decide +kernel
theorem dX6_ahead_76 : decode cX6_ahead 76 = .ok (.ireturn, 1) := by decide +kernel
theorem dX6_quarrel_0 : decode cX6_quarrel 0 = .ok (.aload_n 0, 1) := by decide +kernel
theorem dX6_quarrel_1 : decode cX6_quarrel 1 = .ok (.invokevirtual 161, 3) := by decide +kernel
theorem dX6_quarrel_4 : decode cX6_quarrel 4 = .ok (.ifCond .ne 6, 3) := by decide +kernel
theorem dX6_quarrel_7 : decode cX6_quarrel 7 = .ok (.ldc 164, 2) := by decide +kernel
theorem dX6_quarrel_9 : decode cX6_quarrel 9 = .ok (.ireturn, 1) := by decide +kernel
theorem dX6_quarrel_10 : decode cX6_quarrel 10 = .ok (.iload_n 1, 1) := by decide +kernel
theorem dX6_quarrel_11 : decode cX6_quarrel 11 = .ok (.iconst 0, 1) := by decide +kernel
theorem dX6_quarrel_12 : decode cX6_quarrel 12 = .ok (.bipush 60, 2) := by decide +kernel
theorem dX6_quarrel_14 : decode cX6_quarrel 14 = .ok (.invokestatic 53, 3) := by decide +kernel
theorem dX6_quarrel_17 : decode cX6_quarrel 17 = .ok (.ifCond .ne 6, 3) := by decide +kernel
theorem dX6_quarrel_20 : decode cX6_quarrel 20 = .ok (.ldc 61, 2) := by decide +kernel
theorem dX6_quarrel_22 : decode cX6_quarrel 22 = .ok (.ireturn, 1) := by decide +kernel
theorem dX6_quarrel_23 : decode cX6_quarrel 23 = .ok (.aload_n 0, 1) := by decide +kernel
theorem dX6_quarrel_24 : decode cX6_quarrel 24 = .ok (.getfield 25, 3) := by decide +kernel
theorem dX6_quarrel_27 : decode cX6_quarrel 27 = .ok (.iconst 0, 1) := by decide +kernel
theorem dX6_quarrel_28 : decode cX6_quarrel 28 = .ok (.aload_n 0, 1) := by decide +kernel
theorem dX6_quarrel_29 : decode cX6_quarrel 29 = .ok (.getfield 31, 3) := by decide +kernel
theorem dX6_quarrel_32 : decode cX6_quarrel 32 = .ok (.iconst 0, 1) := by decide +kernel
theorem dX6_quarrel_33 : decode cX6_quarrel 33 = .ok (.invokestatic 135, 3) := by decide +kernel
theorem dX6_quarrel_36 : decode cX6_quarrel 36 = .ok (.aload_n 0, 1) := by decide +kernel
theorem dX6_quarrel_37 : decode cX6_quarrel 37 = .ok (.iload_n 1, 1) := by decide +kernel
theorem dX6_quarrel_38 : decode cX6_quarrel 38 = .ok (.invokevirtual 192, 3) := by decide +kernel
theorem dX6_quarrel_41 : decode cX6_quarrel 41 = .ok (.aload_n 0, 1) := by decide +kernel
theorem dX6_quarrel_42 : decode cX6_quarrel 42 = .ok (.getfield 31, 3) := by decide +kernel
theorem dX6_quarrel_45 : decode cX6_quarrel 45 = .ok (.invokestatic 196, 3) := by decide +kernel
theorem dX6_quarrel_48 : decode cX6_quarrel 48 = .ok (.ireturn, 1) := by decide +kernel
theorem dX6_over_0 : decode cX6_over 0 = .ok (.aload_n 0, 1) := by decide +kernel
theorem dX6_over_1 : decode cX6_over 1 = .ok (.iload_n 1, 1) := by decide +kernel
theorem dX6_over_2 : decode cX6_over 2 = .ok (.invokevirtual 176, 3) := by decide +kernel
theorem dX6_over_5 : decode cX6_over 5 = .ok (.ifCond .ne 6, 3) := by decide +kernel
theorem dX6_over_8 : decode cX6_over 8 = .ok (.ldc 61, 2) := by decide +kernel
theorem dX6_over_10 : decode cX6_over 10 = .ok (.ireturn, 1) := by decide +kernel
theorem dX6_over_11 : decode cX6_over 11 = .ok (.aload_n 0, 1) := by decide +kernel
theorem dX6_over_12 : decode cX6_over 12 = .ok (.getfield 25, 3) := by decide +kernel
theorem dX6_over_15 : decode cX6_over 15 = .ok (.iconst 0, 1) := by decide +kernel
theorem dX6_over_16 : decode cX6_over 16 = .ok (.aload_n 0, 1) := by decide +kernel
theorem dX6_over_17 : decode cX6_over 17 = .ok (.getfield 31, 3) := by decide +kernel
theorem dX6_over_20 : decode cX6_over 20 = .ok (.iconst 0, 1) := by decide +kernel
theorem dX6_over_21 : decode cX6_over 21 = .ok (.invokestatic 135, 3) := by decide +kernel
theorem dX6_over_24 : decode cX6_over 24 = .ok (.iconst 0, 1) := by decide +kernel
theorem dX6_over_25 : decode cX6_over 25 = .ok (.istore_n 2, 1) := by decide +kernel
theorem dX6_over_26 : decode cX6_over 26 = .ok (.iload_n 2, 1) := by decide +kernel
theorem dX6_over_27 : decode cX6_over 27 = .ok (.bipush 61, 2) := by decide +kernel
theorem dX6_over_29 : decode cX6_over 29 = .ok (.if_icmp .ge 35, 3) := by decide +kernel
theorem dX6_over_32 : decode cX6_over 32 = .ok (.aload_n 0, 1) := by decide +kernel
theorem dX6_over_33 : decode cX6_over 33 = .ok (.getfield 31, 3) := by decide +kernel
theorem dX6_over_36 : decode cX6_over 36 = .ok (.bipush 17, 2) := by decide +kernel
theorem dX6_over_38 : decode cX6_over 38 = .ok (.iconst 4, 1) := by decide +kernel
theorem dX6_over_39 : decode cX6_over 39 = .ok (.iload_n 1, 1) := by decide +kernel
theorem dX6_over_40 : decode cX6_over 40 = .ok (.imul, 1) := by decide +kernel
theorem dX6_over_41 : decode cX6_over 41 = .ok (.iadd, 1) := by decide +kernel
theorem dX6_over_42 : decode cX6_over 42 = .ok (.iconst 3, 1) := by decide +kernel
theorem dX6_over_43 : decode cX6_over 43 = .ok (.iadd, 1) := by decide +kernel
theorem dX6_over_44 : decode cX6_over 44 = .ok (.iaload, 1) := by decide +kernel
theorem dX6_over_45 : decode cX6_over 45 = .ok (.iconst 1, 1) := by decide +kernel
theorem dX6_over_46 : decode cX6_over 46 = .ok (.if_icmp .ne 5, 3) := by decide +kernel
theorem dX6_over_49 : decode cX6_over 49 = .ok (.iload_n 2, 1) := by decide +kernel
theorem dX6_over_50 : decode cX6_over 50 = .ok (.ireturn, 1) := by decide +kernel
theorem dX6_over_51 : decode cX6_over 51 = .ok (.aload_n 0, 1) := by decide +kernel
theorem dX6_over_52 : decode cX6_over 52 = .ok (.getfield 31, 3) := by decide +kernel
theorem dX6_over_55 : decode cX6_over 55 = .ok (.invokestatic 168, 3) := by decide +kernel
theorem dX6_over_58 : decode cX6_over 58 = .ok (.iinc 2 1, 3) := by decide +kernel
theorem dX6_over_61 : decode cX6_over 61 = .ok (.goto (-35), 3) := by decide +kernel
theorem dX6_over_64 : decode cX6_over 64 = .ok (.ldc 47, 2) := by decide +kernel
theorem dX6_over_66 : decode cX6_over 66 = .ok (.ireturn, 1) := by decide +kernel
theorem dX6_kept_0 : decode cX6_kept 0 = .ok (.aload_n 0, 1) := by decide +kernel
theorem dX6_kept_1 : decode cX6_kept 1 = .ok (.invokevirtual 161, 3) := by decide +kernel
theorem dX6_kept_4 : decode cX6_kept 4 = .ok (.ifCond .ne 6, 3) := by decide +kernel
theorem dX6_kept_7 : decode cX6_kept 7 = .ok (.ldc 164, 2) := by decide +kernel
theorem dX6_kept_9 : decode cX6_kept 9 = .ok (.ireturn, 1) := by decide +kernel
theorem dX6_kept_10 : decode cX6_kept 10 = .ok (.aload_n 0, 1) := by decide +kernel
theorem dX6_kept_11 : decode cX6_kept 11 = .ok (.getfield 25, 3) := by decide +kernel
theorem dX6_kept_14 : decode cX6_kept 14 = .ok (.iconst 0, 1) := by decide +kernel
theorem dX6_kept_15 : decode cX6_kept 15 = .ok (.aload_n 0, 1) := by decide +kernel
theorem dX6_kept_16 : decode cX6_kept 16 = .ok (.getfield 31, 3) := by decide +kernel
theorem dX6_kept_19 : decode cX6_kept 19 = .ok (.iconst 0, 1) := by decide +kernel
theorem dX6_kept_20 : decode cX6_kept 20 = .ok (.invokestatic 135, 3) := by decide +kernel
theorem dX6_kept_23 : decode cX6_kept 23 = .ok (.aload_n 0, 1) := by decide +kernel
theorem dX6_kept_24 : decode cX6_kept 24 = .ok (.bipush 60, 2) := by decide +kernel
theorem dX6_kept_26 : decode cX6_kept 26 = .ok (.invokevirtual 192, 3) := by decide +kernel
theorem dX6_kept_29 : decode cX6_kept 29 = .ok (.aload_n 0, 1) := by decide +kernel
theorem dX6_kept_30 : decode cX6_kept 30 = .ok (.getfield 25, 3) := by decide +kernel
theorem dX6_kept_33 : decode cX6_kept 33 = .ok (.invokestatic 199, 3) := by decide +kernel
theorem dX6_kept_36 : decode cX6_kept 36 = .ok (.aload_n 0, 1) := by decide +kernel
theorem dX6_kept_37 : decode cX6_kept 37 = .ok (.getfield 31, 3) := by decide +kernel
theorem dX6_kept_40 : decode cX6_kept 40 = .ok (.invokestatic 172, 3) := by decide +kernel
theorem dX6_kept_43 : decode cX6_kept 43 = .ok (.iconst (-1), 1) := by decide +kernel
theorem dX6_kept_44 : decode cX6_kept 44 = .ok (.ixor, 1) := by decide +kernel
theorem dX6_kept_45 : decode cX6_kept 45 = .ok (.iand, 1) := by decide +kernel
theorem dX6_kept_46 : decode cX6_kept 46 = .ok (.ireturn, 1) := by decide +kernel
theorem dX6_isNear_0 : decode cX6_isNear 0 = .ok (.iload_n 0, 1) := by decide +kernel
theorem dX6_isNear_1 : decode cX6_isNear 1 = .ok (.iconst 1, 1) := by decide +kernel
theorem dX6_isNear_2 : decode cX6_isNear 2 = .ok (.bipush 30, 2) := by decide +kernel
theorem dX6_isNear_4 : decode cX6_isNear 4 = .ok (.invokestatic 53, 3) := by decide +kernel
theorem dX6_isNear_7 : decode cX6_isNear 7 = .ok (.ireturn, 1) := by decide +kernel
theorem dX6_calm_0 : decode cX6_calm 0 = .ok (.aload_n 0, 1) := by decide +kernel
theorem dX6_calm_1 : decode cX6_calm 1 = .ok (.invokevirtual 161, 3) := by decide +kernel
theorem dX6_calm_4 : decode cX6_calm 4 = .ok (.ifCond .ne 6, 3) := by decide +kernel
theorem dX6_calm_7 : decode cX6_calm 7 = .ok (.ldc 164, 2) := by decide +kernel
theorem dX6_calm_9 : decode cX6_calm 9 = .ok (.ireturn, 1) := by decide +kernel
theorem dX6_calm_10 : decode cX6_calm 10 = .ok (.iload_n 1, 1) := by decide +kernel
theorem dX6_calm_11 : decode cX6_calm 11 = .ok (.invokestatic 202, 3) := by decide +kernel
theorem dX6_calm_14 : decode cX6_calm 14 = .ok (.ifCond .eq 12, 3) := by decide +kernel
theorem dX6_calm_17 : decode cX6_calm 17 = .ok (.iload_n 2, 1) := by decide +kernel
theorem dX6_calm_18 : decode cX6_calm 18 = .ok (.iconst 0, 1) := by decide +kernel
theorem dX6_calm_19 : decode cX6_calm 19 = .ok (.iconst 1, 1) := by decide +kernel
theorem dX6_calm_20 : decode cX6_calm 20 = .ok (.invokestatic 53, 3) := by decide +kernel
theorem dX6_calm_23 : decode cX6_calm 23 = .ok (.ifCond .ne 6, 3) := by decide +kernel
theorem dX6_calm_26 : decode cX6_calm 26 = .ok (.ldc 61, 2) := by decide +kernel
theorem dX6_calm_28 : decode cX6_calm 28 = .ok (.ireturn, 1) := by decide +kernel
theorem dX6_calm_29 : decode cX6_calm 29 = .ok (.ldc 47, 2) := by decide +kernel
theorem dX6_calm_31 : decode cX6_calm 31 = .ok (.istore_n 3, 1) := by decide +kernel
theorem dX6_calm_32 : decode cX6_calm 32 = .ok (.iconst 0, 1) := by decide +kernel
theorem dX6_calm_33 : decode cX6_calm 33 = .ok (.istore 4, 2) := by decide +kernel
theorem dX6_calm_35 : decode cX6_calm 35 = .ok (.iconst 0, 1) := by decide +kernel
theorem dX6_calm_36 : decode cX6_calm 36 = .ok (.istore 5, 2) := by decide +kernel
theorem dX6_calm_38 : decode cX6_calm 38 = .ok (.iload 5, 2) := by decide +kernel
theorem dX6_calm_40 : decode cX6_calm 40 = .ok (.aload_n 0, 1) := by decide +kernel
theorem dX6_calm_41 : decode cX6_calm 41 = .ok (.getfield 25, 3) := by decide +kernel
theorem dX6_calm_44 : decode cX6_calm 44 = .ok (.iconst 2, 1) := by decide +kernel
theorem dX6_calm_45 : decode cX6_calm 45 = .ok (.iaload, 1) := by decide +kernel
theorem dX6_calm_46 : decode cX6_calm 46 = .ok (.if_icmp .ge 93, 3) := by decide +kernel
theorem dX6_calm_49 : decode cX6_calm 49 = .ok (.aload_n 0, 1) := by decide +kernel
theorem dX6_calm_50 : decode cX6_calm 50 = .ok (.getfield 25, 3) := by decide +kernel
theorem dX6_calm_53 : decode cX6_calm 53 = .ok (.iconst 0, 1) := by decide +kernel
theorem dX6_calm_54 : decode cX6_calm 54 = .ok (.aload_n 0, 1) := by decide +kernel
theorem dX6_calm_55 : decode cX6_calm 55 = .ok (.getfield 31, 3) := by decide +kernel
theorem dX6_calm_58 : decode cX6_calm 58 = .ok (.iconst 0, 1) := by decide +kernel
theorem dX6_calm_59 : decode cX6_calm 59 = .ok (.invokestatic 135, 3) := by decide +kernel
theorem dX6_calm_62 : decode cX6_calm 62 = .ok (.aload_n 0, 1) := by decide +kernel
theorem dX6_calm_63 : decode cX6_calm 63 = .ok (.getfield 31, 3) := by decide +kernel
theorem dX6_calm_66 : decode cX6_calm 66 = .ok (.iconst 5, 1) := by decide +kernel
theorem dX6_calm_67 : decode cX6_calm 67 = .ok (.iload 5, 2) := by decide +kernel
theorem dX6_calm_69 : decode cX6_calm 69 = .ok (.iadd, 1) := by decide +kernel
theorem dX6_calm_70 : decode cX6_calm 70 = .ok (.iconst 0, 1) := by decide +kernel
theorem dX6_calm_71 : decode cX6_calm 71 = .ok (.iastore, 1) := by decide +kernel
theorem dX6_calm_72 : decode cX6_calm 72 = .ok (.aload_n 0, 1) := by decide +kernel
theorem dX6_calm_73 : decode cX6_calm 73 = .ok (.iload_n 1, 1) := by decide +kernel
theorem dX6_calm_74 : decode cX6_calm 74 = .ok (.invokevirtual 192, 3) := by decide +kernel
theorem dX6_calm_77 : decode cX6_calm 77 = .ok (.iload_n 3, 1) := by decide +kernel
theorem dX6_calm_78 : decode cX6_calm 78 = .ok (.ldc 47, 2) := by decide +kernel
theorem dX6_calm_80 : decode cX6_calm 80 = .ok (.if_icmp .eq 15, 3) := by decide +kernel
theorem dX6_calm_83 : decode cX6_calm 83 = .ok (.aload_n 0, 1) := by decide +kernel
theorem dX6_calm_84 : decode cX6_calm 84 = .ok (.getfield 31, 3) := by decide +kernel
theorem dX6_calm_87 : decode cX6_calm 87 = .ok (.invokestatic 196, 3) := by decide +kernel
theorem dX6_calm_90 : decode cX6_calm 90 = .ok (.iload 4, 2) := by decide +kernel
theorem dX6_calm_92 : decode cX6_calm 92 = .ok (.if_icmp .ge 7, 3) := by decide +kernel
theorem dX6_calm_95 : decode cX6_calm 95 = .ok (.iconst 1, 1) := by decide +kernel
theorem dX6_calm_96 : decode cX6_calm 96 = .ok (.goto 4, 3) := by decide +kernel
theorem dX6_calm_99 : decode cX6_calm 99 = .ok (.iconst 0, 1) := by decide +kernel
theorem dX6_calm_100 : decode cX6_calm 100 = .ok (.istore 6, 2) := by decide +kernel
theorem dX6_calm_102 : decode cX6_calm 102 = .ok (.iload 6, 2) := by decide +kernel
theorem dX6_calm_104 : decode cX6_calm 104 = .ok (.ifCond .eq 8, 3) := by decide +kernel
theorem dX6_calm_107 : decode cX6_calm 107 = .ok (.iload 5, 2) := by decide +kernel
theorem dX6_calm_109 : decode cX6_calm 109 = .ok (.goto 4, 3) := by decide +kernel
theorem dX6_calm_112 : decode cX6_calm 112 = .ok (.iload_n 3, 1) := by decide +kernel
theorem dX6_calm_113 : decode cX6_calm 113 = .ok (.istore_n 3, 1) := by decide +kernel
theorem dX6_calm_114 : decode cX6_calm 114 = .ok (.iload 6, 2) := by decide +kernel
theorem dX6_calm_116 : decode cX6_calm 116 = .ok (.ifCond .eq 13, 3) := by decide +kernel
theorem dX6_calm_119 : decode cX6_calm 119 = .ok (.aload_n 0, 1) := by decide +kernel
theorem dX6_calm_120 : decode cX6_calm 120 = .ok (.getfield 31, 3) := by decide +kernel
theorem dX6_calm_123 : decode cX6_calm 123 = .ok (.invokestatic 196, 3) := by decide +kernel
theorem dX6_calm_126 : decode cX6_calm 126 = .ok (.goto 5, 3) := by decide +kernel
theorem dX6_calm_129 : decode cX6_calm 129 = .ok (.iload 4, 2) := by decide +kernel
theorem dX6_calm_131 : decode cX6_calm 131 = .ok (.istore 4, 2) := by decide +kernel
theorem dX6_calm_133 : decode cX6_calm 133 = .ok (.iinc 5 1, 3) := by decide +kernel
theorem dX6_calm_136 : decode cX6_calm 136 = .ok (.goto (-98), 3) := by decide +kernel
theorem dX6_calm_139 : decode cX6_calm 139 = .ok (.iload_n 2, 1) := by decide +kernel
theorem dX6_calm_140 : decode cX6_calm 140 = .ok (.ifCond .ne 7, 3) := by decide +kernel
theorem dX6_calm_143 : decode cX6_calm 143 = .ok (.iload_n 3, 1) := by decide +kernel
theorem dX6_calm_144 : decode cX6_calm 144 = .ok (.goto 5, 3) := by decide +kernel
theorem dX6_calm_147 : decode cX6_calm 147 = .ok (.iload 4, 2) := by decide +kernel
theorem dX6_calm_149 : decode cX6_calm 149 = .ok (.ireturn, 1) := by decide +kernel
theorem dX6_swift_0 : decode cX6_swift 0 = .ok (.aload_n 0, 1) := by decide +kernel
theorem dX6_swift_1 : decode cX6_swift 1 = .ok (.invokevirtual 161, 3) := by decide +kernel
theorem dX6_swift_4 : decode cX6_swift 4 = .ok (.ifCond .ne 6, 3) := by decide +kernel
theorem dX6_swift_7 : decode cX6_swift 7 = .ok (.ldc 164, 2) := by decide +kernel
theorem dX6_swift_9 : decode cX6_swift 9 = .ok (.ireturn, 1) := by decide +kernel
theorem dX6_swift_10 : decode cX6_swift 10 = .ok (.iload_n 1, 1) := by decide +kernel
theorem dX6_swift_11 : decode cX6_swift 11 = .ok (.invokestatic 202, 3) := by decide +kernel
theorem dX6_swift_14 : decode cX6_swift 14 = .ok (.ifCond .eq 12, 3) := by decide +kernel
theorem dX6_swift_17 : decode cX6_swift 17 = .ok (.iload_n 2, 1) := by decide +kernel
theorem dX6_swift_18 : decode cX6_swift 18 = .ok (.iconst 0, 1) := by decide +kernel
theorem dX6_swift_19 : decode cX6_swift 19 = .ok (.iconst 1, 1) := by decide +kernel
theorem dX6_swift_20 : decode cX6_swift 20 = .ok (.invokestatic 53, 3) := by decide +kernel
theorem dX6_swift_23 : decode cX6_swift 23 = .ok (.ifCond .ne 6, 3) := by decide +kernel
theorem dX6_swift_26 : decode cX6_swift 26 = .ok (.ldc 61, 2) := by decide +kernel
theorem dX6_swift_28 : decode cX6_swift 28 = .ok (.ireturn, 1) := by decide +kernel
theorem dX6_swift_29 : decode cX6_swift 29 = .ok (.ldc 47, 2) := by decide +kernel
theorem dX6_swift_31 : decode cX6_swift 31 = .ok (.istore_n 3, 1) := by decide +kernel
theorem dX6_swift_32 : decode cX6_swift 32 = .ok (.iconst 0, 1) := by decide +kernel
theorem dX6_swift_33 : decode cX6_swift 33 = .ok (.istore 4, 2) := by decide +kernel
theorem dX6_swift_35 : decode cX6_swift 35 = .ok (.iload 4, 2) := by decide +kernel
theorem dX6_swift_37 : decode cX6_swift 37 = .ok (.iconst 1, 1) := by decide +kernel
theorem dX6_swift_38 : decode cX6_swift 38 = .ok (.aload_n 0, 1) := by decide +kernel
theorem dX6_swift_39 : decode cX6_swift 39 = .ok (.getfield 25, 3) := by decide +kernel
theorem dX6_swift_42 : decode cX6_swift 42 = .ok (.iconst 2, 1) := by decide +kernel
theorem dX6_swift_43 : decode cX6_swift 43 = .ok (.iaload, 1) := by decide +kernel
theorem dX6_swift_44 : decode cX6_swift 44 = .ok (.ishl, 1) := by decide +kernel
theorem dX6_swift_45 : decode cX6_swift 45 = .ok (.if_icmp .ge 133, 3) := by decide +kernel
theorem dX6_swift_48 : decode cX6_swift 48 = .ok (.iload_n 3, 1) := by decide +kernel
theorem dX6_swift_49 : decode cX6_swift 49 = .ok (.ldc 47, 2) := by decide +kernel
theorem dX6_swift_51 : decode cX6_swift 51 = .ok (.if_icmp .eq 15, 3) := by decide +kernel
theorem dX6_swift_54 : decode cX6_swift 54 = .ok (.iload 4, 2) := by decide +kernel
theorem dX6_swift_56 : decode cX6_swift 56 = .ok (.invokestatic 205, 3) := by decide +kernel
theorem dX6_swift_59 : decode cX6_swift 59 = .ok (.iload_n 3, 1) := by decide +kernel
theorem dX6_swift_60 : decode cX6_swift 60 = .ok (.invokestatic 205, 3) := by decide +kernel
theorem dX6_swift_63 : decode cX6_swift 63 = .ok (.if_icmp .ge 7, 3) := by decide +kernel
theorem dX6_swift_66 : decode cX6_swift 66 = .ok (.iconst 1, 1) := by decide +kernel
theorem dX6_swift_67 : decode cX6_swift 67 = .ok (.goto 4, 3) := by decide +kernel
theorem dX6_swift_70 : decode cX6_swift 70 = .ok (.iconst 0, 1) := by decide +kernel
theorem dX6_swift_71 : decode cX6_swift 71 = .ok (.istore 5, 2) := by decide +kernel
theorem dX6_swift_73 : decode cX6_swift 73 = .ok (.iload 5, 2) := by decide +kernel
theorem dX6_swift_75 : decode cX6_swift 75 = .ok (.ifCond .eq 97, 3) := by decide +kernel
theorem dX6_swift_78 : decode cX6_swift 78 = .ok (.aload_n 0, 1) := by decide +kernel
theorem dX6_swift_79 : decode cX6_swift 79 = .ok (.getfield 25, 3) := by decide +kernel
theorem dX6_swift_82 : decode cX6_swift 82 = .ok (.iconst 0, 1) := by decide +kernel
theorem dX6_swift_83 : decode cX6_swift 83 = .ok (.aload_n 0, 1) := by decide +kernel
theorem dX6_swift_84 : decode cX6_swift 84 = .ok (.getfield 31, 3) := by decide +kernel
theorem dX6_swift_87 : decode cX6_swift 87 = .ok (.iconst 0, 1) := by decide +kernel
theorem dX6_swift_88 : decode cX6_swift 88 = .ok (.invokestatic 135, 3) := by decide +kernel
theorem dX6_swift_91 : decode cX6_swift 91 = .ok (.iconst 0, 1) := by decide +kernel
theorem dX6_swift_92 : decode cX6_swift 92 = .ok (.istore 6, 2) := by decide +kernel
theorem dX6_swift_94 : decode cX6_swift 94 = .ok (.iload 6, 2) := by decide +kernel
theorem dX6_swift_96 : decode cX6_swift 96 = .ok (.aload_n 0, 1) := by decide +kernel
theorem dX6_swift_97 : decode cX6_swift 97 = .ok (.getfield 25, 3) := by decide +kernel
theorem dX6_swift_100 : decode cX6_swift 100 = .ok (.iconst 2, 1) := by decide +kernel
theorem dX6_swift_101 : decode cX6_swift 101 = .ok (.iaload, 1) := by decide +kernel
theorem dX6_swift_102 : decode cX6_swift 102 = .ok (.if_icmp .ge 41, 3) := by decide +kernel
theorem dX6_swift_105 : decode cX6_swift 105 = .ok (.aload_n 0, 1) := by decide +kernel
theorem dX6_swift_106 : decode cX6_swift 106 = .ok (.getfield 31, 3) := by decide +kernel
theorem dX6_swift_109 : decode cX6_swift 109 = .ok (.iconst 5, 1) := by decide +kernel
theorem dX6_swift_110 : decode cX6_swift 110 = .ok (.iload 6, 2) := by decide +kernel
theorem dX6_swift_112 : decode cX6_swift 112 = .ok (.iadd, 1) := by decide +kernel
theorem dX6_swift_113 : decode cX6_swift 113 = .ok (.iload 4, 2) := by decide +kernel
theorem dX6_swift_115 : decode cX6_swift 115 = .ok (.iload 6, 2) := by decide +kernel
theorem dX6_swift_117 : decode cX6_swift 117 = .ok (.invokestatic 142, 3) := by decide +kernel
theorem dX6_swift_120 : decode cX6_swift 120 = .ok (.ifCond .eq 7, 3) := by decide +kernel
theorem dX6_swift_123 : decode cX6_swift 123 = .ok (.iconst 3, 1) := by decide +kernel
theorem dX6_swift_124 : decode cX6_swift 124 = .ok (.goto 12, 3) := by decide +kernel
theorem dX6_swift_127 : decode cX6_swift 127 = .ok (.aload_n 0, 1) := by decide +kernel
theorem dX6_swift_128 : decode cX6_swift 128 = .ok (.getfield 25, 3) := by decide +kernel
theorem dX6_swift_131 : decode cX6_swift 131 = .ok (.iconst 5, 1) := by decide +kernel
theorem dX6_swift_132 : decode cX6_swift 132 = .ok (.iload 6, 2) := by decide +kernel
theorem dX6_swift_134 : decode cX6_swift 134 = .ok (.iadd, 1) := by decide +kernel
theorem dX6_swift_135 : decode cX6_swift 135 = .ok (.iaload, 1) := by decide +kernel
theorem dX6_swift_136 : decode cX6_swift 136 = .ok (.iastore, 1) := by decide +kernel
theorem dX6_swift_137 : decode cX6_swift 137 = .ok (.iinc 6 1, 3) := by decide +kernel
theorem dX6_swift_140 : decode cX6_swift 140 = .ok (.goto (-46), 3) := by decide +kernel
theorem dX6_swift_143 : decode cX6_swift 143 = .ok (.aload_n 0, 1) := by decide +kernel
theorem dX6_swift_144 : decode cX6_swift 144 = .ok (.iload_n 1, 1) := by decide +kernel
theorem dX6_swift_145 : decode cX6_swift 145 = .ok (.invokevirtual 192, 3) := by decide +kernel
theorem dX6_swift_148 : decode cX6_swift 148 = .ok (.aload_n 0, 1) := by decide +kernel
theorem dX6_swift_149 : decode cX6_swift 149 = .ok (.getfield 31, 3) := by decide +kernel
theorem dX6_swift_152 : decode cX6_swift 152 = .ok (.invokestatic 172, 3) := by decide +kernel
theorem dX6_swift_155 : decode cX6_swift 155 = .ok (.aload_n 0, 1) := by decide +kernel
theorem dX6_swift_156 : decode cX6_swift 156 = .ok (.getfield 25, 3) := by decide +kernel
theorem dX6_swift_159 : decode cX6_swift 159 = .ok (.invokestatic 199, 3) := by decide +kernel
theorem dX6_swift_162 : decode cX6_swift 162 = .ok (.if_icmp .ne 8, 3) := by decide +kernel
theorem dX6_swift_165 : decode cX6_swift 165 = .ok (.iload 4, 2) := by decide +kernel
theorem dX6_swift_167 : decode cX6_swift 167 = .ok (.goto 4, 3) := by decide +kernel
theorem dX6_swift_170 : decode cX6_swift 170 = .ok (.iload_n 3, 1) := by decide +kernel
theorem dX6_swift_171 : decode cX6_swift 171 = .ok (.istore_n 3, 1) := by decide +kernel
theorem dX6_swift_172 : decode cX6_swift 172 = .ok (.iinc 4 1, 3) := by decide +kernel
theorem dX6_swift_175 : decode cX6_swift 175 = .ok (.goto (-140), 3) := by decide +kernel
theorem dX6_swift_178 : decode cX6_swift 178 = .ok (.iload_n 3, 1) := by decide +kernel
theorem dX6_swift_179 : decode cX6_swift 179 = .ok (.ldc 47, 2) := by decide +kernel
theorem dX6_swift_181 : decode cX6_swift 181 = .ok (.if_icmp .eq 8, 3) := by decide +kernel
theorem dX6_swift_184 : decode cX6_swift 184 = .ok (.iload_n 2, 1) := by decide +kernel
theorem dX6_swift_185 : decode cX6_swift 185 = .ok (.iconst 1, 1) := by decide +kernel
theorem dX6_swift_186 : decode cX6_swift 186 = .ok (.if_icmp .ne 7, 3) := by decide +kernel
theorem dX6_swift_189 : decode cX6_swift 189 = .ok (.iload_n 3, 1) := by decide +kernel
theorem dX6_swift_190 : decode cX6_swift 190 = .ok (.goto 7, 3) := by decide +kernel
theorem dX6_swift_193 : decode cX6_swift 193 = .ok (.iload_n 3, 1) := by decide +kernel
theorem dX6_swift_194 : decode cX6_swift 194 = .ok (.invokestatic 205, 3) := by decide +kernel
theorem dX6_swift_197 : decode cX6_swift 197 = .ok (.ireturn, 1) := by decide +kernel
theorem dX6_stir_0 : decode cX6_stir 0 = .ok (.aload_n 0, 1) := by decide +kernel
theorem dX6_stir_1 : decode cX6_stir 1 = .ok (.iload_n 1, 1) := by decide +kernel
theorem dX6_stir_2 : decode cX6_stir 2 = .ok (.invokevirtual 176, 3) := by decide +kernel
theorem dX6_stir_5 : decode cX6_stir 5 = .ok (.ifCond .eq 18, 3) := by decide +kernel
theorem dX6_stir_8 : decode cX6_stir 8 = .ok (.aload_n 0, 1) := by decide +kernel
theorem dX6_stir_9 : decode cX6_stir 9 = .ok (.iload_n 2, 1) := by decide +kernel
theorem dX6_stir_10 : decode cX6_stir 10 = .ok (.invokevirtual 179, 3) := by decide +kernel
theorem dX6_stir_13 : decode cX6_stir 13 = .ok (.ifCond .eq 10, 3) := by decide +kernel
theorem dX6_stir_16 : decode cX6_stir 16 = .ok (.iload_n 3, 1) := by decide +kernel
theorem dX6_stir_17 : decode cX6_stir 17 = .ok (.invokestatic 202, 3) := by decide +kernel
theorem dX6_stir_20 : decode cX6_stir 20 = .ok (.ifCond .ne 6, 3) := by decide +kernel
theorem dX6_stir_23 : decode cX6_stir 23 = .ok (.ldc 61, 2) := by decide +kernel
theorem dX6_stir_25 : decode cX6_stir 25 = .ok (.ireturn, 1) := by decide +kernel
theorem dX6_stir_26 : decode cX6_stir 26 = .ok (.iconst 0, 1) := by decide +kernel
theorem dX6_stir_27 : decode cX6_stir 27 = .ok (.istore 4, 2) := by decide +kernel
theorem dX6_stir_29 : decode cX6_stir 29 = .ok (.iload 4, 2) := by decide +kernel
theorem dX6_stir_31 : decode cX6_stir 31 = .ok (.iconst 4, 1) := by decide +kernel
theorem dX6_stir_32 : decode cX6_stir 32 = .ok (.if_icmp .ge 57, 3) := by decide +kernel
theorem dX6_stir_35 : decode cX6_stir 35 = .ok (.aload_n 0, 1) := by decide +kernel
theorem dX6_stir_36 : decode cX6_stir 36 = .ok (.getfield 25, 3) := by decide +kernel
theorem dX6_stir_39 : decode cX6_stir 39 = .ok (.iconst 0, 1) := by decide +kernel
theorem dX6_stir_40 : decode cX6_stir 40 = .ok (.aload_n 0, 1) := by decide +kernel
theorem dX6_stir_41 : decode cX6_stir 41 = .ok (.getfield 31, 3) := by decide +kernel
theorem dX6_stir_44 : decode cX6_stir 44 = .ok (.iconst 0, 1) := by decide +kernel
theorem dX6_stir_45 : decode cX6_stir 45 = .ok (.invokestatic 135, 3) := by decide +kernel
theorem dX6_stir_48 : decode cX6_stir 48 = .ok (.aload_n 0, 1) := by decide +kernel
theorem dX6_stir_49 : decode cX6_stir 49 = .ok (.getfield 31, 3) := by decide +kernel
theorem dX6_stir_52 : decode cX6_stir 52 = .ok (.iconst 5, 1) := by decide +kernel
theorem dX6_stir_53 : decode cX6_stir 53 = .ok (.iload_n 2, 1) := by decide +kernel
theorem dX6_stir_54 : decode cX6_stir 54 = .ok (.iadd, 1) := by decide +kernel
theorem dX6_stir_55 : decode cX6_stir 55 = .ok (.iload 4, 2) := by decide +kernel
theorem dX6_stir_57 : decode cX6_stir 57 = .ok (.iastore, 1) := by decide +kernel
theorem dX6_stir_58 : decode cX6_stir 58 = .ok (.aload_n 0, 1) := by decide +kernel
theorem dX6_stir_59 : decode cX6_stir 59 = .ok (.iload_n 3, 1) := by decide +kernel
theorem dX6_stir_60 : decode cX6_stir 60 = .ok (.invokevirtual 192, 3) := by decide +kernel
theorem dX6_stir_63 : decode cX6_stir 63 = .ok (.aload_n 0, 1) := by decide +kernel
theorem dX6_stir_64 : decode cX6_stir 64 = .ok (.getfield 31, 3) := by decide +kernel
theorem dX6_stir_67 : decode cX6_stir 67 = .ok (.bipush 17, 2) := by decide +kernel
theorem dX6_stir_69 : decode cX6_stir 69 = .ok (.iconst 4, 1) := by decide +kernel
theorem dX6_stir_70 : decode cX6_stir 70 = .ok (.iload_n 1, 1) := by decide +kernel
theorem dX6_stir_71 : decode cX6_stir 71 = .ok (.imul, 1) := by decide +kernel
theorem dX6_stir_72 : decode cX6_stir 72 = .ok (.iadd, 1) := by decide +kernel
theorem dX6_stir_73 : decode cX6_stir 73 = .ok (.iconst 3, 1) := by decide +kernel
theorem dX6_stir_74 : decode cX6_stir 74 = .ok (.iadd, 1) := by decide +kernel
theorem dX6_stir_75 : decode cX6_stir 75 = .ok (.iaload, 1) := by decide +kernel
theorem dX6_stir_76 : decode cX6_stir 76 = .ok (.iconst 1, 1) := by decide +kernel
theorem dX6_stir_77 : decode cX6_stir 77 = .ok (.if_icmp .ne 6, 3) := by decide +kernel
theorem dX6_stir_80 : decode cX6_stir 80 = .ok (.iload 4, 2) := by decide +kernel
theorem dX6_stir_82 : decode cX6_stir 82 = .ok (.ireturn, 1) := by decide +kernel
theorem dX6_stir_83 : decode cX6_stir 83 = .ok (.iinc 4 1, 3) := by decide +kernel
theorem dX6_stir_86 : decode cX6_stir 86 = .ok (.goto (-57), 3) := by decide +kernel
theorem dX6_stir_89 : decode cX6_stir 89 = .ok (.ldc 47, 2) := by decide +kernel
theorem dX6_stir_91 : decode cX6_stir 91 = .ok (.ireturn, 1) := by decide +kernel
theorem dX6_share_0 : decode cX6_share 0 = .ok (.aload_n 0, 1) := by decide +kernel
theorem dX6_share_1 : decode cX6_share 1 = .ok (.iload_n 1, 1) := by decide +kernel
theorem dX6_share_2 : decode cX6_share 2 = .ok (.invokevirtual 176, 3) := by decide +kernel
theorem dX6_share_5 : decode cX6_share 5 = .ok (.ifCond .eq 14, 3) := by decide +kernel
theorem dX6_share_8 : decode cX6_share 8 = .ok (.iload_n 2, 1) := by decide +kernel
theorem dX6_share_9 : decode cX6_share 9 = .ok (.iconst 0, 1) := by decide +kernel
theorem dX6_share_10 : decode cX6_share 10 = .ok (.sipush 999, 3) := by decide +kernel
theorem dX6_share_13 : decode cX6_share 13 = .ok (.invokestatic 53, 3) := by decide +kernel
theorem dX6_share_16 : decode cX6_share 16 = .ok (.ifCond .ne 6, 3) := by decide +kernel
theorem dX6_share_19 : decode cX6_share 19 = .ok (.ldc 61, 2) := by decide +kernel
theorem dX6_share_21 : decode cX6_share 21 = .ok (.ireturn, 1) := by decide +kernel
theorem dX6_share_22 : decode cX6_share 22 = .ok (.aload_n 0, 1) := by decide +kernel
theorem dX6_share_23 : decode cX6_share 23 = .ok (.getfield 25, 3) := by decide +kernel
theorem dX6_share_26 : decode cX6_share 26 = .ok (.invokestatic 196, 3) := by decide +kernel
theorem dX6_share_29 : decode cX6_share 29 = .ok (.istore_n 3, 1) := by decide +kernel
theorem dX6_share_30 : decode cX6_share 30 = .ok (.aload_n 0, 1) := by decide +kernel
theorem dX6_share_31 : decode cX6_share 31 = .ok (.getfield 25, 3) := by decide +kernel
theorem dX6_share_34 : decode cX6_share 34 = .ok (.bipush 17, 2) := by decide +kernel
theorem dX6_share_36 : decode cX6_share 36 = .ok (.iconst 4, 1) := by decide +kernel
theorem dX6_share_37 : decode cX6_share 37 = .ok (.iload_n 1, 1) := by decide +kernel
theorem dX6_share_38 : decode cX6_share 38 = .ok (.imul, 1) := by decide +kernel
theorem dX6_share_39 : decode cX6_share 39 = .ok (.iadd, 1) := by decide +kernel
theorem dX6_share_40 : decode cX6_share 40 = .ok (.iconst 1, 1) := by decide +kernel
theorem dX6_share_41 : decode cX6_share 41 = .ok (.iadd, 1) := by decide +kernel
theorem dX6_share_42 : decode cX6_share 42 = .ok (.iaload, 1) := by decide +kernel
theorem dX6_share_43 : decode cX6_share 43 = .ok (.istore 4, 2) := by decide +kernel
theorem dX6_share_45 : decode cX6_share 45 = .ok (.iload 4, 2) := by decide +kernel
theorem dX6_share_47 : decode cX6_share 47 = .ok (.ifCond .ne 5, 3) := by decide +kernel
theorem dX6_share_50 : decode cX6_share 50 = .ok (.iconst 0, 1) := by decide +kernel
theorem dX6_share_51 : decode cX6_share 51 = .ok (.ireturn, 1) := by decide +kernel
theorem dX6_share_52 : decode cX6_share 52 = .ok (.iload_n 2, 1) := by decide +kernel
theorem dX6_share_53 : decode cX6_share 53 = .ok (.istore 5, 2) := by decide +kernel
theorem dX6_share_55 : decode cX6_share 55 = .ok (.iconst 0, 1) := by decide +kernel
theorem dX6_share_56 : decode cX6_share 56 = .ok (.istore 6, 2) := by decide +kernel
theorem dX6_share_58 : decode cX6_share 58 = .ok (.iconst 0, 1) := by decide +kernel
theorem dX6_share_59 : decode cX6_share 59 = .ok (.istore 7, 2) := by decide +kernel
theorem dX6_share_61 : decode cX6_share 61 = .ok (.iload 7, 2) := by decide +kernel
theorem dX6_share_63 : decode cX6_share 63 = .ok (.aload_n 0, 1) := by decide +kernel
theorem dX6_share_64 : decode cX6_share 64 = .ok (.getfield 25, 3) := by decide +kernel
theorem dX6_share_67 : decode cX6_share 67 = .ok (.iconst 3, 1) := by decide +kernel
theorem dX6_share_68 : decode cX6_share 68 = .ok (.iaload, 1) := by decide +kernel
theorem dX6_share_69 : decode cX6_share 69 = .ok (.if_icmp .ge 65, 3) := by decide +kernel
theorem dX6_share_72 : decode cX6_share 72 = .ok (.iload 5, 2) := by decide +kernel
theorem dX6_share_74 : decode cX6_share 74 = .ok (.iload_n 2, 1) := by decide +kernel
theorem dX6_share_75 : decode cX6_share 75 = .ok (.aload_n 0, 1) := by decide +kernel
theorem dX6_share_76 : decode cX6_share 76 = .ok (.getfield 25, 3) := by decide +kernel
theorem dX6_share_79 : decode cX6_share 79 = .ok (.bipush 17, 2) := by decide +kernel
theorem dX6_share_81 : decode cX6_share 81 = .ok (.iconst 4, 1) := by decide +kernel
theorem dX6_share_82 : decode cX6_share 82 = .ok (.iload 7, 2) := by decide +kernel
theorem dX6_share_84 : decode cX6_share 84 = .ok (.imul, 1) := by decide +kernel
theorem dX6_share_85 : decode cX6_share 85 = .ok (.iadd, 1) := by decide +kernel
theorem dX6_share_86 : decode cX6_share 86 = .ok (.iconst 1, 1) := by decide +kernel
theorem dX6_share_87 : decode cX6_share 87 = .ok (.iadd, 1) := by decide +kernel
theorem dX6_share_88 : decode cX6_share 88 = .ok (.iaload, 1) := by decide +kernel
theorem dX6_share_89 : decode cX6_share 89 = .ok (.imul, 1) := by decide +kernel
theorem dX6_share_90 : decode cX6_share 90 = .ok (.iload_n 3, 1) := by decide +kernel
theorem dX6_share_91 : decode cX6_share 91 = .ok (.idiv, 1) := by decide +kernel
theorem dX6_share_92 : decode cX6_share 92 = .ok (.isub, 1) := by decide +kernel
theorem dX6_share_93 : decode cX6_share 93 = .ok (.istore 5, 2) := by decide +kernel
theorem dX6_share_95 : decode cX6_share 95 = .ok (.iload 6, 2) := by decide +kernel
theorem dX6_share_97 : decode cX6_share 97 = .ok (.iload 7, 2) := by decide +kernel
theorem dX6_share_99 : decode cX6_share 99 = .ok (.iload_n 1, 1) := by decide +kernel
theorem dX6_share_100 : decode cX6_share 100 = .ok (.if_icmp .ge 24, 3) := by decide +kernel
theorem dX6_share_103 : decode cX6_share 103 = .ok (.aload_n 0, 1) := by decide +kernel
theorem dX6_share_104 : decode cX6_share 104 = .ok (.getfield 25, 3) := by decide +kernel
theorem dX6_share_107 : decode cX6_share 107 = .ok (.bipush 17, 2) := by decide +kernel
theorem dX6_share_109 : decode cX6_share 109 = .ok (.iconst 4, 1) := by decide +kernel
theorem dX6_share_110 : decode cX6_share 110 = .ok (.iload 7, 2) := by decide +kernel
theorem dX6_share_112 : decode cX6_share 112 = .ok (.imul, 1) := by decide +kernel
theorem dX6_share_113 : decode cX6_share 113 = .ok (.iadd, 1) := by decide +kernel
theorem dX6_share_114 : decode cX6_share 114 = .ok (.iconst 1, 1) := by decide +kernel
theorem dX6_share_115 : decode cX6_share 115 = .ok (.iadd, 1) := by decide +kernel
theorem dX6_share_116 : decode cX6_share 116 = .ok (.iaload, 1) := by decide +kernel
theorem dX6_share_117 : decode cX6_share 117 = .ok (.ifCond .le 7, 3) := by decide +kernel
theorem dX6_share_120 : decode cX6_share 120 = .ok (.iconst 1, 1) := by decide +kernel
theorem dX6_share_121 : decode cX6_share 121 = .ok (.goto 4, 3) := by decide +kernel
theorem dX6_share_124 : decode cX6_share 124 = .ok (.iconst 0, 1) := by decide +kernel
theorem dX6_share_125 : decode cX6_share 125 = .ok (.iadd, 1) := by decide +kernel
theorem dX6_share_126 : decode cX6_share 126 = .ok (.istore 6, 2) := by decide +kernel
theorem dX6_share_128 : decode cX6_share 128 = .ok (.iinc 7 1, 3) := by decide +kernel
theorem dX6_share_131 : decode cX6_share 131 = .ok (.goto (-70), 3) := by decide +kernel
theorem dX6_share_134 : decode cX6_share 134 = .ok (.iload_n 2, 1) := by decide +kernel
theorem dX6_share_135 : decode cX6_share 135 = .ok (.iload 4, 2) := by decide +kernel
theorem dX6_share_137 : decode cX6_share 137 = .ok (.imul, 1) := by decide +kernel
theorem dX6_share_138 : decode cX6_share 138 = .ok (.iload_n 3, 1) := by decide +kernel
theorem dX6_share_139 : decode cX6_share 139 = .ok (.idiv, 1) := by decide +kernel
theorem dX6_share_140 : decode cX6_share 140 = .ok (.iload 6, 2) := by decide +kernel
theorem dX6_share_142 : decode cX6_share 142 = .ok (.iload 5, 2) := by decide +kernel
theorem dX6_share_144 : decode cX6_share 144 = .ok (.if_icmp .ge 7, 3) := by decide +kernel
theorem dX6_share_147 : decode cX6_share 147 = .ok (.iconst 1, 1) := by decide +kernel
theorem dX6_share_148 : decode cX6_share 148 = .ok (.goto 4, 3) := by decide +kernel
theorem dX6_share_151 : decode cX6_share 151 = .ok (.iconst 0, 1) := by decide +kernel
theorem dX6_share_152 : decode cX6_share 152 = .ok (.iadd, 1) := by decide +kernel
theorem dX6_share_153 : decode cX6_share 153 = .ok (.ireturn, 1) := by decide +kernel
theorem dX6_isSeen_0 : decode cX6_isSeen 0 = .ok (.aload_n 0, 1) := by decide +kernel
theorem dX6_isSeen_1 : decode cX6_isSeen 1 = .ok (.getfield 25, 3) := by decide +kernel
theorem dX6_isSeen_4 : decode cX6_isSeen 4 = .ok (.iconst 0, 1) := by decide +kernel
theorem dX6_isSeen_5 : decode cX6_isSeen 5 = .ok (.aload_n 0, 1) := by decide +kernel
theorem dX6_isSeen_6 : decode cX6_isSeen 6 = .ok (.getfield 31, 3) := by decide +kernel
theorem dX6_isSeen_9 : decode cX6_isSeen 9 = .ok (.iconst 0, 1) := by decide +kernel
theorem dX6_isSeen_10 : decode cX6_isSeen 10 = .ok (.invokestatic 135, 3) := by decide +kernel
theorem dX6_isSeen_13 : decode cX6_isSeen 13 = .ok (.aload_n 0, 1) := by decide +kernel
theorem dX6_isSeen_14 : decode cX6_isSeen 14 = .ok (.getfield 31, 3) := by decide +kernel
theorem dX6_isSeen_17 : decode cX6_isSeen 17 = .ok (.iload 4, 2) := by decide +kernel
theorem dX6_isSeen_19 : decode cX6_isSeen 19 = .ok (.iload 5, 2) := by decide +kernel
theorem dX6_isSeen_21 : decode cX6_isSeen 21 = .ok (.iastore, 1) := by decide +kernel
theorem dX6_isSeen_22 : decode cX6_isSeen 22 = .ok (.iconst 1, 1) := by decide +kernel
theorem dX6_isSeen_23 : decode cX6_isSeen 23 = .ok (.istore 6, 2) := by decide +kernel
theorem dX6_isSeen_25 : decode cX6_isSeen 25 = .ok (.iconst 0, 1) := by decide +kernel
theorem dX6_isSeen_26 : decode cX6_isSeen 26 = .ok (.istore 7, 2) := by decide +kernel
theorem dX6_isSeen_28 : decode cX6_isSeen 28 = .ok (.iload 7, 2) := by decide +kernel
theorem dX6_isSeen_30 : decode cX6_isSeen 30 = .ok (.iload_n 3, 1) := by decide +kernel
theorem dX6_isSeen_31 : decode cX6_isSeen 31 = .ok (.if_icmp .ge 64, 3) := by decide +kernel
theorem dX6_isSeen_34 : decode cX6_isSeen 34 = .ok (.aload_n 0, 1) := by decide +kernel
theorem dX6_isSeen_35 : decode cX6_isSeen 35 = .ok (.getfield 31, 3) := by decide +kernel
theorem dX6_isSeen_38 : decode cX6_isSeen 38 = .ok (.invokestatic 168, 3) := by decide +kernel
theorem dX6_isSeen_41 : decode cX6_isSeen 41 = .ok (.aload_n 0, 1) := by decide +kernel
theorem dX6_isSeen_42 : decode cX6_isSeen 42 = .ok (.getfield 31, 3) := by decide +kernel
theorem dX6_isSeen_45 : decode cX6_isSeen 45 = .ok (.iload_n 1, 1) := by decide +kernel
theorem dX6_isSeen_46 : decode cX6_isSeen 46 = .ok (.invokestatic 186, 3) := by decide +kernel
theorem dX6_isSeen_49 : decode cX6_isSeen 49 = .ok (.istore 8, 2) := by decide +kernel
theorem dX6_isSeen_51 : decode cX6_isSeen 51 = .ok (.iload 6, 2) := by decide +kernel
theorem dX6_isSeen_53 : decode cX6_isSeen 53 = .ok (.ifCond .eq 33, 3) := by decide +kernel
theorem dX6_isSeen_56 : decode cX6_isSeen 56 = .ok (.iload 8, 2) := by decide +kernel
theorem dX6_isSeen_58 : decode cX6_isSeen 58 = .ok (.ldc 47, 2) := by decide +kernel
theorem dX6_isSeen_60 : decode cX6_isSeen 60 = .ok (.if_icmp .ne 8, 3) := by decide +kernel
theorem dX6_isSeen_63 : decode cX6_isSeen 63 = .ok (.bipush 99, 2) := by decide +kernel
theorem dX6_isSeen_65 : decode cX6_isSeen 65 = .ok (.goto 5, 3) := by decide +kernel
theorem dX6_isSeen_68 : decode cX6_isSeen 68 = .ok (.iload 8, 2) := by decide +kernel
theorem dX6_isSeen_70 : decode cX6_isSeen 70 = .ok (.aload_n 0, 1) := by decide +kernel
theorem dX6_isSeen_71 : decode cX6_isSeen 71 = .ok (.getfield 16, 3) := by decide +kernel
theorem dX6_isSeen_74 : decode cX6_isSeen 74 = .ok (.iload_n 2, 1) := by decide +kernel
theorem dX6_isSeen_75 : decode cX6_isSeen 75 = .ok (.iload 7, 2) := by decide +kernel
theorem dX6_isSeen_77 : decode cX6_isSeen 77 = .ok (.iadd, 1) := by decide +kernel
theorem dX6_isSeen_78 : decode cX6_isSeen 78 = .ok (.iaload, 1) := by decide +kernel
theorem dX6_isSeen_79 : decode cX6_isSeen 79 = .ok (.if_icmp .ne 7, 3) := by decide +kernel
theorem dX6_isSeen_82 : decode cX6_isSeen 82 = .ok (.iconst 1, 1) := by decide +kernel
theorem dX6_isSeen_83 : decode cX6_isSeen 83 = .ok (.goto 4, 3) := by decide +kernel
theorem dX6_isSeen_86 : decode cX6_isSeen 86 = .ok (.iconst 0, 1) := by decide +kernel
theorem dX6_isSeen_87 : decode cX6_isSeen 87 = .ok (.istore 6, 2) := by decide +kernel
theorem dX6_isSeen_89 : decode cX6_isSeen 89 = .ok (.iinc 7 1, 3) := by decide +kernel
theorem dX6_isSeen_92 : decode cX6_isSeen 92 = .ok (.goto (-64), 3) := by decide +kernel
theorem dX6_isSeen_95 : decode cX6_isSeen 95 = .ok (.iload 6, 2) := by decide +kernel
theorem dX6_isSeen_97 : decode cX6_isSeen 97 = .ok (.ireturn, 1) := by decide +kernel
theorem dX6_fits_0 : decode cX6_fits 0 = .ok (.aload_n 0, 1) := by decide +kernel
theorem dX6_fits_1 : decode cX6_fits 1 = .ok (.iload_n 1, 1) := by decide +kernel
theorem dX6_fits_2 : decode cX6_fits 2 = .ok (.invokevirtual 176, 3) := by decide +kernel
theorem dX6_fits_5 : decode cX6_fits 5 = .ok (.ifCond .eq 31, 3) := by decide +kernel
theorem dX6_fits_8 : decode cX6_fits 8 = .ok (.iload_n 2, 1) := by decide +kernel
theorem dX6_fits_9 : decode cX6_fits 9 = .ok (.invokestatic 57, 3) := by decide +kernel
theorem dX6_fits_12 : decode cX6_fits 12 = .ok (.ifCond .eq 24, 3) := by decide +kernel
theorem dX6_fits_15 : decode cX6_fits 15 = .ok (.iload 4, 2) := by decide +kernel
theorem dX6_fits_17 : decode cX6_fits 17 = .ok (.iconst 1, 1) := by decide +kernel
theorem dX6_fits_18 : decode cX6_fits 18 = .ok (.bipush 12, 2) := by decide +kernel
theorem dX6_fits_20 : decode cX6_fits 20 = .ok (.invokestatic 53, 3) := by decide +kernel
theorem dX6_fits_23 : decode cX6_fits 23 = .ok (.ifCond .eq 13, 3) := by decide +kernel
theorem dX6_fits_26 : decode cX6_fits 26 = .ok (.iload 5, 2) := by decide +kernel
theorem dX6_fits_28 : decode cX6_fits 28 = .ok (.iconst 0, 1) := by decide +kernel
theorem dX6_fits_29 : decode cX6_fits 29 = .ok (.iconst 4, 1) := by decide +kernel
theorem dX6_fits_30 : decode cX6_fits 30 = .ok (.invokestatic 53, 3) := by decide +kernel
theorem dX6_fits_33 : decode cX6_fits 33 = .ok (.ifCond .ne 6, 3) := by decide +kernel
theorem dX6_fits_36 : decode cX6_fits 36 = .ok (.ldc 61, 2) := by decide +kernel
theorem dX6_fits_38 : decode cX6_fits 38 = .ok (.ireturn, 1) := by decide +kernel
theorem dX6_fits_39 : decode cX6_fits 39 = .ok (.aload_n 0, 1) := by decide +kernel
theorem dX6_fits_40 : decode cX6_fits 40 = .ok (.iload_n 1, 1) := by decide +kernel
theorem dX6_fits_41 : decode cX6_fits 41 = .ok (.invokevirtual 208, 3) := by decide +kernel
theorem dX6_fits_44 : decode cX6_fits 44 = .ok (.ifCond .eq 6, 3) := by decide +kernel
theorem dX6_fits_47 : decode cX6_fits 47 = .ok (.ldc 164, 2) := by decide +kernel
theorem dX6_fits_49 : decode cX6_fits 49 = .ok (.ireturn, 1) := by decide +kernel
theorem dX6_fits_50 : decode cX6_fits 50 = .ok (.aload_n 0, 1) := by decide +kernel
theorem dX6_fits_51 : decode cX6_fits 51 = .ok (.iload_n 2, 1) := by decide +kernel
theorem dX6_fits_52 : decode cX6_fits 52 = .ok (.invokevirtual 69, 3) := by decide +kernel
theorem dX6_fits_55 : decode cX6_fits 55 = .ok (.ifCond .eq 9, 3) := by decide +kernel
theorem dX6_fits_58 : decode cX6_fits 58 = .ok (.aload_n 0, 1) := by decide +kernel
theorem dX6_fits_59 : decode cX6_fits 59 = .ok (.iconst 1, 1) := by decide +kernel
theorem dX6_fits_60 : decode cX6_fits 60 = .ok (.invokevirtual 62, 3) := by decide +kernel
theorem dX6_fits_63 : decode cX6_fits 63 = .ok (.ireturn, 1) := by decide +kernel
theorem dX6_fits_64 : decode cX6_fits 64 = .ok (.aload_n 0, 1) := by decide +kernel
theorem dX6_fits_65 : decode cX6_fits 65 = .ok (.iload_n 2, 1) := by decide +kernel
theorem dX6_fits_66 : decode cX6_fits 66 = .ok (.iload_n 3, 1) := by decide +kernel
theorem dX6_fits_67 : decode cX6_fits 67 = .ok (.iload 4, 2) := by decide +kernel
theorem dX6_fits_69 : decode cX6_fits 69 = .ok (.invokevirtual 76, 3) := by decide +kernel
theorem dX6_fits_72 : decode cX6_fits 72 = .ok (.ifCond .ne 9, 3) := by decide +kernel
theorem dX6_fits_75 : decode cX6_fits 75 = .ok (.aload_n 0, 1) := by decide +kernel
theorem dX6_fits_76 : decode cX6_fits 76 = .ok (.iconst 2, 1) := by decide +kernel
theorem dX6_fits_77 : decode cX6_fits 77 = .ok (.invokevirtual 62, 3) := by decide +kernel
theorem dX6_fits_80 : decode cX6_fits 80 = .ok (.ireturn, 1) := by decide +kernel
theorem dX6_fits_81 : decode cX6_fits 81 = .ok (.bipush 17, 2) := by decide +kernel
theorem dX6_fits_83 : decode cX6_fits 83 = .ok (.iconst 4, 1) := by decide +kernel
theorem dX6_fits_84 : decode cX6_fits 84 = .ok (.iload_n 1, 1) := by decide +kernel
theorem dX6_fits_85 : decode cX6_fits 85 = .ok (.imul, 1) := by decide +kernel
theorem dX6_fits_86 : decode cX6_fits 86 = .ok (.iadd, 1) := by decide +kernel
theorem dX6_fits_87 : decode cX6_fits 87 = .ok (.istore 6, 2) := by decide +kernel
theorem dX6_fits_89 : decode cX6_fits 89 = .ok (.iload 5, 2) := by decide +kernel
theorem dX6_fits_91 : decode cX6_fits 91 = .ok (.ifCond .ne 8, 3) := by decide +kernel
theorem dX6_fits_94 : decode cX6_fits 94 = .ok (.iload 6, 2) := by decide +kernel
theorem dX6_fits_96 : decode cX6_fits 96 = .ok (.goto 30, 3) := by decide +kernel
theorem dX6_fits_99 : decode cX6_fits 99 = .ok (.iload 5, 2) := by decide +kernel
theorem dX6_fits_101 : decode cX6_fits 101 = .ok (.iconst 1, 1) := by decide +kernel
theorem dX6_fits_102 : decode cX6_fits 102 = .ok (.if_icmp .ne 10, 3) := by decide +kernel
theorem dX6_fits_105 : decode cX6_fits 105 = .ok (.iload 6, 2) := by decide +kernel
theorem dX6_fits_107 : decode cX6_fits 107 = .ok (.iconst 2, 1) := by decide +kernel
theorem dX6_fits_108 : decode cX6_fits 108 = .ok (.iadd, 1) := by decide +kernel
theorem dX6_fits_109 : decode cX6_fits 109 = .ok (.goto 17, 3) := by decide +kernel
theorem dX6_fits_112 : decode cX6_fits 112 = .ok (.iload 5, 2) := by decide +kernel
theorem dX6_fits_114 : decode cX6_fits 114 = .ok (.iconst 2, 1) := by decide +kernel
theorem dX6_fits_115 : decode cX6_fits 115 = .ok (.if_icmp .ne 7, 3) := by decide +kernel
theorem dX6_fits_118 : decode cX6_fits 118 = .ok (.iconst 0, 1) := by decide +kernel
theorem dX6_fits_119 : decode cX6_fits 119 = .ok (.goto 7, 3) := by decide +kernel
theorem dX6_fits_122 : decode cX6_fits 122 = .ok (.iload 6, 2) := by decide +kernel
theorem dX6_fits_124 : decode cX6_fits 124 = .ok (.iconst 1, 1) := by decide +kernel
theorem dX6_fits_125 : decode cX6_fits 125 = .ok (.iadd, 1) := by decide +kernel
theorem dX6_fits_126 : decode cX6_fits 126 = .ok (.istore 7, 2) := by decide +kernel
theorem dX6_fits_128 : decode cX6_fits 128 = .ok (.iload 5, 2) := by decide +kernel
theorem dX6_fits_130 : decode cX6_fits 130 = .ok (.ifCond .eq 9, 3) := by decide +kernel
theorem dX6_fits_133 : decode cX6_fits 133 = .ok (.iload 5, 2) := by decide +kernel
theorem dX6_fits_135 : decode cX6_fits 135 = .ok (.iconst 2, 1) := by decide +kernel
theorem dX6_fits_136 : decode cX6_fits 136 = .ok (.if_icmp .le 7, 3) := by decide +kernel
theorem dX6_fits_139 : decode cX6_fits 139 = .ok (.iconst 1, 1) := by decide +kernel
theorem dX6_fits_140 : decode cX6_fits 140 = .ok (.goto 4, 3) := by decide +kernel
theorem dX6_fits_143 : decode cX6_fits 143 = .ok (.iconst 0, 1) := by decide +kernel
theorem dX6_fits_144 : decode cX6_fits 144 = .ok (.istore 8, 2) := by decide +kernel
theorem dX6_fits_146 : decode cX6_fits 146 = .ok (.iload 5, 2) := by decide +kernel
theorem dX6_fits_148 : decode cX6_fits 148 = .ok (.ifCond .ne 7, 3) := by decide +kernel
theorem dX6_fits_151 : decode cX6_fits 151 = .ok (.iconst 5, 1) := by decide +kernel
theorem dX6_fits_152 : decode cX6_fits 152 = .ok (.goto 33, 3) := by decide +kernel
theorem dX6_fits_155 : decode cX6_fits 155 = .ok (.iload 5, 2) := by decide +kernel
theorem dX6_fits_157 : decode cX6_fits 157 = .ok (.iconst 1, 1) := by decide +kernel
theorem dX6_fits_158 : decode cX6_fits 158 = .ok (.if_icmp .ne 14, 3) := by decide +kernel
theorem dX6_fits_161 : decode cX6_fits 161 = .ok (.aload_n 0, 1) := by decide +kernel
theorem dX6_fits_162 : decode cX6_fits 162 = .ok (.getfield 25, 3) := by decide +kernel
theorem dX6_fits_165 : decode cX6_fits 165 = .ok (.iconst 2, 1) := by decide +kernel
theorem dX6_fits_166 : decode cX6_fits 166 = .ok (.iaload, 1) := by decide +kernel
theorem dX6_fits_167 : decode cX6_fits 167 = .ok (.iconst 1, 1) := by decide +kernel
theorem dX6_fits_168 : decode cX6_fits 168 = .ok (.isub, 1) := by decide +kernel
theorem dX6_fits_169 : decode cX6_fits 169 = .ok (.goto 16, 3) := by decide +kernel
theorem dX6_fits_172 : decode cX6_fits 172 = .ok (.iload 5, 2) := by decide +kernel
theorem dX6_fits_174 : decode cX6_fits 174 = .ok (.iconst 2, 1) := by decide +kernel
theorem dX6_fits_175 : decode cX6_fits 175 = .ok (.if_icmp .ne 8, 3) := by decide +kernel
theorem dX6_fits_178 : decode cX6_fits 178 = .ok (.bipush 15, 2) := by decide +kernel
theorem dX6_fits_180 : decode cX6_fits 180 = .ok (.goto 5, 3) := by decide +kernel
theorem dX6_fits_183 : decode cX6_fits 183 = .ok (.bipush 60, 2) := by decide +kernel
theorem dX6_fits_185 : decode cX6_fits 185 = .ok (.istore 9, 2) := by decide +kernel
theorem dX6_fits_187 : decode cX6_fits 187 = .ok (.iconst 0, 1) := by decide +kernel
theorem dX6_fits_188 : decode cX6_fits 188 = .ok (.istore 10, 2) := by decide +kernel
theorem dX6_fits_190 : decode cX6_fits 190 = .ok (.iconst 0, 1) := by decide +kernel
theorem dX6_fits_191 : decode cX6_fits 191 = .ok (.istore 11, 2) := by decide +kernel
theorem dX6_fits_193 : decode cX6_fits 193 = .ok (.ldc 47, 2) := by decide +kernel
theorem dX6_fits_195 : decode cX6_fits 195 = .ok (.istore 12, 2) := by decide +kernel
theorem dX6_fits_197 : decode cX6_fits 197 = .ok (.iload 9, 2) := by decide +kernel
theorem dX6_fits_199 : decode cX6_fits 199 = .ok (.istore 13, 2) := by decide +kernel
theorem dX6_fits_201 : decode cX6_fits 201 = .ok (.iload 13, 2) := by decide +kernel
theorem dX6_fits_203 : decode cX6_fits 203 = .ok (.iload 8, 2) := by decide +kernel
theorem dX6_fits_205 : decode cX6_fits 205 = .ok (.if_icmp .lt 55, 3) := by decide +kernel
theorem dX6_fits_208 : decode cX6_fits 208 = .ok (.aload_n 0, 1) := by decide +kernel
theorem dX6_fits_209 : decode cX6_fits 209 = .ok (.iload_n 1, 1) := by decide +kernel
theorem dX6_fits_210 : decode cX6_fits 210 = .ok (.bipush 40, 2) := by decide +kernel
theorem dX6_fits_212 : decode cX6_fits 212 = .ok (.iload_n 2, 1) := by decide +kernel
theorem dX6_fits_213 : decode cX6_fits 213 = .ok (.imul, 1) := by decide +kernel
theorem dX6_fits_214 : decode cX6_fits 214 = .ok (.iload_n 3, 1) := by decide +kernel
theorem dX6_fits_215 : decode cX6_fits 215 = .ok (.iadd, 1) := by decide +kernel
theorem dX6_fits_216 : decode cX6_fits 216 = .ok (.iload 4, 2) := by decide +kernel
theorem dX6_fits_218 : decode cX6_fits 218 = .ok (.iload 7, 2) := by decide +kernel
theorem dX6_fits_220 : decode cX6_fits 220 = .ok (.iload 13, 2) := by decide +kernel
theorem dX6_fits_222 : decode cX6_fits 222 = .ok (.invokevirtual 211, 3) := by decide +kernel
theorem dX6_fits_225 : decode cX6_fits 225 = .ok (.ifCond .eq 29, 3) := by decide +kernel
theorem dX6_fits_228 : decode cX6_fits 228 = .ok (.iload 10, 2) := by decide +kernel
theorem dX6_fits_230 : decode cX6_fits 230 = .ok (.iload 5, 2) := by decide +kernel
theorem dX6_fits_232 : decode cX6_fits 232 = .ok (.iconst 3, 1) := by decide +kernel
theorem dX6_fits_233 : decode cX6_fits 233 = .ok (.if_icmp .ge 10, 3) := by decide +kernel
theorem dX6_fits_236 : decode cX6_fits 236 = .ok (.iconst 1, 1) := by decide +kernel
theorem dX6_fits_237 : decode cX6_fits 237 = .ok (.iload 13, 2) := by decide +kernel
theorem dX6_fits_239 : decode cX6_fits 239 = .ok (.ishl, 1) := by decide +kernel
theorem dX6_fits_240 : decode cX6_fits 240 = .ok (.goto 4, 3) := by decide +kernel
theorem dX6_fits_243 : decode cX6_fits 243 = .ok (.iconst 0, 1) := by decide +kernel
theorem dX6_fits_244 : decode cX6_fits 244 = .ok (.ior, 1) := by decide +kernel
theorem dX6_fits_245 : decode cX6_fits 245 = .ok (.istore 10, 2) := by decide +kernel
theorem dX6_fits_247 : decode cX6_fits 247 = .ok (.iinc 11 1, 3) := by decide +kernel
theorem dX6_fits_250 : decode cX6_fits 250 = .ok (.iload 13, 2) := by decide +kernel
theorem dX6_fits_252 : decode cX6_fits 252 = .ok (.istore 12, 2) := by decide +kernel
theorem dX6_fits_254 : decode cX6_fits 254 = .ok (.iinc 13 (-1), 3) := by decide +kernel
theorem dX6_fits_257 : decode cX6_fits 257 = .ok (.goto (-56), 3) := by decide +kernel
theorem dX6_fits_260 : decode cX6_fits 260 = .ok (.aload_n 0, 1) := by decide +kernel
theorem dX6_fits_261 : decode cX6_fits 261 = .ok (.iload 5, 2) := by decide +kernel
theorem dX6_fits_263 : decode cX6_fits 263 = .ok (.iconst 3, 1) := by decide +kernel
theorem dX6_fits_264 : decode cX6_fits 264 = .ok (.if_icmp .ne 8, 3) := by decide +kernel
theorem dX6_fits_267 : decode cX6_fits 267 = .ok (.iload 11, 2) := by decide +kernel
theorem dX6_fits_269 : decode cX6_fits 269 = .ok (.goto 16, 3) := by decide +kernel
theorem dX6_fits_272 : decode cX6_fits 272 = .ok (.iload 5, 2) := by decide +kernel
theorem dX6_fits_274 : decode cX6_fits 274 = .ok (.iconst 4, 1) := by decide +kernel
theorem dX6_fits_275 : decode cX6_fits 275 = .ok (.if_icmp .ne 8, 3) := by decide +kernel
theorem dX6_fits_278 : decode cX6_fits 278 = .ok (.iload 12, 2) := by decide +kernel
theorem dX6_fits_280 : decode cX6_fits 280 = .ok (.goto 5, 3) := by decide +kernel
theorem dX6_fits_283 : decode cX6_fits 283 = .ok (.iload 10, 2) := by decide +kernel
theorem dX6_fits_285 : decode cX6_fits 285 = .ok (.invokevirtual 66, 3) := by decide +kernel
theorem dX6_fits_288 : decode cX6_fits 288 = .ok (.ireturn, 1) := by decide +kernel
theorem dX6_chance_0 : decode cX6_chance 0 = .ok (.aload_n 0, 1) := by decide +kernel
theorem dX6_chance_1 : decode cX6_chance 1 = .ok (.iload_n 1, 1) := by decide +kernel
theorem dX6_chance_2 : decode cX6_chance 2 = .ok (.invokevirtual 176, 3) := by decide +kernel
theorem dX6_chance_5 : decode cX6_chance 5 = .ok (.ifCond .eq 33, 3) := by decide +kernel
theorem dX6_chance_8 : decode cX6_chance 8 = .ok (.iload_n 2, 1) := by decide +kernel
theorem dX6_chance_9 : decode cX6_chance 9 = .ok (.iconst 0, 1) := by decide +kernel
theorem dX6_chance_10 : decode cX6_chance 10 = .ok (.bipush 8, 2) := by decide +kernel
theorem dX6_chance_12 : decode cX6_chance 12 = .ok (.invokestatic 53, 3) := by decide +kernel
theorem dX6_chance_15 : decode cX6_chance 15 = .ok (.ifCond .eq 23, 3) := by decide +kernel
theorem dX6_chance_18 : decode cX6_chance 18 = .ok (.iload_n 3, 1) := by decide +kernel
theorem dX6_chance_19 : decode cX6_chance 19 = .ok (.iconst 0, 1) := by decide +kernel
theorem dX6_chance_20 : decode cX6_chance 20 = .ok (.bipush 10, 2) := by decide +kernel
theorem dX6_chance_22 : decode cX6_chance 22 = .ok (.invokestatic 53, 3) := by decide +kernel
theorem dX6_chance_25 : decode cX6_chance 25 = .ok (.ifCond .eq 13, 3) := by decide +kernel
theorem dX6_chance_28 : decode cX6_chance 28 = .ok (.iload 4, 2) := by decide +kernel
theorem dX6_chance_30 : decode cX6_chance 30 = .ok (.iconst 0, 1) := by decide +kernel
theorem dX6_chance_31 : decode cX6_chance 31 = .ok (.iconst 1, 1) := by decide +kernel
theorem dX6_chance_32 : decode cX6_chance 32 = .ok (.invokestatic 53, 3) := by decide +kernel
theorem dX6_chance_35 : decode cX6_chance 35 = .ok (.ifCond .ne 6, 3) := by decide +kernel
theorem dX6_chance_38 : decode cX6_chance 38 = .ok (.ldc 61, 2) := by decide +kernel
theorem dX6_chance_40 : decode cX6_chance 40 = .ok (.ireturn, 1) := by decide +kernel
theorem dX6_chance_41 : decode cX6_chance 41 = .ok (.iconst 0, 1) := by decide +kernel
theorem dX6_chance_42 : decode cX6_chance 42 = .ok (.istore 5, 2) := by decide +kernel
theorem dX6_chance_44 : decode cX6_chance 44 = .ok (.iconst 1, 1) := by decide +kernel
theorem dX6_chance_45 : decode cX6_chance 45 = .ok (.istore 6, 2) := by decide +kernel
theorem dX6_chance_47 : decode cX6_chance 47 = .ok (.iconst 0, 1) := by decide +kernel
theorem dX6_chance_48 : decode cX6_chance 48 = .ok (.istore 7, 2) := by decide +kernel
theorem dX6_chance_50 : decode cX6_chance 50 = .ok (.iload 7, 2) := by decide +kernel
theorem dX6_chance_52 : decode cX6_chance 52 = .ok (.iload_n 2, 1) := by decide +kernel
theorem dX6_chance_53 : decode cX6_chance 53 = .ok (.if_icmp .ge 16, 3) := by decide +kernel
theorem dX6_chance_56 : decode cX6_chance 56 = .ok (.iload 6, 2) := by decide +kernel
theorem dX6_chance_58 : decode cX6_chance 58 = .ok (.bipush 10, 2) := by decide +kernel
theorem dX6_chance_60 : decode cX6_chance 60 = .ok (.imul, 1) := by decide +kernel
theorem dX6_chance_61 : decode cX6_chance 61 = .ok (.istore 6, 2) := by decide +kernel
theorem dX6_chance_63 : decode cX6_chance 63 = .ok (.iinc 7 1, 3) := by decide +kernel
theorem dX6_chance_66 : decode cX6_chance 66 = .ok (.goto (-16), 3) := by decide +kernel
theorem dX6_chance_69 : decode cX6_chance 69 = .ok (.iconst 0, 1) := by decide +kernel
theorem dX6_chance_70 : decode cX6_chance 70 = .ok (.istore 7, 2) := by decide +kernel
theorem dX6_chance_72 : decode cX6_chance 72 = .ok (.iload 7, 2) := by decide +kernel
theorem dX6_chance_74 : decode cX6_chance 74 = .ok (.iconst 1, 1) := by decide +kernel
theorem dX6_chance_75 : decode cX6_chance 75 = .ok (.iload_n 2, 1) := by decide +kernel
theorem dX6_chance_76 : decode cX6_chance 76 = .ok (.ishl, 1) := by decide +kernel
theorem dX6_chance_77 : decode cX6_chance 77 = .ok (.if_icmp .ge 120, 3) := by decide +kernel
theorem dX6_chance_80 : decode cX6_chance 80 = .ok (.iconst 1, 1) := by decide +kernel
theorem dX6_chance_81 : decode cX6_chance 81 = .ok (.istore 8, 2) := by decide +kernel
theorem dX6_chance_83 : decode cX6_chance 83 = .ok (.aload_n 0, 1) := by decide +kernel
theorem dX6_chance_84 : decode cX6_chance 84 = .ok (.getfield 25, 3) := by decide +kernel
theorem dX6_chance_87 : decode cX6_chance 87 = .ok (.iconst 0, 1) := by decide +kernel
theorem dX6_chance_88 : decode cX6_chance 88 = .ok (.aload_n 0, 1) := by decide +kernel
theorem dX6_chance_89 : decode cX6_chance 89 = .ok (.getfield 31, 3) := by decide +kernel
theorem dX6_chance_92 : decode cX6_chance 92 = .ok (.iconst 0, 1) := by decide +kernel
theorem dX6_chance_93 : decode cX6_chance 93 = .ok (.invokestatic 135, 3) := by decide +kernel
theorem dX6_chance_96 : decode cX6_chance 96 = .ok (.iconst 0, 1) := by decide +kernel
theorem dX6_chance_97 : decode cX6_chance 97 = .ok (.istore 9, 2) := by decide +kernel
theorem dX6_chance_99 : decode cX6_chance 99 = .ok (.iload 9, 2) := by decide +kernel
theorem dX6_chance_101 : decode cX6_chance 101 = .ok (.iload_n 2, 1) := by decide +kernel
theorem dX6_chance_102 : decode cX6_chance 102 = .ok (.if_icmp .ge 61, 3) := by decide +kernel
theorem dX6_chance_105 : decode cX6_chance 105 = .ok (.iload 8, 2) := by decide +kernel
theorem dX6_chance_107 : decode cX6_chance 107 = .ok (.iload 7, 2) := by decide +kernel
theorem dX6_chance_109 : decode cX6_chance 109 = .ok (.iload 9, 2) := by decide +kernel
theorem dX6_chance_111 : decode cX6_chance 111 = .ok (.invokestatic 142, 3) := by decide +kernel
theorem dX6_chance_114 : decode cX6_chance 114 = .ok (.ifCond .eq 7, 3) := by decide +kernel
theorem dX6_chance_117 : decode cX6_chance 117 = .ok (.iload_n 3, 1) := by decide +kernel
theorem dX6_chance_118 : decode cX6_chance 118 = .ok (.goto 7, 3) := by decide +kernel
theorem dX6_chance_121 : decode cX6_chance 121 = .ok (.bipush 10, 2) := by decide +kernel
theorem dX6_chance_123 : decode cX6_chance 123 = .ok (.iload_n 3, 1) := by decide +kernel
theorem dX6_chance_124 : decode cX6_chance 124 = .ok (.isub, 1) := by decide +kernel
theorem dX6_chance_125 : decode cX6_chance 125 = .ok (.imul, 1) := by decide +kernel
theorem dX6_chance_126 : decode cX6_chance 126 = .ok (.istore 8, 2) := by decide +kernel
theorem dX6_chance_128 : decode cX6_chance 128 = .ok (.aload_n 0, 1) := by decide +kernel
theorem dX6_chance_129 : decode cX6_chance 129 = .ok (.getfield 31, 3) := by decide +kernel
theorem dX6_chance_132 : decode cX6_chance 132 = .ok (.iconst 0, 1) := by decide +kernel
theorem dX6_chance_133 : decode cX6_chance 133 = .ok (.iload 7, 2) := by decide +kernel
theorem dX6_chance_135 : decode cX6_chance 135 = .ok (.iload 9, 2) := by decide +kernel
theorem dX6_chance_137 : decode cX6_chance 137 = .ok (.invokestatic 142, 3) := by decide +kernel
theorem dX6_chance_140 : decode cX6_chance 140 = .ok (.ifCond .eq 8, 3) := by decide +kernel
theorem dX6_chance_143 : decode cX6_chance 143 = .ok (.bipush 15, 2) := by decide +kernel
theorem dX6_chance_145 : decode cX6_chance 145 = .ok (.goto 4, 3) := by decide +kernel
theorem dX6_chance_148 : decode cX6_chance 148 = .ok (.iconst 0, 1) := by decide +kernel
theorem dX6_chance_149 : decode cX6_chance 149 = .ok (.iastore, 1) := by decide +kernel
theorem dX6_chance_150 : decode cX6_chance 150 = .ok (.aload_n 0, 1) := by decide +kernel
theorem dX6_chance_151 : decode cX6_chance 151 = .ok (.getfield 31, 3) := by decide +kernel
theorem dX6_chance_154 : decode cX6_chance 154 = .ok (.invokestatic 168, 3) := by decide +kernel
theorem dX6_chance_157 : decode cX6_chance 157 = .ok (.iinc 9 1, 3) := by decide +kernel
theorem dX6_chance_160 : decode cX6_chance 160 = .ok (.goto (-61), 3) := by decide +kernel
theorem dX6_chance_163 : decode cX6_chance 163 = .ok (.iload 5, 2) := by decide +kernel
theorem dX6_chance_165 : decode cX6_chance 165 = .ok (.aload_n 0, 1) := by decide +kernel
theorem dX6_chance_166 : decode cX6_chance 166 = .ok (.getfield 31, 3) := by decide +kernel
theorem dX6_chance_169 : decode cX6_chance 169 = .ok (.bipush 17, 2) := by decide +kernel
theorem dX6_chance_171 : decode cX6_chance 171 = .ok (.iconst 4, 1) := by decide +kernel
theorem dX6_chance_172 : decode cX6_chance 172 = .ok (.iload_n 1, 1) := by decide +kernel
theorem dX6_chance_173 : decode cX6_chance 173 = .ok (.imul, 1) := by decide +kernel
theorem dX6_chance_174 : decode cX6_chance 174 = .ok (.iadd, 1) := by decide +kernel
theorem dX6_chance_175 : decode cX6_chance 175 = .ok (.iconst 3, 1) := by decide +kernel
theorem dX6_chance_176 : decode cX6_chance 176 = .ok (.iadd, 1) := by decide +kernel
theorem dX6_chance_177 : decode cX6_chance 177 = .ok (.iaload, 1) := by decide +kernel
theorem dX6_chance_178 : decode cX6_chance 178 = .ok (.iconst 1, 1) := by decide +kernel
theorem dX6_chance_179 : decode cX6_chance 179 = .ok (.if_icmp .ne 8, 3) := by decide +kernel
theorem dX6_chance_182 : decode cX6_chance 182 = .ok (.iload 8, 2) := by decide +kernel
theorem dX6_chance_184 : decode cX6_chance 184 = .ok (.goto 4, 3) := by decide +kernel
theorem dX6_chance_187 : decode cX6_chance 187 = .ok (.iconst 0, 1) := by decide +kernel
theorem dX6_chance_188 : decode cX6_chance 188 = .ok (.iadd, 1) := by decide +kernel
theorem dX6_chance_189 : decode cX6_chance 189 = .ok (.istore 5, 2) := by decide +kernel
theorem dX6_chance_191 : decode cX6_chance 191 = .ok (.iinc 7 1, 3) := by decide +kernel
theorem dX6_chance_194 : decode cX6_chance 194 = .ok (.goto (-122), 3) := by decide +kernel
theorem dX6_chance_197 : decode cX6_chance 197 = .ok (.iload 5, 2) := by decide +kernel
theorem dX6_chance_199 : decode cX6_chance 199 = .ok (.istore 7, 2) := by decide +kernel
theorem dX6_chance_201 : decode cX6_chance 201 = .ok (.iload 6, 2) := by decide +kernel
theorem dX6_chance_203 : decode cX6_chance 203 = .ok (.istore 8, 2) := by decide +kernel
theorem dX6_chance_205 : decode cX6_chance 205 = .ok (.iload 8, 2) := by decide +kernel
theorem dX6_chance_207 : decode cX6_chance 207 = .ok (.ifCond .eq 21, 3) := by decide +kernel
theorem dX6_chance_210 : decode cX6_chance 210 = .ok (.iload 7, 2) := by decide +kernel
theorem dX6_chance_212 : decode cX6_chance 212 = .ok (.iload 8, 2) := by decide +kernel
theorem dX6_chance_214 : decode cX6_chance 214 = .ok (.irem, 1) := by decide +kernel
theorem dX6_chance_215 : decode cX6_chance 215 = .ok (.istore 9, 2) := by decide +kernel
theorem dX6_chance_217 : decode cX6_chance 217 = .ok (.iload 8, 2) := by decide +kernel
theorem dX6_chance_219 : decode cX6_chance 219 = .ok (.istore 7, 2) := by decide +kernel
theorem dX6_chance_221 : decode cX6_chance 221 = .ok (.iload 9, 2) := by decide +kernel
theorem dX6_chance_223 : decode cX6_chance 223 = .ok (.istore 8, 2) := by decide +kernel
theorem dX6_chance_225 : decode cX6_chance 225 = .ok (.goto (-20), 3) := by decide +kernel
theorem dX6_chance_228 : decode cX6_chance 228 = .ok (.iload 4, 2) := by decide +kernel
theorem dX6_chance_230 : decode cX6_chance 230 = .ok (.ifCond .ne 8, 3) := by decide +kernel
theorem dX6_chance_233 : decode cX6_chance 233 = .ok (.iload 5, 2) := by decide +kernel
theorem dX6_chance_235 : decode cX6_chance 235 = .ok (.goto 5, 3) := by decide +kernel
theorem dX6_chance_238 : decode cX6_chance 238 = .ok (.iload 6, 2) := by decide +kernel
theorem dX6_chance_240 : decode cX6_chance 240 = .ok (.iload 7, 2) := by decide +kernel
theorem dX6_chance_242 : decode cX6_chance 242 = .ok (.idiv, 1) := by decide +kernel
theorem dX6_chance_243 : decode cX6_chance 243 = .ok (.ireturn, 1) := by decide +kernel
theorem dX6_drawn_0 : decode cX6_drawn 0 = .ok (.aload_n 0, 1) := by decide +kernel
theorem dX6_drawn_1 : decode cX6_drawn 1 = .ok (.invokevirtual 161, 3) := by decide +kernel
theorem dX6_drawn_4 : decode cX6_drawn 4 = .ok (.ifCond .ne 6, 3) := by decide +kernel
theorem dX6_drawn_7 : decode cX6_drawn 7 = .ok (.ldc 164, 2) := by decide +kernel
theorem dX6_drawn_9 : decode cX6_drawn 9 = .ok (.ireturn, 1) := by decide +kernel
theorem dX6_drawn_10 : decode cX6_drawn 10 = .ok (.iload_n 1, 1) := by decide +kernel
theorem dX6_drawn_11 : decode cX6_drawn 11 = .ok (.iconst 0, 1) := by decide +kernel
theorem dX6_drawn_12 : decode cX6_drawn 12 = .ok (.bipush 60, 2) := by decide +kernel
theorem dX6_drawn_14 : decode cX6_drawn 14 = .ok (.invokestatic 53, 3) := by decide +kernel
theorem dX6_drawn_17 : decode cX6_drawn 17 = .ok (.ifCond .eq 22, 3) := by decide +kernel
theorem dX6_drawn_20 : decode cX6_drawn 20 = .ok (.iload_n 2, 1) := by decide +kernel
theorem dX6_drawn_21 : decode cX6_drawn 21 = .ok (.iconst 1, 1) := by decide +kernel
theorem dX6_drawn_22 : decode cX6_drawn 22 = .ok (.ldc 215, 2) := by decide +kernel
theorem dX6_drawn_24 : decode cX6_drawn 24 = .ok (.invokestatic 53, 3) := by decide +kernel
theorem dX6_drawn_27 : decode cX6_drawn 27 = .ok (.ifCond .eq 12, 3) := by decide +kernel
theorem dX6_drawn_30 : decode cX6_drawn 30 = .ok (.iload_n 3, 1) := by decide +kernel
theorem dX6_drawn_31 : decode cX6_drawn 31 = .ok (.iconst 0, 1) := by decide +kernel
theorem dX6_drawn_32 : decode cX6_drawn 32 = .ok (.iconst 1, 1) := by decide +kernel
theorem dX6_drawn_33 : decode cX6_drawn 33 = .ok (.invokestatic 53, 3) := by decide +kernel
theorem dX6_drawn_36 : decode cX6_drawn 36 = .ok (.ifCond .ne 6, 3) := by decide +kernel
theorem dX6_drawn_39 : decode cX6_drawn 39 = .ok (.ldc 61, 2) := by decide +kernel
theorem dX6_drawn_41 : decode cX6_drawn 41 = .ok (.ireturn, 1) := by decide +kernel
theorem dX6_drawn_42 : decode cX6_drawn 42 = .ok (.aload_n 0, 1) := by decide +kernel
theorem dX6_drawn_43 : decode cX6_drawn 43 = .ok (.getfield 25, 3) := by decide +kernel
theorem dX6_drawn_46 : decode cX6_drawn 46 = .ok (.iconst 0, 1) := by decide +kernel
theorem dX6_drawn_47 : decode cX6_drawn 47 = .ok (.aload_n 0, 1) := by decide +kernel
theorem dX6_drawn_48 : decode cX6_drawn 48 = .ok (.getfield 31, 3) := by decide +kernel
theorem dX6_drawn_51 : decode cX6_drawn 51 = .ok (.iconst 0, 1) := by decide +kernel
theorem dX6_drawn_52 : decode cX6_drawn 52 = .ok (.invokestatic 135, 3) := by decide +kernel
theorem dX6_drawn_55 : decode cX6_drawn 55 = .ok (.iload_n 2, 1) := by decide +kernel
theorem dX6_drawn_56 : decode cX6_drawn 56 = .ok (.i2l, 1) := by decide +kernel
theorem dX6_drawn_57 : decode cX6_drawn 57 = .ok (.lstore 4, 2) := by decide +kernel
theorem dX6_drawn_59 : decode cX6_drawn 59 = .ok (.iconst 0, 1) := by decide +kernel
theorem dX6_drawn_60 : decode cX6_drawn 60 = .ok (.istore 6, 2) := by decide +kernel
theorem dX6_drawn_62 : decode cX6_drawn 62 = .ok (.iconst 0, 1) := by decide +kernel
theorem dX6_drawn_63 : decode cX6_drawn 63 = .ok (.istore 7, 2) := by decide +kernel
theorem dX6_drawn_65 : decode cX6_drawn 65 = .ok (.iload 7, 2) := by decide +kernel
theorem dX6_drawn_67 : decode cX6_drawn 67 = .ok (.iload_n 1, 1) := by decide +kernel
theorem dX6_drawn_68 : decode cX6_drawn 68 = .ok (.if_icmp .ge 113, 3) := by decide +kernel
theorem dX6_drawn_71 : decode cX6_drawn 71 = .ok (.lload 4, 2) := by decide +kernel
theorem dX6_drawn_73 : decode cX6_drawn 73 = .ok (.ldc2_w 216, 3) := by decide +kernel
theorem dX6_drawn_76 : decode cX6_drawn 76 = .ok (.lmul, 1) := by decide +kernel
theorem dX6_drawn_77 : decode cX6_drawn 77 = .ok (.ldc2_w 218, 3) := by decide +kernel
theorem dX6_drawn_80 : decode cX6_drawn 80 = .ok (.lrem, 1) := by decide +kernel
theorem dX6_drawn_81 : decode cX6_drawn 81 = .ok (.lstore 4, 2) := by decide +kernel
theorem dX6_drawn_83 : decode cX6_drawn 83 = .ok (.aload_n 0, 1) := by decide +kernel
theorem dX6_drawn_84 : decode cX6_drawn 84 = .ok (.getfield 31, 3) := by decide +kernel
theorem dX6_drawn_87 : decode cX6_drawn 87 = .ok (.iconst 0, 1) := by decide +kernel
theorem dX6_drawn_88 : decode cX6_drawn 88 = .ok (.lload 4, 2) := by decide +kernel
theorem dX6_drawn_90 : decode cX6_drawn 90 = .ok (.ldc2_w 220, 3) := by decide +kernel
theorem dX6_drawn_93 : decode cX6_drawn 93 = .ok (.lrem, 1) := by decide +kernel
theorem dX6_drawn_94 : decode cX6_drawn 94 = .ok (.l2i, 1) := by decide +kernel
theorem dX6_drawn_95 : decode cX6_drawn 95 = .ok (.iastore, 1) := by decide +kernel
theorem dX6_drawn_96 : decode cX6_drawn 96 = .ok (.aload_n 0, 1) := by decide +kernel
theorem dX6_drawn_97 : decode cX6_drawn 97 = .ok (.getfield 25, 3) := by decide +kernel
theorem dX6_drawn_100 : decode cX6_drawn 100 = .ok (.iconst 3, 1) := by decide +kernel
theorem dX6_drawn_101 : decode cX6_drawn 101 = .ok (.iaload, 1) := by decide +kernel
theorem dX6_drawn_102 : decode cX6_drawn 102 = .ok (.ifCond .le 66, 3) := by decide +kernel
theorem dX6_drawn_105 : decode cX6_drawn 105 = .ok (.lload 4, 2) := by decide +kernel
theorem dX6_drawn_107 : decode cX6_drawn 107 = .ok (.aload_n 0, 1) := by decide +kernel
theorem dX6_drawn_108 : decode cX6_drawn 108 = .ok (.getfield 25, 3) := by decide +kernel
theorem dX6_drawn_111 : decode cX6_drawn 111 = .ok (.iconst 3, 1) := by decide +kernel
theorem dX6_drawn_112 : decode cX6_drawn 112 = .ok (.iaload, 1) := by decide +kernel
theorem dX6_drawn_113 : decode cX6_drawn 113 = .ok (.i2l, 1) := by decide +kernel
theorem dX6_drawn_114 : decode cX6_drawn 114 = .ok (.lrem, 1) := by decide +kernel
theorem dX6_drawn_115 : decode cX6_drawn 115 = .ok (.l2i, 1) := by decide +kernel
theorem dX6_drawn_116 : decode cX6_drawn 116 = .ok (.istore 8, 2) := by decide +kernel
theorem dX6_drawn_118 : decode cX6_drawn 118 = .ok (.aload_n 0, 1) := by decide +kernel
theorem dX6_drawn_119 : decode cX6_drawn 119 = .ok (.getfield 31, 3) := by decide +kernel
theorem dX6_drawn_122 : decode cX6_drawn 122 = .ok (.bipush 17, 2) := by decide +kernel
theorem dX6_drawn_124 : decode cX6_drawn 124 = .ok (.iconst 4, 1) := by decide +kernel
theorem dX6_drawn_125 : decode cX6_drawn 125 = .ok (.iload 8, 2) := by decide +kernel
theorem dX6_drawn_127 : decode cX6_drawn 127 = .ok (.imul, 1) := by decide +kernel
theorem dX6_drawn_128 : decode cX6_drawn 128 = .ok (.iadd, 1) := by decide +kernel
theorem dX6_drawn_129 : decode cX6_drawn 129 = .ok (.iconst 3, 1) := by decide +kernel
theorem dX6_drawn_130 : decode cX6_drawn 130 = .ok (.iadd, 1) := by decide +kernel
theorem dX6_drawn_131 : decode cX6_drawn 131 = .ok (.iaload, 1) := by decide +kernel
theorem dX6_drawn_132 : decode cX6_drawn 132 = .ok (.iconst 1, 1) := by decide +kernel
theorem dX6_drawn_133 : decode cX6_drawn 133 = .ok (.if_icmp .ne 35, 3) := by decide +kernel
theorem dX6_drawn_136 : decode cX6_drawn 136 = .ok (.aload_n 0, 1) := by decide +kernel
theorem dX6_drawn_137 : decode cX6_drawn 137 = .ok (.getfield 31, 3) := by decide +kernel
theorem dX6_drawn_140 : decode cX6_drawn 140 = .ok (.iload 8, 2) := by decide +kernel
theorem dX6_drawn_142 : decode cX6_drawn 142 = .ok (.lload 4, 2) := by decide +kernel
theorem dX6_drawn_144 : decode cX6_drawn 144 = .ok (.ldc2_w 222, 3) := by decide +kernel
theorem dX6_drawn_147 : decode cX6_drawn 147 = .ok (.lrem, 1) := by decide +kernel
theorem dX6_drawn_148 : decode cX6_drawn 148 = .ok (.l2i, 1) := by decide +kernel
theorem dX6_drawn_149 : decode cX6_drawn 149 = .ok (.iconst 1, 1) := by decide +kernel
theorem dX6_drawn_150 : decode cX6_drawn 150 = .ok (.iadd, 1) := by decide +kernel
theorem dX6_drawn_151 : decode cX6_drawn 151 = .ok (.lload 4, 2) := by decide +kernel
theorem dX6_drawn_153 : decode cX6_drawn 153 = .ok (.aload_n 0, 1) := by decide +kernel
theorem dX6_drawn_154 : decode cX6_drawn 154 = .ok (.getfield 25, 3) := by decide +kernel
theorem dX6_drawn_157 : decode cX6_drawn 157 = .ok (.iconst 2, 1) := by decide +kernel
theorem dX6_drawn_158 : decode cX6_drawn 158 = .ok (.iaload, 1) := by decide +kernel
theorem dX6_drawn_159 : decode cX6_drawn 159 = .ok (.i2l, 1) := by decide +kernel
theorem dX6_drawn_160 : decode cX6_drawn 160 = .ok (.lrem, 1) := by decide +kernel
theorem dX6_drawn_161 : decode cX6_drawn 161 = .ok (.l2i, 1) := by decide +kernel
theorem dX6_drawn_162 : decode cX6_drawn 162 = .ok (.invokestatic 182, 3) := by decide +kernel
theorem dX6_drawn_165 : decode cX6_drawn 165 = .ok (.iinc 6 1, 3) := by decide +kernel
theorem dX6_drawn_168 : decode cX6_drawn 168 = .ok (.aload_n 0, 1) := by decide +kernel
theorem dX6_drawn_169 : decode cX6_drawn 169 = .ok (.getfield 31, 3) := by decide +kernel
theorem dX6_drawn_172 : decode cX6_drawn 172 = .ok (.invokestatic 168, 3) := by decide +kernel
theorem dX6_drawn_175 : decode cX6_drawn 175 = .ok (.iinc 7 1, 3) := by decide +kernel
theorem dX6_drawn_178 : decode cX6_drawn 178 = .ok (.goto (-113), 3) := by decide +kernel
theorem dX6_drawn_181 : decode cX6_drawn 181 = .ok (.iload_n 3, 1) := by decide +kernel
theorem dX6_drawn_182 : decode cX6_drawn 182 = .ok (.ifCond .ne 13, 3) := by decide +kernel
theorem dX6_drawn_185 : decode cX6_drawn 185 = .ok (.aload_n 0, 1) := by decide +kernel
theorem dX6_drawn_186 : decode cX6_drawn 186 = .ok (.getfield 31, 3) := by decide +kernel
theorem dX6_drawn_189 : decode cX6_drawn 189 = .ok (.invokestatic 196, 3) := by decide +kernel
theorem dX6_drawn_192 : decode cX6_drawn 192 = .ok (.goto 5, 3) := by decide +kernel
theorem dX6_drawn_195 : decode cX6_drawn 195 = .ok (.iload 6, 2) := by decide +kernel
theorem dX6_drawn_197 : decode cX6_drawn 197 = .ok (.ireturn, 1) := by decide +kernel
theorem dX6_image_0 : decode cX6_image 0 = .ok (.iload_n 1, 1) := by decide +kernel
theorem dX6_image_1 : decode cX6_image 1 = .ok (.iconst 0, 1) := by decide +kernel
theorem dX6_image_2 : decode cX6_image 2 = .ok (.iconst 1, 1) := by decide +kernel
theorem dX6_image_3 : decode cX6_image 3 = .ok (.invokestatic 53, 3) := by decide +kernel
theorem dX6_image_6 : decode cX6_image 6 = .ok (.ifCond .ne 6, 3) := by decide +kernel
theorem dX6_image_9 : decode cX6_image 9 = .ok (.ldc 61, 2) := by decide +kernel
theorem dX6_image_11 : decode cX6_image 11 = .ok (.ireturn, 1) := by decide +kernel
theorem dX6_image_12 : decode cX6_image 12 = .ok (.aload_n 0, 1) := by decide +kernel
theorem dX6_image_13 : decode cX6_image 13 = .ok (.invokevirtual 161, 3) := by decide +kernel
theorem dX6_image_16 : decode cX6_image 16 = .ok (.ifCond .ne 6, 3) := by decide +kernel
theorem dX6_image_19 : decode cX6_image 19 = .ok (.ldc 164, 2) := by decide +kernel
theorem dX6_image_21 : decode cX6_image 21 = .ok (.ireturn, 1) := by decide +kernel
theorem dX6_image_22 : decode cX6_image 22 = .ok (.aload_n 0, 1) := by decide +kernel
theorem dX6_image_23 : decode cX6_image 23 = .ok (.getfield 25, 3) := by decide +kernel
theorem dX6_image_26 : decode cX6_image 26 = .ok (.iconst 0, 1) := by decide +kernel
theorem dX6_image_27 : decode cX6_image 27 = .ok (.aload_n 0, 1) := by decide +kernel
theorem dX6_image_28 : decode cX6_image 28 = .ok (.getfield 37, 3) := by decide +kernel
theorem dX6_image_31 : decode cX6_image 31 = .ok (.bipush 45, 2) := by decide +kernel
theorem dX6_image_33 : decode cX6_image 33 = .ok (.iload_n 1, 1) := by decide +kernel
theorem dX6_image_34 : decode cX6_image 34 = .ok (.imul, 1) := by decide +kernel
theorem dX6_image_35 : decode cX6_image 35 = .ok (.invokestatic 135, 3) := by decide +kernel
theorem dX6_image_38 : decode cX6_image 38 = .ok (.aload_n 0, 1) := by decide +kernel
theorem dX6_image_39 : decode cX6_image 39 = .ok (.getfield 40, 3) := by decide +kernel
theorem dX6_image_42 : decode cX6_image 42 = .ok (.iload_n 1, 1) := by decide +kernel
theorem dX6_image_43 : decode cX6_image 43 = .ok (.iconst 1, 1) := by decide +kernel
theorem dX6_image_44 : decode cX6_image 44 = .ok (.bastore, 1) := by decide +kernel
theorem dX6_image_45 : decode cX6_image 45 = .ok (.iconst 1, 1) := by decide +kernel
theorem dX6_image_46 : decode cX6_image 46 = .ok (.ireturn, 1) := by decide +kernel
theorem dX6_restore_0 : decode cX6_restore 0 = .ok (.iload_n 1, 1) := by decide +kernel
theorem dX6_restore_1 : decode cX6_restore 1 = .ok (.iconst 0, 1) := by decide +kernel
theorem dX6_restore_2 : decode cX6_restore 2 = .ok (.iconst 1, 1) := by decide +kernel
theorem dX6_restore_3 : decode cX6_restore 3 = .ok (.invokestatic 53, 3) := by decide +kernel
theorem dX6_restore_6 : decode cX6_restore 6 = .ok (.ifCond .ne 6, 3) := by decide +kernel
theorem dX6_restore_9 : decode cX6_restore 9 = .ok (.ldc 61, 2) := by decide +kernel
theorem dX6_restore_11 : decode cX6_restore 11 = .ok (.ireturn, 1) := by decide +kernel
theorem dX6_restore_12 : decode cX6_restore 12 = .ok (.aload_n 0, 1) := by decide +kernel
theorem dX6_restore_13 : decode cX6_restore 13 = .ok (.getfield 40, 3) := by decide +kernel
theorem dX6_restore_16 : decode cX6_restore 16 = .ok (.iload_n 1, 1) := by decide +kernel
theorem dX6_restore_17 : decode cX6_restore 17 = .ok (.baload, 1) := by decide +kernel
theorem dX6_restore_18 : decode cX6_restore 18 = .ok (.ifCond .ne 6, 3) := by decide +kernel
theorem dX6_restore_21 : decode cX6_restore 21 = .ok (.ldc 164, 2) := by decide +kernel
theorem dX6_restore_23 : decode cX6_restore 23 = .ok (.ireturn, 1) := by decide +kernel
theorem dX6_restore_24 : decode cX6_restore 24 = .ok (.aload_n 0, 1) := by decide +kernel
theorem dX6_restore_25 : decode cX6_restore 25 = .ok (.getfield 37, 3) := by decide +kernel
theorem dX6_restore_28 : decode cX6_restore 28 = .ok (.bipush 45, 2) := by decide +kernel
theorem dX6_restore_30 : decode cX6_restore 30 = .ok (.iload_n 1, 1) := by decide +kernel
theorem dX6_restore_31 : decode cX6_restore 31 = .ok (.imul, 1) := by decide +kernel
theorem dX6_restore_32 : decode cX6_restore 32 = .ok (.aload_n 0, 1) := by decide +kernel
theorem dX6_restore_33 : decode cX6_restore 33 = .ok (.getfield 25, 3) := by decide +kernel
theorem dX6_restore_36 : decode cX6_restore 36 = .ok (.iconst 0, 1) := by decide +kernel
theorem dX6_restore_37 : decode cX6_restore 37 = .ok (.invokestatic 135, 3) := by decide +kernel
theorem dX6_restore_40 : decode cX6_restore 40 = .ok (.aload_n 0, 1) := by decide +kernel
theorem dX6_restore_41 : decode cX6_restore 41 = .ok (.iconst 0, 1) := by decide +kernel
theorem dX6_restore_42 : decode cX6_restore 42 = .ok (.putfield 139, 3) := by decide +kernel
theorem dX6_restore_45 : decode cX6_restore 45 = .ok (.iconst 1, 1) := by decide +kernel
theorem dX6_restore_46 : decode cX6_restore 46 = .ok (.ireturn, 1) := by decide +kernel
theorem dX6_kindIn_0 : decode cX6_kindIn 0 = .ok (.aload_n 0, 1) := by decide +kernel
theorem dX6_kindIn_1 : decode cX6_kindIn 1 = .ok (.getfield 25, 3) := by decide +kernel
theorem dX6_kindIn_4 : decode cX6_kindIn 4 = .ok (.bipush 17, 2) := by decide +kernel
theorem dX6_kindIn_6 : decode cX6_kindIn 6 = .ok (.iconst 4, 1) := by decide +kernel
theorem dX6_kindIn_7 : decode cX6_kindIn 7 = .ok (.iload_n 1, 1) := by decide +kernel
theorem dX6_kindIn_8 : decode cX6_kindIn 8 = .ok (.imul, 1) := by decide +kernel
theorem dX6_kindIn_9 : decode cX6_kindIn 9 = .ok (.iadd, 1) := by decide +kernel
theorem dX6_kindIn_10 : decode cX6_kindIn 10 = .ok (.iaload, 1) := by decide +kernel
theorem dX6_kindIn_11 : decode cX6_kindIn 11 = .ok (.ireturn, 1) := by decide +kernel
theorem dX6_kind_0 : decode cX6_kind 0 = .ok (.aload_n 0, 1) := by decide +kernel
theorem dX6_kind_1 : decode cX6_kind 1 = .ok (.iload_n 1, 1) := by decide +kernel
theorem dX6_kind_2 : decode cX6_kind 2 = .ok (.invokevirtual 176, 3) := by decide +kernel
theorem dX6_kind_5 : decode cX6_kind 5 = .ok (.ifCond .eq 11, 3) := by decide +kernel
theorem dX6_kind_8 : decode cX6_kind 8 = .ok (.aload_n 0, 1) := by decide +kernel
theorem dX6_kind_9 : decode cX6_kind 9 = .ok (.iload_n 1, 1) := by decide +kernel
theorem dX6_kind_10 : decode cX6_kind 10 = .ok (.invokevirtual 224, 3) := by decide +kernel
theorem dX6_kind_13 : decode cX6_kind 13 = .ok (.goto 5, 3) := by decide +kernel
theorem dX6_kind_16 : decode cX6_kind 16 = .ok (.ldc 61, 2) := by decide +kernel
theorem dX6_kind_18 : decode cX6_kind 18 = .ok (.ireturn, 1) := by decide +kernel
theorem dX6_as_0 : decode cX6_as 0 = .ok (.aload_n 0, 1) := by decide +kernel
theorem dX6_as_1 : decode cX6_as 1 = .ok (.iload_n 1, 1) := by decide +kernel
theorem dX6_as_2 : decode cX6_as 2 = .ok (.invokevirtual 176, 3) := by decide +kernel
theorem dX6_as_5 : decode cX6_as 5 = .ok (.ifCond .eq 12, 3) := by decide +kernel
theorem dX6_as_8 : decode cX6_as 8 = .ok (.iload_n 2, 1) := by decide +kernel
theorem dX6_as_9 : decode cX6_as 9 = .ok (.iconst 0, 1) := by decide +kernel
theorem dX6_as_10 : decode cX6_as 10 = .ok (.iconst 5, 1) := by decide +kernel
theorem dX6_as_11 : decode cX6_as 11 = .ok (.invokestatic 53, 3) := by decide +kernel
theorem dX6_as_14 : decode cX6_as 14 = .ok (.ifCond .ne 6, 3) := by decide +kernel
theorem dX6_as_17 : decode cX6_as 17 = .ok (.ldc 61, 2) := by decide +kernel
theorem dX6_as_19 : decode cX6_as 19 = .ok (.ireturn, 1) := by decide +kernel
theorem dX6_as_20 : decode cX6_as 20 = .ok (.aload_n 0, 1) := by decide +kernel
theorem dX6_as_21 : decode cX6_as 21 = .ok (.iload_n 1, 1) := by decide +kernel
theorem dX6_as_22 : decode cX6_as 22 = .ok (.invokevirtual 224, 3) := by decide +kernel
theorem dX6_as_25 : decode cX6_as 25 = .ok (.istore_n 3, 1) := by decide +kernel
theorem dX6_as_26 : decode cX6_as 26 = .ok (.iload_n 2, 1) := by decide +kernel
theorem dX6_as_27 : decode cX6_as 27 = .ok (.ifCond .eq 28, 3) := by decide +kernel
theorem dX6_as_30 : decode cX6_as 30 = .ok (.iload_n 2, 1) := by decide +kernel
theorem dX6_as_31 : decode cX6_as 31 = .ok (.iload_n 3, 1) := by decide +kernel
theorem dX6_as_32 : decode cX6_as 32 = .ok (.if_icmp .eq 23, 3) := by decide +kernel
theorem dX6_as_35 : decode cX6_as 35 = .ok (.iload_n 2, 1) := by decide +kernel
theorem dX6_as_36 : decode cX6_as 36 = .ok (.iconst 1, 1) := by decide +kernel
theorem dX6_as_37 : decode cX6_as 37 = .ok (.if_icmp .ne 8, 3) := by decide +kernel
theorem dX6_as_40 : decode cX6_as 40 = .ok (.iload_n 3, 1) := by decide +kernel
theorem dX6_as_41 : decode cX6_as 41 = .ok (.iconst 4, 1) := by decide +kernel
theorem dX6_as_42 : decode cX6_as 42 = .ok (.if_icmp .lt 13, 3) := by decide +kernel
theorem dX6_as_45 : decode cX6_as 45 = .ok (.iload_n 2, 1) := by decide +kernel
theorem dX6_as_46 : decode cX6_as 46 = .ok (.iconst 4, 1) := by decide +kernel
theorem dX6_as_47 : decode cX6_as 47 = .ok (.if_icmp .ne 12, 3) := by decide +kernel
theorem dX6_as_50 : decode cX6_as 50 = .ok (.iload_n 3, 1) := by decide +kernel
theorem dX6_as_51 : decode cX6_as 51 = .ok (.iconst 5, 1) := by decide +kernel
theorem dX6_as_52 : decode cX6_as 52 = .ok (.if_icmp .ne 7, 3) := by decide +kernel
theorem dX6_as_55 : decode cX6_as 55 = .ok (.iconst 1, 1) := by decide +kernel
theorem dX6_as_56 : decode cX6_as 56 = .ok (.goto 4, 3) := by decide +kernel
theorem dX6_as_59 : decode cX6_as 59 = .ok (.iconst 0, 1) := by decide +kernel
theorem dX6_as_60 : decode cX6_as 60 = .ok (.istore 4, 2) := by decide +kernel
theorem dX6_as_62 : decode cX6_as 62 = .ok (.iload 4, 2) := by decide +kernel
theorem dX6_as_64 : decode cX6_as 64 = .ok (.ifCond .eq 11, 3) := by decide +kernel
theorem dX6_as_67 : decode cX6_as 67 = .ok (.aload_n 0, 1) := by decide +kernel
theorem dX6_as_68 : decode cX6_as 68 = .ok (.iload_n 1, 1) := by decide +kernel
theorem dX6_as_69 : decode cX6_as 69 = .ok (.invokevirtual 66, 3) := by decide +kernel
theorem dX6_as_72 : decode cX6_as 72 = .ok (.goto 8, 3) := by decide +kernel
theorem dX6_as_75 : decode cX6_as 75 = .ok (.aload_n 0, 1) := by decide +kernel
theorem dX6_as_76 : decode cX6_as 76 = .ok (.iconst 3, 1) := by decide +kernel
theorem dX6_as_77 : decode cX6_as 77 = .ok (.invokevirtual 62, 3) := by decide +kernel
theorem dX6_as_80 : decode cX6_as 80 = .ok (.ireturn, 1) := by decide +kernel
theorem dX6_begins_0 : decode cX6_begins 0 = .ok (.aload_n 0, 1) := by decide +kernel
theorem dX6_begins_1 : decode cX6_begins 1 = .ok (.getfield 227, 3) := by decide +kernel
theorem dX6_begins_4 : decode cX6_begins 4 = .ok (.bipush 16, 2) := by decide +kernel
theorem dX6_begins_6 : decode cX6_begins 6 = .ok (.if_icmp .ge 23, 3) := by decide +kernel
theorem dX6_begins_9 : decode cX6_begins 9 = .ok (.aload_n 0, 1) := by decide +kernel
theorem dX6_begins_10 : decode cX6_begins 10 = .ok (.getfield 44, 3) := by decide +kernel
theorem dX6_begins_13 : decode cX6_begins 13 = .ok (.aload_n 0, 1) := by decide +kernel
theorem dX6_begins_14 : decode cX6_begins 14 = .ok (.getfield 227, 3) := by decide +kernel
theorem dX6_begins_17 : decode cX6_begins 17 = .ok (.iload_n 1, 1) := by decide +kernel
theorem dX6_begins_18 : decode cX6_begins 18 = .ok (.iastore, 1) := by decide +kernel
theorem dX6_begins_19 : decode cX6_begins 19 = .ok (.aload_n 0, 1) := by decide +kernel
theorem dX6_begins_20 : decode cX6_begins 20 = .ok (.dup, 1) := by decide +kernel
theorem dX6_begins_21 : decode cX6_begins 21 = .ok (.getfield 227, 3) := by decide +kernel
theorem dX6_begins_24 : decode cX6_begins 24 = .ok (.iconst 1, 1) := by decide +kernel
theorem dX6_begins_25 : decode cX6_begins 25 = .ok (.iadd, 1) := by decide +kernel
theorem dX6_begins_26 : decode cX6_begins 26 = .ok (.putfield 227, 3) := by decide +kernel
theorem dX6_begins_29 : decode cX6_begins 29 = .ok (.return_, 1) := by decide +kernel
theorem dX6_stickMark_0 : decode cX6_stickMark 0 = .ok (.aload_n 0, 1) := by decide +kernel
theorem dX6_stickMark_1 : decode cX6_stickMark 1 = .ok (.iload_n 1, 1) := by decide +kernel
theorem dX6_stickMark_2 : decode cX6_stickMark 2 = .ok (.invokevirtual 224, 3) := by decide +kernel
theorem dX6_stickMark_5 : decode cX6_stickMark 5 = .ok (.istore_n 2, 1) := by decide +kernel
theorem dX6_stickMark_6 : decode cX6_stickMark 6 = .ok (.iload_n 2, 1) := by decide +kernel
theorem dX6_stickMark_7 : decode cX6_stickMark 7 = .ok (.iconst 1, 1) := by decide +kernel
theorem dX6_stickMark_8 : decode cX6_stickMark 8 = .ok (.if_icmp .eq 19, 3) := by decide +kernel
theorem dX6_stickMark_11 : decode cX6_stickMark 11 = .ok (.aload_n 0, 1) := by decide +kernel
theorem dX6_stickMark_12 : decode cX6_stickMark 12 = .ok (.iload_n 2, 1) := by decide +kernel
theorem dX6_stickMark_13 : decode cX6_stickMark 13 = .ok (.iconst 2, 1) := by decide +kernel
theorem dX6_stickMark_14 : decode cX6_stickMark 14 = .ok (.if_icmp .ne 8, 3) := by decide +kernel
theorem dX6_stickMark_17 : decode cX6_stickMark 17 = .ok (.bipush 24, 2) := by decide +kernel
theorem dX6_stickMark_19 : decode cX6_stickMark 19 = .ok (.goto 5, 3) := by decide +kernel
theorem dX6_stickMark_22 : decode cX6_stickMark 22 = .ok (.bipush 22, 2) := by decide +kernel
theorem dX6_stickMark_24 : decode cX6_stickMark 24 = .ok (.invokevirtual 230, 3) := by decide +kernel
theorem dX6_stickMark_27 : decode cX6_stickMark 27 = .ok (.aload_n 0, 1) := by decide +kernel
theorem dX6_stickMark_28 : decode cX6_stickMark 28 = .ok (.bipush 21, 2) := by decide +kernel
theorem dX6_stickMark_30 : decode cX6_stickMark 30 = .ok (.invokevirtual 230, 3) := by decide +kernel
theorem dX6_stickMark_33 : decode cX6_stickMark 33 = .ok (.aload_n 0, 1) := by decide +kernel
theorem dX6_stickMark_34 : decode cX6_stickMark 34 = .ok (.bipush 20, 2) := by decide +kernel
theorem dX6_stickMark_36 : decode cX6_stickMark 36 = .ok (.invokevirtual 230, 3) := by decide +kernel
theorem dX6_stickMark_39 : decode cX6_stickMark 39 = .ok (.iload_n 1, 1) := by decide +kernel
theorem dX6_stickMark_40 : decode cX6_stickMark 40 = .ok (.aload_n 0, 1) := by decide +kernel
theorem dX6_stickMark_41 : decode cX6_stickMark 41 = .ok (.getfield 25, 3) := by decide +kernel
theorem dX6_stickMark_44 : decode cX6_stickMark 44 = .ok (.bipush 17, 2) := by decide +kernel
theorem dX6_stickMark_46 : decode cX6_stickMark 46 = .ok (.iconst 4, 1) := by decide +kernel
theorem dX6_stickMark_47 : decode cX6_stickMark 47 = .ok (.iload_n 1, 1) := by decide +kernel
theorem dX6_stickMark_48 : decode cX6_stickMark 48 = .ok (.imul, 1) := by decide +kernel
theorem dX6_stickMark_49 : decode cX6_stickMark 49 = .ok (.iadd, 1) := by decide +kernel
theorem dX6_stickMark_50 : decode cX6_stickMark 50 = .ok (.iconst 2, 1) := by decide +kernel
theorem dX6_stickMark_51 : decode cX6_stickMark 51 = .ok (.iadd, 1) := by decide +kernel
theorem dX6_stickMark_52 : decode cX6_stickMark 52 = .ok (.iaload, 1) := by decide +kernel
theorem dX6_stickMark_53 : decode cX6_stickMark 53 = .ok (.iadd, 1) := by decide +kernel
theorem dX6_stickMark_54 : decode cX6_stickMark 54 = .ok (.istore_n 3, 1) := by decide +kernel
theorem dX6_stickMark_55 : decode cX6_stickMark 55 = .ok (.iload_n 2, 1) := by decide +kernel
theorem dX6_stickMark_56 : decode cX6_stickMark 56 = .ok (.iconst 2, 1) := by decide +kernel
theorem dX6_stickMark_57 : decode cX6_stickMark 57 = .ok (.if_icmp .ne 9, 3) := by decide +kernel
theorem dX6_stickMark_60 : decode cX6_stickMark 60 = .ok (.iconst 2, 1) := by decide +kernel
theorem dX6_stickMark_61 : decode cX6_stickMark 61 = .ok (.iload_n 3, 1) := by decide +kernel
theorem dX6_stickMark_62 : decode cX6_stickMark 62 = .ok (.imul, 1) := by decide +kernel
theorem dX6_stickMark_63 : decode cX6_stickMark 63 = .ok (.goto 17, 3) := by decide +kernel
theorem dX6_stickMark_66 : decode cX6_stickMark 66 = .ok (.iload_n 2, 1) := by decide +kernel
theorem dX6_stickMark_67 : decode cX6_stickMark 67 = .ok (.iconst 3, 1) := by decide +kernel
theorem dX6_stickMark_68 : decode cX6_stickMark 68 = .ok (.if_icmp .ne 11, 3) := by decide +kernel
theorem dX6_stickMark_71 : decode cX6_stickMark 71 = .ok (.iload_n 3, 1) := by decide +kernel
theorem dX6_stickMark_72 : decode cX6_stickMark 72 = .ok (.sipush 1000, 3) := by decide +kernel
theorem dX6_stickMark_75 : decode cX6_stickMark 75 = .ok (.isub, 1) := by decide +kernel
theorem dX6_stickMark_76 : decode cX6_stickMark 76 = .ok (.goto 4, 3) := by decide +kernel
theorem dX6_stickMark_79 : decode cX6_stickMark 79 = .ok (.iload_n 3, 1) := by decide +kernel
theorem dX6_stickMark_80 : decode cX6_stickMark 80 = .ok (.ireturn, 1) := by decide +kernel
theorem dX6_salmonSize_0 : decode cX6_salmonSize 0 = .ok (.aload_n 0, 1) := by decide +kernel
theorem dX6_salmonSize_1 : decode cX6_salmonSize 1 = .ok (.iload_n 1, 1) := by decide +kernel
theorem dX6_salmonSize_2 : decode cX6_salmonSize 2 = .ok (.invokevirtual 224, 3) := by decide +kernel
theorem dX6_salmonSize_5 : decode cX6_salmonSize 5 = .ok (.iconst 5, 1) := by decide +kernel
theorem dX6_salmonSize_6 : decode cX6_salmonSize 6 = .ok (.if_icmp .ne 7, 3) := by decide +kernel
theorem dX6_salmonSize_9 : decode cX6_salmonSize 9 = .ok (.iconst 1, 1) := by decide +kernel
theorem dX6_salmonSize_10 : decode cX6_salmonSize 10 = .ok (.goto 4, 3) := by decide +kernel
theorem dX6_salmonSize_13 : decode cX6_salmonSize 13 = .ok (.iconst 0, 1) := by decide +kernel
theorem dX6_salmonSize_14 : decode cX6_salmonSize 14 = .ok (.istore_n 2, 1) := by decide +kernel
theorem dX6_salmonSize_15 : decode cX6_salmonSize 15 = .ok (.iload_n 2, 1) := by decide +kernel
theorem dX6_salmonSize_16 : decode cX6_salmonSize 16 = .ok (.ifCond .eq 9, 3) := by decide +kernel
theorem dX6_salmonSize_19 : decode cX6_salmonSize 19 = .ok (.aload_n 0, 1) := by decide +kernel
theorem dX6_salmonSize_20 : decode cX6_salmonSize 20 = .ok (.bipush 14, 2) := by decide +kernel
theorem dX6_salmonSize_22 : decode cX6_salmonSize 22 = .ok (.invokevirtual 230, 3) := by decide +kernel
theorem dX6_salmonSize_25 : decode cX6_salmonSize 25 = .ok (.aload_n 0, 1) := by decide +kernel
theorem dX6_salmonSize_26 : decode cX6_salmonSize 26 = .ok (.bipush 13, 2) := by decide +kernel
theorem dX6_salmonSize_28 : decode cX6_salmonSize 28 = .ok (.invokevirtual 230, 3) := by decide +kernel
theorem dX6_salmonSize_31 : decode cX6_salmonSize 31 = .ok (.aload_n 0, 1) := by decide +kernel
theorem dX6_salmonSize_32 : decode cX6_salmonSize 32 = .ok (.bipush 10, 2) := by decide +kernel
theorem dX6_salmonSize_34 : decode cX6_salmonSize 34 = .ok (.invokevirtual 230, 3) := by decide +kernel
theorem dX6_salmonSize_37 : decode cX6_salmonSize 37 = .ok (.aload_n 0, 1) := by decide +kernel
theorem dX6_salmonSize_38 : decode cX6_salmonSize 38 = .ok (.getfield 25, 3) := by decide +kernel
theorem dX6_salmonSize_41 : decode cX6_salmonSize 41 = .ok (.bipush 17, 2) := by decide +kernel
theorem dX6_salmonSize_43 : decode cX6_salmonSize 43 = .ok (.iconst 4, 1) := by decide +kernel
theorem dX6_salmonSize_44 : decode cX6_salmonSize 44 = .ok (.iload_n 1, 1) := by decide +kernel
theorem dX6_salmonSize_45 : decode cX6_salmonSize 45 = .ok (.imul, 1) := by decide +kernel
theorem dX6_salmonSize_46 : decode cX6_salmonSize 46 = .ok (.iadd, 1) := by decide +kernel
theorem dX6_salmonSize_47 : decode cX6_salmonSize 47 = .ok (.iconst 1, 1) := by decide +kernel
theorem dX6_salmonSize_48 : decode cX6_salmonSize 48 = .ok (.iadd, 1) := by decide +kernel
theorem dX6_salmonSize_49 : decode cX6_salmonSize 49 = .ok (.iaload, 1) := by decide +kernel
theorem dX6_salmonSize_50 : decode cX6_salmonSize 50 = .ok (.bipush 100, 2) := by decide +kernel
theorem dX6_salmonSize_52 : decode cX6_salmonSize 52 = .ok (.isub, 1) := by decide +kernel
theorem dX6_salmonSize_53 : decode cX6_salmonSize 53 = .ok (.istore_n 3, 1) := by decide +kernel
theorem dX6_salmonSize_54 : decode cX6_salmonSize 54 = .ok (.iload_n 2, 1) := by decide +kernel
theorem dX6_salmonSize_55 : decode cX6_salmonSize 55 = .ok (.ifCond .eq 9, 3) := by decide +kernel
theorem dX6_salmonSize_58 : decode cX6_salmonSize 58 = .ok (.iconst 2, 1) := by decide +kernel
theorem dX6_salmonSize_59 : decode cX6_salmonSize 59 = .ok (.iload_n 3, 1) := by decide +kernel
theorem dX6_salmonSize_60 : decode cX6_salmonSize 60 = .ok (.imul, 1) := by decide +kernel
theorem dX6_salmonSize_61 : decode cX6_salmonSize 61 = .ok (.goto 4, 3) := by decide +kernel
theorem dX6_salmonSize_64 : decode cX6_salmonSize 64 = .ok (.iload_n 3, 1) := by decide +kernel
theorem dX6_salmonSize_65 : decode cX6_salmonSize 65 = .ok (.ireturn, 1) := by decide +kernel
theorem dX6_stickSize_0 : decode cX6_stickSize 0 = .ok (.aload_n 0, 1) := by decide +kernel
theorem dX6_stickSize_1 : decode cX6_stickSize 1 = .ok (.iload_n 1, 1) := by decide +kernel
theorem dX6_stickSize_2 : decode cX6_stickSize 2 = .ok (.invokevirtual 224, 3) := by decide +kernel
theorem dX6_stickSize_5 : decode cX6_stickSize 5 = .ok (.iconst 2, 1) := by decide +kernel
theorem dX6_stickSize_6 : decode cX6_stickSize 6 = .ok (.if_icmp .ne 7, 3) := by decide +kernel
theorem dX6_stickSize_9 : decode cX6_stickSize 9 = .ok (.iconst 1, 1) := by decide +kernel
theorem dX6_stickSize_10 : decode cX6_stickSize 10 = .ok (.goto 4, 3) := by decide +kernel
theorem dX6_stickSize_13 : decode cX6_stickSize 13 = .ok (.iconst 0, 1) := by decide +kernel
theorem dX6_stickSize_14 : decode cX6_stickSize 14 = .ok (.istore_n 2, 1) := by decide +kernel
theorem dX6_stickSize_15 : decode cX6_stickSize 15 = .ok (.iload_n 2, 1) := by decide +kernel
theorem dX6_stickSize_16 : decode cX6_stickSize 16 = .ok (.ifCond .eq 9, 3) := by decide +kernel
theorem dX6_stickSize_19 : decode cX6_stickSize 19 = .ok (.aload_n 0, 1) := by decide +kernel
theorem dX6_stickSize_20 : decode cX6_stickSize 20 = .ok (.bipush 12, 2) := by decide +kernel
theorem dX6_stickSize_22 : decode cX6_stickSize 22 = .ok (.invokevirtual 230, 3) := by decide +kernel
theorem dX6_stickSize_25 : decode cX6_stickSize 25 = .ok (.aload_n 0, 1) := by decide +kernel
theorem dX6_stickSize_26 : decode cX6_stickSize 26 = .ok (.bipush 11, 2) := by decide +kernel
theorem dX6_stickSize_28 : decode cX6_stickSize 28 = .ok (.invokevirtual 230, 3) := by decide +kernel
theorem dX6_stickSize_31 : decode cX6_stickSize 31 = .ok (.aload_n 0, 1) := by decide +kernel
theorem dX6_stickSize_32 : decode cX6_stickSize 32 = .ok (.bipush 10, 2) := by decide +kernel
theorem dX6_stickSize_34 : decode cX6_stickSize 34 = .ok (.invokevirtual 230, 3) := by decide +kernel
theorem dX6_stickSize_37 : decode cX6_stickSize 37 = .ok (.aload_n 0, 1) := by decide +kernel
theorem dX6_stickSize_38 : decode cX6_stickSize 38 = .ok (.getfield 25, 3) := by decide +kernel
theorem dX6_stickSize_41 : decode cX6_stickSize 41 = .ok (.bipush 17, 2) := by decide +kernel
theorem dX6_stickSize_43 : decode cX6_stickSize 43 = .ok (.iconst 4, 1) := by decide +kernel
theorem dX6_stickSize_44 : decode cX6_stickSize 44 = .ok (.iload_n 1, 1) := by decide +kernel
theorem dX6_stickSize_45 : decode cX6_stickSize 45 = .ok (.imul, 1) := by decide +kernel
theorem dX6_stickSize_46 : decode cX6_stickSize 46 = .ok (.iadd, 1) := by decide +kernel
theorem dX6_stickSize_47 : decode cX6_stickSize 47 = .ok (.iconst 1, 1) := by decide +kernel
theorem dX6_stickSize_48 : decode cX6_stickSize 48 = .ok (.iadd, 1) := by decide +kernel
theorem dX6_stickSize_49 : decode cX6_stickSize 49 = .ok (.iaload, 1) := by decide +kernel
theorem dX6_stickSize_50 : decode cX6_stickSize 50 = .ok (.aload_n 0, 1) := by decide +kernel
theorem dX6_stickSize_51 : decode cX6_stickSize 51 = .ok (.iload_n 1, 1) := by decide +kernel
theorem dX6_stickSize_52 : decode cX6_stickSize 52 = .ok (.invokevirtual 233, 3) := by decide +kernel
theorem dX6_stickSize_55 : decode cX6_stickSize 55 = .ok (.iadd, 1) := by decide +kernel
theorem dX6_stickSize_56 : decode cX6_stickSize 56 = .ok (.istore_n 3, 1) := by decide +kernel
theorem dX6_stickSize_57 : decode cX6_stickSize 57 = .ok (.iload_n 2, 1) := by decide +kernel
theorem dX6_stickSize_58 : decode cX6_stickSize 58 = .ok (.ifCond .eq 8, 3) := by decide +kernel
theorem dX6_stickSize_61 : decode cX6_stickSize 61 = .ok (.iload_n 3, 1) := by decide +kernel
theorem dX6_stickSize_62 : decode cX6_stickSize 62 = .ok (.ineg, 1) := by decide +kernel
theorem dX6_stickSize_63 : decode cX6_stickSize 63 = .ok (.goto 4, 3) := by decide +kernel
theorem dX6_stickSize_66 : decode cX6_stickSize 66 = .ok (.iload_n 3, 1) := by decide +kernel
theorem dX6_stickSize_67 : decode cX6_stickSize 67 = .ok (.ireturn, 1) := by decide +kernel
theorem dX6_salmonMark_0 : decode cX6_salmonMark 0 = .ok (.aload_n 0, 1) := by decide +kernel
theorem dX6_salmonMark_1 : decode cX6_salmonMark 1 = .ok (.bipush 23, 2) := by decide +kernel
theorem dX6_salmonMark_3 : decode cX6_salmonMark 3 = .ok (.invokevirtual 230, 3) := by decide +kernel
theorem dX6_salmonMark_6 : decode cX6_salmonMark 6 = .ok (.aload_n 0, 1) := by decide +kernel
theorem dX6_salmonMark_7 : decode cX6_salmonMark 7 = .ok (.bipush 20, 2) := by decide +kernel
theorem dX6_salmonMark_9 : decode cX6_salmonMark 9 = .ok (.invokevirtual 230, 3) := by decide +kernel
theorem dX6_salmonMark_12 : decode cX6_salmonMark 12 = .ok (.iload_n 1, 1) := by decide +kernel
theorem dX6_salmonMark_13 : decode cX6_salmonMark 13 = .ok (.aload_n 0, 1) := by decide +kernel
theorem dX6_salmonMark_14 : decode cX6_salmonMark 14 = .ok (.iload_n 1, 1) := by decide +kernel
theorem dX6_salmonMark_15 : decode cX6_salmonMark 15 = .ok (.invokevirtual 236, 3) := by decide +kernel
theorem dX6_salmonMark_18 : decode cX6_salmonMark 18 = .ok (.isub, 1) := by decide +kernel
theorem dX6_salmonMark_19 : decode cX6_salmonMark 19 = .ok (.ireturn, 1) := by decide +kernel
theorem dX6_ask_0 : decode cX6_ask 0 = .ok (.aload_n 0, 1) := by decide +kernel
theorem dX6_ask_1 : decode cX6_ask 1 = .ok (.iload_n 1, 1) := by decide +kernel
theorem dX6_ask_2 : decode cX6_ask 2 = .ok (.invokevirtual 176, 3) := by decide +kernel
theorem dX6_ask_5 : decode cX6_ask 5 = .ok (.ifCond .eq 12, 3) := by decide +kernel
theorem dX6_ask_8 : decode cX6_ask 8 = .ok (.iload_n 2, 1) := by decide +kernel
theorem dX6_ask_9 : decode cX6_ask 9 = .ok (.iconst 0, 1) := by decide +kernel
theorem dX6_ask_10 : decode cX6_ask 10 = .ok (.iconst 1, 1) := by decide +kernel
theorem dX6_ask_11 : decode cX6_ask 11 = .ok (.invokestatic 53, 3) := by decide +kernel
theorem dX6_ask_14 : decode cX6_ask 14 = .ok (.ifCond .ne 6, 3) := by decide +kernel
theorem dX6_ask_17 : decode cX6_ask 17 = .ok (.ldc 61, 2) := by decide +kernel
theorem dX6_ask_19 : decode cX6_ask 19 = .ok (.ireturn, 1) := by decide +kernel
theorem dX6_ask_20 : decode cX6_ask 20 = .ok (.aload_n 0, 1) := by decide +kernel
theorem dX6_ask_21 : decode cX6_ask 21 = .ok (.iconst 0, 1) := by decide +kernel
theorem dX6_ask_22 : decode cX6_ask 22 = .ok (.putfield 227, 3) := by decide +kernel
theorem dX6_ask_25 : decode cX6_ask 25 = .ok (.aload_n 0, 1) := by decide +kernel
theorem dX6_ask_26 : decode cX6_ask 26 = .ok (.iload_n 1, 1) := by decide +kernel
theorem dX6_ask_27 : decode cX6_ask 27 = .ok (.invokevirtual 224, 3) := by decide +kernel
theorem dX6_ask_30 : decode cX6_ask 30 = .ok (.iconst 4, 1) := by decide +kernel
theorem dX6_ask_31 : decode cX6_ask 31 = .ok (.if_icmp .lt 7, 3) := by decide +kernel
theorem dX6_ask_34 : decode cX6_ask 34 = .ok (.iconst 1, 1) := by decide +kernel
theorem dX6_ask_35 : decode cX6_ask 35 = .ok (.goto 4, 3) := by decide +kernel
theorem dX6_ask_38 : decode cX6_ask 38 = .ok (.iconst 0, 1) := by decide +kernel
theorem dX6_ask_39 : decode cX6_ask 39 = .ok (.istore_n 3, 1) := by decide +kernel
theorem dX6_ask_40 : decode cX6_ask 40 = .ok (.iload_n 2, 1) := by decide +kernel
theorem dX6_ask_41 : decode cX6_ask 41 = .ok (.ifCond .ne 21, 3) := by decide +kernel
theorem dX6_ask_44 : decode cX6_ask 44 = .ok (.iload_n 3, 1) := by decide +kernel
theorem dX6_ask_45 : decode cX6_ask 45 = .ok (.ifCond .eq 11, 3) := by decide +kernel
theorem dX6_ask_48 : decode cX6_ask 48 = .ok (.aload_n 0, 1) := by decide +kernel
theorem dX6_ask_49 : decode cX6_ask 49 = .ok (.iload_n 1, 1) := by decide +kernel
theorem dX6_ask_50 : decode cX6_ask 50 = .ok (.invokevirtual 236, 3) := by decide +kernel
theorem dX6_ask_53 : decode cX6_ask 53 = .ok (.goto 8, 3) := by decide +kernel
theorem dX6_ask_56 : decode cX6_ask 56 = .ok (.aload_n 0, 1) := by decide +kernel
theorem dX6_ask_57 : decode cX6_ask 57 = .ok (.iload_n 1, 1) := by decide +kernel
theorem dX6_ask_58 : decode cX6_ask 58 = .ok (.invokevirtual 239, 3) := by decide +kernel
theorem dX6_ask_61 : decode cX6_ask 61 = .ok (.ireturn, 1) := by decide +kernel
theorem dX6_ask_62 : decode cX6_ask 62 = .ok (.iload_n 3, 1) := by decide +kernel
theorem dX6_ask_63 : decode cX6_ask 63 = .ok (.ifCond .eq 11, 3) := by decide +kernel
theorem dX6_ask_66 : decode cX6_ask 66 = .ok (.aload_n 0, 1) := by decide +kernel
theorem dX6_ask_67 : decode cX6_ask 67 = .ok (.iload_n 1, 1) := by decide +kernel
theorem dX6_ask_68 : decode cX6_ask 68 = .ok (.invokevirtual 242, 3) := by decide +kernel
theorem dX6_ask_71 : decode cX6_ask 71 = .ok (.goto 8, 3) := by decide +kernel
theorem dX6_ask_74 : decode cX6_ask 74 = .ok (.aload_n 0, 1) := by decide +kernel
theorem dX6_ask_75 : decode cX6_ask 75 = .ok (.iload_n 1, 1) := by decide +kernel
theorem dX6_ask_76 : decode cX6_ask 76 = .ok (.invokevirtual 233, 3) := by decide +kernel
theorem dX6_ask_79 : decode cX6_ask 79 = .ok (.ireturn, 1) := by decide +kernel
theorem dX6_trace_0 : decode cX6_trace 0 = .ok (.iload_n 1, 1) := by decide +kernel
theorem dX6_trace_1 : decode cX6_trace 1 = .ok (.iconst 0, 1) := by decide +kernel
theorem dX6_trace_2 : decode cX6_trace 2 = .ok (.aload_n 0, 1) := by decide +kernel
theorem dX6_trace_3 : decode cX6_trace 3 = .ok (.getfield 227, 3) := by decide +kernel
theorem dX6_trace_6 : decode cX6_trace 6 = .ok (.iconst 1, 1) := by decide +kernel
theorem dX6_trace_7 : decode cX6_trace 7 = .ok (.isub, 1) := by decide +kernel
theorem dX6_trace_8 : decode cX6_trace 8 = .ok (.invokestatic 53, 3) := by decide +kernel
theorem dX6_trace_11 : decode cX6_trace 11 = .ok (.ifCond .eq 12, 3) := by decide +kernel
theorem dX6_trace_14 : decode cX6_trace 14 = .ok (.aload_n 0, 1) := by decide +kernel
theorem dX6_trace_15 : decode cX6_trace 15 = .ok (.getfield 44, 3) := by decide +kernel
theorem dX6_trace_18 : decode cX6_trace 18 = .ok (.iload_n 1, 1) := by decide +kernel
theorem dX6_trace_19 : decode cX6_trace 19 = .ok (.iaload, 1) := by decide +kernel
theorem dX6_trace_20 : decode cX6_trace 20 = .ok (.goto 5, 3) := by decide +kernel
theorem dX6_trace_23 : decode cX6_trace 23 = .ok (.ldc 47, 2) := by decide +kernel
theorem dX6_trace_25 : decode cX6_trace 25 = .ok (.ireturn, 1) := by decide +kernel
theorem dX6_count_0 : decode cX6_count 0 = .ok (.iconst 0, 1) := by decide +kernel
theorem dX6_count_1 : decode cX6_count 1 = .ok (.istore_n 2, 1) := by decide +kernel
theorem dX6_count_2 : decode cX6_count 2 = .ok (.iload_n 1, 1) := by decide +kernel
theorem dX6_count_3 : decode cX6_count 3 = .ok (.tableswitch 146 0 9 #[53, 85, 92, 99, 106, 113, 120, 128, 136, 141], 53) := by decide +kernel
theorem dX6_count_56 : decode cX6_count 56 = .ok (.iconst 0, 1) := by decide +kernel
theorem dX6_count_57 : decode cX6_count 57 = .ok (.istore_n 3, 1) := by decide +kernel
theorem dX6_count_58 : decode cX6_count 58 = .ok (.iload_n 3, 1) := by decide +kernel
theorem dX6_count_59 : decode cX6_count 59 = .ok (.bipush 8, 2) := by decide +kernel
theorem dX6_count_61 : decode cX6_count 61 = .ok (.if_icmp .ge 25, 3) := by decide +kernel
theorem dX6_count_64 : decode cX6_count 64 = .ok (.iload_n 2, 1) := by decide +kernel
theorem dX6_count_65 : decode cX6_count 65 = .ok (.aload_n 0, 1) := by decide +kernel
theorem dX6_count_66 : decode cX6_count 66 = .ok (.iload_n 3, 1) := by decide +kernel
theorem dX6_count_67 : decode cX6_count 67 = .ok (.invokevirtual 69, 3) := by decide +kernel
theorem dX6_count_70 : decode cX6_count 70 = .ok (.ifCond .eq 7, 3) := by decide +kernel
theorem dX6_count_73 : decode cX6_count 73 = .ok (.iconst 0, 1) := by decide +kernel
theorem dX6_count_74 : decode cX6_count 74 = .ok (.goto 4, 3) := by decide +kernel
theorem dX6_count_77 : decode cX6_count 77 = .ok (.iconst 1, 1) := by decide +kernel
theorem dX6_count_78 : decode cX6_count 78 = .ok (.iadd, 1) := by decide +kernel
theorem dX6_count_79 : decode cX6_count 79 = .ok (.istore_n 2, 1) := by decide +kernel
theorem dX6_count_80 : decode cX6_count 80 = .ok (.iinc 3 1, 3) := by decide +kernel
theorem dX6_count_83 : decode cX6_count 83 = .ok (.goto (-25), 3) := by decide +kernel
theorem dX6_count_86 : decode cX6_count 86 = .ok (.iload_n 2, 1) := by decide +kernel
theorem dX6_count_87 : decode cX6_count 87 = .ok (.ireturn, 1) := by decide +kernel
theorem dX6_count_88 : decode cX6_count 88 = .ok (.aload_n 0, 1) := by decide +kernel
theorem dX6_count_89 : decode cX6_count 89 = .ok (.getfield 25, 3) := by decide +kernel
theorem dX6_count_92 : decode cX6_count 92 = .ok (.iconst 2, 1) := by decide +kernel
theorem dX6_count_93 : decode cX6_count 93 = .ok (.iaload, 1) := by decide +kernel
theorem dX6_count_94 : decode cX6_count 94 = .ok (.ireturn, 1) := by decide +kernel
theorem dX6_count_95 : decode cX6_count 95 = .ok (.aload_n 0, 1) := by decide +kernel
theorem dX6_count_96 : decode cX6_count 96 = .ok (.getfield 25, 3) := by decide +kernel
theorem dX6_count_99 : decode cX6_count 99 = .ok (.iconst 3, 1) := by decide +kernel
theorem dX6_count_100 : decode cX6_count 100 = .ok (.iaload, 1) := by decide +kernel
theorem dX6_count_101 : decode cX6_count 101 = .ok (.ireturn, 1) := by decide +kernel
theorem dX6_count_102 : decode cX6_count 102 = .ok (.aload_n 0, 1) := by decide +kernel
theorem dX6_count_103 : decode cX6_count 103 = .ok (.getfield 25, 3) := by decide +kernel
theorem dX6_count_106 : decode cX6_count 106 = .ok (.iconst 4, 1) := by decide +kernel
theorem dX6_count_107 : decode cX6_count 107 = .ok (.iaload, 1) := by decide +kernel
theorem dX6_count_108 : decode cX6_count 108 = .ok (.ireturn, 1) := by decide +kernel
theorem dX6_count_109 : decode cX6_count 109 = .ok (.aload_n 0, 1) := by decide +kernel
theorem dX6_count_110 : decode cX6_count 110 = .ok (.getfield 25, 3) := by decide +kernel
theorem dX6_count_113 : decode cX6_count 113 = .ok (.iconst 0, 1) := by decide +kernel
theorem dX6_count_114 : decode cX6_count 114 = .ok (.iaload, 1) := by decide +kernel
theorem dX6_count_115 : decode cX6_count 115 = .ok (.ireturn, 1) := by decide +kernel
theorem dX6_count_116 : decode cX6_count 116 = .ok (.aload_n 0, 1) := by decide +kernel
theorem dX6_count_117 : decode cX6_count 117 = .ok (.getfield 25, 3) := by decide +kernel
theorem dX6_count_120 : decode cX6_count 120 = .ok (.iconst 1, 1) := by decide +kernel
theorem dX6_count_121 : decode cX6_count 121 = .ok (.iaload, 1) := by decide +kernel
theorem dX6_count_122 : decode cX6_count 122 = .ok (.ireturn, 1) := by decide +kernel
theorem dX6_count_123 : decode cX6_count 123 = .ok (.aload_n 0, 1) := by decide +kernel
theorem dX6_count_124 : decode cX6_count 124 = .ok (.getfield 25, 3) := by decide +kernel
theorem dX6_count_127 : decode cX6_count 127 = .ok (.invokestatic 196, 3) := by decide +kernel
theorem dX6_count_130 : decode cX6_count 130 = .ok (.ireturn, 1) := by decide +kernel
theorem dX6_count_131 : decode cX6_count 131 = .ok (.aload_n 0, 1) := by decide +kernel
theorem dX6_count_132 : decode cX6_count 132 = .ok (.getfield 25, 3) := by decide +kernel
theorem dX6_count_135 : decode cX6_count 135 = .ok (.invokestatic 172, 3) := by decide +kernel
theorem dX6_count_138 : decode cX6_count 138 = .ok (.ireturn, 1) := by decide +kernel
theorem dX6_count_139 : decode cX6_count 139 = .ok (.aload_n 0, 1) := by decide +kernel
theorem dX6_count_140 : decode cX6_count 140 = .ok (.getfield 139, 3) := by decide +kernel
theorem dX6_count_143 : decode cX6_count 143 = .ok (.ireturn, 1) := by decide +kernel
theorem dX6_count_144 : decode cX6_count 144 = .ok (.aload_n 0, 1) := by decide +kernel
theorem dX6_count_145 : decode cX6_count 145 = .ok (.getfield 79, 3) := by decide +kernel
theorem dX6_count_148 : decode cX6_count 148 = .ok (.ireturn, 1) := by decide +kernel
theorem dX6_count_149 : decode cX6_count 149 = .ok (.ldc 61, 2) := by decide +kernel
theorem dX6_count_151 : decode cX6_count 151 = .ok (.ireturn, 1) := by decide +kernel
theorem dX6_status_0 : decode cX6_status 0 = .ok (.aload_n 0, 1) := by decide +kernel
theorem dX6_status_1 : decode cX6_status 1 = .ok (.getfield 48, 3) := by decide +kernel
theorem dX6_status_4 : decode cX6_status 4 = .ok (.ireturn, 1) := by decide +kernel
theorem dL_law_0 : decode cL_law 0 = .ok (.new 7, 3) := by decide +kernel
theorem dL_law_3 : decode cL_law 3 = .ok (.dup, 1) := by decide +kernel
theorem dL_law_4 : decode cL_law 4 = .ok (.invokespecial 9, 3) := by decide +kernel
theorem dL_law_7 : decode cL_law 7 = .ok (.astore_n 1, 1) := by decide +kernel
theorem dL_law_8 : decode cL_law 8 = .ok (.new 10, 3) := by decide +kernel
theorem dL_law_11 : decode cL_law 11 = .ok (.dup, 1) := by decide +kernel
theorem dL_law_12 : decode cL_law 12 = .ok (.invokespecial 12, 3) := by decide +kernel
theorem dL_law_15 : decode cL_law 15 = .ok (.astore_n 2, 1) := by decide +kernel
theorem dL_law_16 : decode cL_law 16 = .ok (.iconst 0, 1) := by decide +kernel
theorem dL_law_17 : decode cL_law 17 = .ok (.istore_n 3, 1) := by decide +kernel
theorem dL_law_18 : decode cL_law 18 = .ok (.iload_n 3, 1) := by decide +kernel
theorem dL_law_19 : decode cL_law 19 = .ok (.aload_n 0, 1) := by decide +kernel
theorem dL_law_20 : decode cL_law 20 = .ok (.arraylength, 1) := by decide +kernel
theorem dL_law_21 : decode cL_law 21 = .ok (.bipush 6, 2) := by decide +kernel
theorem dL_law_23 : decode cL_law 23 = .ok (.isub, 1) := by decide +kernel
theorem dL_law_24 : decode cL_law 24 = .ok (.if_icmp .gt 1181, 3) := by decide +kernel
theorem dL_law_27 : decode cL_law 27 = .ok (.aload_n 0, 1) := by decide +kernel
theorem dL_law_28 : decode cL_law 28 = .ok (.iload_n 3, 1) := by decide +kernel
theorem dL_law_29 : decode cL_law 29 = .ok (.iaload, 1) := by decide +kernel
theorem dL_law_30 : decode cL_law 30 = .ok (.bipush 63, 2) := by decide +kernel
theorem dL_law_32 : decode cL_law 32 = .ok (.iand, 1) := by decide +kernel
theorem dL_law_33 : decode cL_law 33 = .ok (.tableswitch 1166 0 32 #[147, 190, 233, 296, 319, 342, 355, 368, 391, 434, 467, 490, 503, 536, 569, 612, 635, 658, 671, 704, 737, 780, 813, 876, 929, 972, 995, 1018, 1041, 1074, 1107, 1130, 1153], 147) := by decide +kernel
theorem dL_law_180 : decode cL_law 180 = .ok (.aload_n 1, 1) := by decide +kernel
theorem dL_law_181 : decode cL_law 181 = .ok (.aload_n 0, 1) := by decide +kernel
theorem dL_law_182 : decode cL_law 182 = .ok (.iload_n 3, 1) := by decide +kernel
theorem dL_law_183 : decode cL_law 183 = .ok (.iconst 1, 1) := by decide +kernel
theorem dL_law_184 : decode cL_law 184 = .ok (.iadd, 1) := by decide +kernel
theorem dL_law_185 : decode cL_law 185 = .ok (.iaload, 1) := by decide +kernel
theorem dL_law_186 : decode cL_law 186 = .ok (.aload_n 0, 1) := by decide +kernel
theorem dL_law_187 : decode cL_law 187 = .ok (.iload_n 3, 1) := by decide +kernel
theorem dL_law_188 : decode cL_law 188 = .ok (.iconst 2, 1) := by decide +kernel
theorem dL_law_189 : decode cL_law 189 = .ok (.iadd, 1) := by decide +kernel
theorem dL_law_190 : decode cL_law 190 = .ok (.iaload, 1) := by decide +kernel
theorem dL_law_191 : decode cL_law 191 = .ok (.aload_n 0, 1) := by decide +kernel
theorem dL_law_192 : decode cL_law 192 = .ok (.iload_n 3, 1) := by decide +kernel
theorem dL_law_193 : decode cL_law 193 = .ok (.iconst 3, 1) := by decide +kernel
theorem dL_law_194 : decode cL_law 194 = .ok (.iadd, 1) := by decide +kernel
theorem dL_law_195 : decode cL_law 195 = .ok (.iaload, 1) := by decide +kernel
theorem dL_law_196 : decode cL_law 196 = .ok (.invokevirtual 13, 3) := by decide +kernel
theorem dL_law_199 : decode cL_law 199 = .ok (.aload_n 2, 1) := by decide +kernel
theorem dL_law_200 : decode cL_law 200 = .ok (.aload_n 0, 1) := by decide +kernel
theorem dL_law_201 : decode cL_law 201 = .ok (.iload_n 3, 1) := by decide +kernel
theorem dL_law_202 : decode cL_law 202 = .ok (.iconst 1, 1) := by decide +kernel
theorem dL_law_203 : decode cL_law 203 = .ok (.iadd, 1) := by decide +kernel
theorem dL_law_204 : decode cL_law 204 = .ok (.iaload, 1) := by decide +kernel
theorem dL_law_205 : decode cL_law 205 = .ok (.aload_n 0, 1) := by decide +kernel
theorem dL_law_206 : decode cL_law 206 = .ok (.iload_n 3, 1) := by decide +kernel
theorem dL_law_207 : decode cL_law 207 = .ok (.iconst 2, 1) := by decide +kernel
theorem dL_law_208 : decode cL_law 208 = .ok (.iadd, 1) := by decide +kernel
theorem dL_law_209 : decode cL_law 209 = .ok (.iaload, 1) := by decide +kernel
theorem dL_law_210 : decode cL_law 210 = .ok (.aload_n 0, 1) := by decide +kernel
theorem dL_law_211 : decode cL_law 211 = .ok (.iload_n 3, 1) := by decide +kernel
theorem dL_law_212 : decode cL_law 212 = .ok (.iconst 3, 1) := by decide +kernel
theorem dL_law_213 : decode cL_law 213 = .ok (.iadd, 1) := by decide +kernel
theorem dL_law_214 : decode cL_law 214 = .ok (.iaload, 1) := by decide +kernel
theorem dL_law_215 : decode cL_law 215 = .ok (.invokevirtual 17, 3) := by decide +kernel
theorem dL_law_218 : decode cL_law 218 = .ok (.if_icmp .eq 981, 3) := by decide +kernel
theorem dL_law_221 : decode cL_law 221 = .ok (.iconst 0, 1) := by decide +kernel
theorem dL_law_222 : decode cL_law 222 = .ok (.ireturn, 1) := by decide +kernel
theorem dL_law_223 : decode cL_law 223 = .ok (.aload_n 1, 1) := by decide +kernel
theorem dL_law_224 : decode cL_law 224 = .ok (.aload_n 0, 1) := by decide +kernel
theorem dL_law_225 : decode cL_law 225 = .ok (.iload_n 3, 1) := by decide +kernel
theorem dL_law_226 : decode cL_law 226 = .ok (.iconst 1, 1) := by decide +kernel
theorem dL_law_227 : decode cL_law 227 = .ok (.iadd, 1) := by decide +kernel
theorem dL_law_228 : decode cL_law 228 = .ok (.iaload, 1) := by decide +kernel
theorem dL_law_229 : decode cL_law 229 = .ok (.aload_n 0, 1) := by decide +kernel
theorem dL_law_230 : decode cL_law 230 = .ok (.iload_n 3, 1) := by decide +kernel
theorem dL_law_231 : decode cL_law 231 = .ok (.iconst 2, 1) := by decide +kernel
theorem dL_law_232 : decode cL_law 232 = .ok (.iadd, 1) := by decide +kernel
theorem dL_law_233 : decode cL_law 233 = .ok (.iaload, 1) := by decide +kernel
theorem dL_law_234 : decode cL_law 234 = .ok (.aload_n 0, 1) := by decide +kernel
theorem dL_law_235 : decode cL_law 235 = .ok (.iload_n 3, 1) := by decide +kernel
theorem dL_law_236 : decode cL_law 236 = .ok (.iconst 3, 1) := by decide +kernel
theorem dL_law_237 : decode cL_law 237 = .ok (.iadd, 1) := by decide +kernel
theorem dL_law_238 : decode cL_law 238 = .ok (.iaload, 1) := by decide +kernel
theorem dL_law_239 : decode cL_law 239 = .ok (.invokevirtual 18, 3) := by decide +kernel
theorem dL_law_242 : decode cL_law 242 = .ok (.aload_n 2, 1) := by decide +kernel
theorem dL_law_243 : decode cL_law 243 = .ok (.aload_n 0, 1) := by decide +kernel
theorem dL_law_244 : decode cL_law 244 = .ok (.iload_n 3, 1) := by decide +kernel
theorem dL_law_245 : decode cL_law 245 = .ok (.iconst 1, 1) := by decide +kernel
theorem dL_law_246 : decode cL_law 246 = .ok (.iadd, 1) := by decide +kernel
theorem dL_law_247 : decode cL_law 247 = .ok (.iaload, 1) := by decide +kernel
theorem dL_law_248 : decode cL_law 248 = .ok (.aload_n 0, 1) := by decide +kernel
theorem dL_law_249 : decode cL_law 249 = .ok (.iload_n 3, 1) := by decide +kernel
theorem dL_law_250 : decode cL_law 250 = .ok (.iconst 2, 1) := by decide +kernel
theorem dL_law_251 : decode cL_law 251 = .ok (.iadd, 1) := by decide +kernel
theorem dL_law_252 : decode cL_law 252 = .ok (.iaload, 1) := by decide +kernel
theorem dL_law_253 : decode cL_law 253 = .ok (.aload_n 0, 1) := by decide +kernel
theorem dL_law_254 : decode cL_law 254 = .ok (.iload_n 3, 1) := by decide +kernel
theorem dL_law_255 : decode cL_law 255 = .ok (.iconst 3, 1) := by decide +kernel
theorem dL_law_256 : decode cL_law 256 = .ok (.iadd, 1) := by decide +kernel
theorem dL_law_257 : decode cL_law 257 = .ok (.iaload, 1) := by decide +kernel
theorem dL_law_258 : decode cL_law 258 = .ok (.invokevirtual 21, 3) := by decide +kernel
theorem dL_law_261 : decode cL_law 261 = .ok (.if_icmp .eq 938, 3) := by decide +kernel
theorem dL_law_264 : decode cL_law 264 = .ok (.iconst 0, 1) := by decide +kernel
theorem dL_law_265 : decode cL_law 265 = .ok (.ireturn, 1) := by decide +kernel
theorem dL_law_266 : decode cL_law 266 = .ok (.aload_n 1, 1) := by decide +kernel
theorem dL_law_267 : decode cL_law 267 = .ok (.aload_n 0, 1) := by decide +kernel
theorem dL_law_268 : decode cL_law 268 = .ok (.iload_n 3, 1) := by decide +kernel
theorem dL_law_269 : decode cL_law 269 = .ok (.iconst 1, 1) := by decide +kernel
theorem dL_law_270 : decode cL_law 270 = .ok (.iadd, 1) := by decide +kernel
theorem dL_law_271 : decode cL_law 271 = .ok (.iaload, 1) := by decide +kernel
theorem dL_law_272 : decode cL_law 272 = .ok (.aload_n 0, 1) := by decide +kernel
theorem dL_law_273 : decode cL_law 273 = .ok (.iload_n 3, 1) := by decide +kernel
theorem dL_law_274 : decode cL_law 274 = .ok (.iconst 2, 1) := by decide +kernel
theorem dL_law_275 : decode cL_law 275 = .ok (.iadd, 1) := by decide +kernel
theorem dL_law_276 : decode cL_law 276 = .ok (.iaload, 1) := by decide +kernel
theorem dL_law_277 : decode cL_law 277 = .ok (.aload_n 0, 1) := by decide +kernel
theorem dL_law_278 : decode cL_law 278 = .ok (.iload_n 3, 1) := by decide +kernel
theorem dL_law_279 : decode cL_law 279 = .ok (.iconst 3, 1) := by decide +kernel
theorem dL_law_280 : decode cL_law 280 = .ok (.iadd, 1) := by decide +kernel
theorem dL_law_281 : decode cL_law 281 = .ok (.iaload, 1) := by decide +kernel
theorem dL_law_282 : decode cL_law 282 = .ok (.aload_n 0, 1) := by decide +kernel
theorem dL_law_283 : decode cL_law 283 = .ok (.iload_n 3, 1) := by decide +kernel
theorem dL_law_284 : decode cL_law 284 = .ok (.iconst 4, 1) := by decide +kernel
theorem dL_law_285 : decode cL_law 285 = .ok (.iadd, 1) := by decide +kernel
theorem dL_law_286 : decode cL_law 286 = .ok (.iaload, 1) := by decide +kernel
theorem dL_law_287 : decode cL_law 287 = .ok (.aload_n 0, 1) := by decide +kernel
theorem dL_law_288 : decode cL_law 288 = .ok (.iload_n 3, 1) := by decide +kernel
theorem dL_law_289 : decode cL_law 289 = .ok (.iconst 5, 1) := by decide +kernel
theorem dL_law_290 : decode cL_law 290 = .ok (.iadd, 1) := by decide +kernel
theorem dL_law_291 : decode cL_law 291 = .ok (.iaload, 1) := by decide +kernel
theorem dL_law_292 : decode cL_law 292 = .ok (.invokevirtual 22, 3) := by decide +kernel
theorem dL_law_295 : decode cL_law 295 = .ok (.aload_n 2, 1) := by decide +kernel
theorem dL_law_296 : decode cL_law 296 = .ok (.aload_n 0, 1) := by decide +kernel
theorem dL_law_297 : decode cL_law 297 = .ok (.iload_n 3, 1) := by decide +kernel
theorem dL_law_298 : decode cL_law 298 = .ok (.iconst 1, 1) := by decide +kernel
theorem dL_law_299 : decode cL_law 299 = .ok (.iadd, 1) := by decide +kernel
theorem dL_law_300 : decode cL_law 300 = .ok (.iaload, 1) := by decide +kernel
theorem dL_law_301 : decode cL_law 301 = .ok (.aload_n 0, 1) := by decide +kernel
theorem dL_law_302 : decode cL_law 302 = .ok (.iload_n 3, 1) := by decide +kernel
theorem dL_law_303 : decode cL_law 303 = .ok (.iconst 2, 1) := by decide +kernel
theorem dL_law_304 : decode cL_law 304 = .ok (.iadd, 1) := by decide +kernel
theorem dL_law_305 : decode cL_law 305 = .ok (.iaload, 1) := by decide +kernel
theorem dL_law_306 : decode cL_law 306 = .ok (.aload_n 0, 1) := by decide +kernel
theorem dL_law_307 : decode cL_law 307 = .ok (.iload_n 3, 1) := by decide +kernel
theorem dL_law_308 : decode cL_law 308 = .ok (.iconst 3, 1) := by decide +kernel
theorem dL_law_309 : decode cL_law 309 = .ok (.iadd, 1) := by decide +kernel
theorem dL_law_310 : decode cL_law 310 = .ok (.iaload, 1) := by decide +kernel
theorem dL_law_311 : decode cL_law 311 = .ok (.aload_n 0, 1) := by decide +kernel
theorem dL_law_312 : decode cL_law 312 = .ok (.iload_n 3, 1) := by decide +kernel
theorem dL_law_313 : decode cL_law 313 = .ok (.iconst 4, 1) := by decide +kernel
theorem dL_law_314 : decode cL_law 314 = .ok (.iadd, 1) := by decide +kernel
theorem dL_law_315 : decode cL_law 315 = .ok (.iaload, 1) := by decide +kernel
theorem dL_law_316 : decode cL_law 316 = .ok (.aload_n 0, 1) := by decide +kernel
theorem dL_law_317 : decode cL_law 317 = .ok (.iload_n 3, 1) := by decide +kernel
theorem dL_law_318 : decode cL_law 318 = .ok (.iconst 5, 1) := by decide +kernel
theorem dL_law_319 : decode cL_law 319 = .ok (.iadd, 1) := by decide +kernel
theorem dL_law_320 : decode cL_law 320 = .ok (.iaload, 1) := by decide +kernel
theorem dL_law_321 : decode cL_law 321 = .ok (.invokevirtual 26, 3) := by decide +kernel
theorem dL_law_324 : decode cL_law 324 = .ok (.if_icmp .eq 875, 3) := by decide +kernel
theorem dL_law_327 : decode cL_law 327 = .ok (.iconst 0, 1) := by decide +kernel
theorem dL_law_328 : decode cL_law 328 = .ok (.ireturn, 1) := by decide +kernel
theorem dL_law_329 : decode cL_law 329 = .ok (.aload_n 1, 1) := by decide +kernel
theorem dL_law_330 : decode cL_law 330 = .ok (.aload_n 0, 1) := by decide +kernel
theorem dL_law_331 : decode cL_law 331 = .ok (.iload_n 3, 1) := by decide +kernel
theorem dL_law_332 : decode cL_law 332 = .ok (.iconst 1, 1) := by decide +kernel
theorem dL_law_333 : decode cL_law 333 = .ok (.iadd, 1) := by decide +kernel
theorem dL_law_334 : decode cL_law 334 = .ok (.iaload, 1) := by decide +kernel
theorem dL_law_335 : decode cL_law 335 = .ok (.invokevirtual 27, 3) := by decide +kernel
theorem dL_law_338 : decode cL_law 338 = .ok (.aload_n 2, 1) := by decide +kernel
theorem dL_law_339 : decode cL_law 339 = .ok (.aload_n 0, 1) := by decide +kernel
theorem dL_law_340 : decode cL_law 340 = .ok (.iload_n 3, 1) := by decide +kernel
theorem dL_law_341 : decode cL_law 341 = .ok (.iconst 1, 1) := by decide +kernel
theorem dL_law_342 : decode cL_law 342 = .ok (.iadd, 1) := by decide +kernel
theorem dL_law_343 : decode cL_law 343 = .ok (.iaload, 1) := by decide +kernel
theorem dL_law_344 : decode cL_law 344 = .ok (.invokevirtual 31, 3) := by decide +kernel
theorem dL_law_347 : decode cL_law 347 = .ok (.if_icmp .eq 852, 3) := by decide +kernel
theorem dL_law_350 : decode cL_law 350 = .ok (.iconst 0, 1) := by decide +kernel
theorem dL_law_351 : decode cL_law 351 = .ok (.ireturn, 1) := by decide +kernel
theorem dL_law_352 : decode cL_law 352 = .ok (.aload_n 1, 1) := by decide +kernel
theorem dL_law_353 : decode cL_law 353 = .ok (.aload_n 0, 1) := by decide +kernel
theorem dL_law_354 : decode cL_law 354 = .ok (.iload_n 3, 1) := by decide +kernel
theorem dL_law_355 : decode cL_law 355 = .ok (.iconst 1, 1) := by decide +kernel
theorem dL_law_356 : decode cL_law 356 = .ok (.iadd, 1) := by decide +kernel
theorem dL_law_357 : decode cL_law 357 = .ok (.iaload, 1) := by decide +kernel
theorem dL_law_358 : decode cL_law 358 = .ok (.invokevirtual 32, 3) := by decide +kernel
theorem dL_law_361 : decode cL_law 361 = .ok (.aload_n 2, 1) := by decide +kernel
theorem dL_law_362 : decode cL_law 362 = .ok (.aload_n 0, 1) := by decide +kernel
theorem dL_law_363 : decode cL_law 363 = .ok (.iload_n 3, 1) := by decide +kernel
theorem dL_law_364 : decode cL_law 364 = .ok (.iconst 1, 1) := by decide +kernel
theorem dL_law_365 : decode cL_law 365 = .ok (.iadd, 1) := by decide +kernel
theorem dL_law_366 : decode cL_law 366 = .ok (.iaload, 1) := by decide +kernel
theorem dL_law_367 : decode cL_law 367 = .ok (.invokevirtual 35, 3) := by decide +kernel
theorem dL_law_370 : decode cL_law 370 = .ok (.if_icmp .eq 829, 3) := by decide +kernel
theorem dL_law_373 : decode cL_law 373 = .ok (.iconst 0, 1) := by decide +kernel
theorem dL_law_374 : decode cL_law 374 = .ok (.ireturn, 1) := by decide +kernel
theorem dL_law_375 : decode cL_law 375 = .ok (.aload_n 1, 1) := by decide +kernel
theorem dL_law_376 : decode cL_law 376 = .ok (.invokevirtual 36, 3) := by decide +kernel
theorem dL_law_379 : decode cL_law 379 = .ok (.aload_n 2, 1) := by decide +kernel
theorem dL_law_380 : decode cL_law 380 = .ok (.invokevirtual 40, 3) := by decide +kernel
theorem dL_law_383 : decode cL_law 383 = .ok (.if_icmp .eq 816, 3) := by decide +kernel
theorem dL_law_386 : decode cL_law 386 = .ok (.iconst 0, 1) := by decide +kernel
theorem dL_law_387 : decode cL_law 387 = .ok (.ireturn, 1) := by decide +kernel
theorem dL_law_388 : decode cL_law 388 = .ok (.aload_n 1, 1) := by decide +kernel
theorem dL_law_389 : decode cL_law 389 = .ok (.invokevirtual 41, 3) := by decide +kernel
theorem dL_law_392 : decode cL_law 392 = .ok (.aload_n 2, 1) := by decide +kernel
theorem dL_law_393 : decode cL_law 393 = .ok (.invokevirtual 44, 3) := by decide +kernel
theorem dL_law_396 : decode cL_law 396 = .ok (.if_icmp .eq 803, 3) := by decide +kernel
theorem dL_law_399 : decode cL_law 399 = .ok (.iconst 0, 1) := by decide +kernel
theorem dL_law_400 : decode cL_law 400 = .ok (.ireturn, 1) := by decide +kernel
theorem dL_law_401 : decode cL_law 401 = .ok (.aload_n 1, 1) := by decide +kernel
theorem dL_law_402 : decode cL_law 402 = .ok (.aload_n 0, 1) := by decide +kernel
theorem dL_law_403 : decode cL_law 403 = .ok (.iload_n 3, 1) := by decide +kernel
theorem dL_law_404 : decode cL_law 404 = .ok (.iconst 1, 1) := by decide +kernel
theorem dL_law_405 : decode cL_law 405 = .ok (.iadd, 1) := by decide +kernel
theorem dL_law_406 : decode cL_law 406 = .ok (.iaload, 1) := by decide +kernel
theorem dL_law_407 : decode cL_law 407 = .ok (.invokevirtual 45, 3) := by decide +kernel
theorem dL_law_410 : decode cL_law 410 = .ok (.aload_n 2, 1) := by decide +kernel
theorem dL_law_411 : decode cL_law 411 = .ok (.aload_n 0, 1) := by decide +kernel
theorem dL_law_412 : decode cL_law 412 = .ok (.iload_n 3, 1) := by decide +kernel
theorem dL_law_413 : decode cL_law 413 = .ok (.iconst 1, 1) := by decide +kernel
theorem dL_law_414 : decode cL_law 414 = .ok (.iadd, 1) := by decide +kernel
theorem dL_law_415 : decode cL_law 415 = .ok (.iaload, 1) := by decide +kernel
theorem dL_law_416 : decode cL_law 416 = .ok (.invokevirtual 48, 3) := by decide +kernel
theorem dL_law_419 : decode cL_law 419 = .ok (.if_icmp .eq 780, 3) := by decide +kernel
theorem dL_law_422 : decode cL_law 422 = .ok (.iconst 0, 1) := by decide +kernel
theorem dL_law_423 : decode cL_law 423 = .ok (.ireturn, 1) := by decide +kernel
theorem dL_law_424 : decode cL_law 424 = .ok (.aload_n 1, 1) := by decide +kernel
theorem dL_law_425 : decode cL_law 425 = .ok (.aload_n 0, 1) := by decide +kernel
theorem dL_law_426 : decode cL_law 426 = .ok (.iload_n 3, 1) := by decide +kernel
theorem dL_law_427 : decode cL_law 427 = .ok (.iconst 1, 1) := by decide +kernel
theorem dL_law_428 : decode cL_law 428 = .ok (.iadd, 1) := by decide +kernel
theorem dL_law_429 : decode cL_law 429 = .ok (.iaload, 1) := by decide +kernel
theorem dL_law_430 : decode cL_law 430 = .ok (.aload_n 0, 1) := by decide +kernel
theorem dL_law_431 : decode cL_law 431 = .ok (.iload_n 3, 1) := by decide +kernel
theorem dL_law_432 : decode cL_law 432 = .ok (.iconst 2, 1) := by decide +kernel
theorem dL_law_433 : decode cL_law 433 = .ok (.iadd, 1) := by decide +kernel
theorem dL_law_434 : decode cL_law 434 = .ok (.iaload, 1) := by decide +kernel
theorem dL_law_435 : decode cL_law 435 = .ok (.aload_n 0, 1) := by decide +kernel
theorem dL_law_436 : decode cL_law 436 = .ok (.iload_n 3, 1) := by decide +kernel
theorem dL_law_437 : decode cL_law 437 = .ok (.iconst 3, 1) := by decide +kernel
theorem dL_law_438 : decode cL_law 438 = .ok (.iadd, 1) := by decide +kernel
theorem dL_law_439 : decode cL_law 439 = .ok (.iaload, 1) := by decide +kernel
theorem dL_law_440 : decode cL_law 440 = .ok (.invokevirtual 49, 3) := by decide +kernel
theorem dL_law_443 : decode cL_law 443 = .ok (.aload_n 2, 1) := by decide +kernel
theorem dL_law_444 : decode cL_law 444 = .ok (.aload_n 0, 1) := by decide +kernel
theorem dL_law_445 : decode cL_law 445 = .ok (.iload_n 3, 1) := by decide +kernel
theorem dL_law_446 : decode cL_law 446 = .ok (.iconst 1, 1) := by decide +kernel
theorem dL_law_447 : decode cL_law 447 = .ok (.iadd, 1) := by decide +kernel
theorem dL_law_448 : decode cL_law 448 = .ok (.iaload, 1) := by decide +kernel
theorem dL_law_449 : decode cL_law 449 = .ok (.aload_n 0, 1) := by decide +kernel
theorem dL_law_450 : decode cL_law 450 = .ok (.iload_n 3, 1) := by decide +kernel
theorem dL_law_451 : decode cL_law 451 = .ok (.iconst 2, 1) := by decide +kernel
theorem dL_law_452 : decode cL_law 452 = .ok (.iadd, 1) := by decide +kernel
theorem dL_law_453 : decode cL_law 453 = .ok (.iaload, 1) := by decide +kernel
theorem dL_law_454 : decode cL_law 454 = .ok (.aload_n 0, 1) := by decide +kernel
theorem dL_law_455 : decode cL_law 455 = .ok (.iload_n 3, 1) := by decide +kernel
theorem dL_law_456 : decode cL_law 456 = .ok (.iconst 3, 1) := by decide +kernel
theorem dL_law_457 : decode cL_law 457 = .ok (.iadd, 1) := by decide +kernel
theorem dL_law_458 : decode cL_law 458 = .ok (.iaload, 1) := by decide +kernel
theorem dL_law_459 : decode cL_law 459 = .ok (.invokevirtual 52, 3) := by decide +kernel
theorem dL_law_462 : decode cL_law 462 = .ok (.if_icmp .eq 737, 3) := by decide +kernel
theorem dL_law_465 : decode cL_law 465 = .ok (.iconst 0, 1) := by decide +kernel
theorem dL_law_466 : decode cL_law 466 = .ok (.ireturn, 1) := by decide +kernel
theorem dL_law_467 : decode cL_law 467 = .ok (.aload_n 1, 1) := by decide +kernel
theorem dL_law_468 : decode cL_law 468 = .ok (.aload_n 0, 1) := by decide +kernel
theorem dL_law_469 : decode cL_law 469 = .ok (.iload_n 3, 1) := by decide +kernel
theorem dL_law_470 : decode cL_law 470 = .ok (.iconst 1, 1) := by decide +kernel
theorem dL_law_471 : decode cL_law 471 = .ok (.iadd, 1) := by decide +kernel
theorem dL_law_472 : decode cL_law 472 = .ok (.iaload, 1) := by decide +kernel
theorem dL_law_473 : decode cL_law 473 = .ok (.aload_n 0, 1) := by decide +kernel
theorem dL_law_474 : decode cL_law 474 = .ok (.iload_n 3, 1) := by decide +kernel
theorem dL_law_475 : decode cL_law 475 = .ok (.iconst 2, 1) := by decide +kernel
theorem dL_law_476 : decode cL_law 476 = .ok (.iadd, 1) := by decide +kernel
theorem dL_law_477 : decode cL_law 477 = .ok (.iaload, 1) := by decide +kernel
theorem dL_law_478 : decode cL_law 478 = .ok (.invokevirtual 53, 3) := by decide +kernel
theorem dL_law_481 : decode cL_law 481 = .ok (.aload_n 2, 1) := by decide +kernel
theorem dL_law_482 : decode cL_law 482 = .ok (.aload_n 0, 1) := by decide +kernel
theorem dL_law_483 : decode cL_law 483 = .ok (.iload_n 3, 1) := by decide +kernel
theorem dL_law_484 : decode cL_law 484 = .ok (.iconst 1, 1) := by decide +kernel
theorem dL_law_485 : decode cL_law 485 = .ok (.iadd, 1) := by decide +kernel
theorem dL_law_486 : decode cL_law 486 = .ok (.iaload, 1) := by decide +kernel
theorem dL_law_487 : decode cL_law 487 = .ok (.aload_n 0, 1) := by decide +kernel
theorem dL_law_488 : decode cL_law 488 = .ok (.iload_n 3, 1) := by decide +kernel
theorem dL_law_489 : decode cL_law 489 = .ok (.iconst 2, 1) := by decide +kernel
theorem dL_law_490 : decode cL_law 490 = .ok (.iadd, 1) := by decide +kernel
theorem dL_law_491 : decode cL_law 491 = .ok (.iaload, 1) := by decide +kernel
theorem dL_law_492 : decode cL_law 492 = .ok (.invokevirtual 57, 3) := by decide +kernel
theorem dL_law_495 : decode cL_law 495 = .ok (.if_icmp .eq 704, 3) := by decide +kernel
theorem dL_law_498 : decode cL_law 498 = .ok (.iconst 0, 1) := by decide +kernel
theorem dL_law_499 : decode cL_law 499 = .ok (.ireturn, 1) := by decide +kernel
theorem dL_law_500 : decode cL_law 500 = .ok (.aload_n 1, 1) := by decide +kernel
theorem dL_law_501 : decode cL_law 501 = .ok (.aload_n 0, 1) := by decide +kernel
theorem dL_law_502 : decode cL_law 502 = .ok (.iload_n 3, 1) := by decide +kernel
theorem dL_law_503 : decode cL_law 503 = .ok (.iconst 1, 1) := by decide +kernel
theorem dL_law_504 : decode cL_law 504 = .ok (.iadd, 1) := by decide +kernel
theorem dL_law_505 : decode cL_law 505 = .ok (.iaload, 1) := by decide +kernel
theorem dL_law_506 : decode cL_law 506 = .ok (.invokevirtual 58, 3) := by decide +kernel
theorem dL_law_509 : decode cL_law 509 = .ok (.aload_n 2, 1) := by decide +kernel
theorem dL_law_510 : decode cL_law 510 = .ok (.aload_n 0, 1) := by decide +kernel
theorem dL_law_511 : decode cL_law 511 = .ok (.iload_n 3, 1) := by decide +kernel
theorem dL_law_512 : decode cL_law 512 = .ok (.iconst 1, 1) := by decide +kernel
theorem dL_law_513 : decode cL_law 513 = .ok (.iadd, 1) := by decide +kernel
theorem dL_law_514 : decode cL_law 514 = .ok (.iaload, 1) := by decide +kernel
theorem dL_law_515 : decode cL_law 515 = .ok (.invokevirtual 61, 3) := by decide +kernel
theorem dL_law_518 : decode cL_law 518 = .ok (.if_icmp .eq 681, 3) := by decide +kernel
theorem dL_law_521 : decode cL_law 521 = .ok (.iconst 0, 1) := by decide +kernel
theorem dL_law_522 : decode cL_law 522 = .ok (.ireturn, 1) := by decide +kernel
theorem dL_law_523 : decode cL_law 523 = .ok (.aload_n 1, 1) := by decide +kernel
theorem dL_law_524 : decode cL_law 524 = .ok (.invokevirtual 62, 3) := by decide +kernel
theorem dL_law_527 : decode cL_law 527 = .ok (.aload_n 2, 1) := by decide +kernel
theorem dL_law_528 : decode cL_law 528 = .ok (.invokevirtual 65, 3) := by decide +kernel
theorem dL_law_531 : decode cL_law 531 = .ok (.if_icmp .eq 668, 3) := by decide +kernel
theorem dL_law_534 : decode cL_law 534 = .ok (.iconst 0, 1) := by decide +kernel
theorem dL_law_535 : decode cL_law 535 = .ok (.ireturn, 1) := by decide +kernel
theorem dL_law_536 : decode cL_law 536 = .ok (.aload_n 1, 1) := by decide +kernel
theorem dL_law_537 : decode cL_law 537 = .ok (.aload_n 0, 1) := by decide +kernel
theorem dL_law_538 : decode cL_law 538 = .ok (.iload_n 3, 1) := by decide +kernel
theorem dL_law_539 : decode cL_law 539 = .ok (.iconst 1, 1) := by decide +kernel
theorem dL_law_540 : decode cL_law 540 = .ok (.iadd, 1) := by decide +kernel
theorem dL_law_541 : decode cL_law 541 = .ok (.iaload, 1) := by decide +kernel
theorem dL_law_542 : decode cL_law 542 = .ok (.aload_n 0, 1) := by decide +kernel
theorem dL_law_543 : decode cL_law 543 = .ok (.iload_n 3, 1) := by decide +kernel
theorem dL_law_544 : decode cL_law 544 = .ok (.iconst 2, 1) := by decide +kernel
theorem dL_law_545 : decode cL_law 545 = .ok (.iadd, 1) := by decide +kernel
theorem dL_law_546 : decode cL_law 546 = .ok (.iaload, 1) := by decide +kernel
theorem dL_law_547 : decode cL_law 547 = .ok (.invokevirtual 66, 3) := by decide +kernel
theorem dL_law_550 : decode cL_law 550 = .ok (.aload_n 2, 1) := by decide +kernel
theorem dL_law_551 : decode cL_law 551 = .ok (.aload_n 0, 1) := by decide +kernel
theorem dL_law_552 : decode cL_law 552 = .ok (.iload_n 3, 1) := by decide +kernel
theorem dL_law_553 : decode cL_law 553 = .ok (.iconst 1, 1) := by decide +kernel
theorem dL_law_554 : decode cL_law 554 = .ok (.iadd, 1) := by decide +kernel
theorem dL_law_555 : decode cL_law 555 = .ok (.iaload, 1) := by decide +kernel
theorem dL_law_556 : decode cL_law 556 = .ok (.aload_n 0, 1) := by decide +kernel
theorem dL_law_557 : decode cL_law 557 = .ok (.iload_n 3, 1) := by decide +kernel
theorem dL_law_558 : decode cL_law 558 = .ok (.iconst 2, 1) := by decide +kernel
theorem dL_law_559 : decode cL_law 559 = .ok (.iadd, 1) := by decide +kernel
theorem dL_law_560 : decode cL_law 560 = .ok (.iaload, 1) := by decide +kernel
theorem dL_law_561 : decode cL_law 561 = .ok (.invokevirtual 69, 3) := by decide +kernel
theorem dL_law_564 : decode cL_law 564 = .ok (.if_icmp .eq 635, 3) := by decide +kernel
theorem dL_law_567 : decode cL_law 567 = .ok (.iconst 0, 1) := by decide +kernel
theorem dL_law_568 : decode cL_law 568 = .ok (.ireturn, 1) := by decide +kernel
theorem dL_law_569 : decode cL_law 569 = .ok (.aload_n 1, 1) := by decide +kernel
theorem dL_law_570 : decode cL_law 570 = .ok (.aload_n 0, 1) := by decide +kernel
theorem dL_law_571 : decode cL_law 571 = .ok (.iload_n 3, 1) := by decide +kernel
theorem dL_law_572 : decode cL_law 572 = .ok (.iconst 1, 1) := by decide +kernel
theorem dL_law_573 : decode cL_law 573 = .ok (.iadd, 1) := by decide +kernel
theorem dL_law_574 : decode cL_law 574 = .ok (.iaload, 1) := by decide +kernel
theorem dL_law_575 : decode cL_law 575 = .ok (.aload_n 0, 1) := by decide +kernel
theorem dL_law_576 : decode cL_law 576 = .ok (.iload_n 3, 1) := by decide +kernel
theorem dL_law_577 : decode cL_law 577 = .ok (.iconst 2, 1) := by decide +kernel
theorem dL_law_578 : decode cL_law 578 = .ok (.iadd, 1) := by decide +kernel
theorem dL_law_579 : decode cL_law 579 = .ok (.iaload, 1) := by decide +kernel
theorem dL_law_580 : decode cL_law 580 = .ok (.invokevirtual 70, 3) := by decide +kernel
theorem dL_law_583 : decode cL_law 583 = .ok (.aload_n 2, 1) := by decide +kernel
theorem dL_law_584 : decode cL_law 584 = .ok (.aload_n 0, 1) := by decide +kernel
theorem dL_law_585 : decode cL_law 585 = .ok (.iload_n 3, 1) := by decide +kernel
theorem dL_law_586 : decode cL_law 586 = .ok (.iconst 1, 1) := by decide +kernel
theorem dL_law_587 : decode cL_law 587 = .ok (.iadd, 1) := by decide +kernel
theorem dL_law_588 : decode cL_law 588 = .ok (.iaload, 1) := by decide +kernel
theorem dL_law_589 : decode cL_law 589 = .ok (.aload_n 0, 1) := by decide +kernel
theorem dL_law_590 : decode cL_law 590 = .ok (.iload_n 3, 1) := by decide +kernel
theorem dL_law_591 : decode cL_law 591 = .ok (.iconst 2, 1) := by decide +kernel
theorem dL_law_592 : decode cL_law 592 = .ok (.iadd, 1) := by decide +kernel
theorem dL_law_593 : decode cL_law 593 = .ok (.iaload, 1) := by decide +kernel
theorem dL_law_594 : decode cL_law 594 = .ok (.invokevirtual 73, 3) := by decide +kernel
theorem dL_law_597 : decode cL_law 597 = .ok (.if_icmp .eq 602, 3) := by decide +kernel
theorem dL_law_600 : decode cL_law 600 = .ok (.iconst 0, 1) := by decide +kernel
theorem dL_law_601 : decode cL_law 601 = .ok (.ireturn, 1) := by decide +kernel
theorem dL_law_602 : decode cL_law 602 = .ok (.aload_n 1, 1) := by decide +kernel
theorem dL_law_603 : decode cL_law 603 = .ok (.aload_n 0, 1) := by decide +kernel
theorem dL_law_604 : decode cL_law 604 = .ok (.iload_n 3, 1) := by decide +kernel
theorem dL_law_605 : decode cL_law 605 = .ok (.iconst 1, 1) := by decide +kernel
theorem dL_law_606 : decode cL_law 606 = .ok (.iadd, 1) := by decide +kernel
theorem dL_law_607 : decode cL_law 607 = .ok (.iaload, 1) := by decide +kernel
theorem dL_law_608 : decode cL_law 608 = .ok (.aload_n 0, 1) := by decide +kernel
theorem dL_law_609 : decode cL_law 609 = .ok (.iload_n 3, 1) := by decide +kernel
theorem dL_law_610 : decode cL_law 610 = .ok (.iconst 2, 1) := by decide +kernel
theorem dL_law_611 : decode cL_law 611 = .ok (.iadd, 1) := by decide +kernel
theorem dL_law_612 : decode cL_law 612 = .ok (.iaload, 1) := by decide +kernel
theorem dL_law_613 : decode cL_law 613 = .ok (.aload_n 0, 1) := by decide +kernel
theorem dL_law_614 : decode cL_law 614 = .ok (.iload_n 3, 1) := by decide +kernel
theorem dL_law_615 : decode cL_law 615 = .ok (.iconst 3, 1) := by decide +kernel
theorem dL_law_616 : decode cL_law 616 = .ok (.iadd, 1) := by decide +kernel
theorem dL_law_617 : decode cL_law 617 = .ok (.iaload, 1) := by decide +kernel
theorem dL_law_618 : decode cL_law 618 = .ok (.invokevirtual 74, 3) := by decide +kernel
theorem dL_law_621 : decode cL_law 621 = .ok (.aload_n 2, 1) := by decide +kernel
theorem dL_law_622 : decode cL_law 622 = .ok (.aload_n 0, 1) := by decide +kernel
theorem dL_law_623 : decode cL_law 623 = .ok (.iload_n 3, 1) := by decide +kernel
theorem dL_law_624 : decode cL_law 624 = .ok (.iconst 1, 1) := by decide +kernel
theorem dL_law_625 : decode cL_law 625 = .ok (.iadd, 1) := by decide +kernel
theorem dL_law_626 : decode cL_law 626 = .ok (.iaload, 1) := by decide +kernel
theorem dL_law_627 : decode cL_law 627 = .ok (.aload_n 0, 1) := by decide +kernel
theorem dL_law_628 : decode cL_law 628 = .ok (.iload_n 3, 1) := by decide +kernel
theorem dL_law_629 : decode cL_law 629 = .ok (.iconst 2, 1) := by decide +kernel
theorem dL_law_630 : decode cL_law 630 = .ok (.iadd, 1) := by decide +kernel
theorem dL_law_631 : decode cL_law 631 = .ok (.iaload, 1) := by decide +kernel
theorem dL_law_632 : decode cL_law 632 = .ok (.aload_n 0, 1) := by decide +kernel
theorem dL_law_633 : decode cL_law 633 = .ok (.iload_n 3, 1) := by decide +kernel
theorem dL_law_634 : decode cL_law 634 = .ok (.iconst 3, 1) := by decide +kernel
theorem dL_law_635 : decode cL_law 635 = .ok (.iadd, 1) := by decide +kernel
theorem dL_law_636 : decode cL_law 636 = .ok (.iaload, 1) := by decide +kernel
theorem dL_law_637 : decode cL_law 637 = .ok (.invokevirtual 77, 3) := by decide +kernel
theorem dL_law_640 : decode cL_law 640 = .ok (.if_icmp .eq 559, 3) := by decide +kernel
theorem dL_law_643 : decode cL_law 643 = .ok (.iconst 0, 1) := by decide +kernel
theorem dL_law_644 : decode cL_law 644 = .ok (.ireturn, 1) := by decide +kernel
theorem dL_law_645 : decode cL_law 645 = .ok (.aload_n 1, 1) := by decide +kernel
theorem dL_law_646 : decode cL_law 646 = .ok (.aload_n 0, 1) := by decide +kernel
theorem dL_law_647 : decode cL_law 647 = .ok (.iload_n 3, 1) := by decide +kernel
theorem dL_law_648 : decode cL_law 648 = .ok (.iconst 1, 1) := by decide +kernel
theorem dL_law_649 : decode cL_law 649 = .ok (.iadd, 1) := by decide +kernel
theorem dL_law_650 : decode cL_law 650 = .ok (.iaload, 1) := by decide +kernel
theorem dL_law_651 : decode cL_law 651 = .ok (.invokevirtual 78, 3) := by decide +kernel
theorem dL_law_654 : decode cL_law 654 = .ok (.aload_n 2, 1) := by decide +kernel
theorem dL_law_655 : decode cL_law 655 = .ok (.aload_n 0, 1) := by decide +kernel
theorem dL_law_656 : decode cL_law 656 = .ok (.iload_n 3, 1) := by decide +kernel
theorem dL_law_657 : decode cL_law 657 = .ok (.iconst 1, 1) := by decide +kernel
theorem dL_law_658 : decode cL_law 658 = .ok (.iadd, 1) := by decide +kernel
theorem dL_law_659 : decode cL_law 659 = .ok (.iaload, 1) := by decide +kernel
theorem dL_law_660 : decode cL_law 660 = .ok (.invokevirtual 81, 3) := by decide +kernel
theorem dL_law_663 : decode cL_law 663 = .ok (.if_icmp .eq 536, 3) := by decide +kernel
theorem dL_law_666 : decode cL_law 666 = .ok (.iconst 0, 1) := by decide +kernel
theorem dL_law_667 : decode cL_law 667 = .ok (.ireturn, 1) := by decide +kernel
theorem dL_law_668 : decode cL_law 668 = .ok (.aload_n 1, 1) := by decide +kernel
theorem dL_law_669 : decode cL_law 669 = .ok (.aload_n 0, 1) := by decide +kernel
theorem dL_law_670 : decode cL_law 670 = .ok (.iload_n 3, 1) := by decide +kernel
theorem dL_law_671 : decode cL_law 671 = .ok (.iconst 1, 1) := by decide +kernel
theorem dL_law_672 : decode cL_law 672 = .ok (.iadd, 1) := by decide +kernel
theorem dL_law_673 : decode cL_law 673 = .ok (.iaload, 1) := by decide +kernel
theorem dL_law_674 : decode cL_law 674 = .ok (.invokevirtual 82, 3) := by decide +kernel
theorem dL_law_677 : decode cL_law 677 = .ok (.aload_n 2, 1) := by decide +kernel
theorem dL_law_678 : decode cL_law 678 = .ok (.aload_n 0, 1) := by decide +kernel
theorem dL_law_679 : decode cL_law 679 = .ok (.iload_n 3, 1) := by decide +kernel
theorem dL_law_680 : decode cL_law 680 = .ok (.iconst 1, 1) := by decide +kernel
theorem dL_law_681 : decode cL_law 681 = .ok (.iadd, 1) := by decide +kernel
theorem dL_law_682 : decode cL_law 682 = .ok (.iaload, 1) := by decide +kernel
theorem dL_law_683 : decode cL_law 683 = .ok (.invokevirtual 85, 3) := by decide +kernel
theorem dL_law_686 : decode cL_law 686 = .ok (.if_icmp .eq 513, 3) := by decide +kernel
theorem dL_law_689 : decode cL_law 689 = .ok (.iconst 0, 1) := by decide +kernel
theorem dL_law_690 : decode cL_law 690 = .ok (.ireturn, 1) := by decide +kernel
theorem dL_law_691 : decode cL_law 691 = .ok (.aload_n 1, 1) := by decide +kernel
theorem dL_law_692 : decode cL_law 692 = .ok (.invokevirtual 86, 3) := by decide +kernel
theorem dL_law_695 : decode cL_law 695 = .ok (.aload_n 2, 1) := by decide +kernel
theorem dL_law_696 : decode cL_law 696 = .ok (.invokevirtual 89, 3) := by decide +kernel
theorem dL_law_699 : decode cL_law 699 = .ok (.if_icmp .eq 500, 3) := by decide +kernel
theorem dL_law_702 : decode cL_law 702 = .ok (.iconst 0, 1) := by decide +kernel
theorem dL_law_703 : decode cL_law 703 = .ok (.ireturn, 1) := by decide +kernel
theorem dL_law_704 : decode cL_law 704 = .ok (.aload_n 1, 1) := by decide +kernel
theorem dL_law_705 : decode cL_law 705 = .ok (.aload_n 0, 1) := by decide +kernel
theorem dL_law_706 : decode cL_law 706 = .ok (.iload_n 3, 1) := by decide +kernel
theorem dL_law_707 : decode cL_law 707 = .ok (.iconst 1, 1) := by decide +kernel
theorem dL_law_708 : decode cL_law 708 = .ok (.iadd, 1) := by decide +kernel
theorem dL_law_709 : decode cL_law 709 = .ok (.iaload, 1) := by decide +kernel
theorem dL_law_710 : decode cL_law 710 = .ok (.aload_n 0, 1) := by decide +kernel
theorem dL_law_711 : decode cL_law 711 = .ok (.iload_n 3, 1) := by decide +kernel
theorem dL_law_712 : decode cL_law 712 = .ok (.iconst 2, 1) := by decide +kernel
theorem dL_law_713 : decode cL_law 713 = .ok (.iadd, 1) := by decide +kernel
theorem dL_law_714 : decode cL_law 714 = .ok (.iaload, 1) := by decide +kernel
theorem dL_law_715 : decode cL_law 715 = .ok (.invokevirtual 90, 3) := by decide +kernel
theorem dL_law_718 : decode cL_law 718 = .ok (.aload_n 2, 1) := by decide +kernel
theorem dL_law_719 : decode cL_law 719 = .ok (.aload_n 0, 1) := by decide +kernel
theorem dL_law_720 : decode cL_law 720 = .ok (.iload_n 3, 1) := by decide +kernel
theorem dL_law_721 : decode cL_law 721 = .ok (.iconst 1, 1) := by decide +kernel
theorem dL_law_722 : decode cL_law 722 = .ok (.iadd, 1) := by decide +kernel
theorem dL_law_723 : decode cL_law 723 = .ok (.iaload, 1) := by decide +kernel
theorem dL_law_724 : decode cL_law 724 = .ok (.aload_n 0, 1) := by decide +kernel
theorem dL_law_725 : decode cL_law 725 = .ok (.iload_n 3, 1) := by decide +kernel
theorem dL_law_726 : decode cL_law 726 = .ok (.iconst 2, 1) := by decide +kernel
theorem dL_law_727 : decode cL_law 727 = .ok (.iadd, 1) := by decide +kernel
theorem dL_law_728 : decode cL_law 728 = .ok (.iaload, 1) := by decide +kernel
theorem dL_law_729 : decode cL_law 729 = .ok (.invokevirtual 93, 3) := by decide +kernel
theorem dL_law_732 : decode cL_law 732 = .ok (.if_icmp .eq 467, 3) := by decide +kernel
theorem dL_law_735 : decode cL_law 735 = .ok (.iconst 0, 1) := by decide +kernel
theorem dL_law_736 : decode cL_law 736 = .ok (.ireturn, 1) := by decide +kernel
theorem dL_law_737 : decode cL_law 737 = .ok (.aload_n 1, 1) := by decide +kernel
theorem dL_law_738 : decode cL_law 738 = .ok (.aload_n 0, 1) := by decide +kernel
theorem dL_law_739 : decode cL_law 739 = .ok (.iload_n 3, 1) := by decide +kernel
theorem dL_law_740 : decode cL_law 740 = .ok (.iconst 1, 1) := by decide +kernel
theorem dL_law_741 : decode cL_law 741 = .ok (.iadd, 1) := by decide +kernel
theorem dL_law_742 : decode cL_law 742 = .ok (.iaload, 1) := by decide +kernel
theorem dL_law_743 : decode cL_law 743 = .ok (.aload_n 0, 1) := by decide +kernel
theorem dL_law_744 : decode cL_law 744 = .ok (.iload_n 3, 1) := by decide +kernel
theorem dL_law_745 : decode cL_law 745 = .ok (.iconst 2, 1) := by decide +kernel
theorem dL_law_746 : decode cL_law 746 = .ok (.iadd, 1) := by decide +kernel
theorem dL_law_747 : decode cL_law 747 = .ok (.iaload, 1) := by decide +kernel
theorem dL_law_748 : decode cL_law 748 = .ok (.invokevirtual 94, 3) := by decide +kernel
theorem dL_law_751 : decode cL_law 751 = .ok (.aload_n 2, 1) := by decide +kernel
theorem dL_law_752 : decode cL_law 752 = .ok (.aload_n 0, 1) := by decide +kernel
theorem dL_law_753 : decode cL_law 753 = .ok (.iload_n 3, 1) := by decide +kernel
theorem dL_law_754 : decode cL_law 754 = .ok (.iconst 1, 1) := by decide +kernel
theorem dL_law_755 : decode cL_law 755 = .ok (.iadd, 1) := by decide +kernel
theorem dL_law_756 : decode cL_law 756 = .ok (.iaload, 1) := by decide +kernel
theorem dL_law_757 : decode cL_law 757 = .ok (.aload_n 0, 1) := by decide +kernel
theorem dL_law_758 : decode cL_law 758 = .ok (.iload_n 3, 1) := by decide +kernel
theorem dL_law_759 : decode cL_law 759 = .ok (.iconst 2, 1) := by decide +kernel
theorem dL_law_760 : decode cL_law 760 = .ok (.iadd, 1) := by decide +kernel
theorem dL_law_761 : decode cL_law 761 = .ok (.iaload, 1) := by decide +kernel
theorem dL_law_762 : decode cL_law 762 = .ok (.invokevirtual 97, 3) := by decide +kernel
theorem dL_law_765 : decode cL_law 765 = .ok (.if_icmp .eq 434, 3) := by decide +kernel
theorem dL_law_768 : decode cL_law 768 = .ok (.iconst 0, 1) := by decide +kernel
theorem dL_law_769 : decode cL_law 769 = .ok (.ireturn, 1) := by decide +kernel
theorem dL_law_770 : decode cL_law 770 = .ok (.aload_n 1, 1) := by decide +kernel
theorem dL_law_771 : decode cL_law 771 = .ok (.aload_n 0, 1) := by decide +kernel
theorem dL_law_772 : decode cL_law 772 = .ok (.iload_n 3, 1) := by decide +kernel
theorem dL_law_773 : decode cL_law 773 = .ok (.iconst 1, 1) := by decide +kernel
theorem dL_law_774 : decode cL_law 774 = .ok (.iadd, 1) := by decide +kernel
theorem dL_law_775 : decode cL_law 775 = .ok (.iaload, 1) := by decide +kernel
theorem dL_law_776 : decode cL_law 776 = .ok (.aload_n 0, 1) := by decide +kernel
theorem dL_law_777 : decode cL_law 777 = .ok (.iload_n 3, 1) := by decide +kernel
theorem dL_law_778 : decode cL_law 778 = .ok (.iconst 2, 1) := by decide +kernel
theorem dL_law_779 : decode cL_law 779 = .ok (.iadd, 1) := by decide +kernel
theorem dL_law_780 : decode cL_law 780 = .ok (.iaload, 1) := by decide +kernel
theorem dL_law_781 : decode cL_law 781 = .ok (.aload_n 0, 1) := by decide +kernel
theorem dL_law_782 : decode cL_law 782 = .ok (.iload_n 3, 1) := by decide +kernel
theorem dL_law_783 : decode cL_law 783 = .ok (.iconst 3, 1) := by decide +kernel
theorem dL_law_784 : decode cL_law 784 = .ok (.iadd, 1) := by decide +kernel
theorem dL_law_785 : decode cL_law 785 = .ok (.iaload, 1) := by decide +kernel
theorem dL_law_786 : decode cL_law 786 = .ok (.invokevirtual 98, 3) := by decide +kernel
theorem dL_law_789 : decode cL_law 789 = .ok (.aload_n 2, 1) := by decide +kernel
theorem dL_law_790 : decode cL_law 790 = .ok (.aload_n 0, 1) := by decide +kernel
theorem dL_law_791 : decode cL_law 791 = .ok (.iload_n 3, 1) := by decide +kernel
theorem dL_law_792 : decode cL_law 792 = .ok (.iconst 1, 1) := by decide +kernel
theorem dL_law_793 : decode cL_law 793 = .ok (.iadd, 1) := by decide +kernel
theorem dL_law_794 : decode cL_law 794 = .ok (.iaload, 1) := by decide +kernel
theorem dL_law_795 : decode cL_law 795 = .ok (.aload_n 0, 1) := by decide +kernel
theorem dL_law_796 : decode cL_law 796 = .ok (.iload_n 3, 1) := by decide +kernel
theorem dL_law_797 : decode cL_law 797 = .ok (.iconst 2, 1) := by decide +kernel
theorem dL_law_798 : decode cL_law 798 = .ok (.iadd, 1) := by decide +kernel
theorem dL_law_799 : decode cL_law 799 = .ok (.iaload, 1) := by decide +kernel
theorem dL_law_800 : decode cL_law 800 = .ok (.aload_n 0, 1) := by decide +kernel
theorem dL_law_801 : decode cL_law 801 = .ok (.iload_n 3, 1) := by decide +kernel
theorem dL_law_802 : decode cL_law 802 = .ok (.iconst 3, 1) := by decide +kernel
theorem dL_law_803 : decode cL_law 803 = .ok (.iadd, 1) := by decide +kernel
theorem dL_law_804 : decode cL_law 804 = .ok (.iaload, 1) := by decide +kernel
theorem dL_law_805 : decode cL_law 805 = .ok (.invokevirtual 101, 3) := by decide +kernel
theorem dL_law_808 : decode cL_law 808 = .ok (.if_icmp .eq 391, 3) := by decide +kernel
theorem dL_law_811 : decode cL_law 811 = .ok (.iconst 0, 1) := by decide +kernel
theorem dL_law_812 : decode cL_law 812 = .ok (.ireturn, 1) := by decide +kernel
theorem dL_law_813 : decode cL_law 813 = .ok (.aload_n 1, 1) := by decide +kernel
theorem dL_law_814 : decode cL_law 814 = .ok (.aload_n 0, 1) := by decide +kernel
theorem dL_law_815 : decode cL_law 815 = .ok (.iload_n 3, 1) := by decide +kernel
theorem dL_law_816 : decode cL_law 816 = .ok (.iconst 1, 1) := by decide +kernel
theorem dL_law_817 : decode cL_law 817 = .ok (.iadd, 1) := by decide +kernel
theorem dL_law_818 : decode cL_law 818 = .ok (.iaload, 1) := by decide +kernel
theorem dL_law_819 : decode cL_law 819 = .ok (.aload_n 0, 1) := by decide +kernel
theorem dL_law_820 : decode cL_law 820 = .ok (.iload_n 3, 1) := by decide +kernel
theorem dL_law_821 : decode cL_law 821 = .ok (.iconst 2, 1) := by decide +kernel
theorem dL_law_822 : decode cL_law 822 = .ok (.iadd, 1) := by decide +kernel
theorem dL_law_823 : decode cL_law 823 = .ok (.iaload, 1) := by decide +kernel
theorem dL_law_824 : decode cL_law 824 = .ok (.invokevirtual 102, 3) := by decide +kernel
theorem dL_law_827 : decode cL_law 827 = .ok (.aload_n 2, 1) := by decide +kernel
theorem dL_law_828 : decode cL_law 828 = .ok (.aload_n 0, 1) := by decide +kernel
theorem dL_law_829 : decode cL_law 829 = .ok (.iload_n 3, 1) := by decide +kernel
theorem dL_law_830 : decode cL_law 830 = .ok (.iconst 1, 1) := by decide +kernel
theorem dL_law_831 : decode cL_law 831 = .ok (.iadd, 1) := by decide +kernel
theorem dL_law_832 : decode cL_law 832 = .ok (.iaload, 1) := by decide +kernel
theorem dL_law_833 : decode cL_law 833 = .ok (.aload_n 0, 1) := by decide +kernel
theorem dL_law_834 : decode cL_law 834 = .ok (.iload_n 3, 1) := by decide +kernel
theorem dL_law_835 : decode cL_law 835 = .ok (.iconst 2, 1) := by decide +kernel
theorem dL_law_836 : decode cL_law 836 = .ok (.iadd, 1) := by decide +kernel
theorem dL_law_837 : decode cL_law 837 = .ok (.iaload, 1) := by decide +kernel
theorem dL_law_838 : decode cL_law 838 = .ok (.invokevirtual 105, 3) := by decide +kernel
theorem dL_law_841 : decode cL_law 841 = .ok (.if_icmp .eq 358, 3) := by decide +kernel
theorem dL_law_844 : decode cL_law 844 = .ok (.iconst 0, 1) := by decide +kernel
theorem dL_law_845 : decode cL_law 845 = .ok (.ireturn, 1) := by decide +kernel
theorem dL_law_846 : decode cL_law 846 = .ok (.aload_n 1, 1) := by decide +kernel
theorem dL_law_847 : decode cL_law 847 = .ok (.aload_n 0, 1) := by decide +kernel
theorem dL_law_848 : decode cL_law 848 = .ok (.iload_n 3, 1) := by decide +kernel
theorem dL_law_849 : decode cL_law 849 = .ok (.iconst 1, 1) := by decide +kernel
theorem dL_law_850 : decode cL_law 850 = .ok (.iadd, 1) := by decide +kernel
theorem dL_law_851 : decode cL_law 851 = .ok (.iaload, 1) := by decide +kernel
theorem dL_law_852 : decode cL_law 852 = .ok (.aload_n 0, 1) := by decide +kernel
theorem dL_law_853 : decode cL_law 853 = .ok (.iload_n 3, 1) := by decide +kernel
theorem dL_law_854 : decode cL_law 854 = .ok (.iconst 2, 1) := by decide +kernel
theorem dL_law_855 : decode cL_law 855 = .ok (.iadd, 1) := by decide +kernel
theorem dL_law_856 : decode cL_law 856 = .ok (.iaload, 1) := by decide +kernel
theorem dL_law_857 : decode cL_law 857 = .ok (.aload_n 0, 1) := by decide +kernel
theorem dL_law_858 : decode cL_law 858 = .ok (.iload_n 3, 1) := by decide +kernel
theorem dL_law_859 : decode cL_law 859 = .ok (.iconst 3, 1) := by decide +kernel
theorem dL_law_860 : decode cL_law 860 = .ok (.iadd, 1) := by decide +kernel
theorem dL_law_861 : decode cL_law 861 = .ok (.iaload, 1) := by decide +kernel
theorem dL_law_862 : decode cL_law 862 = .ok (.aload_n 0, 1) := by decide +kernel
theorem dL_law_863 : decode cL_law 863 = .ok (.iload_n 3, 1) := by decide +kernel
theorem dL_law_864 : decode cL_law 864 = .ok (.iconst 4, 1) := by decide +kernel
theorem dL_law_865 : decode cL_law 865 = .ok (.iadd, 1) := by decide +kernel
theorem dL_law_866 : decode cL_law 866 = .ok (.iaload, 1) := by decide +kernel
theorem dL_law_867 : decode cL_law 867 = .ok (.aload_n 0, 1) := by decide +kernel
theorem dL_law_868 : decode cL_law 868 = .ok (.iload_n 3, 1) := by decide +kernel
theorem dL_law_869 : decode cL_law 869 = .ok (.iconst 5, 1) := by decide +kernel
theorem dL_law_870 : decode cL_law 870 = .ok (.iadd, 1) := by decide +kernel
theorem dL_law_871 : decode cL_law 871 = .ok (.iaload, 1) := by decide +kernel
theorem dL_law_872 : decode cL_law 872 = .ok (.invokevirtual 106, 3) := by decide +kernel
theorem dL_law_875 : decode cL_law 875 = .ok (.aload_n 2, 1) := by decide +kernel
theorem dL_law_876 : decode cL_law 876 = .ok (.aload_n 0, 1) := by decide +kernel
theorem dL_law_877 : decode cL_law 877 = .ok (.iload_n 3, 1) := by decide +kernel
theorem dL_law_878 : decode cL_law 878 = .ok (.iconst 1, 1) := by decide +kernel
theorem dL_law_879 : decode cL_law 879 = .ok (.iadd, 1) := by decide +kernel
theorem dL_law_880 : decode cL_law 880 = .ok (.iaload, 1) := by decide +kernel
theorem dL_law_881 : decode cL_law 881 = .ok (.aload_n 0, 1) := by decide +kernel
theorem dL_law_882 : decode cL_law 882 = .ok (.iload_n 3, 1) := by decide +kernel
theorem dL_law_883 : decode cL_law 883 = .ok (.iconst 2, 1) := by decide +kernel
theorem dL_law_884 : decode cL_law 884 = .ok (.iadd, 1) := by decide +kernel
theorem dL_law_885 : decode cL_law 885 = .ok (.iaload, 1) := by decide +kernel
theorem dL_law_886 : decode cL_law 886 = .ok (.aload_n 0, 1) := by decide +kernel
theorem dL_law_887 : decode cL_law 887 = .ok (.iload_n 3, 1) := by decide +kernel
theorem dL_law_888 : decode cL_law 888 = .ok (.iconst 3, 1) := by decide +kernel
theorem dL_law_889 : decode cL_law 889 = .ok (.iadd, 1) := by decide +kernel
theorem dL_law_890 : decode cL_law 890 = .ok (.iaload, 1) := by decide +kernel
theorem dL_law_891 : decode cL_law 891 = .ok (.aload_n 0, 1) := by decide +kernel
theorem dL_law_892 : decode cL_law 892 = .ok (.iload_n 3, 1) := by decide +kernel
theorem dL_law_893 : decode cL_law 893 = .ok (.iconst 4, 1) := by decide +kernel
theorem dL_law_894 : decode cL_law 894 = .ok (.iadd, 1) := by decide +kernel
theorem dL_law_895 : decode cL_law 895 = .ok (.iaload, 1) := by decide +kernel
theorem dL_law_896 : decode cL_law 896 = .ok (.aload_n 0, 1) := by decide +kernel
theorem dL_law_897 : decode cL_law 897 = .ok (.iload_n 3, 1) := by decide +kernel
theorem dL_law_898 : decode cL_law 898 = .ok (.iconst 5, 1) := by decide +kernel
theorem dL_law_899 : decode cL_law 899 = .ok (.iadd, 1) := by decide +kernel
theorem dL_law_900 : decode cL_law 900 = .ok (.iaload, 1) := by decide +kernel
theorem dL_law_901 : decode cL_law 901 = .ok (.invokevirtual 109, 3) := by decide +kernel
theorem dL_law_904 : decode cL_law 904 = .ok (.if_icmp .eq 295, 3) := by decide +kernel
theorem dL_law_907 : decode cL_law 907 = .ok (.iconst 0, 1) := by decide +kernel
theorem dL_law_908 : decode cL_law 908 = .ok (.ireturn, 1) := by decide +kernel
theorem dL_law_909 : decode cL_law 909 = .ok (.aload_n 1, 1) := by decide +kernel
theorem dL_law_910 : decode cL_law 910 = .ok (.aload_n 0, 1) := by decide +kernel
theorem dL_law_911 : decode cL_law 911 = .ok (.iload_n 3, 1) := by decide +kernel
theorem dL_law_912 : decode cL_law 912 = .ok (.iconst 1, 1) := by decide +kernel
theorem dL_law_913 : decode cL_law 913 = .ok (.iadd, 1) := by decide +kernel
theorem dL_law_914 : decode cL_law 914 = .ok (.iaload, 1) := by decide +kernel
theorem dL_law_915 : decode cL_law 915 = .ok (.aload_n 0, 1) := by decide +kernel
theorem dL_law_916 : decode cL_law 916 = .ok (.iload_n 3, 1) := by decide +kernel
theorem dL_law_917 : decode cL_law 917 = .ok (.iconst 2, 1) := by decide +kernel
theorem dL_law_918 : decode cL_law 918 = .ok (.iadd, 1) := by decide +kernel
theorem dL_law_919 : decode cL_law 919 = .ok (.iaload, 1) := by decide +kernel
theorem dL_law_920 : decode cL_law 920 = .ok (.aload_n 0, 1) := by decide +kernel
theorem dL_law_921 : decode cL_law 921 = .ok (.iload_n 3, 1) := by decide +kernel
theorem dL_law_922 : decode cL_law 922 = .ok (.iconst 3, 1) := by decide +kernel
theorem dL_law_923 : decode cL_law 923 = .ok (.iadd, 1) := by decide +kernel
theorem dL_law_924 : decode cL_law 924 = .ok (.iaload, 1) := by decide +kernel
theorem dL_law_925 : decode cL_law 925 = .ok (.aload_n 0, 1) := by decide +kernel
theorem dL_law_926 : decode cL_law 926 = .ok (.iload_n 3, 1) := by decide +kernel
theorem dL_law_927 : decode cL_law 927 = .ok (.iconst 4, 1) := by decide +kernel
theorem dL_law_928 : decode cL_law 928 = .ok (.iadd, 1) := by decide +kernel
theorem dL_law_929 : decode cL_law 929 = .ok (.iaload, 1) := by decide +kernel
theorem dL_law_930 : decode cL_law 930 = .ok (.invokevirtual 110, 3) := by decide +kernel
theorem dL_law_933 : decode cL_law 933 = .ok (.aload_n 2, 1) := by decide +kernel
theorem dL_law_934 : decode cL_law 934 = .ok (.aload_n 0, 1) := by decide +kernel
theorem dL_law_935 : decode cL_law 935 = .ok (.iload_n 3, 1) := by decide +kernel
theorem dL_law_936 : decode cL_law 936 = .ok (.iconst 1, 1) := by decide +kernel
theorem dL_law_937 : decode cL_law 937 = .ok (.iadd, 1) := by decide +kernel
theorem dL_law_938 : decode cL_law 938 = .ok (.iaload, 1) := by decide +kernel
theorem dL_law_939 : decode cL_law 939 = .ok (.aload_n 0, 1) := by decide +kernel
theorem dL_law_940 : decode cL_law 940 = .ok (.iload_n 3, 1) := by decide +kernel
theorem dL_law_941 : decode cL_law 941 = .ok (.iconst 2, 1) := by decide +kernel
theorem dL_law_942 : decode cL_law 942 = .ok (.iadd, 1) := by decide +kernel
theorem dL_law_943 : decode cL_law 943 = .ok (.iaload, 1) := by decide +kernel
theorem dL_law_944 : decode cL_law 944 = .ok (.aload_n 0, 1) := by decide +kernel
theorem dL_law_945 : decode cL_law 945 = .ok (.iload_n 3, 1) := by decide +kernel
theorem dL_law_946 : decode cL_law 946 = .ok (.iconst 3, 1) := by decide +kernel
theorem dL_law_947 : decode cL_law 947 = .ok (.iadd, 1) := by decide +kernel
theorem dL_law_948 : decode cL_law 948 = .ok (.iaload, 1) := by decide +kernel
theorem dL_law_949 : decode cL_law 949 = .ok (.aload_n 0, 1) := by decide +kernel
theorem dL_law_950 : decode cL_law 950 = .ok (.iload_n 3, 1) := by decide +kernel
theorem dL_law_951 : decode cL_law 951 = .ok (.iconst 4, 1) := by decide +kernel
theorem dL_law_952 : decode cL_law 952 = .ok (.iadd, 1) := by decide +kernel
theorem dL_law_953 : decode cL_law 953 = .ok (.iaload, 1) := by decide +kernel
theorem dL_law_954 : decode cL_law 954 = .ok (.invokevirtual 114, 3) := by decide +kernel
theorem dL_law_957 : decode cL_law 957 = .ok (.if_icmp .eq 242, 3) := by decide +kernel
theorem dL_law_960 : decode cL_law 960 = .ok (.iconst 0, 1) := by decide +kernel
theorem dL_law_961 : decode cL_law 961 = .ok (.ireturn, 1) := by decide +kernel
theorem dL_law_962 : decode cL_law 962 = .ok (.aload_n 1, 1) := by decide +kernel
theorem dL_law_963 : decode cL_law 963 = .ok (.aload_n 0, 1) := by decide +kernel
theorem dL_law_964 : decode cL_law 964 = .ok (.iload_n 3, 1) := by decide +kernel
theorem dL_law_965 : decode cL_law 965 = .ok (.iconst 1, 1) := by decide +kernel
theorem dL_law_966 : decode cL_law 966 = .ok (.iadd, 1) := by decide +kernel
theorem dL_law_967 : decode cL_law 967 = .ok (.iaload, 1) := by decide +kernel
theorem dL_law_968 : decode cL_law 968 = .ok (.aload_n 0, 1) := by decide +kernel
theorem dL_law_969 : decode cL_law 969 = .ok (.iload_n 3, 1) := by decide +kernel
theorem dL_law_970 : decode cL_law 970 = .ok (.iconst 2, 1) := by decide +kernel
theorem dL_law_971 : decode cL_law 971 = .ok (.iadd, 1) := by decide +kernel
theorem dL_law_972 : decode cL_law 972 = .ok (.iaload, 1) := by decide +kernel
theorem dL_law_973 : decode cL_law 973 = .ok (.aload_n 0, 1) := by decide +kernel
theorem dL_law_974 : decode cL_law 974 = .ok (.iload_n 3, 1) := by decide +kernel
theorem dL_law_975 : decode cL_law 975 = .ok (.iconst 3, 1) := by decide +kernel
theorem dL_law_976 : decode cL_law 976 = .ok (.iadd, 1) := by decide +kernel
theorem dL_law_977 : decode cL_law 977 = .ok (.iaload, 1) := by decide +kernel
theorem dL_law_978 : decode cL_law 978 = .ok (.invokevirtual 115, 3) := by decide +kernel
theorem dL_law_981 : decode cL_law 981 = .ok (.aload_n 2, 1) := by decide +kernel
theorem dL_law_982 : decode cL_law 982 = .ok (.aload_n 0, 1) := by decide +kernel
theorem dL_law_983 : decode cL_law 983 = .ok (.iload_n 3, 1) := by decide +kernel
theorem dL_law_984 : decode cL_law 984 = .ok (.iconst 1, 1) := by decide +kernel
theorem dL_law_985 : decode cL_law 985 = .ok (.iadd, 1) := by decide +kernel
theorem dL_law_986 : decode cL_law 986 = .ok (.iaload, 1) := by decide +kernel
theorem dL_law_987 : decode cL_law 987 = .ok (.aload_n 0, 1) := by decide +kernel
theorem dL_law_988 : decode cL_law 988 = .ok (.iload_n 3, 1) := by decide +kernel
theorem dL_law_989 : decode cL_law 989 = .ok (.iconst 2, 1) := by decide +kernel
theorem dL_law_990 : decode cL_law 990 = .ok (.iadd, 1) := by decide +kernel
theorem dL_law_991 : decode cL_law 991 = .ok (.iaload, 1) := by decide +kernel
theorem dL_law_992 : decode cL_law 992 = .ok (.aload_n 0, 1) := by decide +kernel
theorem dL_law_993 : decode cL_law 993 = .ok (.iload_n 3, 1) := by decide +kernel
theorem dL_law_994 : decode cL_law 994 = .ok (.iconst 3, 1) := by decide +kernel
theorem dL_law_995 : decode cL_law 995 = .ok (.iadd, 1) := by decide +kernel
theorem dL_law_996 : decode cL_law 996 = .ok (.iaload, 1) := by decide +kernel
theorem dL_law_997 : decode cL_law 997 = .ok (.invokevirtual 118, 3) := by decide +kernel
theorem dL_law_1000 : decode cL_law 1000 = .ok (.if_icmp .eq 199, 3) := by decide +kernel
theorem dL_law_1003 : decode cL_law 1003 = .ok (.iconst 0, 1) := by decide +kernel
theorem dL_law_1004 : decode cL_law 1004 = .ok (.ireturn, 1) := by decide +kernel
theorem dL_law_1005 : decode cL_law 1005 = .ok (.aload_n 1, 1) := by decide +kernel
theorem dL_law_1006 : decode cL_law 1006 = .ok (.aload_n 0, 1) := by decide +kernel
theorem dL_law_1007 : decode cL_law 1007 = .ok (.iload_n 3, 1) := by decide +kernel
theorem dL_law_1008 : decode cL_law 1008 = .ok (.iconst 1, 1) := by decide +kernel
theorem dL_law_1009 : decode cL_law 1009 = .ok (.iadd, 1) := by decide +kernel
theorem dL_law_1010 : decode cL_law 1010 = .ok (.iaload, 1) := by decide +kernel
theorem dL_law_1011 : decode cL_law 1011 = .ok (.invokevirtual 119, 3) := by decide +kernel
theorem dL_law_1014 : decode cL_law 1014 = .ok (.aload_n 2, 1) := by decide +kernel
theorem dL_law_1015 : decode cL_law 1015 = .ok (.aload_n 0, 1) := by decide +kernel
theorem dL_law_1016 : decode cL_law 1016 = .ok (.iload_n 3, 1) := by decide +kernel
theorem dL_law_1017 : decode cL_law 1017 = .ok (.iconst 1, 1) := by decide +kernel
theorem dL_law_1018 : decode cL_law 1018 = .ok (.iadd, 1) := by decide +kernel
theorem dL_law_1019 : decode cL_law 1019 = .ok (.iaload, 1) := by decide +kernel
theorem dL_law_1020 : decode cL_law 1020 = .ok (.invokevirtual 122, 3) := by decide +kernel
theorem dL_law_1023 : decode cL_law 1023 = .ok (.if_icmp .eq 176, 3) := by decide +kernel
theorem dL_law_1026 : decode cL_law 1026 = .ok (.iconst 0, 1) := by decide +kernel
theorem dL_law_1027 : decode cL_law 1027 = .ok (.ireturn, 1) := by decide +kernel
theorem dL_law_1028 : decode cL_law 1028 = .ok (.aload_n 1, 1) := by decide +kernel
theorem dL_law_1029 : decode cL_law 1029 = .ok (.aload_n 0, 1) := by decide +kernel
theorem dL_law_1030 : decode cL_law 1030 = .ok (.iload_n 3, 1) := by decide +kernel
theorem dL_law_1031 : decode cL_law 1031 = .ok (.iconst 1, 1) := by decide +kernel
theorem dL_law_1032 : decode cL_law 1032 = .ok (.iadd, 1) := by decide +kernel
theorem dL_law_1033 : decode cL_law 1033 = .ok (.iaload, 1) := by decide +kernel
theorem dL_law_1034 : decode cL_law 1034 = .ok (.invokevirtual 123, 3) := by decide +kernel
theorem dL_law_1037 : decode cL_law 1037 = .ok (.aload_n 2, 1) := by decide +kernel
theorem dL_law_1038 : decode cL_law 1038 = .ok (.aload_n 0, 1) := by decide +kernel
theorem dL_law_1039 : decode cL_law 1039 = .ok (.iload_n 3, 1) := by decide +kernel
theorem dL_law_1040 : decode cL_law 1040 = .ok (.iconst 1, 1) := by decide +kernel
theorem dL_law_1041 : decode cL_law 1041 = .ok (.iadd, 1) := by decide +kernel
theorem dL_law_1042 : decode cL_law 1042 = .ok (.iaload, 1) := by decide +kernel
theorem dL_law_1043 : decode cL_law 1043 = .ok (.invokevirtual 126, 3) := by decide +kernel
theorem dL_law_1046 : decode cL_law 1046 = .ok (.if_icmp .eq 153, 3) := by decide +kernel
theorem dL_law_1049 : decode cL_law 1049 = .ok (.iconst 0, 1) := by decide +kernel
theorem dL_law_1050 : decode cL_law 1050 = .ok (.ireturn, 1) := by decide +kernel
theorem dL_law_1051 : decode cL_law 1051 = .ok (.aload_n 1, 1) := by decide +kernel
theorem dL_law_1052 : decode cL_law 1052 = .ok (.aload_n 0, 1) := by decide +kernel
theorem dL_law_1053 : decode cL_law 1053 = .ok (.iload_n 3, 1) := by decide +kernel
theorem dL_law_1054 : decode cL_law 1054 = .ok (.iconst 1, 1) := by decide +kernel
theorem dL_law_1055 : decode cL_law 1055 = .ok (.iadd, 1) := by decide +kernel
theorem dL_law_1056 : decode cL_law 1056 = .ok (.iaload, 1) := by decide +kernel
theorem dL_law_1057 : decode cL_law 1057 = .ok (.invokevirtual 127, 3) := by decide +kernel
theorem dL_law_1060 : decode cL_law 1060 = .ok (.aload_n 2, 1) := by decide +kernel
theorem dL_law_1061 : decode cL_law 1061 = .ok (.aload_n 0, 1) := by decide +kernel
theorem dL_law_1062 : decode cL_law 1062 = .ok (.iload_n 3, 1) := by decide +kernel
theorem dL_law_1063 : decode cL_law 1063 = .ok (.iconst 1, 1) := by decide +kernel
theorem dL_law_1064 : decode cL_law 1064 = .ok (.iadd, 1) := by decide +kernel
theorem dL_law_1065 : decode cL_law 1065 = .ok (.iaload, 1) := by decide +kernel
theorem dL_law_1066 : decode cL_law 1066 = .ok (.invokevirtual 130, 3) := by decide +kernel
theorem dL_law_1069 : decode cL_law 1069 = .ok (.if_icmp .eq 130, 3) := by decide +kernel
theorem dL_law_1072 : decode cL_law 1072 = .ok (.iconst 0, 1) := by decide +kernel
theorem dL_law_1073 : decode cL_law 1073 = .ok (.ireturn, 1) := by decide +kernel
theorem dL_law_1074 : decode cL_law 1074 = .ok (.aload_n 1, 1) := by decide +kernel
theorem dL_law_1075 : decode cL_law 1075 = .ok (.aload_n 0, 1) := by decide +kernel
theorem dL_law_1076 : decode cL_law 1076 = .ok (.iload_n 3, 1) := by decide +kernel
theorem dL_law_1077 : decode cL_law 1077 = .ok (.iconst 1, 1) := by decide +kernel
theorem dL_law_1078 : decode cL_law 1078 = .ok (.iadd, 1) := by decide +kernel
theorem dL_law_1079 : decode cL_law 1079 = .ok (.iaload, 1) := by decide +kernel
theorem dL_law_1080 : decode cL_law 1080 = .ok (.aload_n 0, 1) := by decide +kernel
theorem dL_law_1081 : decode cL_law 1081 = .ok (.iload_n 3, 1) := by decide +kernel
theorem dL_law_1082 : decode cL_law 1082 = .ok (.iconst 2, 1) := by decide +kernel
theorem dL_law_1083 : decode cL_law 1083 = .ok (.iadd, 1) := by decide +kernel
theorem dL_law_1084 : decode cL_law 1084 = .ok (.iaload, 1) := by decide +kernel
theorem dL_law_1085 : decode cL_law 1085 = .ok (.invokevirtual 131, 3) := by decide +kernel
theorem dL_law_1088 : decode cL_law 1088 = .ok (.aload_n 2, 1) := by decide +kernel
theorem dL_law_1089 : decode cL_law 1089 = .ok (.aload_n 0, 1) := by decide +kernel
theorem dL_law_1090 : decode cL_law 1090 = .ok (.iload_n 3, 1) := by decide +kernel
theorem dL_law_1091 : decode cL_law 1091 = .ok (.iconst 1, 1) := by decide +kernel
theorem dL_law_1092 : decode cL_law 1092 = .ok (.iadd, 1) := by decide +kernel
theorem dL_law_1093 : decode cL_law 1093 = .ok (.iaload, 1) := by decide +kernel
theorem dL_law_1094 : decode cL_law 1094 = .ok (.aload_n 0, 1) := by decide +kernel
theorem dL_law_1095 : decode cL_law 1095 = .ok (.iload_n 3, 1) := by decide +kernel
theorem dL_law_1096 : decode cL_law 1096 = .ok (.iconst 2, 1) := by decide +kernel
theorem dL_law_1097 : decode cL_law 1097 = .ok (.iadd, 1) := by decide +kernel
theorem dL_law_1098 : decode cL_law 1098 = .ok (.iaload, 1) := by decide +kernel
theorem dL_law_1099 : decode cL_law 1099 = .ok (.invokevirtual 134, 3) := by decide +kernel
theorem dL_law_1102 : decode cL_law 1102 = .ok (.if_icmp .eq 97, 3) := by decide +kernel
theorem dL_law_1105 : decode cL_law 1105 = .ok (.iconst 0, 1) := by decide +kernel
theorem dL_law_1106 : decode cL_law 1106 = .ok (.ireturn, 1) := by decide +kernel
theorem dL_law_1107 : decode cL_law 1107 = .ok (.aload_n 1, 1) := by decide +kernel
theorem dL_law_1108 : decode cL_law 1108 = .ok (.aload_n 0, 1) := by decide +kernel
theorem dL_law_1109 : decode cL_law 1109 = .ok (.iload_n 3, 1) := by decide +kernel
theorem dL_law_1110 : decode cL_law 1110 = .ok (.iconst 1, 1) := by decide +kernel
theorem dL_law_1111 : decode cL_law 1111 = .ok (.iadd, 1) := by decide +kernel
theorem dL_law_1112 : decode cL_law 1112 = .ok (.iaload, 1) := by decide +kernel
theorem dL_law_1113 : decode cL_law 1113 = .ok (.aload_n 0, 1) := by decide +kernel
theorem dL_law_1114 : decode cL_law 1114 = .ok (.iload_n 3, 1) := by decide +kernel
theorem dL_law_1115 : decode cL_law 1115 = .ok (.iconst 2, 1) := by decide +kernel
theorem dL_law_1116 : decode cL_law 1116 = .ok (.iadd, 1) := by decide +kernel
theorem dL_law_1117 : decode cL_law 1117 = .ok (.iaload, 1) := by decide +kernel
theorem dL_law_1118 : decode cL_law 1118 = .ok (.invokevirtual 135, 3) := by decide +kernel
theorem dL_law_1121 : decode cL_law 1121 = .ok (.aload_n 2, 1) := by decide +kernel
theorem dL_law_1122 : decode cL_law 1122 = .ok (.aload_n 0, 1) := by decide +kernel
theorem dL_law_1123 : decode cL_law 1123 = .ok (.iload_n 3, 1) := by decide +kernel
theorem dL_law_1124 : decode cL_law 1124 = .ok (.iconst 1, 1) := by decide +kernel
theorem dL_law_1125 : decode cL_law 1125 = .ok (.iadd, 1) := by decide +kernel
theorem dL_law_1126 : decode cL_law 1126 = .ok (.iaload, 1) := by decide +kernel
theorem dL_law_1127 : decode cL_law 1127 = .ok (.aload_n 0, 1) := by decide +kernel
theorem dL_law_1128 : decode cL_law 1128 = .ok (.iload_n 3, 1) := by decide +kernel
theorem dL_law_1129 : decode cL_law 1129 = .ok (.iconst 2, 1) := by decide +kernel
theorem dL_law_1130 : decode cL_law 1130 = .ok (.iadd, 1) := by decide +kernel
theorem dL_law_1131 : decode cL_law 1131 = .ok (.iaload, 1) := by decide +kernel
theorem dL_law_1132 : decode cL_law 1132 = .ok (.invokevirtual 138, 3) := by decide +kernel
theorem dL_law_1135 : decode cL_law 1135 = .ok (.if_icmp .eq 64, 3) := by decide +kernel
theorem dL_law_1138 : decode cL_law 1138 = .ok (.iconst 0, 1) := by decide +kernel
theorem dL_law_1139 : decode cL_law 1139 = .ok (.ireturn, 1) := by decide +kernel
theorem dL_law_1140 : decode cL_law 1140 = .ok (.aload_n 1, 1) := by decide +kernel
theorem dL_law_1141 : decode cL_law 1141 = .ok (.aload_n 0, 1) := by decide +kernel
theorem dL_law_1142 : decode cL_law 1142 = .ok (.iload_n 3, 1) := by decide +kernel
theorem dL_law_1143 : decode cL_law 1143 = .ok (.iconst 1, 1) := by decide +kernel
theorem dL_law_1144 : decode cL_law 1144 = .ok (.iadd, 1) := by decide +kernel
theorem dL_law_1145 : decode cL_law 1145 = .ok (.iaload, 1) := by decide +kernel
theorem dL_law_1146 : decode cL_law 1146 = .ok (.invokevirtual 139, 3) := by decide +kernel
theorem dL_law_1149 : decode cL_law 1149 = .ok (.aload_n 2, 1) := by decide +kernel
theorem dL_law_1150 : decode cL_law 1150 = .ok (.aload_n 0, 1) := by decide +kernel
theorem dL_law_1151 : decode cL_law 1151 = .ok (.iload_n 3, 1) := by decide +kernel
theorem dL_law_1152 : decode cL_law 1152 = .ok (.iconst 1, 1) := by decide +kernel
theorem dL_law_1153 : decode cL_law 1153 = .ok (.iadd, 1) := by decide +kernel
theorem dL_law_1154 : decode cL_law 1154 = .ok (.iaload, 1) := by decide +kernel
theorem dL_law_1155 : decode cL_law 1155 = .ok (.invokevirtual 142, 3) := by decide +kernel
theorem dL_law_1158 : decode cL_law 1158 = .ok (.if_icmp .eq 41, 3) := by decide +kernel
theorem dL_law_1161 : decode cL_law 1161 = .ok (.iconst 0, 1) := by decide +kernel
theorem dL_law_1162 : decode cL_law 1162 = .ok (.ireturn, 1) := by decide +kernel
theorem dL_law_1163 : decode cL_law 1163 = .ok (.aload_n 1, 1) := by decide +kernel
theorem dL_law_1164 : decode cL_law 1164 = .ok (.aload_n 0, 1) := by decide +kernel
theorem dL_law_1165 : decode cL_law 1165 = .ok (.iload_n 3, 1) := by decide +kernel
theorem dL_law_1166 : decode cL_law 1166 = .ok (.iconst 1, 1) := by decide +kernel
theorem dL_law_1167 : decode cL_law 1167 = .ok (.iadd, 1) := by decide +kernel
theorem dL_law_1168 : decode cL_law 1168 = .ok (.iaload, 1) := by decide +kernel
theorem dL_law_1169 : decode cL_law 1169 = .ok (.invokevirtual 143, 3) := by decide +kernel
theorem dL_law_1172 : decode cL_law 1172 = .ok (.aload_n 2, 1) := by decide +kernel
theorem dL_law_1173 : decode cL_law 1173 = .ok (.aload_n 0, 1) := by decide +kernel
theorem dL_law_1174 : decode cL_law 1174 = .ok (.iload_n 3, 1) := by decide +kernel
theorem dL_law_1175 : decode cL_law 1175 = .ok (.iconst 1, 1) := by decide +kernel
theorem dL_law_1176 : decode cL_law 1176 = .ok (.iadd, 1) := by decide +kernel
theorem dL_law_1177 : decode cL_law 1177 = .ok (.iaload, 1) := by decide +kernel
theorem dL_law_1178 : decode cL_law 1178 = .ok (.invokevirtual 146, 3) := by decide +kernel
theorem dL_law_1181 : decode cL_law 1181 = .ok (.if_icmp .eq 18, 3) := by decide +kernel
theorem dL_law_1184 : decode cL_law 1184 = .ok (.iconst 0, 1) := by decide +kernel
theorem dL_law_1185 : decode cL_law 1185 = .ok (.ireturn, 1) := by decide +kernel
theorem dL_law_1186 : decode cL_law 1186 = .ok (.aload_n 1, 1) := by decide +kernel
theorem dL_law_1187 : decode cL_law 1187 = .ok (.invokevirtual 147, 3) := by decide +kernel
theorem dL_law_1190 : decode cL_law 1190 = .ok (.aload_n 2, 1) := by decide +kernel
theorem dL_law_1191 : decode cL_law 1191 = .ok (.invokevirtual 150, 3) := by decide +kernel
theorem dL_law_1194 : decode cL_law 1194 = .ok (.if_icmp .eq 5, 3) := by decide +kernel
theorem dL_law_1197 : decode cL_law 1197 = .ok (.iconst 0, 1) := by decide +kernel
theorem dL_law_1198 : decode cL_law 1198 = .ok (.ireturn, 1) := by decide +kernel
theorem dL_law_1199 : decode cL_law 1199 = .ok (.iinc 3 6, 3) := by decide +kernel
theorem dL_law_1202 : decode cL_law 1202 = .ok (.goto (-1184), 3) := by decide +kernel
theorem dL_law_1205 : decode cL_law 1205 = .ok (.iconst 1, 1) := by decide +kernel
theorem dL_law_1206 : decode cL_law 1206 = .ok (.ireturn, 1) := by decide +kernel
