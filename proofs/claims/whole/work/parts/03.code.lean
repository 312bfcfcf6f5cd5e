theorem dX0_init_0 : decode cX0_init 0 = .ok (.aload_n 0, 1) := by decide +kernel
theorem dX0_init_1 : decode cX0_init 1 = .ok (.invokespecial 1, 3) := by decide +kernel
theorem dX0_init_4 : decode cX0_init 4 = .ok (.aload_n 0, 1) := by decide +kernel
theorem dX0_init_5 : decode cX0_init 5 = .ok (.bipush 16, 2) := by decide +kernel
theorem dX0_init_7 : decode cX0_init 7 = .ok (.newarray .int, 2) := by decide +kernel
theorem dX0_init_9 : decode cX0_init 9 = .ok (.putfield 9, 3) := by decide +kernel
theorem dX0_init_12 : decode cX0_init 12 = .ok (.aload_n 0, 1) := by decide +kernel
theorem dX0_init_13 : decode cX0_init 13 = .ok (.iconst 0, 1) := by decide +kernel
theorem dX0_init_14 : decode cX0_init 14 = .ok (.putfield 13, 3) := by decide +kernel
theorem dX0_init_17 : decode cX0_init 17 = .ok (.aload_n 0, 1) := by decide +kernel
theorem dX0_init_18 : decode cX0_init 18 = .ok (.iconst 0, 1) := by decide +kernel
theorem dX0_init_19 : decode cX0_init 19 = .ok (.putfield 17, 3) := by decide +kernel
theorem dX0_init_22 : decode cX0_init 22 = .ok (.aload_n 0, 1) := by decide +kernel
theorem dX0_init_23 : decode cX0_init 23 = .ok (.iconst 0, 1) := by decide +kernel
theorem dX0_init_24 : decode cX0_init 24 = .ok (.putfield 22, 3) := by decide +kernel
theorem dX0_init_27 : decode cX0_init 27 = .ok (.aload_n 0, 1) := by decide +kernel
theorem dX0_init_28 : decode cX0_init 28 = .ok (.iconst 0, 1) := by decide +kernel
theorem dX0_init_29 : decode cX0_init 29 = .ok (.putfield 25, 3) := by decide +kernel
theorem dX0_init_32 : decode cX0_init 32 = .ok (.aload_n 0, 1) := by decide +kernel
theorem dX0_init_33 : decode cX0_init 33 = .ok (.iconst 0, 1) := by decide +kernel
theorem dX0_init_34 : decode cX0_init 34 = .ok (.putfield 28, 3) := by decide +kernel
theorem dX0_init_37 : decode cX0_init 37 = .ok (.return_, 1) := by decide +kernel
theorem dX0_begin_0 : decode cX0_begin 0 = .ok (.aload_n 0, 1) := by decide +kernel
theorem dX0_begin_1 : decode cX0_begin 1 = .ok (.iconst 0, 1) := by decide +kernel
theorem dX0_begin_2 : decode cX0_begin 2 = .ok (.putfield 13, 3) := by decide +kernel
theorem dX0_begin_5 : decode cX0_begin 5 = .ok (.aload_n 0, 1) := by decide +kernel
theorem dX0_begin_6 : decode cX0_begin 6 = .ok (.iload_n 2, 1) := by decide +kernel
theorem dX0_begin_7 : decode cX0_begin 7 = .ok (.putfield 17, 3) := by decide +kernel
theorem dX0_begin_10 : decode cX0_begin 10 = .ok (.aload_n 0, 1) := by decide +kernel
theorem dX0_begin_11 : decode cX0_begin 11 = .ok (.aload_n 1, 1) := by decide +kernel
theorem dX0_begin_12 : decode cX0_begin 12 = .ok (.getfield 31, 3) := by decide +kernel
theorem dX0_begin_15 : decode cX0_begin 15 = .ok (.iload_n 2, 1) := by decide +kernel
theorem dX0_begin_16 : decode cX0_begin 16 = .ok (.iaload, 1) := by decide +kernel
theorem dX0_begin_17 : decode cX0_begin 17 = .ok (.putfield 22, 3) := by decide +kernel
theorem dX0_begin_20 : decode cX0_begin 20 = .ok (.aload_n 0, 1) := by decide +kernel
theorem dX0_begin_21 : decode cX0_begin 21 = .ok (.aload_n 1, 1) := by decide +kernel
theorem dX0_begin_22 : decode cX0_begin 22 = .ok (.getfield 36, 3) := by decide +kernel
theorem dX0_begin_25 : decode cX0_begin 25 = .ok (.iload_n 2, 1) := by decide +kernel
theorem dX0_begin_26 : decode cX0_begin 26 = .ok (.iaload, 1) := by decide +kernel
theorem dX0_begin_27 : decode cX0_begin 27 = .ok (.invokestatic 39, 3) := by decide +kernel
theorem dX0_begin_30 : decode cX0_begin 30 = .ok (.putfield 25, 3) := by decide +kernel
theorem dX0_begin_33 : decode cX0_begin 33 = .ok (.aload_n 0, 1) := by decide +kernel
theorem dX0_begin_34 : decode cX0_begin 34 = .ok (.aload_n 1, 1) := by decide +kernel
theorem dX0_begin_35 : decode cX0_begin 35 = .ok (.getfield 36, 3) := by decide +kernel
theorem dX0_begin_38 : decode cX0_begin 38 = .ok (.iload_n 2, 1) := by decide +kernel
theorem dX0_begin_39 : decode cX0_begin 39 = .ok (.iaload, 1) := by decide +kernel
theorem dX0_begin_40 : decode cX0_begin 40 = .ok (.invokestatic 43, 3) := by decide +kernel
theorem dX0_begin_43 : decode cX0_begin 43 = .ok (.putfield 28, 3) := by decide +kernel
theorem dX0_begin_46 : decode cX0_begin 46 = .ok (.return_, 1) := by decide +kernel
theorem dX0_hasLeft_0 : decode cX0_hasLeft 0 = .ok (.iload_n 1, 1) := by decide +kernel
theorem dX0_hasLeft_1 : decode cX0_hasLeft 1 = .ok (.ifCond .lt 15, 3) := by decide +kernel
theorem dX0_hasLeft_4 : decode cX0_hasLeft 4 = .ok (.iload_n 1, 1) := by decide +kernel
theorem dX0_hasLeft_5 : decode cX0_hasLeft 5 = .ok (.aload_n 0, 1) := by decide +kernel
theorem dX0_hasLeft_6 : decode cX0_hasLeft 6 = .ok (.getfield 13, 3) := by decide +kernel
theorem dX0_hasLeft_9 : decode cX0_hasLeft 9 = .ok (.if_icmp .ge 7, 3) := by decide +kernel
theorem dX0_hasLeft_12 : decode cX0_hasLeft 12 = .ok (.iconst 1, 1) := by decide +kernel
theorem dX0_hasLeft_13 : decode cX0_hasLeft 13 = .ok (.goto 4, 3) := by decide +kernel
theorem dX0_hasLeft_16 : decode cX0_hasLeft 16 = .ok (.iconst 0, 1) := by decide +kernel
theorem dX0_hasLeft_17 : decode cX0_hasLeft 17 = .ok (.ireturn, 1) := by decide +kernel
theorem dX0_askSize_0 : decode cX0_askSize 0 = .ok (.aload_n 0, 1) := by decide +kernel
theorem dX0_askSize_1 : decode cX0_askSize 1 = .ok (.getfield 22, 3) := by decide +kernel
theorem dX0_askSize_4 : decode cX0_askSize 4 = .ok (.tableswitch 59 1 5 #[36, 41, 36, 54, 54], 36) := by decide +kernel
theorem dX0_askSize_40 : decode cX0_askSize 40 = .ok (.aload_n 0, 1) := by decide +kernel
theorem dX0_askSize_41 : decode cX0_askSize 41 = .ok (.invokevirtual 46, 3) := by decide +kernel
theorem dX0_askSize_44 : decode cX0_askSize 44 = .ok (.ireturn, 1) := by decide +kernel
theorem dX0_askSize_45 : decode cX0_askSize 45 = .ok (.aload_n 0, 1) := by decide +kernel
theorem dX0_askSize_46 : decode cX0_askSize 46 = .ok (.bipush 12, 2) := by decide +kernel
theorem dX0_askSize_48 : decode cX0_askSize 48 = .ok (.invokevirtual 50, 3) := by decide +kernel
theorem dX0_askSize_51 : decode cX0_askSize 51 = .ok (.iconst 0, 1) := by decide +kernel
theorem dX0_askSize_52 : decode cX0_askSize 52 = .ok (.aload_n 0, 1) := by decide +kernel
theorem dX0_askSize_53 : decode cX0_askSize 53 = .ok (.invokevirtual 46, 3) := by decide +kernel
theorem dX0_askSize_56 : decode cX0_askSize 56 = .ok (.isub, 1) := by decide +kernel
theorem dX0_askSize_57 : decode cX0_askSize 57 = .ok (.ireturn, 1) := by decide +kernel
theorem dX0_askSize_58 : decode cX0_askSize 58 = .ok (.aload_n 0, 1) := by decide +kernel
theorem dX0_askSize_59 : decode cX0_askSize 59 = .ok (.invokevirtual 54, 3) := by decide +kernel
theorem dX0_askSize_62 : decode cX0_askSize 62 = .ok (.ireturn, 1) := by decide +kernel
theorem dX0_askSize_63 : decode cX0_askSize 63 = .ok (.aload_n 0, 1) := by decide +kernel
theorem dX0_askSize_64 : decode cX0_askSize 64 = .ok (.invokevirtual 57, 3) := by decide +kernel
theorem dX0_askSize_67 : decode cX0_askSize 67 = .ok (.ireturn, 1) := by decide +kernel
theorem dX0_askMark_0 : decode cX0_askMark 0 = .ok (.aload_n 0, 1) := by decide +kernel
theorem dX0_askMark_1 : decode cX0_askMark 1 = .ok (.getfield 22, 3) := by decide +kernel
theorem dX0_askMark_4 : decode cX0_askMark 4 = .ok (.tableswitch 46 1 5 #[36, 36, 36, 41, 41], 36) := by decide +kernel
theorem dX0_askMark_40 : decode cX0_askMark 40 = .ok (.aload_n 0, 1) := by decide +kernel
theorem dX0_askMark_41 : decode cX0_askMark 41 = .ok (.invokevirtual 60, 3) := by decide +kernel
theorem dX0_askMark_44 : decode cX0_askMark 44 = .ok (.ireturn, 1) := by decide +kernel
theorem dX0_askMark_45 : decode cX0_askMark 45 = .ok (.aload_n 0, 1) := by decide +kernel
theorem dX0_askMark_46 : decode cX0_askMark 46 = .ok (.invokevirtual 63, 3) := by decide +kernel
theorem dX0_askMark_49 : decode cX0_askMark 49 = .ok (.ireturn, 1) := by decide +kernel
theorem dX0_askMark_50 : decode cX0_askMark 50 = .ok (.aload_n 0, 1) := by decide +kernel
theorem dX0_askMark_51 : decode cX0_askMark 51 = .ok (.invokevirtual 66, 3) := by decide +kernel
theorem dX0_askMark_54 : decode cX0_askMark 54 = .ok (.ireturn, 1) := by decide +kernel
theorem dX0_anyStickMark_0 : decode cX0_anyStickMark 0 = .ok (.aload_n 0, 1) := by decide +kernel
theorem dX0_anyStickMark_1 : decode cX0_anyStickMark 1 = .ok (.getfield 22, 3) := by decide +kernel
theorem dX0_anyStickMark_4 : decode cX0_anyStickMark 4 = .ok (.lookupswitch 56 #[(2, 28), (3, 41)], 28) := by decide +kernel
theorem dX0_anyStickMark_32 : decode cX0_anyStickMark 32 = .ok (.aload_n 0, 1) := by decide +kernel
theorem dX0_anyStickMark_33 : decode cX0_anyStickMark 33 = .ok (.bipush 24, 2) := by decide +kernel
theorem dX0_anyStickMark_35 : decode cX0_anyStickMark 35 = .ok (.invokevirtual 50, 3) := by decide +kernel
theorem dX0_anyStickMark_38 : decode cX0_anyStickMark 38 = .ok (.iconst 2, 1) := by decide +kernel
theorem dX0_anyStickMark_39 : decode cX0_anyStickMark 39 = .ok (.aload_n 0, 1) := by decide +kernel
theorem dX0_anyStickMark_40 : decode cX0_anyStickMark 40 = .ok (.invokevirtual 69, 3) := by decide +kernel
theorem dX0_anyStickMark_43 : decode cX0_anyStickMark 43 = .ok (.imul, 1) := by decide +kernel
theorem dX0_anyStickMark_44 : decode cX0_anyStickMark 44 = .ok (.ireturn, 1) := by decide +kernel
theorem dX0_anyStickMark_45 : decode cX0_anyStickMark 45 = .ok (.aload_n 0, 1) := by decide +kernel
theorem dX0_anyStickMark_46 : decode cX0_anyStickMark 46 = .ok (.bipush 22, 2) := by decide +kernel
theorem dX0_anyStickMark_48 : decode cX0_anyStickMark 48 = .ok (.invokevirtual 50, 3) := by decide +kernel
theorem dX0_anyStickMark_51 : decode cX0_anyStickMark 51 = .ok (.aload_n 0, 1) := by decide +kernel
theorem dX0_anyStickMark_52 : decode cX0_anyStickMark 52 = .ok (.invokevirtual 69, 3) := by decide +kernel
theorem dX0_anyStickMark_55 : decode cX0_anyStickMark 55 = .ok (.sipush 1000, 3) := by decide +kernel
theorem dX0_anyStickMark_58 : decode cX0_anyStickMark 58 = .ok (.isub, 1) := by decide +kernel
theorem dX0_anyStickMark_59 : decode cX0_anyStickMark 59 = .ok (.ireturn, 1) := by decide +kernel
theorem dX0_anyStickMark_60 : decode cX0_anyStickMark 60 = .ok (.aload_n 0, 1) := by decide +kernel
theorem dX0_anyStickMark_61 : decode cX0_anyStickMark 61 = .ok (.invokevirtual 69, 3) := by decide +kernel
theorem dX0_anyStickMark_64 : decode cX0_anyStickMark 64 = .ok (.ireturn, 1) := by decide +kernel
theorem dX0_salmonOrEelSize_0 : decode cX0_salmonOrEelSize 0 = .ok (.aload_n 0, 1) := by decide +kernel
theorem dX0_salmonOrEelSize_1 : decode cX0_salmonOrEelSize 1 = .ok (.getfield 22, 3) := by decide +kernel
theorem dX0_salmonOrEelSize_4 : decode cX0_salmonOrEelSize 4 = .ok (.iconst 5, 1) := by decide +kernel
theorem dX0_salmonOrEelSize_5 : decode cX0_salmonOrEelSize 5 = .ok (.if_icmp .ne 16, 3) := by decide +kernel
theorem dX0_salmonOrEelSize_8 : decode cX0_salmonOrEelSize 8 = .ok (.aload_n 0, 1) := by decide +kernel
theorem dX0_salmonOrEelSize_9 : decode cX0_salmonOrEelSize 9 = .ok (.bipush 14, 2) := by decide +kernel
theorem dX0_salmonOrEelSize_11 : decode cX0_salmonOrEelSize 11 = .ok (.invokevirtual 50, 3) := by decide +kernel
theorem dX0_salmonOrEelSize_14 : decode cX0_salmonOrEelSize 14 = .ok (.iconst 2, 1) := by decide +kernel
theorem dX0_salmonOrEelSize_15 : decode cX0_salmonOrEelSize 15 = .ok (.aload_n 0, 1) := by decide +kernel
theorem dX0_salmonOrEelSize_16 : decode cX0_salmonOrEelSize 16 = .ok (.invokevirtual 72, 3) := by decide +kernel
theorem dX0_salmonOrEelSize_19 : decode cX0_salmonOrEelSize 19 = .ok (.imul, 1) := by decide +kernel
theorem dX0_salmonOrEelSize_20 : decode cX0_salmonOrEelSize 20 = .ok (.ireturn, 1) := by decide +kernel
theorem dX0_salmonOrEelSize_21 : decode cX0_salmonOrEelSize 21 = .ok (.aload_n 0, 1) := by decide +kernel
theorem dX0_salmonOrEelSize_22 : decode cX0_salmonOrEelSize 22 = .ok (.invokevirtual 72, 3) := by decide +kernel
theorem dX0_salmonOrEelSize_25 : decode cX0_salmonOrEelSize 25 = .ok (.ireturn, 1) := by decide +kernel
theorem dX0_stickSize_0 : decode cX0_stickSize 0 = .ok (.aload_n 0, 1) := by decide +kernel
theorem dX0_stickSize_1 : decode cX0_stickSize 1 = .ok (.bipush 11, 2) := by decide +kernel
theorem dX0_stickSize_3 : decode cX0_stickSize 3 = .ok (.invokevirtual 50, 3) := by decide +kernel
theorem dX0_stickSize_6 : decode cX0_stickSize 6 = .ok (.aload_n 0, 1) := by decide +kernel
theorem dX0_stickSize_7 : decode cX0_stickSize 7 = .ok (.invokevirtual 57, 3) := by decide +kernel
theorem dX0_stickSize_10 : decode cX0_stickSize 10 = .ok (.istore_n 1, 1) := by decide +kernel
theorem dX0_stickSize_11 : decode cX0_stickSize 11 = .ok (.iload_n 1, 1) := by decide +kernel
theorem dX0_stickSize_12 : decode cX0_stickSize 12 = .ok (.aload_n 0, 1) := by decide +kernel
theorem dX0_stickSize_13 : decode cX0_stickSize 13 = .ok (.invokevirtual 60, 3) := by decide +kernel
theorem dX0_stickSize_16 : decode cX0_stickSize 16 = .ok (.iadd, 1) := by decide +kernel
theorem dX0_stickSize_17 : decode cX0_stickSize 17 = .ok (.ireturn, 1) := by decide +kernel
theorem dX0_salmonSize_0 : decode cX0_salmonSize 0 = .ok (.aload_n 0, 1) := by decide +kernel
theorem dX0_salmonSize_1 : decode cX0_salmonSize 1 = .ok (.bipush 13, 2) := by decide +kernel
theorem dX0_salmonSize_3 : decode cX0_salmonSize 3 = .ok (.invokevirtual 50, 3) := by decide +kernel
theorem dX0_salmonSize_6 : decode cX0_salmonSize 6 = .ok (.aload_n 0, 1) := by decide +kernel
theorem dX0_salmonSize_7 : decode cX0_salmonSize 7 = .ok (.invokevirtual 57, 3) := by decide +kernel
theorem dX0_salmonSize_10 : decode cX0_salmonSize 10 = .ok (.bipush 100, 2) := by decide +kernel
theorem dX0_salmonSize_12 : decode cX0_salmonSize 12 = .ok (.isub, 1) := by decide +kernel
theorem dX0_salmonSize_13 : decode cX0_salmonSize 13 = .ok (.ireturn, 1) := by decide +kernel
theorem dX0_lentSize_0 : decode cX0_lentSize 0 = .ok (.aload_n 0, 1) := by decide +kernel
theorem dX0_lentSize_1 : decode cX0_lentSize 1 = .ok (.bipush 10, 2) := by decide +kernel
theorem dX0_lentSize_3 : decode cX0_lentSize 3 = .ok (.invokevirtual 50, 3) := by decide +kernel
theorem dX0_lentSize_6 : decode cX0_lentSize 6 = .ok (.aload_n 0, 1) := by decide +kernel
theorem dX0_lentSize_7 : decode cX0_lentSize 7 = .ok (.getfield 25, 3) := by decide +kernel
theorem dX0_lentSize_10 : decode cX0_lentSize 10 = .ok (.ireturn, 1) := by decide +kernel
theorem dX0_stickMark_0 : decode cX0_stickMark 0 = .ok (.aload_n 0, 1) := by decide +kernel
theorem dX0_stickMark_1 : decode cX0_stickMark 1 = .ok (.bipush 21, 2) := by decide +kernel
theorem dX0_stickMark_3 : decode cX0_stickMark 3 = .ok (.invokevirtual 50, 3) := by decide +kernel
theorem dX0_stickMark_6 : decode cX0_stickMark 6 = .ok (.aload_n 0, 1) := by decide +kernel
theorem dX0_stickMark_7 : decode cX0_stickMark 7 = .ok (.invokevirtual 66, 3) := by decide +kernel
theorem dX0_stickMark_10 : decode cX0_stickMark 10 = .ok (.aload_n 0, 1) := by decide +kernel
theorem dX0_stickMark_11 : decode cX0_stickMark 11 = .ok (.getfield 28, 3) := by decide +kernel
theorem dX0_stickMark_14 : decode cX0_stickMark 14 = .ok (.iadd, 1) := by decide +kernel
theorem dX0_stickMark_15 : decode cX0_stickMark 15 = .ok (.ireturn, 1) := by decide +kernel
theorem dX0_salmonMark_0 : decode cX0_salmonMark 0 = .ok (.aload_n 0, 1) := by decide +kernel
theorem dX0_salmonMark_1 : decode cX0_salmonMark 1 = .ok (.bipush 23, 2) := by decide +kernel
theorem dX0_salmonMark_3 : decode cX0_salmonMark 3 = .ok (.invokevirtual 50, 3) := by decide +kernel
theorem dX0_salmonMark_6 : decode cX0_salmonMark 6 = .ok (.aload_n 0, 1) := by decide +kernel
theorem dX0_salmonMark_7 : decode cX0_salmonMark 7 = .ok (.invokevirtual 66, 3) := by decide +kernel
theorem dX0_salmonMark_10 : decode cX0_salmonMark 10 = .ok (.istore_n 1, 1) := by decide +kernel
theorem dX0_salmonMark_11 : decode cX0_salmonMark 11 = .ok (.iload_n 1, 1) := by decide +kernel
theorem dX0_salmonMark_12 : decode cX0_salmonMark 12 = .ok (.aload_n 0, 1) := by decide +kernel
theorem dX0_salmonMark_13 : decode cX0_salmonMark 13 = .ok (.invokevirtual 54, 3) := by decide +kernel
theorem dX0_salmonMark_16 : decode cX0_salmonMark 16 = .ok (.isub, 1) := by decide +kernel
theorem dX0_salmonMark_17 : decode cX0_salmonMark 17 = .ok (.ireturn, 1) := by decide +kernel
theorem dX0_lentMark_0 : decode cX0_lentMark 0 = .ok (.aload_n 0, 1) := by decide +kernel
theorem dX0_lentMark_1 : decode cX0_lentMark 1 = .ok (.bipush 20, 2) := by decide +kernel
theorem dX0_lentMark_3 : decode cX0_lentMark 3 = .ok (.invokevirtual 50, 3) := by decide +kernel
theorem dX0_lentMark_6 : decode cX0_lentMark 6 = .ok (.aload_n 0, 1) := by decide +kernel
theorem dX0_lentMark_7 : decode cX0_lentMark 7 = .ok (.getfield 17, 3) := by decide +kernel
theorem dX0_lentMark_10 : decode cX0_lentMark 10 = .ok (.ireturn, 1) := by decide +kernel
theorem dX0_leave_0 : decode cX0_leave 0 = .ok (.aload_n 0, 1) := by decide +kernel
theorem dX0_leave_1 : decode cX0_leave 1 = .ok (.getfield 13, 3) := by decide +kernel
theorem dX0_leave_4 : decode cX0_leave 4 = .ok (.bipush 16, 2) := by decide +kernel
theorem dX0_leave_6 : decode cX0_leave 6 = .ok (.if_icmp .ge 23, 3) := by decide +kernel
theorem dX0_leave_9 : decode cX0_leave 9 = .ok (.aload_n 0, 1) := by decide +kernel
theorem dX0_leave_10 : decode cX0_leave 10 = .ok (.getfield 9, 3) := by decide +kernel
theorem dX0_leave_13 : decode cX0_leave 13 = .ok (.aload_n 0, 1) := by decide +kernel
theorem dX0_leave_14 : decode cX0_leave 14 = .ok (.getfield 13, 3) := by decide +kernel
theorem dX0_leave_17 : decode cX0_leave 17 = .ok (.iload_n 1, 1) := by decide +kernel
theorem dX0_leave_18 : decode cX0_leave 18 = .ok (.iastore, 1) := by decide +kernel
theorem dX0_leave_19 : decode cX0_leave 19 = .ok (.aload_n 0, 1) := by decide +kernel
theorem dX0_leave_20 : decode cX0_leave 20 = .ok (.dup, 1) := by decide +kernel
theorem dX0_leave_21 : decode cX0_leave 21 = .ok (.getfield 13, 3) := by decide +kernel
theorem dX0_leave_24 : decode cX0_leave 24 = .ok (.iconst 1, 1) := by decide +kernel
theorem dX0_leave_25 : decode cX0_leave 25 = .ok (.iadd, 1) := by decide +kernel
theorem dX0_leave_26 : decode cX0_leave 26 = .ok (.putfield 13, 3) := by decide +kernel
theorem dX0_leave_29 : decode cX0_leave 29 = .ok (.return_, 1) := by decide +kernel
theorem dX1_isOne_0 : decode cX1_isOne 0 = .ok (.iload_n 1, 1) := by decide +kernel
theorem dX1_isOne_1 : decode cX1_isOne 1 = .ok (.tableswitch 74 0 4 #[35, 37, 74, 74, 58], 35) := by decide +kernel
theorem dX1_isOne_36 : decode cX1_isOne 36 = .ok (.iconst 1, 1) := by decide +kernel
theorem dX1_isOne_37 : decode cX1_isOne 37 = .ok (.ireturn, 1) := by decide +kernel
theorem dX1_isOne_38 : decode cX1_isOne 38 = .ok (.iload_n 0, 1) := by decide +kernel
theorem dX1_isOne_39 : decode cX1_isOne 39 = .ok (.iconst 1, 1) := by decide +kernel
theorem dX1_isOne_40 : decode cX1_isOne 40 = .ok (.if_icmp .eq 13, 3) := by decide +kernel
theorem dX1_isOne_43 : decode cX1_isOne 43 = .ok (.iload_n 0, 1) := by decide +kernel
theorem dX1_isOne_44 : decode cX1_isOne 44 = .ok (.iconst 2, 1) := by decide +kernel
theorem dX1_isOne_45 : decode cX1_isOne 45 = .ok (.if_icmp .eq 8, 3) := by decide +kernel
theorem dX1_isOne_48 : decode cX1_isOne 48 = .ok (.iload_n 0, 1) := by decide +kernel
theorem dX1_isOne_49 : decode cX1_isOne 49 = .ok (.iconst 3, 1) := by decide +kernel
theorem dX1_isOne_50 : decode cX1_isOne 50 = .ok (.if_icmp .ne 7, 3) := by decide +kernel
theorem dX1_isOne_53 : decode cX1_isOne 53 = .ok (.iconst 1, 1) := by decide +kernel
theorem dX1_isOne_54 : decode cX1_isOne 54 = .ok (.goto 4, 3) := by decide +kernel
theorem dX1_isOne_57 : decode cX1_isOne 57 = .ok (.iconst 0, 1) := by decide +kernel
theorem dX1_isOne_58 : decode cX1_isOne 58 = .ok (.ireturn, 1) := by decide +kernel
theorem dX1_isOne_59 : decode cX1_isOne 59 = .ok (.iload_n 0, 1) := by decide +kernel
theorem dX1_isOne_60 : decode cX1_isOne 60 = .ok (.iconst 4, 1) := by decide +kernel
theorem dX1_isOne_61 : decode cX1_isOne 61 = .ok (.if_icmp .eq 8, 3) := by decide +kernel
theorem dX1_isOne_64 : decode cX1_isOne 64 = .ok (.iload_n 0, 1) := by decide +kernel
theorem dX1_isOne_65 : decode cX1_isOne 65 = .ok (.iconst 5, 1) := by decide +kernel
theorem dX1_isOne_66 : decode cX1_isOne 66 = .ok (.if_icmp .ne 7, 3) := by decide +kernel
theorem dX1_isOne_69 : decode cX1_isOne 69 = .ok (.iconst 1, 1) := by decide +kernel
theorem dX1_isOne_70 : decode cX1_isOne 70 = .ok (.goto 4, 3) := by decide +kernel
theorem dX1_isOne_73 : decode cX1_isOne 73 = .ok (.iconst 0, 1) := by decide +kernel
theorem dX1_isOne_74 : decode cX1_isOne 74 = .ok (.ireturn, 1) := by decide +kernel
theorem dX1_isOne_75 : decode cX1_isOne 75 = .ok (.iload_n 0, 1) := by decide +kernel
theorem dX1_isOne_76 : decode cX1_isOne 76 = .ok (.iload_n 1, 1) := by decide +kernel
theorem dX1_isOne_77 : decode cX1_isOne 77 = .ok (.if_icmp .ne 7, 3) := by decide +kernel
theorem dX1_isOne_80 : decode cX1_isOne 80 = .ok (.iconst 1, 1) := by decide +kernel
theorem dX1_isOne_81 : decode cX1_isOne 81 = .ok (.goto 4, 3) := by decide +kernel
theorem dX1_isOne_84 : decode cX1_isOne 84 = .ok (.iconst 0, 1) := by decide +kernel
theorem dX1_isOne_85 : decode cX1_isOne 85 = .ok (.ireturn, 1) := by decide +kernel
theorem dX1_byLetter_0 : decode cX1_byLetter 0 = .ok (.iload_n 0, 1) := by decide +kernel
theorem dX1_byLetter_1 : decode cX1_byLetter 1 = .ok (.tableswitch 85 101 115 #[83, 79, 85, 77, 85, 85, 85, 85, 81, 85, 85, 85, 85, 85, 75], 75) := by decide +kernel
theorem dX1_byLetter_76 : decode cX1_byLetter 76 = .ok (.iconst 1, 1) := by decide +kernel
theorem dX1_byLetter_77 : decode cX1_byLetter 77 = .ok (.ireturn, 1) := by decide +kernel
theorem dX1_byLetter_78 : decode cX1_byLetter 78 = .ok (.iconst 2, 1) := by decide +kernel
theorem dX1_byLetter_79 : decode cX1_byLetter 79 = .ok (.ireturn, 1) := by decide +kernel
theorem dX1_byLetter_80 : decode cX1_byLetter 80 = .ok (.iconst 3, 1) := by decide +kernel
theorem dX1_byLetter_81 : decode cX1_byLetter 81 = .ok (.ireturn, 1) := by decide +kernel
theorem dX1_byLetter_82 : decode cX1_byLetter 82 = .ok (.iconst 4, 1) := by decide +kernel
theorem dX1_byLetter_83 : decode cX1_byLetter 83 = .ok (.ireturn, 1) := by decide +kernel
theorem dX1_byLetter_84 : decode cX1_byLetter 84 = .ok (.iconst 5, 1) := by decide +kernel
theorem dX1_byLetter_85 : decode cX1_byLetter 85 = .ok (.ireturn, 1) := by decide +kernel
theorem dX1_byLetter_86 : decode cX1_byLetter 86 = .ok (.iconst (-1), 1) := by decide +kernel
theorem dX1_byLetter_87 : decode cX1_byLetter 87 = .ok (.ireturn, 1) := by decide +kernel
theorem dX2_init_0 : decode cX2_init 0 = .ok (.aload_n 0, 1) := by decide +kernel
theorem dX2_init_1 : decode cX2_init 1 = .ok (.invokespecial 3, 3) := by decide +kernel
theorem dX2_init_4 : decode cX2_init 4 = .ok (.aload_n 0, 1) := by decide +kernel
theorem dX2_init_5 : decode cX2_init 5 = .ok (.iconst 0, 1) := by decide +kernel
theorem dX2_init_6 : decode cX2_init 6 = .ok (.putfield 9, 3) := by decide +kernel
theorem dX2_init_9 : decode cX2_init 9 = .ok (.aload_n 0, 1) := by decide +kernel
theorem dX2_init_10 : decode cX2_init 10 = .ok (.iconst 0, 1) := by decide +kernel
theorem dX2_init_11 : decode cX2_init 11 = .ok (.putfield 15, 3) := by decide +kernel
theorem dX2_init_14 : decode cX2_init 14 = .ok (.aload_n 0, 1) := by decide +kernel
theorem dX2_init_15 : decode cX2_init 15 = .ok (.iconst 0, 1) := by decide +kernel
theorem dX2_init_16 : decode cX2_init 16 = .ok (.putfield 18, 3) := by decide +kernel
theorem dX2_init_19 : decode cX2_init 19 = .ok (.aload_n 0, 1) := by decide +kernel
theorem dX2_init_20 : decode cX2_init 20 = .ok (.iconst 0, 1) := by decide +kernel
theorem dX2_init_21 : decode cX2_init 21 = .ok (.putfield 21, 3) := by decide +kernel
theorem dX2_init_24 : decode cX2_init 24 = .ok (.aload_n 0, 1) := by decide +kernel
theorem dX2_init_25 : decode cX2_init 25 = .ok (.iconst 0, 1) := by decide +kernel
theorem dX2_init_26 : decode cX2_init 26 = .ok (.putfield 24, 3) := by decide +kernel
theorem dX2_init_29 : decode cX2_init 29 = .ok (.aload_n 0, 1) := by decide +kernel
theorem dX2_init_30 : decode cX2_init 30 = .ok (.bipush 12, 2) := by decide +kernel
theorem dX2_init_32 : decode cX2_init 32 = .ok (.newarray .int, 2) := by decide +kernel
theorem dX2_init_34 : decode cX2_init 34 = .ok (.putfield 27, 3) := by decide +kernel
theorem dX2_init_37 : decode cX2_init 37 = .ok (.aload_n 0, 1) := by decide +kernel
theorem dX2_init_38 : decode cX2_init 38 = .ok (.bipush 7, 2) := by decide +kernel
theorem dX2_init_40 : decode cX2_init 40 = .ok (.newarray .int, 2) := by decide +kernel
theorem dX2_init_42 : decode cX2_init 42 = .ok (.putfield 31, 3) := by decide +kernel
theorem dX2_init_45 : decode cX2_init 45 = .ok (.aload_n 0, 1) := by decide +kernel
theorem dX2_init_46 : decode cX2_init 46 = .ok (.bipush 7, 2) := by decide +kernel
theorem dX2_init_48 : decode cX2_init 48 = .ok (.newarray .int, 2) := by decide +kernel
theorem dX2_init_50 : decode cX2_init 50 = .ok (.putfield 34, 3) := by decide +kernel
theorem dX2_init_53 : decode cX2_init 53 = .ok (.return_, 1) := by decide +kernel
theorem dX2_packed_0 : decode cX2_packed 0 = .ok (.iload_n 0, 1) := by decide +kernel
theorem dX2_packed_1 : decode cX2_packed 1 = .ok (.iconst 4, 1) := by decide +kernel
theorem dX2_packed_2 : decode cX2_packed 2 = .ok (.ishl, 1) := by decide +kernel
theorem dX2_packed_3 : decode cX2_packed 3 = .ok (.iload_n 1, 1) := by decide +kernel
theorem dX2_packed_4 : decode cX2_packed 4 = .ok (.ior, 1) := by decide +kernel
theorem dX2_packed_5 : decode cX2_packed 5 = .ok (.ireturn, 1) := by decide +kernel
theorem dX2_sizeIn_0 : decode cX2_sizeIn 0 = .ok (.iload_n 0, 1) := by decide +kernel
theorem dX2_sizeIn_1 : decode cX2_sizeIn 1 = .ok (.iconst 4, 1) := by decide +kernel
theorem dX2_sizeIn_2 : decode cX2_sizeIn 2 = .ok (.ishr, 1) := by decide +kernel
theorem dX2_sizeIn_3 : decode cX2_sizeIn 3 = .ok (.ireturn, 1) := by decide +kernel
theorem dX2_cellIn_0 : decode cX2_cellIn 0 = .ok (.iload_n 0, 1) := by decide +kernel
theorem dX2_cellIn_1 : decode cX2_cellIn 1 = .ok (.bipush 15, 2) := by decide +kernel
theorem dX2_cellIn_3 : decode cX2_cellIn 3 = .ok (.iand, 1) := by decide +kernel
theorem dX2_cellIn_4 : decode cX2_cellIn 4 = .ok (.ireturn, 1) := by decide +kernel
theorem dX2_isGone_0 : decode cX2_isGone 0 = .ok (.iload_n 0, 1) := by decide +kernel
theorem dX2_isGone_1 : decode cX2_isGone 1 = .ok (.invokestatic 37, 3) := by decide +kernel
theorem dX2_isGone_4 : decode cX2_isGone 4 = .ok (.ifCond .ne 7, 3) := by decide +kernel
theorem dX2_isGone_7 : decode cX2_isGone 7 = .ok (.iconst 1, 1) := by decide +kernel
theorem dX2_isGone_8 : decode cX2_isGone 8 = .ok (.goto 4, 3) := by decide +kernel
theorem dX2_isGone_11 : decode cX2_isGone 11 = .ok (.iconst 0, 1) := by decide +kernel
theorem dX2_isGone_12 : decode cX2_isGone 12 = .ok (.ireturn, 1) := by decide +kernel
theorem dX2_empty_0 : decode cX2_empty 0 = .ok (.aload_n 0, 1) := by decide +kernel
theorem dX2_empty_1 : decode cX2_empty 1 = .ok (.iconst 0, 1) := by decide +kernel
theorem dX2_empty_2 : decode cX2_empty 2 = .ok (.putfield 9, 3) := by decide +kernel
theorem dX2_empty_5 : decode cX2_empty 5 = .ok (.aload_n 0, 1) := by decide +kernel
theorem dX2_empty_6 : decode cX2_empty 6 = .ok (.iconst 0, 1) := by decide +kernel
theorem dX2_empty_7 : decode cX2_empty 7 = .ok (.putfield 15, 3) := by decide +kernel
theorem dX2_empty_10 : decode cX2_empty 10 = .ok (.aload_n 0, 1) := by decide +kernel
theorem dX2_empty_11 : decode cX2_empty 11 = .ok (.iconst 0, 1) := by decide +kernel
theorem dX2_empty_12 : decode cX2_empty 12 = .ok (.putfield 18, 3) := by decide +kernel
theorem dX2_empty_15 : decode cX2_empty 15 = .ok (.aload_n 0, 1) := by decide +kernel
theorem dX2_empty_16 : decode cX2_empty 16 = .ok (.iconst 0, 1) := by decide +kernel
theorem dX2_empty_17 : decode cX2_empty 17 = .ok (.putfield 21, 3) := by decide +kernel
theorem dX2_empty_20 : decode cX2_empty 20 = .ok (.aload_n 0, 1) := by decide +kernel
theorem dX2_empty_21 : decode cX2_empty 21 = .ok (.iconst 0, 1) := by decide +kernel
theorem dX2_empty_22 : decode cX2_empty 22 = .ok (.putfield 24, 3) := by decide +kernel
theorem dX2_empty_25 : decode cX2_empty 25 = .ok (.return_, 1) := by decide +kernel
theorem dX2_become_0 : decode cX2_become 0 = .ok (.aload_n 0, 1) := by decide +kernel
theorem dX2_become_1 : decode cX2_become 1 = .ok (.aload_n 1, 1) := by decide +kernel
theorem dX2_become_2 : decode cX2_become 2 = .ok (.getfield 9, 3) := by decide +kernel
theorem dX2_become_5 : decode cX2_become 5 = .ok (.putfield 9, 3) := by decide +kernel
theorem dX2_become_8 : decode cX2_become 8 = .ok (.aload_n 0, 1) := by decide +kernel
theorem dX2_become_9 : decode cX2_become 9 = .ok (.aload_n 1, 1) := by decide +kernel
theorem dX2_become_10 : decode cX2_become 10 = .ok (.getfield 15, 3) := by decide +kernel
theorem dX2_become_13 : decode cX2_become 13 = .ok (.putfield 15, 3) := by decide +kernel
theorem dX2_become_16 : decode cX2_become 16 = .ok (.aload_n 0, 1) := by decide +kernel
theorem dX2_become_17 : decode cX2_become 17 = .ok (.aload_n 1, 1) := by decide +kernel
theorem dX2_become_18 : decode cX2_become 18 = .ok (.getfield 18, 3) := by decide +kernel
theorem dX2_become_21 : decode cX2_become 21 = .ok (.putfield 18, 3) := by decide +kernel
theorem dX2_become_24 : decode cX2_become 24 = .ok (.aload_n 0, 1) := by decide +kernel
theorem dX2_become_25 : decode cX2_become 25 = .ok (.aload_n 1, 1) := by decide +kernel
theorem dX2_become_26 : decode cX2_become 26 = .ok (.getfield 21, 3) := by decide +kernel
theorem dX2_become_29 : decode cX2_become 29 = .ok (.putfield 21, 3) := by decide +kernel
theorem dX2_become_32 : decode cX2_become 32 = .ok (.aload_n 0, 1) := by decide +kernel
theorem dX2_become_33 : decode cX2_become 33 = .ok (.aload_n 1, 1) := by decide +kernel
theorem dX2_become_34 : decode cX2_become 34 = .ok (.getfield 24, 3) := by decide +kernel
theorem dX2_become_37 : decode cX2_become 37 = .ok (.putfield 24, 3) := by decide +kernel
theorem dX2_become_40 : decode cX2_become 40 = .ok (.aload_n 1, 1) := by decide +kernel
theorem dX2_become_41 : decode cX2_become 41 = .ok (.getfield 27, 3) := by decide +kernel
theorem dX2_become_44 : decode cX2_become 44 = .ok (.iconst 0, 1) := by decide +kernel
theorem dX2_become_45 : decode cX2_become 45 = .ok (.aload_n 0, 1) := by decide +kernel
theorem dX2_become_46 : decode cX2_become 46 = .ok (.getfield 27, 3) := by decide +kernel
theorem dX2_become_49 : decode cX2_become 49 = .ok (.iconst 0, 1) := by decide +kernel
theorem dX2_become_50 : decode cX2_become 50 = .ok (.bipush 12, 2) := by decide +kernel
theorem dX2_become_52 : decode cX2_become 52 = .ok (.invokestatic 41, 3) := by decide +kernel
theorem dX2_become_55 : decode cX2_become 55 = .ok (.aload_n 1, 1) := by decide +kernel
theorem dX2_become_56 : decode cX2_become 56 = .ok (.getfield 31, 3) := by decide +kernel
theorem dX2_become_59 : decode cX2_become 59 = .ok (.iconst 0, 1) := by decide +kernel
theorem dX2_become_60 : decode cX2_become 60 = .ok (.aload_n 0, 1) := by decide +kernel
theorem dX2_become_61 : decode cX2_become 61 = .ok (.getfield 31, 3) := by decide +kernel
theorem dX2_become_64 : decode cX2_become 64 = .ok (.iconst 0, 1) := by decide +kernel
theorem dX2_become_65 : decode cX2_become 65 = .ok (.bipush 7, 2) := by decide +kernel
theorem dX2_become_67 : decode cX2_become 67 = .ok (.invokestatic 41, 3) := by decide +kernel
theorem dX2_become_70 : decode cX2_become 70 = .ok (.aload_n 1, 1) := by decide +kernel
theorem dX2_become_71 : decode cX2_become 71 = .ok (.getfield 34, 3) := by decide +kernel
theorem dX2_become_74 : decode cX2_become 74 = .ok (.iconst 0, 1) := by decide +kernel
theorem dX2_become_75 : decode cX2_become 75 = .ok (.aload_n 0, 1) := by decide +kernel
theorem dX2_become_76 : decode cX2_become 76 = .ok (.getfield 34, 3) := by decide +kernel
theorem dX2_become_79 : decode cX2_become 79 = .ok (.iconst 0, 1) := by decide +kernel
theorem dX2_become_80 : decode cX2_become 80 = .ok (.bipush 7, 2) := by decide +kernel
theorem dX2_become_82 : decode cX2_become 82 = .ok (.invokestatic 41, 3) := by decide +kernel
theorem dX2_become_85 : decode cX2_become 85 = .ok (.return_, 1) := by decide +kernel
theorem dX2_takeSpeeds_0 : decode cX2_takeSpeeds 0 = .ok (.iconst 0, 1) := by decide +kernel
theorem dX2_takeSpeeds_1 : decode cX2_takeSpeeds 1 = .ok (.istore_n 3, 1) := by decide +kernel
theorem dX2_takeSpeeds_2 : decode cX2_takeSpeeds 2 = .ok (.iload_n 3, 1) := by decide +kernel
theorem dX2_takeSpeeds_3 : decode cX2_takeSpeeds 3 = .ok (.aload_n 0, 1) := by decide +kernel
theorem dX2_takeSpeeds_4 : decode cX2_takeSpeeds 4 = .ok (.getfield 9, 3) := by decide +kernel
theorem dX2_takeSpeeds_7 : decode cX2_takeSpeeds 7 = .ok (.if_icmp .ge 46, 3) := by decide +kernel
theorem dX2_takeSpeeds_10 : decode cX2_takeSpeeds 10 = .ok (.iload_n 2, 1) := by decide +kernel
theorem dX2_takeSpeeds_11 : decode cX2_takeSpeeds 11 = .ok (.iload_n 3, 1) := by decide +kernel
theorem dX2_takeSpeeds_12 : decode cX2_takeSpeeds 12 = .ok (.ishr, 1) := by decide +kernel
theorem dX2_takeSpeeds_13 : decode cX2_takeSpeeds 13 = .ok (.iconst 1, 1) := by decide +kernel
theorem dX2_takeSpeeds_14 : decode cX2_takeSpeeds 14 = .ok (.iand, 1) := by decide +kernel
theorem dX2_takeSpeeds_15 : decode cX2_takeSpeeds 15 = .ok (.iconst 1, 1) := by decide +kernel
theorem dX2_takeSpeeds_16 : decode cX2_takeSpeeds 16 = .ok (.if_icmp .ne 7, 3) := by decide +kernel
theorem dX2_takeSpeeds_19 : decode cX2_takeSpeeds 19 = .ok (.iconst 1, 1) := by decide +kernel
theorem dX2_takeSpeeds_20 : decode cX2_takeSpeeds 20 = .ok (.goto 4, 3) := by decide +kernel
theorem dX2_takeSpeeds_23 : decode cX2_takeSpeeds 23 = .ok (.iconst 0, 1) := by decide +kernel
theorem dX2_takeSpeeds_24 : decode cX2_takeSpeeds 24 = .ok (.istore 4, 2) := by decide +kernel
theorem dX2_takeSpeeds_26 : decode cX2_takeSpeeds 26 = .ok (.aload_n 0, 1) := by decide +kernel
theorem dX2_takeSpeeds_27 : decode cX2_takeSpeeds 27 = .ok (.getfield 27, 3) := by decide +kernel
theorem dX2_takeSpeeds_30 : decode cX2_takeSpeeds 30 = .ok (.iload_n 3, 1) := by decide +kernel
theorem dX2_takeSpeeds_31 : decode cX2_takeSpeeds 31 = .ok (.iload 4, 2) := by decide +kernel
theorem dX2_takeSpeeds_33 : decode cX2_takeSpeeds 33 = .ok (.ifCond .eq 7, 3) := by decide +kernel
theorem dX2_takeSpeeds_36 : decode cX2_takeSpeeds 36 = .ok (.iconst 3, 1) := by decide +kernel
theorem dX2_takeSpeeds_37 : decode cX2_takeSpeeds 37 = .ok (.goto 9, 3) := by decide +kernel
theorem dX2_takeSpeeds_40 : decode cX2_takeSpeeds 40 = .ok (.aload_n 1, 1) := by decide +kernel
theorem dX2_takeSpeeds_41 : decode cX2_takeSpeeds 41 = .ok (.getfield 27, 3) := by decide +kernel
theorem dX2_takeSpeeds_44 : decode cX2_takeSpeeds 44 = .ok (.iload_n 3, 1) := by decide +kernel
theorem dX2_takeSpeeds_45 : decode cX2_takeSpeeds 45 = .ok (.iaload, 1) := by decide +kernel
theorem dX2_takeSpeeds_46 : decode cX2_takeSpeeds 46 = .ok (.iastore, 1) := by decide +kernel
theorem dX2_takeSpeeds_47 : decode cX2_takeSpeeds 47 = .ok (.iinc 3 1, 3) := by decide +kernel
theorem dX2_takeSpeeds_50 : decode cX2_takeSpeeds 50 = .ok (.goto (-48), 3) := by decide +kernel
theorem dX2_takeSpeeds_53 : decode cX2_takeSpeeds 53 = .ok (.return_, 1) := by decide +kernel
theorem dX2_hasCell_0 : decode cX2_hasCell 0 = .ok (.iload_n 1, 1) := by decide +kernel
theorem dX2_hasCell_1 : decode cX2_hasCell 1 = .ok (.ifCond .lt 15, 3) := by decide +kernel
theorem dX2_hasCell_4 : decode cX2_hasCell 4 = .ok (.iload_n 1, 1) := by decide +kernel
theorem dX2_hasCell_5 : decode cX2_hasCell 5 = .ok (.aload_n 0, 1) := by decide +kernel
theorem dX2_hasCell_6 : decode cX2_hasCell 6 = .ok (.getfield 9, 3) := by decide +kernel
theorem dX2_hasCell_9 : decode cX2_hasCell 9 = .ok (.if_icmp .ge 7, 3) := by decide +kernel
theorem dX2_hasCell_12 : decode cX2_hasCell 12 = .ok (.iconst 1, 1) := by decide +kernel
theorem dX2_hasCell_13 : decode cX2_hasCell 13 = .ok (.goto 4, 3) := by decide +kernel
theorem dX2_hasCell_16 : decode cX2_hasCell 16 = .ok (.iconst 0, 1) := by decide +kernel
theorem dX2_hasCell_17 : decode cX2_hasCell 17 = .ok (.ireturn, 1) := by decide +kernel
theorem dX2_hasWord_0 : decode cX2_hasWord 0 = .ok (.iload_n 1, 1) := by decide +kernel
theorem dX2_hasWord_1 : decode cX2_hasWord 1 = .ok (.ifCond .lt 15, 3) := by decide +kernel
theorem dX2_hasWord_4 : decode cX2_hasWord 4 = .ok (.iload_n 1, 1) := by decide +kernel
theorem dX2_hasWord_5 : decode cX2_hasWord 5 = .ok (.aload_n 0, 1) := by decide +kernel
theorem dX2_hasWord_6 : decode cX2_hasWord 6 = .ok (.getfield 15, 3) := by decide +kernel
theorem dX2_hasWord_9 : decode cX2_hasWord 9 = .ok (.if_icmp .ge 7, 3) := by decide +kernel
theorem dX2_hasWord_12 : decode cX2_hasWord 12 = .ok (.iconst 1, 1) := by decide +kernel
theorem dX2_hasWord_13 : decode cX2_hasWord 13 = .ok (.goto 4, 3) := by decide +kernel
theorem dX2_hasWord_16 : decode cX2_hasWord 16 = .ok (.iconst 0, 1) := by decide +kernel
theorem dX2_hasWord_17 : decode cX2_hasWord 17 = .ok (.ireturn, 1) := by decide +kernel
theorem dX2_sizeOf_0 : decode cX2_sizeOf 0 = .ok (.aload_n 0, 1) := by decide +kernel
theorem dX2_sizeOf_1 : decode cX2_sizeOf 1 = .ok (.getfield 34, 3) := by decide +kernel
theorem dX2_sizeOf_4 : decode cX2_sizeOf 4 = .ok (.iload_n 1, 1) := by decide +kernel
theorem dX2_sizeOf_5 : decode cX2_sizeOf 5 = .ok (.iaload, 1) := by decide +kernel
theorem dX2_sizeOf_6 : decode cX2_sizeOf 6 = .ok (.invokestatic 37, 3) := by decide +kernel
theorem dX2_sizeOf_9 : decode cX2_sizeOf 9 = .ok (.ireturn, 1) := by decide +kernel
theorem dX2_goneBits_0 : decode cX2_goneBits 0 = .ok (.iconst 0, 1) := by decide +kernel
theorem dX2_goneBits_1 : decode cX2_goneBits 1 = .ok (.istore_n 1, 1) := by decide +kernel
theorem dX2_goneBits_2 : decode cX2_goneBits 2 = .ok (.iconst 0, 1) := by decide +kernel
theorem dX2_goneBits_3 : decode cX2_goneBits 3 = .ok (.istore_n 2, 1) := by decide +kernel
theorem dX2_goneBits_4 : decode cX2_goneBits 4 = .ok (.iload_n 2, 1) := by decide +kernel
theorem dX2_goneBits_5 : decode cX2_goneBits 5 = .ok (.aload_n 0, 1) := by decide +kernel
theorem dX2_goneBits_6 : decode cX2_goneBits 6 = .ok (.getfield 15, 3) := by decide +kernel
theorem dX2_goneBits_9 : decode cX2_goneBits 9 = .ok (.if_icmp .ge 27, 3) := by decide +kernel
theorem dX2_goneBits_12 : decode cX2_goneBits 12 = .ok (.aload_n 0, 1) := by decide +kernel
theorem dX2_goneBits_13 : decode cX2_goneBits 13 = .ok (.getfield 34, 3) := by decide +kernel
theorem dX2_goneBits_16 : decode cX2_goneBits 16 = .ok (.iload_n 2, 1) := by decide +kernel
theorem dX2_goneBits_17 : decode cX2_goneBits 17 = .ok (.iaload, 1) := by decide +kernel
theorem dX2_goneBits_18 : decode cX2_goneBits 18 = .ok (.invokestatic 47, 3) := by decide +kernel
theorem dX2_goneBits_21 : decode cX2_goneBits 21 = .ok (.ifCond .eq 9, 3) := by decide +kernel
theorem dX2_goneBits_24 : decode cX2_goneBits 24 = .ok (.iload_n 1, 1) := by decide +kernel
theorem dX2_goneBits_25 : decode cX2_goneBits 25 = .ok (.iconst 1, 1) := by decide +kernel
theorem dX2_goneBits_26 : decode cX2_goneBits 26 = .ok (.iload_n 2, 1) := by decide +kernel
theorem dX2_goneBits_27 : decode cX2_goneBits 27 = .ok (.ishl, 1) := by decide +kernel
theorem dX2_goneBits_28 : decode cX2_goneBits 28 = .ok (.ior, 1) := by decide +kernel
theorem dX2_goneBits_29 : decode cX2_goneBits 29 = .ok (.istore_n 1, 1) := by decide +kernel
theorem dX2_goneBits_30 : decode cX2_goneBits 30 = .ok (.iinc 2 1, 3) := by decide +kernel
theorem dX2_goneBits_33 : decode cX2_goneBits 33 = .ok (.goto (-29), 3) := by decide +kernel
theorem dX2_goneBits_36 : decode cX2_goneBits 36 = .ok (.iload_n 1, 1) := by decide +kernel
theorem dX2_goneBits_37 : decode cX2_goneBits 37 = .ok (.ireturn, 1) := by decide +kernel
theorem dX2_wordsIn_0 : decode cX2_wordsIn 0 = .ok (.iconst 0, 1) := by decide +kernel
theorem dX2_wordsIn_1 : decode cX2_wordsIn 1 = .ok (.istore_n 2, 1) := by decide +kernel
theorem dX2_wordsIn_2 : decode cX2_wordsIn 2 = .ok (.iconst 0, 1) := by decide +kernel
theorem dX2_wordsIn_3 : decode cX2_wordsIn 3 = .ok (.istore_n 3, 1) := by decide +kernel
theorem dX2_wordsIn_4 : decode cX2_wordsIn 4 = .ok (.iload_n 3, 1) := by decide +kernel
theorem dX2_wordsIn_5 : decode cX2_wordsIn 5 = .ok (.aload_n 0, 1) := by decide +kernel
theorem dX2_wordsIn_6 : decode cX2_wordsIn 6 = .ok (.getfield 15, 3) := by decide +kernel
theorem dX2_wordsIn_9 : decode cX2_wordsIn 9 = .ok (.if_icmp .ge 40, 3) := by decide +kernel
theorem dX2_wordsIn_12 : decode cX2_wordsIn 12 = .ok (.aload_n 0, 1) := by decide +kernel
theorem dX2_wordsIn_13 : decode cX2_wordsIn 13 = .ok (.getfield 34, 3) := by decide +kernel
theorem dX2_wordsIn_16 : decode cX2_wordsIn 16 = .ok (.iload_n 3, 1) := by decide +kernel
theorem dX2_wordsIn_17 : decode cX2_wordsIn 17 = .ok (.iaload, 1) := by decide +kernel
theorem dX2_wordsIn_18 : decode cX2_wordsIn 18 = .ok (.invokestatic 47, 3) := by decide +kernel
theorem dX2_wordsIn_21 : decode cX2_wordsIn 21 = .ok (.ifCond .ne 22, 3) := by decide +kernel
theorem dX2_wordsIn_24 : decode cX2_wordsIn 24 = .ok (.aload_n 0, 1) := by decide +kernel
theorem dX2_wordsIn_25 : decode cX2_wordsIn 25 = .ok (.getfield 34, 3) := by decide +kernel
theorem dX2_wordsIn_28 : decode cX2_wordsIn 28 = .ok (.iload_n 3, 1) := by decide +kernel
theorem dX2_wordsIn_29 : decode cX2_wordsIn 29 = .ok (.iaload, 1) := by decide +kernel
theorem dX2_wordsIn_30 : decode cX2_wordsIn 30 = .ok (.invokestatic 51, 3) := by decide +kernel
theorem dX2_wordsIn_33 : decode cX2_wordsIn 33 = .ok (.iload_n 1, 1) := by decide +kernel
theorem dX2_wordsIn_34 : decode cX2_wordsIn 34 = .ok (.if_icmp .ne 9, 3) := by decide +kernel
theorem dX2_wordsIn_37 : decode cX2_wordsIn 37 = .ok (.iload_n 2, 1) := by decide +kernel
theorem dX2_wordsIn_38 : decode cX2_wordsIn 38 = .ok (.iconst 1, 1) := by decide +kernel
theorem dX2_wordsIn_39 : decode cX2_wordsIn 39 = .ok (.iload_n 3, 1) := by decide +kernel
theorem dX2_wordsIn_40 : decode cX2_wordsIn 40 = .ok (.ishl, 1) := by decide +kernel
theorem dX2_wordsIn_41 : decode cX2_wordsIn 41 = .ok (.ior, 1) := by decide +kernel
theorem dX2_wordsIn_42 : decode cX2_wordsIn 42 = .ok (.istore_n 2, 1) := by decide +kernel
theorem dX2_wordsIn_43 : decode cX2_wordsIn 43 = .ok (.iinc 3 1, 3) := by decide +kernel
theorem dX2_wordsIn_46 : decode cX2_wordsIn 46 = .ok (.goto (-42), 3) := by decide +kernel
theorem dX2_wordsIn_49 : decode cX2_wordsIn 49 = .ok (.iload_n 2, 1) := by decide +kernel
theorem dX2_wordsIn_50 : decode cX2_wordsIn 50 = .ok (.ireturn, 1) := by decide +kernel
theorem dX2_hasClimber_0 : decode cX2_hasClimber 0 = .ok (.iconst 0, 1) := by decide +kernel
theorem dX2_hasClimber_1 : decode cX2_hasClimber 1 = .ok (.istore_n 1, 1) := by decide +kernel
theorem dX2_hasClimber_2 : decode cX2_hasClimber 2 = .ok (.iload_n 1, 1) := by decide +kernel
theorem dX2_hasClimber_3 : decode cX2_hasClimber 3 = .ok (.aload_n 0, 1) := by decide +kernel
theorem dX2_hasClimber_4 : decode cX2_hasClimber 4 = .ok (.getfield 15, 3) := by decide +kernel
theorem dX2_hasClimber_7 : decode cX2_hasClimber 7 = .ok (.if_icmp .ge 36, 3) := by decide +kernel
theorem dX2_hasClimber_10 : decode cX2_hasClimber 10 = .ok (.aload_n 0, 1) := by decide +kernel
theorem dX2_hasClimber_11 : decode cX2_hasClimber 11 = .ok (.getfield 34, 3) := by decide +kernel
theorem dX2_hasClimber_14 : decode cX2_hasClimber 14 = .ok (.iload_n 1, 1) := by decide +kernel
theorem dX2_hasClimber_15 : decode cX2_hasClimber 15 = .ok (.iaload, 1) := by decide +kernel
theorem dX2_hasClimber_16 : decode cX2_hasClimber 16 = .ok (.invokestatic 47, 3) := by decide +kernel
theorem dX2_hasClimber_19 : decode cX2_hasClimber 19 = .ok (.ifCond .ne 18, 3) := by decide +kernel
theorem dX2_hasClimber_22 : decode cX2_hasClimber 22 = .ok (.aload_n 0, 1) := by decide +kernel
theorem dX2_hasClimber_23 : decode cX2_hasClimber 23 = .ok (.getfield 31, 3) := by decide +kernel
theorem dX2_hasClimber_26 : decode cX2_hasClimber 26 = .ok (.iload_n 1, 1) := by decide +kernel
theorem dX2_hasClimber_27 : decode cX2_hasClimber 27 = .ok (.iaload, 1) := by decide +kernel
theorem dX2_hasClimber_28 : decode cX2_hasClimber 28 = .ok (.iconst 4, 1) := by decide +kernel
theorem dX2_hasClimber_29 : decode cX2_hasClimber 29 = .ok (.invokestatic 56, 3) := by decide +kernel
theorem dX2_hasClimber_32 : decode cX2_hasClimber 32 = .ok (.ifCond .eq 5, 3) := by decide +kernel
theorem dX2_hasClimber_35 : decode cX2_hasClimber 35 = .ok (.iconst 1, 1) := by decide +kernel
theorem dX2_hasClimber_36 : decode cX2_hasClimber 36 = .ok (.ireturn, 1) := by decide +kernel
theorem dX2_hasClimber_37 : decode cX2_hasClimber 37 = .ok (.iinc 1 1, 3) := by decide +kernel
theorem dX2_hasClimber_40 : decode cX2_hasClimber 40 = .ok (.goto (-38), 3) := by decide +kernel
theorem dX2_hasClimber_43 : decode cX2_hasClimber 43 = .ok (.iconst 0, 1) := by decide +kernel
theorem dX2_hasClimber_44 : decode cX2_hasClimber 44 = .ok (.ireturn, 1) := by decide +kernel
theorem dX2_isWet_0 : decode cX2_isWet 0 = .ok (.aload_n 0, 1) := by decide +kernel
theorem dX2_isWet_1 : decode cX2_isWet 1 = .ok (.getfield 21, 3) := by decide +kernel
theorem dX2_isWet_4 : decode cX2_isWet 4 = .ok (.iload_n 1, 1) := by decide +kernel
theorem dX2_isWet_5 : decode cX2_isWet 5 = .ok (.iconst 4, 1) := by decide +kernel
theorem dX2_isWet_6 : decode cX2_isWet 6 = .ok (.irem, 1) := by decide +kernel
theorem dX2_isWet_7 : decode cX2_isWet 7 = .ok (.ishr, 1) := by decide +kernel
theorem dX2_isWet_8 : decode cX2_isWet 8 = .ok (.iconst 1, 1) := by decide +kernel
theorem dX2_isWet_9 : decode cX2_isWet 9 = .ok (.iand, 1) := by decide +kernel
theorem dX2_isWet_10 : decode cX2_isWet 10 = .ok (.iconst 1, 1) := by decide +kernel
theorem dX2_isWet_11 : decode cX2_isWet 11 = .ok (.if_icmp .ne 7, 3) := by decide +kernel
theorem dX2_isWet_14 : decode cX2_isWet 14 = .ok (.iconst 1, 1) := by decide +kernel
theorem dX2_isWet_15 : decode cX2_isWet 15 = .ok (.goto 4, 3) := by decide +kernel
theorem dX2_isWet_18 : decode cX2_isWet 18 = .ok (.iconst 0, 1) := by decide +kernel
theorem dX2_isWet_19 : decode cX2_isWet 19 = .ok (.ireturn, 1) := by decide +kernel
theorem dX2_paceOf_0 : decode cX2_paceOf 0 = .ok (.iload_n 1, 1) := by decide +kernel
theorem dX2_paceOf_1 : decode cX2_paceOf 1 = .ok (.ifCond .lt 20, 3) := by decide +kernel
theorem dX2_paceOf_4 : decode cX2_paceOf 4 = .ok (.iload_n 1, 1) := by decide +kernel
theorem dX2_paceOf_5 : decode cX2_paceOf 5 = .ok (.aload_n 0, 1) := by decide +kernel
theorem dX2_paceOf_6 : decode cX2_paceOf 6 = .ok (.getfield 9, 3) := by decide +kernel
theorem dX2_paceOf_9 : decode cX2_paceOf 9 = .ok (.if_icmp .ge 12, 3) := by decide +kernel
theorem dX2_paceOf_12 : decode cX2_paceOf 12 = .ok (.aload_n 0, 1) := by decide +kernel
theorem dX2_paceOf_13 : decode cX2_paceOf 13 = .ok (.getfield 27, 3) := by decide +kernel
theorem dX2_paceOf_16 : decode cX2_paceOf 16 = .ok (.iload_n 1, 1) := by decide +kernel
theorem dX2_paceOf_17 : decode cX2_paceOf 17 = .ok (.iaload, 1) := by decide +kernel
theorem dX2_paceOf_18 : decode cX2_paceOf 18 = .ok (.ifCond .ne 5, 3) := by decide +kernel
theorem dX2_paceOf_21 : decode cX2_paceOf 21 = .ok (.iconst 0, 1) := by decide +kernel
theorem dX2_paceOf_22 : decode cX2_paceOf 22 = .ok (.ireturn, 1) := by decide +kernel
theorem dX2_paceOf_23 : decode cX2_paceOf 23 = .ok (.iload_n 2, 1) := by decide +kernel
theorem dX2_paceOf_24 : decode cX2_paceOf 24 = .ok (.ifCond .eq 14, 3) := by decide +kernel
theorem dX2_paceOf_27 : decode cX2_paceOf 27 = .ok (.aload_n 0, 1) := by decide +kernel
theorem dX2_paceOf_28 : decode cX2_paceOf 28 = .ok (.getfield 27, 3) := by decide +kernel
theorem dX2_paceOf_31 : decode cX2_paceOf 31 = .ok (.iload_n 1, 1) := by decide +kernel
theorem dX2_paceOf_32 : decode cX2_paceOf 32 = .ok (.iaload, 1) := by decide +kernel
theorem dX2_paceOf_33 : decode cX2_paceOf 33 = .ok (.iconst 1, 1) := by decide +kernel
theorem dX2_paceOf_34 : decode cX2_paceOf 34 = .ok (.iadd, 1) := by decide +kernel
theorem dX2_paceOf_35 : decode cX2_paceOf 35 = .ok (.goto 9, 3) := by decide +kernel
theorem dX2_paceOf_38 : decode cX2_paceOf 38 = .ok (.aload_n 0, 1) := by decide +kernel
theorem dX2_paceOf_39 : decode cX2_paceOf 39 = .ok (.getfield 27, 3) := by decide +kernel
theorem dX2_paceOf_42 : decode cX2_paceOf 42 = .ok (.iload_n 1, 1) := by decide +kernel
theorem dX2_paceOf_43 : decode cX2_paceOf 43 = .ok (.iaload, 1) := by decide +kernel
theorem dX2_paceOf_44 : decode cX2_paceOf 44 = .ok (.ireturn, 1) := by decide +kernel
theorem dX2_passMinute_0 : decode cX2_passMinute 0 = .ok (.aload_n 0, 1) := by decide +kernel
theorem dX2_passMinute_1 : decode cX2_passMinute 1 = .ok (.aload_n 0, 1) := by decide +kernel
theorem dX2_passMinute_2 : decode cX2_passMinute 2 = .ok (.getfield 24, 3) := by decide +kernel
theorem dX2_passMinute_5 : decode cX2_passMinute 5 = .ok (.invokevirtual 60, 3) := by decide +kernel
theorem dX2_passMinute_8 : decode cX2_passMinute 8 = .ok (.istore_n 1, 1) := by decide +kernel
theorem dX2_passMinute_9 : decode cX2_passMinute 9 = .ok (.iconst 0, 1) := by decide +kernel
theorem dX2_passMinute_10 : decode cX2_passMinute 10 = .ok (.istore_n 2, 1) := by decide +kernel
theorem dX2_passMinute_11 : decode cX2_passMinute 11 = .ok (.iload_n 2, 1) := by decide +kernel
theorem dX2_passMinute_12 : decode cX2_passMinute 12 = .ok (.aload_n 0, 1) := by decide +kernel
theorem dX2_passMinute_13 : decode cX2_passMinute 13 = .ok (.getfield 15, 3) := by decide +kernel
theorem dX2_passMinute_16 : decode cX2_passMinute 16 = .ok (.if_icmp .ge 36, 3) := by decide +kernel
theorem dX2_passMinute_19 : decode cX2_passMinute 19 = .ok (.aload_n 0, 1) := by decide +kernel
theorem dX2_passMinute_20 : decode cX2_passMinute 20 = .ok (.getfield 34, 3) := by decide +kernel
theorem dX2_passMinute_23 : decode cX2_passMinute 23 = .ok (.iload_n 2, 1) := by decide +kernel
theorem dX2_passMinute_24 : decode cX2_passMinute 24 = .ok (.aload_n 0, 1) := by decide +kernel
theorem dX2_passMinute_25 : decode cX2_passMinute 25 = .ok (.aload_n 0, 1) := by decide +kernel
theorem dX2_passMinute_26 : decode cX2_passMinute 26 = .ok (.getfield 31, 3) := by decide +kernel
theorem dX2_passMinute_29 : decode cX2_passMinute 29 = .ok (.iload_n 2, 1) := by decide +kernel
theorem dX2_passMinute_30 : decode cX2_passMinute 30 = .ok (.iaload, 1) := by decide +kernel
theorem dX2_passMinute_31 : decode cX2_passMinute 31 = .ok (.aload_n 0, 1) := by decide +kernel
theorem dX2_passMinute_32 : decode cX2_passMinute 32 = .ok (.getfield 34, 3) := by decide +kernel
theorem dX2_passMinute_35 : decode cX2_passMinute 35 = .ok (.iload_n 2, 1) := by decide +kernel
theorem dX2_passMinute_36 : decode cX2_passMinute 36 = .ok (.iaload, 1) := by decide +kernel
theorem dX2_passMinute_37 : decode cX2_passMinute 37 = .ok (.aload_n 0, 1) := by decide +kernel
theorem dX2_passMinute_38 : decode cX2_passMinute 38 = .ok (.getfield 24, 3) := by decide +kernel
theorem dX2_passMinute_41 : decode cX2_passMinute 41 = .ok (.iload_n 1, 1) := by decide +kernel
theorem dX2_passMinute_42 : decode cX2_passMinute 42 = .ok (.invokevirtual 63, 3) := by decide +kernel
theorem dX2_passMinute_45 : decode cX2_passMinute 45 = .ok (.iastore, 1) := by decide +kernel
theorem dX2_passMinute_46 : decode cX2_passMinute 46 = .ok (.iinc 2 1, 3) := by decide +kernel
theorem dX2_passMinute_49 : decode cX2_passMinute 49 = .ok (.goto (-38), 3) := by decide +kernel
theorem dX2_passMinute_52 : decode cX2_passMinute 52 = .ok (.aload_n 0, 1) := by decide +kernel
theorem dX2_passMinute_53 : decode cX2_passMinute 53 = .ok (.dup, 1) := by decide +kernel
theorem dX2_passMinute_54 : decode cX2_passMinute 54 = .ok (.getfield 24, 3) := by decide +kernel
theorem dX2_passMinute_57 : decode cX2_passMinute 57 = .ok (.iconst 1, 1) := by decide +kernel
theorem dX2_passMinute_58 : decode cX2_passMinute 58 = .ok (.iadd, 1) := by decide +kernel
theorem dX2_passMinute_59 : decode cX2_passMinute 59 = .ok (.putfield 24, 3) := by decide +kernel
theorem dX2_passMinute_62 : decode cX2_passMinute 62 = .ok (.return_, 1) := by decide +kernel
theorem dX2_moved_0 : decode cX2_moved 0 = .ok (.iload_n 2, 1) := by decide +kernel
theorem dX2_moved_1 : decode cX2_moved 1 = .ok (.invokestatic 47, 3) := by decide +kernel
theorem dX2_moved_4 : decode cX2_moved 4 = .ok (.ifCond .eq 5, 3) := by decide +kernel
theorem dX2_moved_7 : decode cX2_moved 7 = .ok (.iload_n 2, 1) := by decide +kernel
theorem dX2_moved_8 : decode cX2_moved 8 = .ok (.ireturn, 1) := by decide +kernel
theorem dX2_moved_9 : decode cX2_moved 9 = .ok (.iload_n 1, 1) := by decide +kernel
theorem dX2_moved_10 : decode cX2_moved 10 = .ok (.iconst 4, 1) := by decide +kernel
theorem dX2_moved_11 : decode cX2_moved 11 = .ok (.invokestatic 56, 3) := by decide +kernel
theorem dX2_moved_14 : decode cX2_moved 14 = .ok (.ifCond .eq 31, 3) := by decide +kernel
theorem dX2_moved_17 : decode cX2_moved 17 = .ok (.iload_n 1, 1) := by decide +kernel
theorem dX2_moved_18 : decode cX2_moved 18 = .ok (.iconst 5, 1) := by decide +kernel
theorem dX2_moved_19 : decode cX2_moved 19 = .ok (.if_icmp .ne 13, 3) := by decide +kernel
theorem dX2_moved_22 : decode cX2_moved 22 = .ok (.iload_n 3, 1) := by decide +kernel
theorem dX2_moved_23 : decode cX2_moved 23 = .ok (.iconst 2, 1) := by decide +kernel
theorem dX2_moved_24 : decode cX2_moved 24 = .ok (.irem, 1) := by decide +kernel
theorem dX2_moved_25 : decode cX2_moved 25 = .ok (.ifCond .ne 7, 3) := by decide +kernel
theorem dX2_moved_28 : decode cX2_moved 28 = .ok (.iconst 2, 1) := by decide +kernel
theorem dX2_moved_29 : decode cX2_moved 29 = .ok (.goto 4, 3) := by decide +kernel
theorem dX2_moved_32 : decode cX2_moved 32 = .ok (.iconst 1, 1) := by decide +kernel
theorem dX2_moved_33 : decode cX2_moved 33 = .ok (.istore 5, 2) := by decide +kernel
theorem dX2_moved_35 : decode cX2_moved 35 = .ok (.aload_n 0, 1) := by decide +kernel
theorem dX2_moved_36 : decode cX2_moved 36 = .ok (.iload_n 2, 1) := by decide +kernel
theorem dX2_moved_37 : decode cX2_moved 37 = .ok (.iload 5, 2) := by decide +kernel
theorem dX2_moved_39 : decode cX2_moved 39 = .ok (.iload 4, 2) := by decide +kernel
theorem dX2_moved_41 : decode cX2_moved 41 = .ok (.invokevirtual 67, 3) := by decide +kernel
theorem dX2_moved_44 : decode cX2_moved 44 = .ok (.ireturn, 1) := by decide +kernel
theorem dX2_moved_45 : decode cX2_moved 45 = .ok (.aload_n 0, 1) := by decide +kernel
theorem dX2_moved_46 : decode cX2_moved 46 = .ok (.iload_n 1, 1) := by decide +kernel
theorem dX2_moved_47 : decode cX2_moved 47 = .ok (.iload_n 2, 1) := by decide +kernel
theorem dX2_moved_48 : decode cX2_moved 48 = .ok (.iload 4, 2) := by decide +kernel
theorem dX2_moved_50 : decode cX2_moved 50 = .ok (.invokevirtual 71, 3) := by decide +kernel
theorem dX2_moved_53 : decode cX2_moved 53 = .ok (.ireturn, 1) := by decide +kernel
theorem dX2_drifted_0 : decode cX2_drifted 0 = .ok (.iload_n 2, 1) := by decide +kernel
theorem dX2_drifted_1 : decode cX2_drifted 1 = .ok (.invokestatic 37, 3) := by decide +kernel
theorem dX2_drifted_4 : decode cX2_drifted 4 = .ok (.istore 4, 2) := by decide +kernel
theorem dX2_drifted_6 : decode cX2_drifted 6 = .ok (.iload_n 2, 1) := by decide +kernel
theorem dX2_drifted_7 : decode cX2_drifted 7 = .ok (.invokestatic 51, 3) := by decide +kernel
theorem dX2_drifted_10 : decode cX2_drifted 10 = .ok (.istore 5, 2) := by decide +kernel
theorem dX2_drifted_12 : decode cX2_drifted 12 = .ok (.aload_n 0, 1) := by decide +kernel
theorem dX2_drifted_13 : decode cX2_drifted 13 = .ok (.iload 5, 2) := by decide +kernel
theorem dX2_drifted_15 : decode cX2_drifted 15 = .ok (.iload_n 3, 1) := by decide +kernel
theorem dX2_drifted_16 : decode cX2_drifted 16 = .ok (.invokevirtual 74, 3) := by decide +kernel
theorem dX2_drifted_19 : decode cX2_drifted 19 = .ok (.istore 6, 2) := by decide +kernel
theorem dX2_drifted_21 : decode cX2_drifted 21 = .ok (.iload 5, 2) := by decide +kernel
theorem dX2_drifted_23 : decode cX2_drifted 23 = .ok (.iload_n 1, 1) := by decide +kernel
theorem dX2_drifted_24 : decode cX2_drifted 24 = .ok (.iconst 3, 1) := by decide +kernel
theorem dX2_drifted_25 : decode cX2_drifted 25 = .ok (.if_icmp .ne 16, 3) := by decide +kernel
theorem dX2_drifted_28 : decode cX2_drifted 28 = .ok (.iload 6, 2) := by decide +kernel
theorem dX2_drifted_30 : decode cX2_drifted 30 = .ok (.iconst 1, 1) := by decide +kernel
theorem dX2_drifted_31 : decode cX2_drifted 31 = .ok (.if_icmp .le 10, 3) := by decide +kernel
theorem dX2_drifted_34 : decode cX2_drifted 34 = .ok (.iload 6, 2) := by decide +kernel
theorem dX2_drifted_36 : decode cX2_drifted 36 = .ok (.iconst 1, 1) := by decide +kernel
theorem dX2_drifted_37 : decode cX2_drifted 37 = .ok (.isub, 1) := by decide +kernel
theorem dX2_drifted_38 : decode cX2_drifted 38 = .ok (.goto 5, 3) := by decide +kernel
theorem dX2_drifted_41 : decode cX2_drifted 41 = .ok (.iload 6, 2) := by decide +kernel
theorem dX2_drifted_43 : decode cX2_drifted 43 = .ok (.iadd, 1) := by decide +kernel
theorem dX2_drifted_44 : decode cX2_drifted 44 = .ok (.istore 7, 2) := by decide +kernel
theorem dX2_drifted_46 : decode cX2_drifted 46 = .ok (.iload 7, 2) := by decide +kernel
theorem dX2_drifted_48 : decode cX2_drifted 48 = .ok (.aload_n 0, 1) := by decide +kernel
theorem dX2_drifted_49 : decode cX2_drifted 49 = .ok (.getfield 9, 3) := by decide +kernel
theorem dX2_drifted_52 : decode cX2_drifted 52 = .ok (.if_icmp .lt 10, 3) := by decide +kernel
theorem dX2_drifted_55 : decode cX2_drifted 55 = .ok (.iconst 0, 1) := by decide +kernel
theorem dX2_drifted_56 : decode cX2_drifted 56 = .ok (.iload 5, 2) := by decide +kernel
theorem dX2_drifted_58 : decode cX2_drifted 58 = .ok (.invokestatic 78, 3) := by decide +kernel
theorem dX2_drifted_61 : decode cX2_drifted 61 = .ok (.ireturn, 1) := by decide +kernel
theorem dX2_drifted_62 : decode cX2_drifted 62 = .ok (.iload 5, 2) := by decide +kernel
theorem dX2_drifted_64 : decode cX2_drifted 64 = .ok (.aload_n 0, 1) := by decide +kernel
theorem dX2_drifted_65 : decode cX2_drifted 65 = .ok (.getfield 18, 3) := by decide +kernel
theorem dX2_drifted_68 : decode cX2_drifted 68 = .ok (.if_icmp .gt 18, 3) := by decide +kernel
theorem dX2_drifted_71 : decode cX2_drifted 71 = .ok (.iload 7, 2) := by decide +kernel
theorem dX2_drifted_73 : decode cX2_drifted 73 = .ok (.aload_n 0, 1) := by decide +kernel
theorem dX2_drifted_74 : decode cX2_drifted 74 = .ok (.getfield 18, 3) := by decide +kernel
theorem dX2_drifted_77 : decode cX2_drifted 77 = .ok (.if_icmp .le 9, 3) := by decide +kernel
theorem dX2_drifted_80 : decode cX2_drifted 80 = .ok (.iload 4, 2) := by decide +kernel
theorem dX2_drifted_82 : decode cX2_drifted 82 = .ok (.iconst 2, 1) := by decide +kernel
theorem dX2_drifted_83 : decode cX2_drifted 83 = .ok (.idiv, 1) := by decide +kernel
theorem dX2_drifted_84 : decode cX2_drifted 84 = .ok (.istore 4, 2) := by decide +kernel
theorem dX2_drifted_86 : decode cX2_drifted 86 = .ok (.iload_n 1, 1) := by decide +kernel
theorem dX2_drifted_87 : decode cX2_drifted 87 = .ok (.iconst 2, 1) := by decide +kernel
theorem dX2_drifted_88 : decode cX2_drifted 88 = .ok (.if_icmp .ne 11, 3) := by decide +kernel
theorem dX2_drifted_91 : decode cX2_drifted 91 = .ok (.iload 4, 2) := by decide +kernel
theorem dX2_drifted_93 : decode cX2_drifted 93 = .ok (.ifCond .le 6, 3) := by decide +kernel
theorem dX2_drifted_96 : decode cX2_drifted 96 = .ok (.iinc 4 (-1), 3) := by decide +kernel
theorem dX2_drifted_99 : decode cX2_drifted 99 = .ok (.iload 4, 2) := by decide +kernel
theorem dX2_drifted_101 : decode cX2_drifted 101 = .ok (.iload 7, 2) := by decide +kernel
theorem dX2_drifted_103 : decode cX2_drifted 103 = .ok (.invokestatic 78, 3) := by decide +kernel
theorem dX2_drifted_106 : decode cX2_drifted 106 = .ok (.ireturn, 1) := by decide +kernel
theorem dX2_climbed_0 : decode cX2_climbed 0 = .ok (.iload_n 1, 1) := by decide +kernel
theorem dX2_climbed_1 : decode cX2_climbed 1 = .ok (.invokestatic 37, 3) := by decide +kernel
theorem dX2_climbed_4 : decode cX2_climbed 4 = .ok (.istore 4, 2) := by decide +kernel
theorem dX2_climbed_6 : decode cX2_climbed 6 = .ok (.iload_n 1, 1) := by decide +kernel
theorem dX2_climbed_7 : decode cX2_climbed 7 = .ok (.invokestatic 51, 3) := by decide +kernel
theorem dX2_climbed_10 : decode cX2_climbed 10 = .ok (.istore 5, 2) := by decide +kernel
theorem dX2_climbed_12 : decode cX2_climbed 12 = .ok (.iconst 0, 1) := by decide +kernel
theorem dX2_climbed_13 : decode cX2_climbed 13 = .ok (.istore 6, 2) := by decide +kernel
theorem dX2_climbed_15 : decode cX2_climbed 15 = .ok (.iload 6, 2) := by decide +kernel
theorem dX2_climbed_17 : decode cX2_climbed 17 = .ok (.iload_n 2, 1) := by decide +kernel
theorem dX2_climbed_18 : decode cX2_climbed 18 = .ok (.if_icmp .ge 58, 3) := by decide +kernel
theorem dX2_climbed_21 : decode cX2_climbed 21 = .ok (.iload 5, 2) := by decide +kernel
theorem dX2_climbed_23 : decode cX2_climbed 23 = .ok (.aload_n 0, 1) := by decide +kernel
theorem dX2_climbed_24 : decode cX2_climbed 24 = .ok (.getfield 18, 3) := by decide +kernel
theorem dX2_climbed_27 : decode cX2_climbed 27 = .ok (.iconst 1, 1) := by decide +kernel
theorem dX2_climbed_28 : decode cX2_climbed 28 = .ok (.iadd, 1) := by decide +kernel
theorem dX2_climbed_29 : decode cX2_climbed 29 = .ok (.if_icmp .ne 14, 3) := by decide +kernel
theorem dX2_climbed_32 : decode cX2_climbed 32 = .ok (.iload 4, 2) := by decide +kernel
theorem dX2_climbed_34 : decode cX2_climbed 34 = .ok (.bipush 20, 2) := by decide +kernel
theorem dX2_climbed_36 : decode cX2_climbed 36 = .ok (.if_icmp .ge 7, 3) := by decide +kernel
theorem dX2_climbed_39 : decode cX2_climbed 39 = .ok (.iconst 1, 1) := by decide +kernel
theorem dX2_climbed_40 : decode cX2_climbed 40 = .ok (.goto 4, 3) := by decide +kernel
theorem dX2_climbed_43 : decode cX2_climbed 43 = .ok (.iconst 0, 1) := by decide +kernel
theorem dX2_climbed_44 : decode cX2_climbed 44 = .ok (.istore 7, 2) := by decide +kernel
theorem dX2_climbed_46 : decode cX2_climbed 46 = .ok (.iload 5, 2) := by decide +kernel
theorem dX2_climbed_48 : decode cX2_climbed 48 = .ok (.ifCond .le 22, 3) := by decide +kernel
theorem dX2_climbed_51 : decode cX2_climbed 51 = .ok (.iload 7, 2) := by decide +kernel
theorem dX2_climbed_53 : decode cX2_climbed 53 = .ok (.ifCond .ne 17, 3) := by decide +kernel
theorem dX2_climbed_56 : decode cX2_climbed 56 = .ok (.aload_n 0, 1) := by decide +kernel
theorem dX2_climbed_57 : decode cX2_climbed 57 = .ok (.iload 5, 2) := by decide +kernel
theorem dX2_climbed_59 : decode cX2_climbed 59 = .ok (.iload_n 3, 1) := by decide +kernel
theorem dX2_climbed_60 : decode cX2_climbed 60 = .ok (.invokevirtual 74, 3) := by decide +kernel
theorem dX2_climbed_63 : decode cX2_climbed 63 = .ok (.iconst 2, 1) := by decide +kernel
theorem dX2_climbed_64 : decode cX2_climbed 64 = .ok (.if_icmp .gt 6, 3) := by decide +kernel
theorem dX2_climbed_67 : decode cX2_climbed 67 = .ok (.iinc 5 (-1), 3) := by decide +kernel
theorem dX2_climbed_70 : decode cX2_climbed 70 = .ok (.iinc 6 1, 3) := by decide +kernel
theorem dX2_climbed_73 : decode cX2_climbed 73 = .ok (.goto (-58), 3) := by decide +kernel
theorem dX2_climbed_76 : decode cX2_climbed 76 = .ok (.iload 4, 2) := by decide +kernel
theorem dX2_climbed_78 : decode cX2_climbed 78 = .ok (.iload 5, 2) := by decide +kernel
theorem dX2_climbed_80 : decode cX2_climbed 80 = .ok (.invokestatic 78, 3) := by decide +kernel
theorem dX2_climbed_83 : decode cX2_climbed 83 = .ok (.ireturn, 1) := by decide +kernel
theorem dX2_foretold_0 : decode cX2_foretold 0 = .ok (.aload_n 0, 1) := by decide +kernel
theorem dX2_foretold_1 : decode cX2_foretold 1 = .ok (.getfield 34, 3) := by decide +kernel
theorem dX2_foretold_4 : decode cX2_foretold 4 = .ok (.iload_n 1, 1) := by decide +kernel
theorem dX2_foretold_5 : decode cX2_foretold 5 = .ok (.iaload, 1) := by decide +kernel
theorem dX2_foretold_6 : decode cX2_foretold 6 = .ok (.istore_n 3, 1) := by decide +kernel
theorem dX2_foretold_7 : decode cX2_foretold 7 = .ok (.iconst 0, 1) := by decide +kernel
theorem dX2_foretold_8 : decode cX2_foretold 8 = .ok (.istore 4, 2) := by decide +kernel
theorem dX2_foretold_10 : decode cX2_foretold 10 = .ok (.iload 4, 2) := by decide +kernel
theorem dX2_foretold_12 : decode cX2_foretold 12 = .ok (.iload_n 2, 1) := by decide +kernel
theorem dX2_foretold_13 : decode cX2_foretold 13 = .ok (.if_icmp .ge 46, 3) := by decide +kernel
theorem dX2_foretold_16 : decode cX2_foretold 16 = .ok (.iload_n 3, 1) := by decide +kernel
theorem dX2_foretold_17 : decode cX2_foretold 17 = .ok (.invokestatic 47, 3) := by decide +kernel
theorem dX2_foretold_20 : decode cX2_foretold 20 = .ok (.ifCond .ne 39, 3) := by decide +kernel
theorem dX2_foretold_23 : decode cX2_foretold 23 = .ok (.aload_n 0, 1) := by decide +kernel
theorem dX2_foretold_24 : decode cX2_foretold 24 = .ok (.aload_n 0, 1) := by decide +kernel
theorem dX2_foretold_25 : decode cX2_foretold 25 = .ok (.getfield 31, 3) := by decide +kernel
theorem dX2_foretold_28 : decode cX2_foretold 28 = .ok (.iload_n 1, 1) := by decide +kernel
theorem dX2_foretold_29 : decode cX2_foretold 29 = .ok (.iaload, 1) := by decide +kernel
theorem dX2_foretold_30 : decode cX2_foretold 30 = .ok (.iload_n 3, 1) := by decide +kernel
theorem dX2_foretold_31 : decode cX2_foretold 31 = .ok (.aload_n 0, 1) := by decide +kernel
theorem dX2_foretold_32 : decode cX2_foretold 32 = .ok (.getfield 24, 3) := by decide +kernel
theorem dX2_foretold_35 : decode cX2_foretold 35 = .ok (.iload 4, 2) := by decide +kernel
theorem dX2_foretold_37 : decode cX2_foretold 37 = .ok (.iadd, 1) := by decide +kernel
theorem dX2_foretold_38 : decode cX2_foretold 38 = .ok (.aload_n 0, 1) := by decide +kernel
theorem dX2_foretold_39 : decode cX2_foretold 39 = .ok (.aload_n 0, 1) := by decide +kernel
theorem dX2_foretold_40 : decode cX2_foretold 40 = .ok (.getfield 24, 3) := by decide +kernel
theorem dX2_foretold_43 : decode cX2_foretold 43 = .ok (.iload 4, 2) := by decide +kernel
theorem dX2_foretold_45 : decode cX2_foretold 45 = .ok (.iadd, 1) := by decide +kernel
theorem dX2_foretold_46 : decode cX2_foretold 46 = .ok (.invokevirtual 60, 3) := by decide +kernel
theorem dX2_foretold_49 : decode cX2_foretold 49 = .ok (.invokevirtual 63, 3) := by decide +kernel
theorem dX2_foretold_52 : decode cX2_foretold 52 = .ok (.istore_n 3, 1) := by decide +kernel
theorem dX2_foretold_53 : decode cX2_foretold 53 = .ok (.iinc 4 1, 3) := by decide +kernel
theorem dX2_foretold_56 : decode cX2_foretold 56 = .ok (.goto (-46), 3) := by decide +kernel
theorem dX2_foretold_59 : decode cX2_foretold 59 = .ok (.iload_n 3, 1) := by decide +kernel
theorem dX2_foretold_60 : decode cX2_foretold 60 = .ok (.ireturn, 1) := by decide +kernel
theorem dX2_foretoldIn_0 : decode cX2_foretoldIn 0 = .ok (.aload_n 0, 1) := by decide +kernel
theorem dX2_foretoldIn_1 : decode cX2_foretoldIn 1 = .ok (.getfield 34, 3) := by decide +kernel
theorem dX2_foretoldIn_4 : decode cX2_foretoldIn 4 = .ok (.iload_n 1, 1) := by decide +kernel
theorem dX2_foretoldIn_5 : decode cX2_foretoldIn 5 = .ok (.iaload, 1) := by decide +kernel
theorem dX2_foretoldIn_6 : decode cX2_foretoldIn 6 = .ok (.istore 4, 2) := by decide +kernel
theorem dX2_foretoldIn_8 : decode cX2_foretoldIn 8 = .ok (.iconst 0, 1) := by decide +kernel
theorem dX2_foretoldIn_9 : decode cX2_foretoldIn 9 = .ok (.istore 5, 2) := by decide +kernel
theorem dX2_foretoldIn_11 : decode cX2_foretoldIn 11 = .ok (.iload 5, 2) := by decide +kernel
theorem dX2_foretoldIn_13 : decode cX2_foretoldIn 13 = .ok (.iload_n 2, 1) := by decide +kernel
theorem dX2_foretoldIn_14 : decode cX2_foretoldIn 14 = .ok (.if_icmp .ge 45, 3) := by decide +kernel
theorem dX2_foretoldIn_17 : decode cX2_foretoldIn 17 = .ok (.aload_n 0, 1) := by decide +kernel
theorem dX2_foretoldIn_18 : decode cX2_foretoldIn 18 = .ok (.aload_n 0, 1) := by decide +kernel
theorem dX2_foretoldIn_19 : decode cX2_foretoldIn 19 = .ok (.getfield 31, 3) := by decide +kernel
theorem dX2_foretoldIn_22 : decode cX2_foretoldIn 22 = .ok (.iload_n 1, 1) := by decide +kernel
theorem dX2_foretoldIn_23 : decode cX2_foretoldIn 23 = .ok (.iaload, 1) := by decide +kernel
theorem dX2_foretoldIn_24 : decode cX2_foretoldIn 24 = .ok (.iload 4, 2) := by decide +kernel
theorem dX2_foretoldIn_26 : decode cX2_foretoldIn 26 = .ok (.aload_n 0, 1) := by decide +kernel
theorem dX2_foretoldIn_27 : decode cX2_foretoldIn 27 = .ok (.getfield 24, 3) := by decide +kernel
theorem dX2_foretoldIn_30 : decode cX2_foretoldIn 30 = .ok (.iload 5, 2) := by decide +kernel
theorem dX2_foretoldIn_32 : decode cX2_foretoldIn 32 = .ok (.iadd, 1) := by decide +kernel
theorem dX2_foretoldIn_33 : decode cX2_foretoldIn 33 = .ok (.iload_n 3, 1) := by decide +kernel
theorem dX2_foretoldIn_34 : decode cX2_foretoldIn 34 = .ok (.iload 5, 2) := by decide +kernel
theorem dX2_foretoldIn_36 : decode cX2_foretoldIn 36 = .ok (.ishr, 1) := by decide +kernel
theorem dX2_foretoldIn_37 : decode cX2_foretoldIn 37 = .ok (.iconst 1, 1) := by decide +kernel
theorem dX2_foretoldIn_38 : decode cX2_foretoldIn 38 = .ok (.iand, 1) := by decide +kernel
theorem dX2_foretoldIn_39 : decode cX2_foretoldIn 39 = .ok (.iconst 1, 1) := by decide +kernel
theorem dX2_foretoldIn_40 : decode cX2_foretoldIn 40 = .ok (.if_icmp .ne 7, 3) := by decide +kernel
theorem dX2_foretoldIn_43 : decode cX2_foretoldIn 43 = .ok (.iconst 1, 1) := by decide +kernel
theorem dX2_foretoldIn_44 : decode cX2_foretoldIn 44 = .ok (.goto 4, 3) := by decide +kernel
theorem dX2_foretoldIn_47 : decode cX2_foretoldIn 47 = .ok (.iconst 0, 1) := by decide +kernel
theorem dX2_foretoldIn_48 : decode cX2_foretoldIn 48 = .ok (.invokevirtual 63, 3) := by decide +kernel
theorem dX2_foretoldIn_51 : decode cX2_foretoldIn 51 = .ok (.istore 4, 2) := by decide +kernel
theorem dX2_foretoldIn_53 : decode cX2_foretoldIn 53 = .ok (.iinc 5 1, 3) := by decide +kernel
theorem dX2_foretoldIn_56 : decode cX2_foretoldIn 56 = .ok (.goto (-45), 3) := by decide +kernel
theorem dX2_foretoldIn_59 : decode cX2_foretoldIn 59 = .ok (.iload 4, 2) := by decide +kernel
theorem dX2_foretoldIn_61 : decode cX2_foretoldIn 61 = .ok (.ireturn, 1) := by decide +kernel
theorem dX2_goneBehind_0 : decode cX2_goneBehind 0 = .ok (.aload_n 0, 1) := by decide +kernel
theorem dX2_goneBehind_1 : decode cX2_goneBehind 1 = .ok (.getfield 34, 3) := by decide +kernel
theorem dX2_goneBehind_4 : decode cX2_goneBehind 4 = .ok (.iload_n 1, 1) := by decide +kernel
theorem dX2_goneBehind_5 : decode cX2_goneBehind 5 = .ok (.iaload, 1) := by decide +kernel
theorem dX2_goneBehind_6 : decode cX2_goneBehind 6 = .ok (.istore_n 3, 1) := by decide +kernel
theorem dX2_goneBehind_7 : decode cX2_goneBehind 7 = .ok (.iconst 0, 1) := by decide +kernel
theorem dX2_goneBehind_8 : decode cX2_goneBehind 8 = .ok (.istore 4, 2) := by decide +kernel
theorem dX2_goneBehind_10 : decode cX2_goneBehind 10 = .ok (.iload 4, 2) := by decide +kernel
theorem dX2_goneBehind_12 : decode cX2_goneBehind 12 = .ok (.iload_n 2, 1) := by decide +kernel
theorem dX2_goneBehind_13 : decode cX2_goneBehind 13 = .ok (.if_icmp .gt 49, 3) := by decide +kernel
theorem dX2_goneBehind_16 : decode cX2_goneBehind 16 = .ok (.iload_n 3, 1) := by decide +kernel
theorem dX2_goneBehind_17 : decode cX2_goneBehind 17 = .ok (.invokestatic 47, 3) := by decide +kernel
theorem dX2_goneBehind_20 : decode cX2_goneBehind 20 = .ok (.ifCond .eq 6, 3) := by decide +kernel
theorem dX2_goneBehind_23 : decode cX2_goneBehind 23 = .ok (.iload 4, 2) := by decide +kernel
theorem dX2_goneBehind_25 : decode cX2_goneBehind 25 = .ok (.ireturn, 1) := by decide +kernel
theorem dX2_goneBehind_26 : decode cX2_goneBehind 26 = .ok (.aload_n 0, 1) := by decide +kernel
theorem dX2_goneBehind_27 : decode cX2_goneBehind 27 = .ok (.aload_n 0, 1) := by decide +kernel
theorem dX2_goneBehind_28 : decode cX2_goneBehind 28 = .ok (.getfield 31, 3) := by decide +kernel
theorem dX2_goneBehind_31 : decode cX2_goneBehind 31 = .ok (.iload_n 1, 1) := by decide +kernel
theorem dX2_goneBehind_32 : decode cX2_goneBehind 32 = .ok (.iaload, 1) := by decide +kernel
theorem dX2_goneBehind_33 : decode cX2_goneBehind 33 = .ok (.iload_n 3, 1) := by decide +kernel
theorem dX2_goneBehind_34 : decode cX2_goneBehind 34 = .ok (.aload_n 0, 1) := by decide +kernel
theorem dX2_goneBehind_35 : decode cX2_goneBehind 35 = .ok (.getfield 24, 3) := by decide +kernel
theorem dX2_goneBehind_38 : decode cX2_goneBehind 38 = .ok (.iload 4, 2) := by decide +kernel
theorem dX2_goneBehind_40 : decode cX2_goneBehind 40 = .ok (.iadd, 1) := by decide +kernel
theorem dX2_goneBehind_41 : decode cX2_goneBehind 41 = .ok (.aload_n 0, 1) := by decide +kernel
theorem dX2_goneBehind_42 : decode cX2_goneBehind 42 = .ok (.aload_n 0, 1) := by decide +kernel
theorem dX2_goneBehind_43 : decode cX2_goneBehind 43 = .ok (.getfield 24, 3) := by decide +kernel
theorem dX2_goneBehind_46 : decode cX2_goneBehind 46 = .ok (.iload 4, 2) := by decide +kernel
theorem dX2_goneBehind_48 : decode cX2_goneBehind 48 = .ok (.iadd, 1) := by decide +kernel
theorem dX2_goneBehind_49 : decode cX2_goneBehind 49 = .ok (.invokevirtual 60, 3) := by decide +kernel
theorem dX2_goneBehind_52 : decode cX2_goneBehind 52 = .ok (.invokevirtual 63, 3) := by decide +kernel
theorem dX2_goneBehind_55 : decode cX2_goneBehind 55 = .ok (.istore_n 3, 1) := by decide +kernel
theorem dX2_goneBehind_56 : decode cX2_goneBehind 56 = .ok (.iinc 4 1, 3) := by decide +kernel
theorem dX2_goneBehind_59 : decode cX2_goneBehind 59 = .ok (.goto (-49), 3) := by decide +kernel
theorem dX2_goneBehind_62 : decode cX2_goneBehind 62 = .ok (.ldc 82, 2) := by decide +kernel
theorem dX2_goneBehind_64 : decode cX2_goneBehind 64 = .ok (.ireturn, 1) := by decide +kernel
theorem dX2_quarrelBehind_0 : decode cX2_quarrelBehind 0 = .ok (.iconst 0, 1) := by decide +kernel
theorem dX2_quarrelBehind_1 : decode cX2_quarrelBehind 1 = .ok (.istore_n 2, 1) := by decide +kernel
theorem dX2_quarrelBehind_2 : decode cX2_quarrelBehind 2 = .ok (.iconst 0, 1) := by decide +kernel
theorem dX2_quarrelBehind_3 : decode cX2_quarrelBehind 3 = .ok (.istore_n 3, 1) := by decide +kernel
theorem dX2_quarrelBehind_4 : decode cX2_quarrelBehind 4 = .ok (.iload_n 3, 1) := by decide +kernel
theorem dX2_quarrelBehind_5 : decode cX2_quarrelBehind 5 = .ok (.aload_n 0, 1) := by decide +kernel
theorem dX2_quarrelBehind_6 : decode cX2_quarrelBehind 6 = .ok (.getfield 15, 3) := by decide +kernel
theorem dX2_quarrelBehind_9 : decode cX2_quarrelBehind 9 = .ok (.if_icmp .ge 21, 3) := by decide +kernel
theorem dX2_quarrelBehind_12 : decode cX2_quarrelBehind 12 = .ok (.iload_n 2, 1) := by decide +kernel
theorem dX2_quarrelBehind_13 : decode cX2_quarrelBehind 13 = .ok (.aload_n 0, 1) := by decide +kernel
theorem dX2_quarrelBehind_14 : decode cX2_quarrelBehind 14 = .ok (.iload_n 3, 1) := by decide +kernel
theorem dX2_quarrelBehind_15 : decode cX2_quarrelBehind 15 = .ok (.iload_n 1, 1) := by decide +kernel
theorem dX2_quarrelBehind_16 : decode cX2_quarrelBehind 16 = .ok (.invokevirtual 83, 3) := by decide +kernel
theorem dX2_quarrelBehind_19 : decode cX2_quarrelBehind 19 = .ok (.invokestatic 37, 3) := by decide +kernel
theorem dX2_quarrelBehind_22 : decode cX2_quarrelBehind 22 = .ok (.iadd, 1) := by decide +kernel
theorem dX2_quarrelBehind_23 : decode cX2_quarrelBehind 23 = .ok (.istore_n 2, 1) := by decide +kernel
theorem dX2_quarrelBehind_24 : decode cX2_quarrelBehind 24 = .ok (.iinc 3 1, 3) := by decide +kernel
theorem dX2_quarrelBehind_27 : decode cX2_quarrelBehind 27 = .ok (.goto (-23), 3) := by decide +kernel
theorem dX2_quarrelBehind_30 : decode cX2_quarrelBehind 30 = .ok (.iload_n 2, 1) := by decide +kernel
theorem dX2_quarrelBehind_31 : decode cX2_quarrelBehind 31 = .ok (.ireturn, 1) := by decide +kernel
theorem dX2_isAllGoneBehind_0 : decode cX2_isAllGoneBehind 0 = .ok (.iconst 0, 1) := by decide +kernel
theorem dX2_isAllGoneBehind_1 : decode cX2_isAllGoneBehind 1 = .ok (.istore_n 2, 1) := by decide +kernel
theorem dX2_isAllGoneBehind_2 : decode cX2_isAllGoneBehind 2 = .ok (.iload_n 2, 1) := by decide +kernel
theorem dX2_isAllGoneBehind_3 : decode cX2_isAllGoneBehind 3 = .ok (.aload_n 0, 1) := by decide +kernel
theorem dX2_isAllGoneBehind_4 : decode cX2_isAllGoneBehind 4 = .ok (.getfield 15, 3) := by decide +kernel
theorem dX2_isAllGoneBehind_7 : decode cX2_isAllGoneBehind 7 = .ok (.if_icmp .ge 23, 3) := by decide +kernel
theorem dX2_isAllGoneBehind_10 : decode cX2_isAllGoneBehind 10 = .ok (.aload_n 0, 1) := by decide +kernel
theorem dX2_isAllGoneBehind_11 : decode cX2_isAllGoneBehind 11 = .ok (.iload_n 2, 1) := by decide +kernel
theorem dX2_isAllGoneBehind_12 : decode cX2_isAllGoneBehind 12 = .ok (.iload_n 1, 1) := by decide +kernel
theorem dX2_isAllGoneBehind_13 : decode cX2_isAllGoneBehind 13 = .ok (.invokevirtual 83, 3) := by decide +kernel
theorem dX2_isAllGoneBehind_16 : decode cX2_isAllGoneBehind 16 = .ok (.invokestatic 47, 3) := by decide +kernel
theorem dX2_isAllGoneBehind_19 : decode cX2_isAllGoneBehind 19 = .ok (.ifCond .ne 5, 3) := by decide +kernel
theorem dX2_isAllGoneBehind_22 : decode cX2_isAllGoneBehind 22 = .ok (.iconst 0, 1) := by decide +kernel
theorem dX2_isAllGoneBehind_23 : decode cX2_isAllGoneBehind 23 = .ok (.ireturn, 1) := by decide +kernel
theorem dX2_isAllGoneBehind_24 : decode cX2_isAllGoneBehind 24 = .ok (.iinc 2 1, 3) := by decide +kernel
theorem dX2_isAllGoneBehind_27 : decode cX2_isAllGoneBehind 27 = .ok (.goto (-25), 3) := by decide +kernel
theorem dX2_isAllGoneBehind_30 : decode cX2_isAllGoneBehind 30 = .ok (.iconst 1, 1) := by decide +kernel
theorem dX2_isAllGoneBehind_31 : decode cX2_isAllGoneBehind 31 = .ok (.ireturn, 1) := by decide +kernel
theorem dX2_goesAsTold_0 : decode cX2_goesAsTold 0 = .ok (.iload_n 2, 1) := by decide +kernel
theorem dX2_goesAsTold_1 : decode cX2_goesAsTold 1 = .ok (.istore 6, 2) := by decide +kernel
theorem dX2_goesAsTold_3 : decode cX2_goesAsTold 3 = .ok (.iconst 0, 1) := by decide +kernel
theorem dX2_goesAsTold_4 : decode cX2_goesAsTold 4 = .ok (.istore 7, 2) := by decide +kernel
theorem dX2_goesAsTold_6 : decode cX2_goesAsTold 6 = .ok (.iload 7, 2) := by decide +kernel
theorem dX2_goesAsTold_8 : decode cX2_goesAsTold 8 = .ok (.iload 5, 2) := by decide +kernel
theorem dX2_goesAsTold_10 : decode cX2_goesAsTold 10 = .ok (.if_icmp .ge 66, 3) := by decide +kernel
theorem dX2_goesAsTold_13 : decode cX2_goesAsTold 13 = .ok (.aload_n 0, 1) := by decide +kernel
theorem dX2_goesAsTold_14 : decode cX2_goesAsTold 14 = .ok (.iload_n 1, 1) := by decide +kernel
theorem dX2_goesAsTold_15 : decode cX2_goesAsTold 15 = .ok (.iload 6, 2) := by decide +kernel
theorem dX2_goesAsTold_17 : decode cX2_goesAsTold 17 = .ok (.aload_n 0, 1) := by decide +kernel
theorem dX2_goesAsTold_18 : decode cX2_goesAsTold 18 = .ok (.getfield 24, 3) := by decide +kernel
theorem dX2_goesAsTold_21 : decode cX2_goesAsTold 21 = .ok (.iload 7, 2) := by decide +kernel
theorem dX2_goesAsTold_23 : decode cX2_goesAsTold 23 = .ok (.iadd, 1) := by decide +kernel
theorem dX2_goesAsTold_24 : decode cX2_goesAsTold 24 = .ok (.aload_n 0, 1) := by decide +kernel
theorem dX2_goesAsTold_25 : decode cX2_goesAsTold 25 = .ok (.aload_n 0, 1) := by decide +kernel
theorem dX2_goesAsTold_26 : decode cX2_goesAsTold 26 = .ok (.getfield 24, 3) := by decide +kernel
theorem dX2_goesAsTold_29 : decode cX2_goesAsTold 29 = .ok (.iload 7, 2) := by decide +kernel
theorem dX2_goesAsTold_31 : decode cX2_goesAsTold 31 = .ok (.iadd, 1) := by decide +kernel
theorem dX2_goesAsTold_32 : decode cX2_goesAsTold 32 = .ok (.invokevirtual 60, 3) := by decide +kernel
theorem dX2_goesAsTold_35 : decode cX2_goesAsTold 35 = .ok (.invokevirtual 63, 3) := by decide +kernel
theorem dX2_goesAsTold_38 : decode cX2_goesAsTold 38 = .ok (.istore 6, 2) := by decide +kernel
theorem dX2_goesAsTold_40 : decode cX2_goesAsTold 40 = .ok (.aload_n 3, 1) := by decide +kernel
theorem dX2_goesAsTold_41 : decode cX2_goesAsTold 41 = .ok (.iload 4, 2) := by decide +kernel
theorem dX2_goesAsTold_43 : decode cX2_goesAsTold 43 = .ok (.iload 7, 2) := by decide +kernel
theorem dX2_goesAsTold_45 : decode cX2_goesAsTold 45 = .ok (.iadd, 1) := by decide +kernel
theorem dX2_goesAsTold_46 : decode cX2_goesAsTold 46 = .ok (.iaload, 1) := by decide +kernel
theorem dX2_goesAsTold_47 : decode cX2_goesAsTold 47 = .ok (.iload 6, 2) := by decide +kernel
theorem dX2_goesAsTold_49 : decode cX2_goesAsTold 49 = .ok (.invokestatic 47, 3) := by decide +kernel
theorem dX2_goesAsTold_52 : decode cX2_goesAsTold 52 = .ok (.ifCond .eq 8, 3) := by decide +kernel
theorem dX2_goesAsTold_55 : decode cX2_goesAsTold 55 = .ok (.bipush 99, 2) := by decide +kernel
theorem dX2_goesAsTold_57 : decode cX2_goesAsTold 57 = .ok (.goto 8, 3) := by decide +kernel
theorem dX2_goesAsTold_60 : decode cX2_goesAsTold 60 = .ok (.iload 6, 2) := by decide +kernel
theorem dX2_goesAsTold_62 : decode cX2_goesAsTold 62 = .ok (.invokestatic 51, 3) := by decide +kernel
theorem dX2_goesAsTold_65 : decode cX2_goesAsTold 65 = .ok (.if_icmp .eq 5, 3) := by decide +kernel
theorem dX2_goesAsTold_68 : decode cX2_goesAsTold 68 = .ok (.iconst 0, 1) := by decide +kernel
theorem dX2_goesAsTold_69 : decode cX2_goesAsTold 69 = .ok (.ireturn, 1) := by decide +kernel
theorem dX2_goesAsTold_70 : decode cX2_goesAsTold 70 = .ok (.iinc 7 1, 3) := by decide +kernel
theorem dX2_goesAsTold_73 : decode cX2_goesAsTold 73 = .ok (.goto (-67), 3) := by decide +kernel
theorem dX2_goesAsTold_76 : decode cX2_goesAsTold 76 = .ok (.iconst 1, 1) := by decide +kernel
theorem dX2_goesAsTold_77 : decode cX2_goesAsTold 77 = .ok (.ireturn, 1) := by decide +kernel
theorem dX2_sayDrawn_0 : decode cX2_sayDrawn 0 = .ok (.aload_n 0, 1) := by decide +kernel
theorem dX2_sayDrawn_1 : decode cX2_sayDrawn 1 = .ok (.getfield 15, 3) := by decide +kernel
theorem dX2_sayDrawn_4 : decode cX2_sayDrawn 4 = .ok (.ifCond .eq 10, 3) := by decide +kernel
theorem dX2_sayDrawn_7 : decode cX2_sayDrawn 7 = .ok (.aload_n 0, 1) := by decide +kernel
theorem dX2_sayDrawn_8 : decode cX2_sayDrawn 8 = .ok (.getfield 9, 3) := by decide +kernel
theorem dX2_sayDrawn_11 : decode cX2_sayDrawn 11 = .ok (.ifCond .ne 5, 3) := by decide +kernel
theorem dX2_sayDrawn_14 : decode cX2_sayDrawn 14 = .ok (.iconst 0, 1) := by decide +kernel
theorem dX2_sayDrawn_15 : decode cX2_sayDrawn 15 = .ok (.ireturn, 1) := by decide +kernel
theorem dX2_sayDrawn_16 : decode cX2_sayDrawn 16 = .ok (.iload_n 1, 1) := by decide +kernel
theorem dX2_sayDrawn_17 : decode cX2_sayDrawn 17 = .ok (.aload_n 0, 1) := by decide +kernel
theorem dX2_sayDrawn_18 : decode cX2_sayDrawn 18 = .ok (.getfield 15, 3) := by decide +kernel
theorem dX2_sayDrawn_21 : decode cX2_sayDrawn 21 = .ok (.irem, 1) := by decide +kernel
theorem dX2_sayDrawn_22 : decode cX2_sayDrawn 22 = .ok (.istore_n 2, 1) := by decide +kernel
theorem dX2_sayDrawn_23 : decode cX2_sayDrawn 23 = .ok (.aload_n 0, 1) := by decide +kernel
theorem dX2_sayDrawn_24 : decode cX2_sayDrawn 24 = .ok (.getfield 34, 3) := by decide +kernel
theorem dX2_sayDrawn_27 : decode cX2_sayDrawn 27 = .ok (.iload_n 2, 1) := by decide +kernel
theorem dX2_sayDrawn_28 : decode cX2_sayDrawn 28 = .ok (.iaload, 1) := by decide +kernel
theorem dX2_sayDrawn_29 : decode cX2_sayDrawn 29 = .ok (.invokestatic 47, 3) := by decide +kernel
theorem dX2_sayDrawn_32 : decode cX2_sayDrawn 32 = .ok (.ifCond .ne 5, 3) := by decide +kernel
theorem dX2_sayDrawn_35 : decode cX2_sayDrawn 35 = .ok (.iconst 0, 1) := by decide +kernel
theorem dX2_sayDrawn_36 : decode cX2_sayDrawn 36 = .ok (.ireturn, 1) := by decide +kernel
theorem dX2_sayDrawn_37 : decode cX2_sayDrawn 37 = .ok (.aload_n 0, 1) := by decide +kernel
theorem dX2_sayDrawn_38 : decode cX2_sayDrawn 38 = .ok (.getfield 34, 3) := by decide +kernel
theorem dX2_sayDrawn_41 : decode cX2_sayDrawn 41 = .ok (.iload_n 2, 1) := by decide +kernel
theorem dX2_sayDrawn_42 : decode cX2_sayDrawn 42 = .ok (.iconst 1, 1) := by decide +kernel
theorem dX2_sayDrawn_43 : decode cX2_sayDrawn 43 = .ok (.iload_n 1, 1) := by decide +kernel
theorem dX2_sayDrawn_44 : decode cX2_sayDrawn 44 = .ok (.bipush 60, 2) := by decide +kernel
theorem dX2_sayDrawn_46 : decode cX2_sayDrawn 46 = .ok (.irem, 1) := by decide +kernel
theorem dX2_sayDrawn_47 : decode cX2_sayDrawn 47 = .ok (.iadd, 1) := by decide +kernel
theorem dX2_sayDrawn_48 : decode cX2_sayDrawn 48 = .ok (.iload_n 1, 1) := by decide +kernel
theorem dX2_sayDrawn_49 : decode cX2_sayDrawn 49 = .ok (.aload_n 0, 1) := by decide +kernel
theorem dX2_sayDrawn_50 : decode cX2_sayDrawn 50 = .ok (.getfield 9, 3) := by decide +kernel
theorem dX2_sayDrawn_53 : decode cX2_sayDrawn 53 = .ok (.irem, 1) := by decide +kernel
theorem dX2_sayDrawn_54 : decode cX2_sayDrawn 54 = .ok (.invokestatic 78, 3) := by decide +kernel
theorem dX2_sayDrawn_57 : decode cX2_sayDrawn 57 = .ok (.iastore, 1) := by decide +kernel
theorem dX2_sayDrawn_58 : decode cX2_sayDrawn 58 = .ok (.iconst 1, 1) := by decide +kernel
theorem dX2_sayDrawn_59 : decode cX2_sayDrawn 59 = .ok (.ireturn, 1) := by decide +kernel
theorem dX3_init_0 : decode cX3_init 0 = .ok (.aload_n 0, 1) := by decide +kernel
theorem dX3_init_1 : decode cX3_init 1 = .ok (.invokespecial 1, 3) := by decide +kernel
theorem dX3_init_4 : decode cX3_init 4 = .ok (.aload_n 0, 1) := by decide +kernel
theorem dX3_init_5 : decode cX3_init 5 = .ok (.bipush 8, 2) := by decide +kernel
theorem dX3_init_7 : decode cX3_init 7 = .ok (.bipush 40, 2) := by decide +kernel
theorem dX3_init_9 : decode cX3_init 9 = .ok (.multianewarray 9 2, 4) := by decide +kernel
theorem dX3_init_13 : decode cX3_init 13 = .ok (.putfield 11, 3) := by decide +kernel
theorem dX3_init_16 : decode cX3_init 16 = .ok (.aload_n 0, 1) := by decide +kernel
theorem dX3_init_17 : decode cX3_init 17 = .ok (.bipush 8, 2) := by decide +kernel
theorem dX3_init_19 : decode cX3_init 19 = .ok (.newarray .int, 2) := by decide +kernel
theorem dX3_init_21 : decode cX3_init 21 = .ok (.putfield 14, 3) := by decide +kernel
theorem dX3_init_24 : decode cX3_init 24 = .ok (.aload_n 0, 1) := by decide +kernel
theorem dX3_init_25 : decode cX3_init 25 = .ok (.bipush 8, 2) := by decide +kernel
theorem dX3_init_27 : decode cX3_init 27 = .ok (.newarray .int, 2) := by decide +kernel
theorem dX3_init_29 : decode cX3_init 29 = .ok (.putfield 18, 3) := by decide +kernel
theorem dX3_init_32 : decode cX3_init 32 = .ok (.aload_n 0, 1) := by decide +kernel
theorem dX3_init_33 : decode cX3_init 33 = .ok (.getfield 18, 3) := by decide +kernel
theorem dX3_init_36 : decode cX3_init 36 = .ok (.iconst (-1), 1) := by decide +kernel
theorem dX3_init_37 : decode cX3_init 37 = .ok (.invokestatic 21, 3) := by decide +kernel
theorem dX3_init_40 : decode cX3_init 40 = .ok (.return_, 1) := by decide +kernel
theorem dX3_isRow_0 : decode cX3_isRow 0 = .ok (.iload_n 0, 1) := by decide +kernel
theorem dX3_isRow_1 : decode cX3_isRow 1 = .ok (.ifCond .lt 13, 3) := by decide +kernel
theorem dX3_isRow_4 : decode cX3_isRow 4 = .ok (.iload_n 0, 1) := by decide +kernel
theorem dX3_isRow_5 : decode cX3_isRow 5 = .ok (.bipush 8, 2) := by decide +kernel
theorem dX3_isRow_7 : decode cX3_isRow 7 = .ok (.if_icmp .ge 7, 3) := by decide +kernel
theorem dX3_isRow_10 : decode cX3_isRow 10 = .ok (.iconst 1, 1) := by decide +kernel
theorem dX3_isRow_11 : decode cX3_isRow 11 = .ok (.goto 4, 3) := by decide +kernel
theorem dX3_isRow_14 : decode cX3_isRow 14 = .ok (.iconst 0, 1) := by decide +kernel
theorem dX3_isRow_15 : decode cX3_isRow 15 = .ok (.ireturn, 1) := by decide +kernel
theorem dX3_isLane_0 : decode cX3_isLane 0 = .ok (.iload_n 0, 1) := by decide +kernel
theorem dX3_isLane_1 : decode cX3_isLane 1 = .ok (.ifCond .lt 12, 3) := by decide +kernel
theorem dX3_isLane_4 : decode cX3_isLane 4 = .ok (.iload_n 0, 1) := by decide +kernel
theorem dX3_isLane_5 : decode cX3_isLane 5 = .ok (.iconst 2, 1) := by decide +kernel
theorem dX3_isLane_6 : decode cX3_isLane 6 = .ok (.if_icmp .gt 7, 3) := by decide +kernel
theorem dX3_isLane_9 : decode cX3_isLane 9 = .ok (.iconst 1, 1) := by decide +kernel
theorem dX3_isLane_10 : decode cX3_isLane 10 = .ok (.goto 4, 3) := by decide +kernel
theorem dX3_isLane_13 : decode cX3_isLane 13 = .ok (.iconst 0, 1) := by decide +kernel
theorem dX3_isLane_14 : decode cX3_isLane 14 = .ok (.ireturn, 1) := by decide +kernel
theorem dX3_isMissing_0 : decode cX3_isMissing 0 = .ok (.aload_n 0, 1) := by decide +kernel
theorem dX3_isMissing_1 : decode cX3_isMissing 1 = .ok (.getfield 18, 3) := by decide +kernel
theorem dX3_isMissing_4 : decode cX3_isMissing 4 = .ok (.iload_n 1, 1) := by decide +kernel
theorem dX3_isMissing_5 : decode cX3_isMissing 5 = .ok (.iaload, 1) := by decide +kernel
theorem dX3_isMissing_6 : decode cX3_isMissing 6 = .ok (.iconst (-1), 1) := by decide +kernel
theorem dX3_isMissing_7 : decode cX3_isMissing 7 = .ok (.if_icmp .ne 7, 3) := by decide +kernel
theorem dX3_isMissing_10 : decode cX3_isMissing 10 = .ok (.iconst 1, 1) := by decide +kernel
theorem dX3_isMissing_11 : decode cX3_isMissing 11 = .ok (.goto 4, 3) := by decide +kernel
theorem dX3_isMissing_14 : decode cX3_isMissing 14 = .ok (.iconst 0, 1) := by decide +kernel
theorem dX3_isMissing_15 : decode cX3_isMissing 15 = .ok (.ireturn, 1) := by decide +kernel
theorem dX3_haveOneLane_0 : decode cX3_haveOneLane 0 = .ok (.aload_n 0, 1) := by decide +kernel
theorem dX3_haveOneLane_1 : decode cX3_haveOneLane 1 = .ok (.getfield 14, 3) := by decide +kernel
theorem dX3_haveOneLane_4 : decode cX3_haveOneLane 4 = .ok (.iload_n 1, 1) := by decide +kernel
theorem dX3_haveOneLane_5 : decode cX3_haveOneLane 5 = .ok (.iaload, 1) := by decide +kernel
theorem dX3_haveOneLane_6 : decode cX3_haveOneLane 6 = .ok (.aload_n 0, 1) := by decide +kernel
theorem dX3_haveOneLane_7 : decode cX3_haveOneLane 7 = .ok (.getfield 14, 3) := by decide +kernel
theorem dX3_haveOneLane_10 : decode cX3_haveOneLane 10 = .ok (.iload_n 2, 1) := by decide +kernel
theorem dX3_haveOneLane_11 : decode cX3_haveOneLane 11 = .ok (.iaload, 1) := by decide +kernel
theorem dX3_haveOneLane_12 : decode cX3_haveOneLane 12 = .ok (.if_icmp .ne 7, 3) := by decide +kernel
theorem dX3_haveOneLane_15 : decode cX3_haveOneLane 15 = .ok (.iconst 1, 1) := by decide +kernel
theorem dX3_haveOneLane_16 : decode cX3_haveOneLane 16 = .ok (.goto 4, 3) := by decide +kernel
theorem dX3_haveOneLane_19 : decode cX3_haveOneLane 19 = .ok (.iconst 0, 1) := by decide +kernel
theorem dX3_haveOneLane_20 : decode cX3_haveOneLane 20 = .ok (.ireturn, 1) := by decide +kernel
theorem dX3_hasPlaces_0 : decode cX3_hasPlaces 0 = .ok (.iload_n 3, 1) := by decide +kernel
theorem dX3_hasPlaces_1 : decode cX3_hasPlaces 1 = .ok (.ifCond .lt 23, 3) := by decide +kernel
theorem dX3_hasPlaces_4 : decode cX3_hasPlaces 4 = .ok (.iload_n 2, 1) := by decide +kernel
theorem dX3_hasPlaces_5 : decode cX3_hasPlaces 5 = .ok (.ifCond .lt 19, 3) := by decide +kernel
theorem dX3_hasPlaces_8 : decode cX3_hasPlaces 8 = .ok (.iload_n 2, 1) := by decide +kernel
theorem dX3_hasPlaces_9 : decode cX3_hasPlaces 9 = .ok (.aload_n 0, 1) := by decide +kernel
theorem dX3_hasPlaces_10 : decode cX3_hasPlaces 10 = .ok (.getfield 18, 3) := by decide +kernel
theorem dX3_hasPlaces_13 : decode cX3_hasPlaces 13 = .ok (.iload_n 1, 1) := by decide +kernel
theorem dX3_hasPlaces_14 : decode cX3_hasPlaces 14 = .ok (.iaload, 1) := by decide +kernel
theorem dX3_hasPlaces_15 : decode cX3_hasPlaces 15 = .ok (.iload_n 3, 1) := by decide +kernel
theorem dX3_hasPlaces_16 : decode cX3_hasPlaces 16 = .ok (.isub, 1) := by decide +kernel
theorem dX3_hasPlaces_17 : decode cX3_hasPlaces 17 = .ok (.if_icmp .gt 7, 3) := by decide +kernel
theorem dX3_hasPlaces_20 : decode cX3_hasPlaces 20 = .ok (.iconst 1, 1) := by decide +kernel
theorem dX3_hasPlaces_21 : decode cX3_hasPlaces 21 = .ok (.goto 4, 3) := by decide +kernel
theorem dX3_hasPlaces_24 : decode cX3_hasPlaces 24 = .ok (.iconst 0, 1) := by decide +kernel
theorem dX3_hasPlaces_25 : decode cX3_hasPlaces 25 = .ok (.ireturn, 1) := by decide +kernel
theorem dX3_lay_0 : decode cX3_lay 0 = .ok (.aload_n 0, 1) := by decide +kernel
theorem dX3_lay_1 : decode cX3_lay 1 = .ok (.getfield 14, 3) := by decide +kernel
theorem dX3_lay_4 : decode cX3_lay 4 = .ok (.iload_n 1, 1) := by decide +kernel
theorem dX3_lay_5 : decode cX3_lay 5 = .ok (.iload_n 2, 1) := by decide +kernel
theorem dX3_lay_6 : decode cX3_lay 6 = .ok (.iastore, 1) := by decide +kernel
theorem dX3_lay_7 : decode cX3_lay 7 = .ok (.aload_n 0, 1) := by decide +kernel
theorem dX3_lay_8 : decode cX3_lay 8 = .ok (.getfield 18, 3) := by decide +kernel
theorem dX3_lay_11 : decode cX3_lay 11 = .ok (.iload_n 1, 1) := by decide +kernel
theorem dX3_lay_12 : decode cX3_lay 12 = .ok (.iload_n 3, 1) := by decide +kernel
theorem dX3_lay_13 : decode cX3_lay 13 = .ok (.iastore, 1) := by decide +kernel
theorem dX3_lay_14 : decode cX3_lay 14 = .ok (.aload_n 0, 1) := by decide +kernel
theorem dX3_lay_15 : decode cX3_lay 15 = .ok (.getfield 11, 3) := by decide +kernel
theorem dX3_lay_18 : decode cX3_lay 18 = .ok (.iload_n 1, 1) := by decide +kernel
theorem dX3_lay_19 : decode cX3_lay 19 = .ok (.aaload, 1) := by decide +kernel
theorem dX3_lay_20 : decode cX3_lay 20 = .ok (.iconst 0, 1) := by decide +kernel
theorem dX3_lay_21 : decode cX3_lay 21 = .ok (.invokestatic 21, 3) := by decide +kernel
theorem dX3_lay_24 : decode cX3_lay 24 = .ok (.return_, 1) := by decide +kernel
theorem dX3_put_0 : decode cX3_put 0 = .ok (.iload_n 3, 1) := by decide +kernel
theorem dX3_put_1 : decode cX3_put 1 = .ok (.istore 4, 2) := by decide +kernel
theorem dX3_put_3 : decode cX3_put 3 = .ok (.aload_n 0, 1) := by decide +kernel
theorem dX3_put_4 : decode cX3_put 4 = .ok (.getfield 14, 3) := by decide +kernel
theorem dX3_put_7 : decode cX3_put 7 = .ok (.iload_n 1, 1) := by decide +kernel
theorem dX3_put_8 : decode cX3_put 8 = .ok (.iaload, 1) := by decide +kernel
theorem dX3_put_9 : decode cX3_put 9 = .ok (.ifCond .ne 10, 3) := by decide +kernel
theorem dX3_put_12 : decode cX3_put 12 = .ok (.iload_n 3, 1) := by decide +kernel
theorem dX3_put_13 : decode cX3_put 13 = .ok (.i2b, 1) := by decide +kernel
theorem dX3_put_14 : decode cX3_put 14 = .ok (.istore 4, 2) := by decide +kernel
theorem dX3_put_16 : decode cX3_put 16 = .ok (.goto 17, 3) := by decide +kernel
theorem dX3_put_19 : decode cX3_put 19 = .ok (.aload_n 0, 1) := by decide +kernel
theorem dX3_put_20 : decode cX3_put 20 = .ok (.getfield 14, 3) := by decide +kernel
theorem dX3_put_23 : decode cX3_put 23 = .ok (.iload_n 1, 1) := by decide +kernel
theorem dX3_put_24 : decode cX3_put 24 = .ok (.iaload, 1) := by decide +kernel
theorem dX3_put_25 : decode cX3_put 25 = .ok (.iconst 1, 1) := by decide +kernel
theorem dX3_put_26 : decode cX3_put 26 = .ok (.if_icmp .ne 7, 3) := by decide +kernel
theorem dX3_put_29 : decode cX3_put 29 = .ok (.iload_n 3, 1) := by decide +kernel
theorem dX3_put_30 : decode cX3_put 30 = .ok (.i2s, 1) := by decide +kernel
theorem dX3_put_31 : decode cX3_put 31 = .ok (.istore 4, 2) := by decide +kernel
theorem dX3_put_33 : decode cX3_put 33 = .ok (.aload_n 0, 1) := by decide +kernel
theorem dX3_put_34 : decode cX3_put 34 = .ok (.getfield 11, 3) := by decide +kernel
theorem dX3_put_37 : decode cX3_put 37 = .ok (.iload_n 1, 1) := by decide +kernel
theorem dX3_put_38 : decode cX3_put 38 = .ok (.aaload, 1) := by decide +kernel
theorem dX3_put_39 : decode cX3_put 39 = .ok (.iload_n 2, 1) := by decide +kernel
theorem dX3_put_40 : decode cX3_put 40 = .ok (.iload 4, 2) := by decide +kernel
theorem dX3_put_42 : decode cX3_put 42 = .ok (.iastore, 1) := by decide +kernel
theorem dX3_put_43 : decode cX3_put 43 = .ok (.iload 4, 2) := by decide +kernel
theorem dX3_put_45 : decode cX3_put 45 = .ok (.ireturn, 1) := by decide +kernel
theorem dX3_carry_0 : decode cX3_carry 0 = .ok (.aload_n 0, 1) := by decide +kernel
theorem dX3_carry_1 : decode cX3_carry 1 = .ok (.getfield 11, 3) := by decide +kernel
theorem dX3_carry_4 : decode cX3_carry 4 = .ok (.iload_n 1, 1) := by decide +kernel
theorem dX3_carry_5 : decode cX3_carry 5 = .ok (.aaload, 1) := by decide +kernel
theorem dX3_carry_6 : decode cX3_carry 6 = .ok (.iload_n 2, 1) := by decide +kernel
theorem dX3_carry_7 : decode cX3_carry 7 = .ok (.aload_n 0, 1) := by decide +kernel
theorem dX3_carry_8 : decode cX3_carry 8 = .ok (.getfield 11, 3) := by decide +kernel
theorem dX3_carry_11 : decode cX3_carry 11 = .ok (.iload_n 3, 1) := by decide +kernel
theorem dX3_carry_12 : decode cX3_carry 12 = .ok (.aaload, 1) := by decide +kernel
theorem dX3_carry_13 : decode cX3_carry 13 = .ok (.iload 4, 2) := by decide +kernel
theorem dX3_carry_15 : decode cX3_carry 15 = .ok (.iload 5, 2) := by decide +kernel
theorem dX3_carry_17 : decode cX3_carry 17 = .ok (.invokestatic 27, 3) := by decide +kernel
theorem dX3_carry_20 : decode cX3_carry 20 = .ok (.return_, 1) := by decide +kernel
theorem dX3_lose_0 : decode cX3_lose 0 = .ok (.aload_n 0, 1) := by decide +kernel
theorem dX3_lose_1 : decode cX3_lose 1 = .ok (.getfield 18, 3) := by decide +kernel
theorem dX3_lose_4 : decode cX3_lose 4 = .ok (.iload_n 1, 1) := by decide +kernel
theorem dX3_lose_5 : decode cX3_lose 5 = .ok (.iaload, 1) := by decide +kernel
theorem dX3_lose_6 : decode cX3_lose 6 = .ok (.istore_n 2, 1) := by decide +kernel
theorem dX3_lose_7 : decode cX3_lose 7 = .ok (.aload_n 0, 1) := by decide +kernel
theorem dX3_lose_8 : decode cX3_lose 8 = .ok (.getfield 18, 3) := by decide +kernel
theorem dX3_lose_11 : decode cX3_lose 11 = .ok (.iload_n 1, 1) := by decide +kernel
theorem dX3_lose_12 : decode cX3_lose 12 = .ok (.iconst (-1), 1) := by decide +kernel
theorem dX3_lose_13 : decode cX3_lose 13 = .ok (.iastore, 1) := by decide +kernel
theorem dX3_lose_14 : decode cX3_lose 14 = .ok (.iload_n 2, 1) := by decide +kernel
theorem dX3_lose_15 : decode cX3_lose 15 = .ok (.ireturn, 1) := by decide +kernel
theorem dX3_present_0 : decode cX3_present 0 = .ok (.iconst 0, 1) := by decide +kernel
theorem dX3_present_1 : decode cX3_present 1 = .ok (.istore_n 1, 1) := by decide +kernel
theorem dX3_present_2 : decode cX3_present 2 = .ok (.iconst 0, 1) := by decide +kernel
theorem dX3_present_3 : decode cX3_present 3 = .ok (.istore_n 2, 1) := by decide +kernel
theorem dX3_present_4 : decode cX3_present 4 = .ok (.iload_n 2, 1) := by decide +kernel
theorem dX3_present_5 : decode cX3_present 5 = .ok (.bipush 8, 2) := by decide +kernel
theorem dX3_present_7 : decode cX3_present 7 = .ok (.if_icmp .ge 20, 3) := by decide +kernel
theorem dX3_present_10 : decode cX3_present 10 = .ok (.aload_n 0, 1) := by decide +kernel
theorem dX3_present_11 : decode cX3_present 11 = .ok (.iload_n 2, 1) := by decide +kernel
theorem dX3_present_12 : decode cX3_present 12 = .ok (.invokevirtual 33, 3) := by decide +kernel
theorem dX3_present_15 : decode cX3_present 15 = .ok (.ifCond .ne 6, 3) := by decide +kernel
theorem dX3_present_18 : decode cX3_present 18 = .ok (.iinc 1 1, 3) := by decide +kernel
theorem dX3_present_21 : decode cX3_present 21 = .ok (.iinc 2 1, 3) := by decide +kernel
theorem dX3_present_24 : decode cX3_present 24 = .ok (.goto (-20), 3) := by decide +kernel
theorem dX3_present_27 : decode cX3_present 27 = .ok (.iload_n 1, 1) := by decide +kernel
theorem dX3_present_28 : decode cX3_present 28 = .ok (.ireturn, 1) := by decide +kernel
theorem dX4_init_0 : decode cX4_init 0 = .ok (.aload_n 0, 1) := by decide +kernel
theorem dX4_init_1 : decode cX4_init 1 = .ok (.invokespecial 1, 3) := by decide +kernel
theorem dX4_init_4 : decode cX4_init 4 = .ok (.aload_n 0, 1) := by decide +kernel
theorem dX4_init_5 : decode cX4_init 5 = .ok (.bipush 110, 2) := by decide +kernel
theorem dX4_init_7 : decode cX4_init 7 = .ok (.newarray .int, 2) := by decide +kernel
theorem dX4_init_9 : decode cX4_init 9 = .ok (.putfield 9, 3) := by decide +kernel
theorem dX4_init_12 : decode cX4_init 12 = .ok (.aload_n 0, 1) := by decide +kernel
theorem dX4_init_13 : decode cX4_init 13 = .ok (.iconst 0, 1) := by decide +kernel
theorem dX4_init_14 : decode cX4_init 14 = .ok (.putfield 13, 3) := by decide +kernel
theorem dX4_init_17 : decode cX4_init 17 = .ok (.aload_n 0, 1) := by decide +kernel
theorem dX4_init_18 : decode cX4_init 18 = .ok (.iconst 0, 1) := by decide +kernel
theorem dX4_init_19 : decode cX4_init 19 = .ok (.putfield 17, 3) := by decide +kernel
theorem dX4_init_22 : decode cX4_init 22 = .ok (.aload_n 0, 1) := by decide +kernel
theorem dX4_init_23 : decode cX4_init 23 = .ok (.iconst 0, 1) := by decide +kernel
theorem dX4_init_24 : decode cX4_init 24 = .ok (.putfield 20, 3) := by decide +kernel
theorem dX4_init_27 : decode cX4_init 27 = .ok (.return_, 1) := by decide +kernel
theorem dX4_isFull_0 : decode cX4_isFull 0 = .ok (.aload_n 0, 1) := by decide +kernel
theorem dX4_isFull_1 : decode cX4_isFull 1 = .ok (.getfield 13, 3) := by decide +kernel
theorem dX4_isFull_4 : decode cX4_isFull 4 = .ok (.bipush 110, 2) := by decide +kernel
theorem dX4_isFull_6 : decode cX4_isFull 6 = .ok (.if_icmp .lt 7, 3) := by decide +kernel
theorem dX4_isFull_9 : decode cX4_isFull 9 = .ok (.iconst 1, 1) := by decide +kernel
theorem dX4_isFull_10 : decode cX4_isFull 10 = .ok (.goto 4, 3) := by decide +kernel
theorem dX4_isFull_13 : decode cX4_isFull 13 = .ok (.iconst 0, 1) := by decide +kernel
theorem dX4_isFull_14 : decode cX4_isFull 14 = .ok (.ireturn, 1) := by decide +kernel
theorem dX4_take_0 : decode cX4_take 0 = .ok (.aload_n 0, 1) := by decide +kernel
theorem dX4_take_1 : decode cX4_take 1 = .ok (.getfield 9, 3) := by decide +kernel
theorem dX4_take_4 : decode cX4_take 4 = .ok (.aload_n 0, 1) := by decide +kernel
theorem dX4_take_5 : decode cX4_take 5 = .ok (.getfield 13, 3) := by decide +kernel
theorem dX4_take_8 : decode cX4_take 8 = .ok (.iload_n 1, 1) := by decide +kernel
theorem dX4_take_9 : decode cX4_take 9 = .ok (.iastore, 1) := by decide +kernel
theorem dX4_take_10 : decode cX4_take 10 = .ok (.aload_n 0, 1) := by decide +kernel
theorem dX4_take_11 : decode cX4_take 11 = .ok (.dup, 1) := by decide +kernel
theorem dX4_take_12 : decode cX4_take 12 = .ok (.getfield 13, 3) := by decide +kernel
theorem dX4_take_15 : decode cX4_take 15 = .ok (.iconst 1, 1) := by decide +kernel
theorem dX4_take_16 : decode cX4_take 16 = .ok (.iadd, 1) := by decide +kernel
theorem dX4_take_17 : decode cX4_take 17 = .ok (.putfield 13, 3) := by decide +kernel
theorem dX4_take_20 : decode cX4_take 20 = .ok (.aload_n 0, 1) := by decide +kernel
theorem dX4_take_21 : decode cX4_take 21 = .ok (.getfield 13, 3) := by decide +kernel
theorem dX4_take_24 : decode cX4_take 24 = .ok (.ireturn, 1) := by decide +kernel
theorem dX4_wipe_0 : decode cX4_wipe 0 = .ok (.aload_n 0, 1) := by decide +kernel
theorem dX4_wipe_1 : decode cX4_wipe 1 = .ok (.iconst 0, 1) := by decide +kernel
theorem dX4_wipe_2 : decode cX4_wipe 2 = .ok (.putfield 13, 3) := by decide +kernel
theorem dX4_wipe_5 : decode cX4_wipe 5 = .ok (.return_, 1) := by decide +kernel
theorem dX4_readInto_0 : decode cX4_readInto 0 = .ok (.aload_n 0, 1) := by decide +kernel
theorem dX4_readInto_1 : decode cX4_readInto 1 = .ok (.iconst 0, 1) := by decide +kernel
theorem dX4_readInto_2 : decode cX4_readInto 2 = .ok (.putfield 17, 3) := by decide +kernel
theorem dX4_readInto_5 : decode cX4_readInto 5 = .ok (.aload_n 1, 1) := by decide +kernel
theorem dX4_readInto_6 : decode cX4_readInto 6 = .ok (.invokevirtual 23, 3) := by decide +kernel
theorem dX4_readInto_9 : decode cX4_readInto 9 = .ok (.aload_n 0, 1) := by decide +kernel
theorem dX4_readInto_10 : decode cX4_readInto 10 = .ok (.aload_n 1, 1) := by decide +kernel
theorem dX4_readInto_11 : decode cX4_readInto 11 = .ok (.invokevirtual 28, 3) := by decide +kernel
theorem dX4_readInto_14 : decode cX4_readInto 14 = .ok (.ifCond .eq 23, 3) := by decide +kernel
theorem dX4_readInto_17 : decode cX4_readInto 17 = .ok (.aload_n 0, 1) := by decide +kernel
theorem dX4_readInto_18 : decode cX4_readInto 18 = .ok (.aload_n 1, 1) := by decide +kernel
theorem dX4_readInto_19 : decode cX4_readInto 19 = .ok (.invokevirtual 32, 3) := by decide +kernel
theorem dX4_readInto_22 : decode cX4_readInto 22 = .ok (.ifCond .eq 15, 3) := by decide +kernel
theorem dX4_readInto_25 : decode cX4_readInto 25 = .ok (.aload_n 0, 1) := by decide +kernel
theorem dX4_readInto_26 : decode cX4_readInto 26 = .ok (.aload_n 1, 1) := by decide +kernel
theorem dX4_readInto_27 : decode cX4_readInto 27 = .ok (.invokevirtual 35, 3) := by decide +kernel
theorem dX4_readInto_30 : decode cX4_readInto 30 = .ok (.ifCond .eq 7, 3) := by decide +kernel
theorem dX4_readInto_33 : decode cX4_readInto 33 = .ok (.iconst 1, 1) := by decide +kernel
theorem dX4_readInto_34 : decode cX4_readInto 34 = .ok (.goto 4, 3) := by decide +kernel
theorem dX4_readInto_37 : decode cX4_readInto 37 = .ok (.iconst 0, 1) := by decide +kernel
theorem dX4_readInto_38 : decode cX4_readInto 38 = .ok (.ireturn, 1) := by decide +kernel
theorem dX4_readLaw_0 : decode cX4_readLaw 0 = .ok (.aload_n 0, 1) := by decide +kernel
theorem dX4_readLaw_1 : decode cX4_readLaw 1 = .ok (.bipush 114, 2) := by decide +kernel
theorem dX4_readLaw_3 : decode cX4_readLaw 3 = .ok (.invokevirtual 38, 3) := by decide +kernel
theorem dX4_readLaw_6 : decode cX4_readLaw 6 = .ok (.ifCond .ne 5, 3) := by decide +kernel
theorem dX4_readLaw_9 : decode cX4_readLaw 9 = .ok (.iconst 0, 1) := by decide +kernel
theorem dX4_readLaw_10 : decode cX4_readLaw 10 = .ok (.ireturn, 1) := by decide +kernel
theorem dX4_readLaw_11 : decode cX4_readLaw 11 = .ok (.aload_n 1, 1) := by decide +kernel
theorem dX4_readLaw_12 : decode cX4_readLaw 12 = .ok (.aload_n 0, 1) := by decide +kernel
theorem dX4_readLaw_13 : decode cX4_readLaw 13 = .ok (.iconst 0, 1) := by decide +kernel
theorem dX4_readLaw_14 : decode cX4_readLaw 14 = .ok (.bipush 15, 2) := by decide +kernel
theorem dX4_readLaw_16 : decode cX4_readLaw 16 = .ok (.invokevirtual 42, 3) := by decide +kernel
theorem dX4_readLaw_19 : decode cX4_readLaw 19 = .ok (.putfield 46, 3) := by decide +kernel
theorem dX4_readLaw_22 : decode cX4_readLaw 22 = .ok (.aload_n 1, 1) := by decide +kernel
theorem dX4_readLaw_23 : decode cX4_readLaw 23 = .ok (.getfield 46, 3) := by decide +kernel
theorem dX4_readLaw_26 : decode cX4_readLaw 26 = .ok (.iconst (-1), 1) := by decide +kernel
theorem dX4_readLaw_27 : decode cX4_readLaw 27 = .ok (.if_icmp .eq 12, 3) := by decide +kernel
theorem dX4_readLaw_30 : decode cX4_readLaw 30 = .ok (.aload_n 0, 1) := by decide +kernel
theorem dX4_readLaw_31 : decode cX4_readLaw 31 = .ok (.bipush 44, 2) := by decide +kernel
theorem dX4_readLaw_33 : decode cX4_readLaw 33 = .ok (.invokevirtual 38, 3) := by decide +kernel
theorem dX4_readLaw_36 : decode cX4_readLaw 36 = .ok (.ifCond .ne 5, 3) := by decide +kernel
theorem dX4_readLaw_39 : decode cX4_readLaw 39 = .ok (.iconst 0, 1) := by decide +kernel
theorem dX4_readLaw_40 : decode cX4_readLaw 40 = .ok (.ireturn, 1) := by decide +kernel
theorem dX4_readLaw_41 : decode cX4_readLaw 41 = .ok (.aload_n 1, 1) := by decide +kernel
theorem dX4_readLaw_42 : decode cX4_readLaw 42 = .ok (.aload_n 0, 1) := by decide +kernel
theorem dX4_readLaw_43 : decode cX4_readLaw 43 = .ok (.iconst 0, 1) := by decide +kernel
theorem dX4_readLaw_44 : decode cX4_readLaw 44 = .ok (.bipush 10, 2) := by decide +kernel
theorem dX4_readLaw_46 : decode cX4_readLaw 46 = .ok (.invokevirtual 42, 3) := by decide +kernel
theorem dX4_readLaw_49 : decode cX4_readLaw 49 = .ok (.putfield 49, 3) := by decide +kernel
theorem dX4_readLaw_52 : decode cX4_readLaw 52 = .ok (.aload_n 1, 1) := by decide +kernel
theorem dX4_readLaw_53 : decode cX4_readLaw 53 = .ok (.getfield 49, 3) := by decide +kernel
theorem dX4_readLaw_56 : decode cX4_readLaw 56 = .ok (.iconst (-1), 1) := by decide +kernel
theorem dX4_readLaw_57 : decode cX4_readLaw 57 = .ok (.if_icmp .eq 16, 3) := by decide +kernel
theorem dX4_readLaw_60 : decode cX4_readLaw 60 = .ok (.aload_n 0, 1) := by decide +kernel
theorem dX4_readLaw_61 : decode cX4_readLaw 61 = .ok (.bipush 59, 2) := by decide +kernel
theorem dX4_readLaw_63 : decode cX4_readLaw 63 = .ok (.invokevirtual 38, 3) := by decide +kernel
theorem dX4_readLaw_66 : decode cX4_readLaw 66 = .ok (.ifCond .eq 7, 3) := by decide +kernel
theorem dX4_readLaw_69 : decode cX4_readLaw 69 = .ok (.iconst 1, 1) := by decide +kernel
theorem dX4_readLaw_70 : decode cX4_readLaw 70 = .ok (.goto 4, 3) := by decide +kernel
theorem dX4_readLaw_73 : decode cX4_readLaw 73 = .ok (.iconst 0, 1) := by decide +kernel
theorem dX4_readLaw_74 : decode cX4_readLaw 74 = .ok (.ireturn, 1) := by decide +kernel
theorem dX4_readCells_0 : decode cX4_readCells 0 = .ok (.iconst 0, 1) := by decide +kernel
theorem dX4_readCells_1 : decode cX4_readCells 1 = .ok (.istore_n 2, 1) := by decide +kernel
theorem dX4_readCells_2 : decode cX4_readCells 2 = .ok (.iload_n 2, 1) := by decide +kernel
theorem dX4_readCells_3 : decode cX4_readCells 3 = .ok (.bipush 12, 2) := by decide +kernel
theorem dX4_readCells_5 : decode cX4_readCells 5 = .ok (.if_icmp .ge 33, 3) := by decide +kernel
theorem dX4_readCells_8 : decode cX4_readCells 8 = .ok (.iload_n 2, 1) := by decide +kernel
theorem dX4_readCells_9 : decode cX4_readCells 9 = .ok (.iconst 4, 1) := by decide +kernel
theorem dX4_readCells_10 : decode cX4_readCells 10 = .ok (.if_icmp .lt 12, 3) := by decide +kernel
theorem dX4_readCells_13 : decode cX4_readCells 13 = .ok (.aload_n 0, 1) := by decide +kernel
theorem dX4_readCells_14 : decode cX4_readCells 14 = .ok (.bipush 99, 2) := by decide +kernel
theorem dX4_readCells_16 : decode cX4_readCells 16 = .ok (.invokevirtual 52, 3) := by decide +kernel
theorem dX4_readCells_19 : decode cX4_readCells 19 = .ok (.ifCond .eq 19, 3) := by decide +kernel
theorem dX4_readCells_22 : decode cX4_readCells 22 = .ok (.aload_n 0, 1) := by decide +kernel
theorem dX4_readCells_23 : decode cX4_readCells 23 = .ok (.aload_n 1, 1) := by decide +kernel
theorem dX4_readCells_24 : decode cX4_readCells 24 = .ok (.invokevirtual 55, 3) := by decide +kernel
theorem dX4_readCells_27 : decode cX4_readCells 27 = .ok (.ifCond .ne 5, 3) := by decide +kernel
theorem dX4_readCells_30 : decode cX4_readCells 30 = .ok (.iconst 0, 1) := by decide +kernel
theorem dX4_readCells_31 : decode cX4_readCells 31 = .ok (.ireturn, 1) := by decide +kernel
theorem dX4_readCells_32 : decode cX4_readCells 32 = .ok (.iinc 2 1, 3) := by decide +kernel
theorem dX4_readCells_35 : decode cX4_readCells 35 = .ok (.goto (-33), 3) := by decide +kernel
theorem dX4_readCells_38 : decode cX4_readCells 38 = .ok (.aload_n 0, 1) := by decide +kernel
theorem dX4_readCells_39 : decode cX4_readCells 39 = .ok (.bipush 99, 2) := by decide +kernel
theorem dX4_readCells_41 : decode cX4_readCells 41 = .ok (.invokevirtual 52, 3) := by decide +kernel
theorem dX4_readCells_44 : decode cX4_readCells 44 = .ok (.ifCond .eq 11, 3) := by decide +kernel
theorem dX4_readCells_47 : decode cX4_readCells 47 = .ok (.aload_n 0, 1) := by decide +kernel
theorem dX4_readCells_48 : decode cX4_readCells 48 = .ok (.iconst 3, 1) := by decide +kernel
theorem dX4_readCells_49 : decode cX4_readCells 49 = .ok (.invokevirtual 58, 3) := by decide +kernel
theorem dX4_readCells_52 : decode cX4_readCells 52 = .ok (.ifCond .eq 7, 3) := by decide +kernel
theorem dX4_readCells_55 : decode cX4_readCells 55 = .ok (.iconst 1, 1) := by decide +kernel
theorem dX4_readCells_56 : decode cX4_readCells 56 = .ok (.goto 4, 3) := by decide +kernel
theorem dX4_readCells_59 : decode cX4_readCells 59 = .ok (.iconst 0, 1) := by decide +kernel
theorem dX4_readCells_60 : decode cX4_readCells 60 = .ok (.ireturn, 1) := by decide +kernel
theorem dX4_readCell_0 : decode cX4_readCell 0 = .ok (.aload_n 0, 1) := by decide +kernel
theorem dX4_readCell_1 : decode cX4_readCell 1 = .ok (.bipush 99, 2) := by decide +kernel
theorem dX4_readCell_3 : decode cX4_readCell 3 = .ok (.invokevirtual 38, 3) := by decide +kernel
theorem dX4_readCell_6 : decode cX4_readCell 6 = .ok (.ifCond .ne 5, 3) := by decide +kernel
theorem dX4_readCell_9 : decode cX4_readCell 9 = .ok (.iconst 0, 1) := by decide +kernel
theorem dX4_readCell_10 : decode cX4_readCell 10 = .ok (.ireturn, 1) := by decide +kernel
theorem dX4_readCell_11 : decode cX4_readCell 11 = .ok (.aload_n 0, 1) := by decide +kernel
theorem dX4_readCell_12 : decode cX4_readCell 12 = .ok (.iconst 0, 1) := by decide +kernel
theorem dX4_readCell_13 : decode cX4_readCell 13 = .ok (.iconst 3, 1) := by decide +kernel
theorem dX4_readCell_14 : decode cX4_readCell 14 = .ok (.invokevirtual 42, 3) := by decide +kernel
theorem dX4_readCell_17 : decode cX4_readCell 17 = .ok (.istore_n 2, 1) := by decide +kernel
theorem dX4_readCell_18 : decode cX4_readCell 18 = .ok (.iload_n 2, 1) := by decide +kernel
theorem dX4_readCell_19 : decode cX4_readCell 19 = .ok (.iconst (-1), 1) := by decide +kernel
theorem dX4_readCell_20 : decode cX4_readCell 20 = .ok (.if_icmp .eq 12, 3) := by decide +kernel
theorem dX4_readCell_23 : decode cX4_readCell 23 = .ok (.aload_n 0, 1) := by decide +kernel
theorem dX4_readCell_24 : decode cX4_readCell 24 = .ok (.bipush 59, 2) := by decide +kernel
theorem dX4_readCell_26 : decode cX4_readCell 26 = .ok (.invokevirtual 38, 3) := by decide +kernel
theorem dX4_readCell_29 : decode cX4_readCell 29 = .ok (.ifCond .ne 5, 3) := by decide +kernel
theorem dX4_readCell_32 : decode cX4_readCell 32 = .ok (.iconst 0, 1) := by decide +kernel
theorem dX4_readCell_33 : decode cX4_readCell 33 = .ok (.ireturn, 1) := by decide +kernel
theorem dX4_readCell_34 : decode cX4_readCell 34 = .ok (.aload_n 1, 1) := by decide +kernel
theorem dX4_readCell_35 : decode cX4_readCell 35 = .ok (.getfield 62, 3) := by decide +kernel
theorem dX4_readCell_38 : decode cX4_readCell 38 = .ok (.aload_n 1, 1) := by decide +kernel
theorem dX4_readCell_39 : decode cX4_readCell 39 = .ok (.getfield 65, 3) := by decide +kernel
theorem dX4_readCell_42 : decode cX4_readCell 42 = .ok (.iload_n 2, 1) := by decide +kernel
theorem dX4_readCell_43 : decode cX4_readCell 43 = .ok (.iastore, 1) := by decide +kernel
theorem dX4_readCell_44 : decode cX4_readCell 44 = .ok (.aload_n 1, 1) := by decide +kernel
theorem dX4_readCell_45 : decode cX4_readCell 45 = .ok (.dup, 1) := by decide +kernel
theorem dX4_readCell_46 : decode cX4_readCell 46 = .ok (.getfield 65, 3) := by decide +kernel
theorem dX4_readCell_49 : decode cX4_readCell 49 = .ok (.iconst 1, 1) := by decide +kernel
theorem dX4_readCell_50 : decode cX4_readCell 50 = .ok (.iadd, 1) := by decide +kernel
theorem dX4_readCell_51 : decode cX4_readCell 51 = .ok (.putfield 65, 3) := by decide +kernel
theorem dX4_readCell_54 : decode cX4_readCell 54 = .ok (.iconst 1, 1) := by decide +kernel
theorem dX4_readCell_55 : decode cX4_readCell 55 = .ok (.ireturn, 1) := by decide +kernel
theorem dX4_readWords_0 : decode cX4_readWords 0 = .ok (.iconst 0, 1) := by decide +kernel
theorem dX4_readWords_1 : decode cX4_readWords 1 = .ok (.istore_n 2, 1) := by decide +kernel
theorem dX4_readWords_2 : decode cX4_readWords 2 = .ok (.iload_n 2, 1) := by decide +kernel
theorem dX4_readWords_3 : decode cX4_readWords 3 = .ok (.bipush 7, 2) := by decide +kernel
theorem dX4_readWords_5 : decode cX4_readWords 5 = .ok (.if_icmp .ge 30, 3) := by decide +kernel
theorem dX4_readWords_8 : decode cX4_readWords 8 = .ok (.aload_n 0, 1) := by decide +kernel
theorem dX4_readWords_9 : decode cX4_readWords 9 = .ok (.getfield 17, 3) := by decide +kernel
theorem dX4_readWords_12 : decode cX4_readWords 12 = .ok (.aload_n 0, 1) := by decide +kernel
theorem dX4_readWords_13 : decode cX4_readWords 13 = .ok (.getfield 13, 3) := by decide +kernel
theorem dX4_readWords_16 : decode cX4_readWords 16 = .ok (.if_icmp .ge 19, 3) := by decide +kernel
theorem dX4_readWords_19 : decode cX4_readWords 19 = .ok (.aload_n 0, 1) := by decide +kernel
theorem dX4_readWords_20 : decode cX4_readWords 20 = .ok (.aload_n 1, 1) := by decide +kernel
theorem dX4_readWords_21 : decode cX4_readWords 21 = .ok (.invokevirtual 68, 3) := by decide +kernel
theorem dX4_readWords_24 : decode cX4_readWords 24 = .ok (.ifCond .ne 5, 3) := by decide +kernel
theorem dX4_readWords_27 : decode cX4_readWords 27 = .ok (.iconst 0, 1) := by decide +kernel
theorem dX4_readWords_28 : decode cX4_readWords 28 = .ok (.ireturn, 1) := by decide +kernel
theorem dX4_readWords_29 : decode cX4_readWords 29 = .ok (.iinc 2 1, 3) := by decide +kernel
theorem dX4_readWords_32 : decode cX4_readWords 32 = .ok (.goto (-30), 3) := by decide +kernel
theorem dX4_readWords_35 : decode cX4_readWords 35 = .ok (.aload_n 0, 1) := by decide +kernel
theorem dX4_readWords_36 : decode cX4_readWords 36 = .ok (.getfield 17, 3) := by decide +kernel
theorem dX4_readWords_39 : decode cX4_readWords 39 = .ok (.aload_n 0, 1) := by decide +kernel
theorem dX4_readWords_40 : decode cX4_readWords 40 = .ok (.getfield 13, 3) := by decide +kernel
theorem dX4_readWords_43 : decode cX4_readWords 43 = .ok (.if_icmp .lt 5, 3) := by decide +kernel
theorem dX4_readWords_46 : decode cX4_readWords 46 = .ok (.iconst 1, 1) := by decide +kernel
theorem dX4_readWords_47 : decode cX4_readWords 47 = .ok (.ireturn, 1) := by decide +kernel
theorem dX4_readWords_48 : decode cX4_readWords 48 = .ok (.aload_n 0, 1) := by decide +kernel
theorem dX4_readWords_49 : decode cX4_readWords 49 = .ok (.aload_n 0, 1) := by decide +kernel
theorem dX4_readWords_50 : decode cX4_readWords 50 = .ok (.getfield 9, 3) := by decide +kernel
theorem dX4_readWords_53 : decode cX4_readWords 53 = .ok (.aload_n 0, 1) := by decide +kernel
theorem dX4_readWords_54 : decode cX4_readWords 54 = .ok (.getfield 17, 3) := by decide +kernel
theorem dX4_readWords_57 : decode cX4_readWords 57 = .ok (.iaload, 1) := by decide +kernel
theorem dX4_readWords_58 : decode cX4_readWords 58 = .ok (.invokestatic 71, 3) := by decide +kernel
theorem dX4_readWords_61 : decode cX4_readWords 61 = .ok (.iconst (-1), 1) := by decide +kernel
theorem dX4_readWords_62 : decode cX4_readWords 62 = .ok (.if_icmp .ne 7, 3) := by decide +kernel
theorem dX4_readWords_65 : decode cX4_readWords 65 = .ok (.iconst 1, 1) := by decide +kernel
theorem dX4_readWords_66 : decode cX4_readWords 66 = .ok (.goto 4, 3) := by decide +kernel
theorem dX4_readWords_69 : decode cX4_readWords 69 = .ok (.iconst 3, 1) := by decide +kernel
theorem dX4_readWords_70 : decode cX4_readWords 70 = .ok (.invokevirtual 58, 3) := by decide +kernel
theorem dX4_readWords_73 : decode cX4_readWords 73 = .ok (.ireturn, 1) := by decide +kernel
theorem dX4_readWord_0 : decode cX4_readWord 0 = .ok (.aload_n 0, 1) := by decide +kernel
theorem dX4_readWord_1 : decode cX4_readWord 1 = .ok (.getfield 9, 3) := by decide +kernel
theorem dX4_readWord_4 : decode cX4_readWord 4 = .ok (.aload_n 0, 1) := by decide +kernel
theorem dX4_readWord_5 : decode cX4_readWord 5 = .ok (.getfield 17, 3) := by decide +kernel
theorem dX4_readWord_8 : decode cX4_readWord 8 = .ok (.iaload, 1) := by decide +kernel
theorem dX4_readWord_9 : decode cX4_readWord 9 = .ok (.invokestatic 71, 3) := by decide +kernel
theorem dX4_readWord_12 : decode cX4_readWord 12 = .ok (.istore_n 2, 1) := by decide +kernel
theorem dX4_readWord_13 : decode cX4_readWord 13 = .ok (.iload_n 2, 1) := by decide +kernel
theorem dX4_readWord_14 : decode cX4_readWord 14 = .ok (.iconst (-1), 1) := by decide +kernel
theorem dX4_readWord_15 : decode cX4_readWord 15 = .ok (.if_icmp .ne 9, 3) := by decide +kernel
theorem dX4_readWord_18 : decode cX4_readWord 18 = .ok (.aload_n 0, 1) := by decide +kernel
theorem dX4_readWord_19 : decode cX4_readWord 19 = .ok (.iconst 1, 1) := by decide +kernel
theorem dX4_readWord_20 : decode cX4_readWord 20 = .ok (.invokevirtual 58, 3) := by decide +kernel
theorem dX4_readWord_23 : decode cX4_readWord 23 = .ok (.ireturn, 1) := by decide +kernel
theorem dX4_readWord_24 : decode cX4_readWord 24 = .ok (.aload_n 0, 1) := by decide +kernel
theorem dX4_readWord_25 : decode cX4_readWord 25 = .ok (.dup, 1) := by decide +kernel
theorem dX4_readWord_26 : decode cX4_readWord 26 = .ok (.getfield 17, 3) := by decide +kernel
theorem dX4_readWord_29 : decode cX4_readWord 29 = .ok (.iconst 1, 1) := by decide +kernel
theorem dX4_readWord_30 : decode cX4_readWord 30 = .ok (.iadd, 1) := by decide +kernel
theorem dX4_readWord_31 : decode cX4_readWord 31 = .ok (.putfield 17, 3) := by decide +kernel
theorem dX4_readWord_34 : decode cX4_readWord 34 = .ok (.aload_n 0, 1) := by decide +kernel
theorem dX4_readWord_35 : decode cX4_readWord 35 = .ok (.iconst 1, 1) := by decide +kernel
theorem dX4_readWord_36 : decode cX4_readWord 36 = .ok (.bipush 60, 2) := by decide +kernel
theorem dX4_readWord_38 : decode cX4_readWord 38 = .ok (.invokevirtual 42, 3) := by decide +kernel
theorem dX4_readWord_41 : decode cX4_readWord 41 = .ok (.istore_n 3, 1) := by decide +kernel
theorem dX4_readWord_42 : decode cX4_readWord 42 = .ok (.iload_n 3, 1) := by decide +kernel
theorem dX4_readWord_43 : decode cX4_readWord 43 = .ok (.iconst (-1), 1) := by decide +kernel
theorem dX4_readWord_44 : decode cX4_readWord 44 = .ok (.if_icmp .eq 12, 3) := by decide +kernel
theorem dX4_readWord_47 : decode cX4_readWord 47 = .ok (.aload_n 0, 1) := by decide +kernel
theorem dX4_readWord_48 : decode cX4_readWord 48 = .ok (.bipush 44, 2) := by decide +kernel
theorem dX4_readWord_50 : decode cX4_readWord 50 = .ok (.invokevirtual 38, 3) := by decide +kernel
theorem dX4_readWord_53 : decode cX4_readWord 53 = .ok (.ifCond .ne 5, 3) := by decide +kernel
theorem dX4_readWord_56 : decode cX4_readWord 56 = .ok (.iconst 0, 1) := by decide +kernel
theorem dX4_readWord_57 : decode cX4_readWord 57 = .ok (.ireturn, 1) := by decide +kernel
theorem dX4_readWord_58 : decode cX4_readWord 58 = .ok (.aload_n 0, 1) := by decide +kernel
theorem dX4_readWord_59 : decode cX4_readWord 59 = .ok (.iconst 0, 1) := by decide +kernel
theorem dX4_readWord_60 : decode cX4_readWord 60 = .ok (.aload_n 1, 1) := by decide +kernel
theorem dX4_readWord_61 : decode cX4_readWord 61 = .ok (.getfield 65, 3) := by decide +kernel
theorem dX4_readWord_64 : decode cX4_readWord 64 = .ok (.iconst 1, 1) := by decide +kernel
theorem dX4_readWord_65 : decode cX4_readWord 65 = .ok (.isub, 1) := by decide +kernel
theorem dX4_readWord_66 : decode cX4_readWord 66 = .ok (.invokevirtual 42, 3) := by decide +kernel
theorem dX4_readWord_69 : decode cX4_readWord 69 = .ok (.istore 4, 2) := by decide +kernel
theorem dX4_readWord_71 : decode cX4_readWord 71 = .ok (.iload 4, 2) := by decide +kernel
theorem dX4_readWord_73 : decode cX4_readWord 73 = .ok (.iconst (-1), 1) := by decide +kernel
theorem dX4_readWord_74 : decode cX4_readWord 74 = .ok (.if_icmp .eq 12, 3) := by decide +kernel
theorem dX4_readWord_77 : decode cX4_readWord 77 = .ok (.aload_n 0, 1) := by decide +kernel
theorem dX4_readWord_78 : decode cX4_readWord 78 = .ok (.bipush 59, 2) := by decide +kernel
theorem dX4_readWord_80 : decode cX4_readWord 80 = .ok (.invokevirtual 38, 3) := by decide +kernel
theorem dX4_readWord_83 : decode cX4_readWord 83 = .ok (.ifCond .ne 5, 3) := by decide +kernel
theorem dX4_readWord_86 : decode cX4_readWord 86 = .ok (.iconst 0, 1) := by decide +kernel
theorem dX4_readWord_87 : decode cX4_readWord 87 = .ok (.ireturn, 1) := by decide +kernel
theorem dX4_readWord_88 : decode cX4_readWord 88 = .ok (.aload_n 1, 1) := by decide +kernel
theorem dX4_readWord_89 : decode cX4_readWord 89 = .ok (.getfield 77, 3) := by decide +kernel
theorem dX4_readWord_92 : decode cX4_readWord 92 = .ok (.aload_n 1, 1) := by decide +kernel
theorem dX4_readWord_93 : decode cX4_readWord 93 = .ok (.getfield 80, 3) := by decide +kernel
theorem dX4_readWord_96 : decode cX4_readWord 96 = .ok (.iload_n 2, 1) := by decide +kernel
theorem dX4_readWord_97 : decode cX4_readWord 97 = .ok (.iastore, 1) := by decide +kernel
theorem dX4_readWord_98 : decode cX4_readWord 98 = .ok (.aload_n 1, 1) := by decide +kernel
theorem dX4_readWord_99 : decode cX4_readWord 99 = .ok (.getfield 83, 3) := by decide +kernel
theorem dX4_readWord_102 : decode cX4_readWord 102 = .ok (.aload_n 1, 1) := by decide +kernel
theorem dX4_readWord_103 : decode cX4_readWord 103 = .ok (.getfield 80, 3) := by decide +kernel
theorem dX4_readWord_106 : decode cX4_readWord 106 = .ok (.iload_n 3, 1) := by decide +kernel
theorem dX4_readWord_107 : decode cX4_readWord 107 = .ok (.iload 4, 2) := by decide +kernel
theorem dX4_readWord_109 : decode cX4_readWord 109 = .ok (.invokestatic 86, 3) := by decide +kernel
theorem dX4_readWord_112 : decode cX4_readWord 112 = .ok (.iastore, 1) := by decide +kernel
theorem dX4_readWord_113 : decode cX4_readWord 113 = .ok (.aload_n 1, 1) := by decide +kernel
theorem dX4_readWord_114 : decode cX4_readWord 114 = .ok (.dup, 1) := by decide +kernel
theorem dX4_readWord_115 : decode cX4_readWord 115 = .ok (.getfield 80, 3) := by decide +kernel
theorem dX4_readWord_118 : decode cX4_readWord 118 = .ok (.iconst 1, 1) := by decide +kernel
theorem dX4_readWord_119 : decode cX4_readWord 119 = .ok (.iadd, 1) := by decide +kernel
theorem dX4_readWord_120 : decode cX4_readWord 120 = .ok (.putfield 80, 3) := by decide +kernel
theorem dX4_readWord_123 : decode cX4_readWord 123 = .ok (.iconst 1, 1) := by decide +kernel
theorem dX4_readWord_124 : decode cX4_readWord 124 = .ok (.ireturn, 1) := by decide +kernel
theorem dX4_isAt_0 : decode cX4_isAt 0 = .ok (.aload_n 0, 1) := by decide +kernel
theorem dX4_isAt_1 : decode cX4_isAt 1 = .ok (.getfield 17, 3) := by decide +kernel
theorem dX4_isAt_4 : decode cX4_isAt 4 = .ok (.aload_n 0, 1) := by decide +kernel
theorem dX4_isAt_5 : decode cX4_isAt 5 = .ok (.getfield 13, 3) := by decide +kernel
theorem dX4_isAt_8 : decode cX4_isAt 8 = .ok (.if_icmp .ge 20, 3) := by decide +kernel
theorem dX4_isAt_11 : decode cX4_isAt 11 = .ok (.aload_n 0, 1) := by decide +kernel
theorem dX4_isAt_12 : decode cX4_isAt 12 = .ok (.getfield 9, 3) := by decide +kernel
theorem dX4_isAt_15 : decode cX4_isAt 15 = .ok (.aload_n 0, 1) := by decide +kernel
theorem dX4_isAt_16 : decode cX4_isAt 16 = .ok (.getfield 17, 3) := by decide +kernel
theorem dX4_isAt_19 : decode cX4_isAt 19 = .ok (.iaload, 1) := by decide +kernel
theorem dX4_isAt_20 : decode cX4_isAt 20 = .ok (.iload_n 1, 1) := by decide +kernel
theorem dX4_isAt_21 : decode cX4_isAt 21 = .ok (.if_icmp .ne 7, 3) := by decide +kernel
theorem dX4_isAt_24 : decode cX4_isAt 24 = .ok (.iconst 1, 1) := by decide +kernel
theorem dX4_isAt_25 : decode cX4_isAt 25 = .ok (.goto 4, 3) := by decide +kernel
theorem dX4_isAt_28 : decode cX4_isAt 28 = .ok (.iconst 0, 1) := by decide +kernel
theorem dX4_isAt_29 : decode cX4_isAt 29 = .ok (.ireturn, 1) := by decide +kernel
theorem dX4_passes_0 : decode cX4_passes 0 = .ok (.aload_n 0, 1) := by decide +kernel
theorem dX4_passes_1 : decode cX4_passes 1 = .ok (.iload_n 1, 1) := by decide +kernel
theorem dX4_passes_2 : decode cX4_passes 2 = .ok (.invokevirtual 52, 3) := by decide +kernel
theorem dX4_passes_5 : decode cX4_passes 5 = .ok (.ifCond .ne 9, 3) := by decide +kernel
theorem dX4_passes_8 : decode cX4_passes 8 = .ok (.aload_n 0, 1) := by decide +kernel
theorem dX4_passes_9 : decode cX4_passes 9 = .ok (.iconst 1, 1) := by decide +kernel
theorem dX4_passes_10 : decode cX4_passes 10 = .ok (.invokevirtual 58, 3) := by decide +kernel
theorem dX4_passes_13 : decode cX4_passes 13 = .ok (.ireturn, 1) := by decide +kernel
theorem dX4_passes_14 : decode cX4_passes 14 = .ok (.aload_n 0, 1) := by decide +kernel
theorem dX4_passes_15 : decode cX4_passes 15 = .ok (.dup, 1) := by decide +kernel
theorem dX4_passes_16 : decode cX4_passes 16 = .ok (.getfield 17, 3) := by decide +kernel
theorem dX4_passes_19 : decode cX4_passes 19 = .ok (.iconst 1, 1) := by decide +kernel
theorem dX4_passes_20 : decode cX4_passes 20 = .ok (.iadd, 1) := by decide +kernel
theorem dX4_passes_21 : decode cX4_passes 21 = .ok (.putfield 17, 3) := by decide +kernel
theorem dX4_passes_24 : decode cX4_passes 24 = .ok (.iconst 1, 1) := by decide +kernel
theorem dX4_passes_25 : decode cX4_passes 25 = .ok (.ireturn, 1) := by decide +kernel
theorem dX4_faulty_0 : decode cX4_faulty 0 = .ok (.aload_n 0, 1) := by decide +kernel
theorem dX4_faulty_1 : decode cX4_faulty 1 = .ok (.iload_n 1, 1) := by decide +kernel
theorem dX4_faulty_2 : decode cX4_faulty 2 = .ok (.putfield 20, 3) := by decide +kernel
theorem dX4_faulty_5 : decode cX4_faulty 5 = .ok (.iconst 0, 1) := by decide +kernel
theorem dX4_faulty_6 : decode cX4_faulty 6 = .ok (.ireturn, 1) := by decide +kernel
theorem dX4_readNumber_0 : decode cX4_readNumber 0 = .ok (.aload_n 0, 1) := by decide +kernel
theorem dX4_readNumber_1 : decode cX4_readNumber 1 = .ok (.aload_n 0, 1) := by decide +kernel
theorem dX4_readNumber_2 : decode cX4_readNumber 2 = .ok (.getfield 17, 3) := by decide +kernel
theorem dX4_readNumber_5 : decode cX4_readNumber 5 = .ok (.invokevirtual 89, 3) := by decide +kernel
theorem dX4_readNumber_8 : decode cX4_readNumber 8 = .ok (.istore_n 3, 1) := by decide +kernel
theorem dX4_readNumber_9 : decode cX4_readNumber 9 = .ok (.iload_n 3, 1) := by decide +kernel
theorem dX4_readNumber_10 : decode cX4_readNumber 10 = .ok (.iconst 1, 1) := by decide +kernel
theorem dX4_readNumber_11 : decode cX4_readNumber 11 = .ok (.if_icmp .lt 8, 3) := by decide +kernel
theorem dX4_readNumber_14 : decode cX4_readNumber 14 = .ok (.iload_n 3, 1) := by decide +kernel
theorem dX4_readNumber_15 : decode cX4_readNumber 15 = .ok (.iconst 2, 1) := by decide +kernel
theorem dX4_readNumber_16 : decode cX4_readNumber 16 = .ok (.if_icmp .le 11, 3) := by decide +kernel
theorem dX4_readNumber_19 : decode cX4_readNumber 19 = .ok (.aload_n 0, 1) := by decide +kernel
theorem dX4_readNumber_20 : decode cX4_readNumber 20 = .ok (.iconst 1, 1) := by decide +kernel
theorem dX4_readNumber_21 : decode cX4_readNumber 21 = .ok (.invokevirtual 58, 3) := by decide +kernel
theorem dX4_readNumber_24 : decode cX4_readNumber 24 = .ok (.pop, 1) := by decide +kernel
theorem dX4_readNumber_25 : decode cX4_readNumber 25 = .ok (.iconst (-1), 1) := by decide +kernel
theorem dX4_readNumber_26 : decode cX4_readNumber 26 = .ok (.ireturn, 1) := by decide +kernel
theorem dX4_readNumber_27 : decode cX4_readNumber 27 = .ok (.iconst 0, 1) := by decide +kernel
theorem dX4_readNumber_28 : decode cX4_readNumber 28 = .ok (.istore 4, 2) := by decide +kernel
theorem dX4_readNumber_30 : decode cX4_readNumber 30 = .ok (.iconst 0, 1) := by decide +kernel
theorem dX4_readNumber_31 : decode cX4_readNumber 31 = .ok (.istore 5, 2) := by decide +kernel
theorem dX4_readNumber_33 : decode cX4_readNumber 33 = .ok (.iload 5, 2) := by decide +kernel
theorem dX4_readNumber_35 : decode cX4_readNumber 35 = .ok (.iload_n 3, 1) := by decide +kernel
theorem dX4_readNumber_36 : decode cX4_readNumber 36 = .ok (.if_icmp .ge 32, 3) := by decide +kernel
theorem dX4_readNumber_39 : decode cX4_readNumber 39 = .ok (.iload 4, 2) := by decide +kernel
theorem dX4_readNumber_41 : decode cX4_readNumber 41 = .ok (.bipush 10, 2) := by decide +kernel
theorem dX4_readNumber_43 : decode cX4_readNumber 43 = .ok (.imul, 1) := by decide +kernel
theorem dX4_readNumber_44 : decode cX4_readNumber 44 = .ok (.aload_n 0, 1) := by decide +kernel
theorem dX4_readNumber_45 : decode cX4_readNumber 45 = .ok (.getfield 9, 3) := by decide +kernel
theorem dX4_readNumber_48 : decode cX4_readNumber 48 = .ok (.aload_n 0, 1) := by decide +kernel
theorem dX4_readNumber_49 : decode cX4_readNumber 49 = .ok (.getfield 17, 3) := by decide +kernel
theorem dX4_readNumber_52 : decode cX4_readNumber 52 = .ok (.iload 5, 2) := by decide +kernel
theorem dX4_readNumber_54 : decode cX4_readNumber 54 = .ok (.iadd, 1) := by decide +kernel
theorem dX4_readNumber_55 : decode cX4_readNumber 55 = .ok (.iaload, 1) := by decide +kernel
theorem dX4_readNumber_56 : decode cX4_readNumber 56 = .ok (.iadd, 1) := by decide +kernel
theorem dX4_readNumber_57 : decode cX4_readNumber 57 = .ok (.bipush 48, 2) := by decide +kernel
theorem dX4_readNumber_59 : decode cX4_readNumber 59 = .ok (.isub, 1) := by decide +kernel
theorem dX4_readNumber_60 : decode cX4_readNumber 60 = .ok (.istore 4, 2) := by decide +kernel
theorem dX4_readNumber_62 : decode cX4_readNumber 62 = .ok (.iinc 5 1, 3) := by decide +kernel
theorem dX4_readNumber_65 : decode cX4_readNumber 65 = .ok (.goto (-32), 3) := by decide +kernel
theorem dX4_readNumber_68 : decode cX4_readNumber 68 = .ok (.iload 4, 2) := by decide +kernel
theorem dX4_readNumber_70 : decode cX4_readNumber 70 = .ok (.iload_n 1, 1) := by decide +kernel
theorem dX4_readNumber_71 : decode cX4_readNumber 71 = .ok (.if_icmp .lt 9, 3) := by decide +kernel
theorem dX4_readNumber_74 : decode cX4_readNumber 74 = .ok (.iload 4, 2) := by decide +kernel
theorem dX4_readNumber_76 : decode cX4_readNumber 76 = .ok (.iload_n 2, 1) := by decide +kernel
theorem dX4_readNumber_77 : decode cX4_readNumber 77 = .ok (.if_icmp .le 11, 3) := by decide +kernel
theorem dX4_readNumber_80 : decode cX4_readNumber 80 = .ok (.aload_n 0, 1) := by decide +kernel
theorem dX4_readNumber_81 : decode cX4_readNumber 81 = .ok (.iconst 2, 1) := by decide +kernel
theorem dX4_readNumber_82 : decode cX4_readNumber 82 = .ok (.invokevirtual 58, 3) := by decide +kernel
theorem dX4_readNumber_85 : decode cX4_readNumber 85 = .ok (.pop, 1) := by decide +kernel
theorem dX4_readNumber_86 : decode cX4_readNumber 86 = .ok (.iconst (-1), 1) := by decide +kernel
theorem dX4_readNumber_87 : decode cX4_readNumber 87 = .ok (.ireturn, 1) := by decide +kernel
theorem dX4_readNumber_88 : decode cX4_readNumber 88 = .ok (.aload_n 0, 1) := by decide +kernel
theorem dX4_readNumber_89 : decode cX4_readNumber 89 = .ok (.dup, 1) := by decide +kernel
theorem dX4_readNumber_90 : decode cX4_readNumber 90 = .ok (.getfield 17, 3) := by decide +kernel
theorem dX4_readNumber_93 : decode cX4_readNumber 93 = .ok (.iload_n 3, 1) := by decide +kernel
theorem dX4_readNumber_94 : decode cX4_readNumber 94 = .ok (.iadd, 1) := by decide +kernel
theorem dX4_readNumber_95 : decode cX4_readNumber 95 = .ok (.putfield 17, 3) := by decide +kernel
theorem dX4_readNumber_98 : decode cX4_readNumber 98 = .ok (.iload 4, 2) := by decide +kernel
theorem dX4_readNumber_100 : decode cX4_readNumber 100 = .ok (.ireturn, 1) := by decide +kernel
theorem dX4_figuresFrom_0 : decode cX4_figuresFrom 0 = .ok (.iload_n 1, 1) := by decide +kernel
theorem dX4_figuresFrom_1 : decode cX4_figuresFrom 1 = .ok (.istore_n 2, 1) := by decide +kernel
theorem dX4_figuresFrom_2 : decode cX4_figuresFrom 2 = .ok (.iload_n 2, 1) := by decide +kernel
theorem dX4_figuresFrom_3 : decode cX4_figuresFrom 3 = .ok (.aload_n 0, 1) := by decide +kernel
theorem dX4_figuresFrom_4 : decode cX4_figuresFrom 4 = .ok (.getfield 13, 3) := by decide +kernel
theorem dX4_figuresFrom_7 : decode cX4_figuresFrom 7 = .ok (.if_icmp .ge 31, 3) := by decide +kernel
theorem dX4_figuresFrom_10 : decode cX4_figuresFrom 10 = .ok (.aload_n 0, 1) := by decide +kernel
theorem dX4_figuresFrom_11 : decode cX4_figuresFrom 11 = .ok (.getfield 9, 3) := by decide +kernel
theorem dX4_figuresFrom_14 : decode cX4_figuresFrom 14 = .ok (.iload_n 2, 1) := by decide +kernel
theorem dX4_figuresFrom_15 : decode cX4_figuresFrom 15 = .ok (.iaload, 1) := by decide +kernel
theorem dX4_figuresFrom_16 : decode cX4_figuresFrom 16 = .ok (.bipush 48, 2) := by decide +kernel
theorem dX4_figuresFrom_18 : decode cX4_figuresFrom 18 = .ok (.if_icmp .lt 20, 3) := by decide +kernel
theorem dX4_figuresFrom_21 : decode cX4_figuresFrom 21 = .ok (.aload_n 0, 1) := by decide +kernel
theorem dX4_figuresFrom_22 : decode cX4_figuresFrom 22 = .ok (.getfield 9, 3) := by decide +kernel
theorem dX4_figuresFrom_25 : decode cX4_figuresFrom 25 = .ok (.iload_n 2, 1) := by decide +kernel
theorem dX4_figuresFrom_26 : decode cX4_figuresFrom 26 = .ok (.iaload, 1) := by decide +kernel
theorem dX4_figuresFrom_27 : decode cX4_figuresFrom 27 = .ok (.bipush 57, 2) := by decide +kernel
theorem dX4_figuresFrom_29 : decode cX4_figuresFrom 29 = .ok (.if_icmp .gt 9, 3) := by decide +kernel
theorem dX4_figuresFrom_32 : decode cX4_figuresFrom 32 = .ok (.iinc 2 1, 3) := by decide +kernel
theorem dX4_figuresFrom_35 : decode cX4_figuresFrom 35 = .ok (.goto (-33), 3) := by decide +kernel
theorem dX4_figuresFrom_38 : decode cX4_figuresFrom 38 = .ok (.iload_n 2, 1) := by decide +kernel
theorem dX4_figuresFrom_39 : decode cX4_figuresFrom 39 = .ok (.iload_n 1, 1) := by decide +kernel
theorem dX4_figuresFrom_40 : decode cX4_figuresFrom 40 = .ok (.isub, 1) := by decide +kernel
theorem dX4_figuresFrom_41 : decode cX4_figuresFrom 41 = .ok (.ireturn, 1) := by decide +kernel
theorem dX5_init_0 : decode cX5_init 0 = .ok (.aload_n 0, 1) := by decide +kernel
theorem dX5_init_1 : decode cX5_init 1 = .ok (.invokespecial 1, 3) := by decide +kernel
theorem dX5_init_4 : decode cX5_init 4 = .ok (.aload_n 0, 1) := by decide +kernel
theorem dX5_init_5 : decode cX5_init 5 = .ok (.new 7, 3) := by decide +kernel
theorem dX5_init_8 : decode cX5_init 8 = .ok (.dup, 1) := by decide +kernel
theorem dX5_init_9 : decode cX5_init 9 = .ok (.invokespecial 9, 3) := by decide +kernel
theorem dX5_init_12 : decode cX5_init 12 = .ok (.putfield 10, 3) := by decide +kernel
theorem dX5_init_15 : decode cX5_init 15 = .ok (.aload_n 0, 1) := by decide +kernel
theorem dX5_init_16 : decode cX5_init 16 = .ok (.new 16, 3) := by decide +kernel
theorem dX5_init_19 : decode cX5_init 19 = .ok (.dup, 1) := by decide +kernel
theorem dX5_init_20 : decode cX5_init 20 = .ok (.invokespecial 18, 3) := by decide +kernel
theorem dX5_init_23 : decode cX5_init 23 = .ok (.putfield 19, 3) := by decide +kernel
theorem dX5_init_26 : decode cX5_init 26 = .ok (.aload_n 0, 1) := by decide +kernel
theorem dX5_init_27 : decode cX5_init 27 = .ok (.new 23, 3) := by decide +kernel
theorem dX5_init_30 : decode cX5_init 30 = .ok (.dup, 1) := by decide +kernel
theorem dX5_init_31 : decode cX5_init 31 = .ok (.invokespecial 25, 3) := by decide +kernel
theorem dX5_init_34 : decode cX5_init 34 = .ok (.putfield 26, 3) := by decide +kernel
theorem dX5_init_37 : decode cX5_init 37 = .ok (.aload_n 0, 1) := by decide +kernel
theorem dX5_init_38 : decode cX5_init 38 = .ok (.new 30, 3) := by decide +kernel
theorem dX5_init_41 : decode cX5_init 41 = .ok (.dup, 1) := by decide +kernel
theorem dX5_init_42 : decode cX5_init 42 = .ok (.invokespecial 32, 3) := by decide +kernel
theorem dX5_init_45 : decode cX5_init 45 = .ok (.putfield 33, 3) := by decide +kernel
theorem dX5_init_48 : decode cX5_init 48 = .ok (.aload_n 0, 1) := by decide +kernel
theorem dX5_init_49 : decode cX5_init 49 = .ok (.new 30, 3) := by decide +kernel
theorem dX5_init_52 : decode cX5_init 52 = .ok (.dup, 1) := by decide +kernel
theorem dX5_init_53 : decode cX5_init 53 = .ok (.invokespecial 32, 3) := by decide +kernel
theorem dX5_init_56 : decode cX5_init 56 = .ok (.putfield 37, 3) := by decide +kernel
theorem dX5_init_59 : decode cX5_init 59 = .ok (.aload_n 0, 1) := by decide +kernel
theorem dX5_init_60 : decode cX5_init 60 = .ok (.bipush 24, 2) := by decide +kernel
theorem dX5_init_62 : decode cX5_init 62 = .ok (.anewarray 30, 3) := by decide +kernel
theorem dX5_init_65 : decode cX5_init 65 = .ok (.putfield 40, 3) := by decide +kernel
theorem dX5_init_68 : decode cX5_init 68 = .ok (.aload_n 0, 1) := by decide +kernel
theorem dX5_init_69 : decode cX5_init 69 = .ok (.iconst 2, 1) := by decide +kernel
theorem dX5_init_70 : decode cX5_init 70 = .ok (.anewarray 30, 3) := by decide +kernel
theorem dX5_init_73 : decode cX5_init 73 = .ok (.putfield 44, 3) := by decide +kernel
theorem dX5_init_76 : decode cX5_init 76 = .ok (.aload_n 0, 1) := by decide +kernel
theorem dX5_init_77 : decode cX5_init 77 = .ok (.iconst 0, 1) := by decide +kernel
theorem dX5_init_78 : decode cX5_init 78 = .ok (.putfield 47, 3) := by decide +kernel
theorem dX5_init_81 : decode cX5_init 81 = .ok (.aload_n 0, 1) := by decide +kernel
theorem dX5_init_82 : decode cX5_init 82 = .ok (.iconst 0, 1) := by decide +kernel
theorem dX5_init_83 : decode cX5_init 83 = .ok (.putfield 51, 3) := by decide +kernel
theorem dX5_init_86 : decode cX5_init 86 = .ok (.aload_n 0, 1) := by decide +kernel
theorem dX5_init_87 : decode cX5_init 87 = .ok (.iconst 0, 1) := by decide +kernel
theorem dX5_init_88 : decode cX5_init 88 = .ok (.putfield 54, 3) := by decide +kernel
theorem dX5_init_91 : decode cX5_init 91 = .ok (.iconst 0, 1) := by decide +kernel
theorem dX5_init_92 : decode cX5_init 92 = .ok (.istore_n 1, 1) := by decide +kernel
theorem dX5_init_93 : decode cX5_init 93 = .ok (.iload_n 1, 1) := by decide +kernel
theorem dX5_init_94 : decode cX5_init 94 = .ok (.bipush 24, 2) := by decide +kernel
theorem dX5_init_96 : decode cX5_init 96 = .ok (.if_icmp .ge 22, 3) := by decide +kernel
theorem dX5_init_99 : decode cX5_init 99 = .ok (.aload_n 0, 1) := by decide +kernel
theorem dX5_init_100 : decode cX5_init 100 = .ok (.getfield 40, 3) := by decide +kernel
theorem dX5_init_103 : decode cX5_init 103 = .ok (.iload_n 1, 1) := by decide +kernel
theorem dX5_init_104 : decode cX5_init 104 = .ok (.new 30, 3) := by decide +kernel
theorem dX5_init_107 : decode cX5_init 107 = .ok (.dup, 1) := by decide +kernel
theorem dX5_init_108 : decode cX5_init 108 = .ok (.invokespecial 32, 3) := by decide +kernel
theorem dX5_init_111 : decode cX5_init 111 = .ok (.aastore, 1) := by decide +kernel
theorem dX5_init_112 : decode cX5_init 112 = .ok (.iinc 1 1, 3) := by decide +kernel
theorem dX5_init_115 : decode cX5_init 115 = .ok (.goto (-22), 3) := by decide +kernel
theorem dX5_init_118 : decode cX5_init 118 = .ok (.iconst 0, 1) := by decide +kernel
theorem dX5_init_119 : decode cX5_init 119 = .ok (.istore_n 1, 1) := by decide +kernel
theorem dX5_init_120 : decode cX5_init 120 = .ok (.iload_n 1, 1) := by decide +kernel
theorem dX5_init_121 : decode cX5_init 121 = .ok (.iconst 2, 1) := by decide +kernel
theorem dX5_init_122 : decode cX5_init 122 = .ok (.if_icmp .ge 22, 3) := by decide +kernel
theorem dX5_init_125 : decode cX5_init 125 = .ok (.aload_n 0, 1) := by decide +kernel
theorem dX5_init_126 : decode cX5_init 126 = .ok (.getfield 44, 3) := by decide +kernel
theorem dX5_init_129 : decode cX5_init 129 = .ok (.iload_n 1, 1) := by decide +kernel
theorem dX5_init_130 : decode cX5_init 130 = .ok (.new 30, 3) := by decide +kernel
theorem dX5_init_133 : decode cX5_init 133 = .ok (.dup, 1) := by decide +kernel
theorem dX5_init_134 : decode cX5_init 134 = .ok (.invokespecial 32, 3) := by decide +kernel
theorem dX5_init_137 : decode cX5_init 137 = .ok (.aastore, 1) := by decide +kernel
theorem dX5_init_138 : decode cX5_init 138 = .ok (.iinc 1 1, 3) := by decide +kernel
theorem dX5_init_141 : decode cX5_init 141 = .ok (.goto (-21), 3) := by decide +kernel
theorem dX5_init_144 : decode cX5_init 144 = .ok (.return_, 1) := by decide +kernel
theorem dX5_row_0 : decode cX5_row 0 = .ok (.iload_n 1, 1) := by decide +kernel
theorem dX5_row_1 : decode cX5_row 1 = .ok (.invokestatic 57, 3) := by decide +kernel
theorem dX5_row_4 : decode cX5_row 4 = .ok (.ifCond .eq 16, 3) := by decide +kernel
theorem dX5_row_7 : decode cX5_row 7 = .ok (.iload_n 2, 1) := by decide +kernel
theorem dX5_row_8 : decode cX5_row 8 = .ok (.invokestatic 61, 3) := by decide +kernel
theorem dX5_row_11 : decode cX5_row 11 = .ok (.ifCond .eq 9, 3) := by decide +kernel
theorem dX5_row_14 : decode cX5_row 14 = .ok (.iload_n 3, 1) := by decide +kernel
theorem dX5_row_15 : decode cX5_row 15 = .ok (.bipush 40, 2) := by decide +kernel
theorem dX5_row_17 : decode cX5_row 17 = .ok (.if_icmp .le 6, 3) := by decide +kernel
theorem dX5_row_20 : decode cX5_row 20 = .ok (.ldc 64, 2) := by decide +kernel
theorem dX5_row_22 : decode cX5_row 22 = .ok (.ireturn, 1) := by decide +kernel
theorem dX5_row_23 : decode cX5_row 23 = .ok (.iload_n 3, 1) := by decide +kernel
theorem dX5_row_24 : decode cX5_row 24 = .ok (.ifCond .ge 9, 3) := by decide +kernel
theorem dX5_row_27 : decode cX5_row 27 = .ok (.aload_n 0, 1) := by decide +kernel
theorem dX5_row_28 : decode cX5_row 28 = .ok (.iconst 4, 1) := by decide +kernel
theorem dX5_row_29 : decode cX5_row 29 = .ok (.invokevirtual 65, 3) := by decide +kernel
theorem dX5_row_32 : decode cX5_row 32 = .ok (.ireturn, 1) := by decide +kernel
theorem dX5_row_33 : decode cX5_row 33 = .ok (.aload_n 0, 1) := by decide +kernel
theorem dX5_row_34 : decode cX5_row 34 = .ok (.getfield 10, 3) := by decide +kernel
theorem dX5_row_37 : decode cX5_row 37 = .ok (.iload_n 1, 1) := by decide +kernel
theorem dX5_row_38 : decode cX5_row 38 = .ok (.iload_n 2, 1) := by decide +kernel
theorem dX5_row_39 : decode cX5_row 39 = .ok (.iload_n 3, 1) := by decide +kernel
theorem dX5_row_40 : decode cX5_row 40 = .ok (.invokevirtual 69, 3) := by decide +kernel
theorem dX5_row_43 : decode cX5_row 43 = .ok (.aload_n 0, 1) := by decide +kernel
theorem dX5_row_44 : decode cX5_row 44 = .ok (.iload_n 3, 1) := by decide +kernel
theorem dX5_row_45 : decode cX5_row 45 = .ok (.invokevirtual 73, 3) := by decide +kernel
theorem dX5_row_48 : decode cX5_row 48 = .ok (.ireturn, 1) := by decide +kernel
theorem dX5_set_0 : decode cX5_set 0 = .ok (.iload_n 1, 1) := by decide +kernel
theorem dX5_set_1 : decode cX5_set 1 = .ok (.invokestatic 57, 3) := by decide +kernel
theorem dX5_set_4 : decode cX5_set 4 = .ok (.ifCond .ne 6, 3) := by decide +kernel
theorem dX5_set_7 : decode cX5_set 7 = .ok (.ldc 64, 2) := by decide +kernel
theorem dX5_set_9 : decode cX5_set 9 = .ok (.ireturn, 1) := by decide +kernel
theorem dX5_set_10 : decode cX5_set 10 = .ok (.aload_n 0, 1) := by decide +kernel
theorem dX5_set_11 : decode cX5_set 11 = .ok (.getfield 10, 3) := by decide +kernel
theorem dX5_set_14 : decode cX5_set 14 = .ok (.iload_n 1, 1) := by decide +kernel
theorem dX5_set_15 : decode cX5_set 15 = .ok (.invokevirtual 76, 3) := by decide +kernel
theorem dX5_set_18 : decode cX5_set 18 = .ok (.ifCond .eq 9, 3) := by decide +kernel
theorem dX5_set_21 : decode cX5_set 21 = .ok (.aload_n 0, 1) := by decide +kernel
theorem dX5_set_22 : decode cX5_set 22 = .ok (.iconst 1, 1) := by decide +kernel
theorem dX5_set_23 : decode cX5_set 23 = .ok (.invokevirtual 65, 3) := by decide +kernel
theorem dX5_set_26 : decode cX5_set 26 = .ok (.ireturn, 1) := by decide +kernel
theorem dX5_set_27 : decode cX5_set 27 = .ok (.aload_n 0, 1) := by decide +kernel
theorem dX5_set_28 : decode cX5_set 28 = .ok (.getfield 10, 3) := by decide +kernel
theorem dX5_set_31 : decode cX5_set 31 = .ok (.iload_n 1, 1) := by decide +kernel
theorem dX5_set_32 : decode cX5_set 32 = .ok (.iload_n 2, 1) := by decide +kernel
theorem dX5_set_33 : decode cX5_set 33 = .ok (.iconst 1, 1) := by decide +kernel
theorem dX5_set_34 : decode cX5_set 34 = .ok (.invokevirtual 79, 3) := by decide +kernel
theorem dX5_set_37 : decode cX5_set 37 = .ok (.ifCond .ne 9, 3) := by decide +kernel
theorem dX5_set_40 : decode cX5_set 40 = .ok (.aload_n 0, 1) := by decide +kernel
theorem dX5_set_41 : decode cX5_set 41 = .ok (.iconst 2, 1) := by decide +kernel
theorem dX5_set_42 : decode cX5_set 42 = .ok (.invokevirtual 65, 3) := by decide +kernel
theorem dX5_set_45 : decode cX5_set 45 = .ok (.ireturn, 1) := by decide +kernel
theorem dX5_set_46 : decode cX5_set 46 = .ok (.aload_n 0, 1) := by decide +kernel
theorem dX5_set_47 : decode cX5_set 47 = .ok (.aload_n 0, 1) := by decide +kernel
theorem dX5_set_48 : decode cX5_set 48 = .ok (.getfield 10, 3) := by decide +kernel
theorem dX5_set_51 : decode cX5_set 51 = .ok (.iload_n 1, 1) := by decide +kernel
theorem dX5_set_52 : decode cX5_set 52 = .ok (.iload_n 2, 1) := by decide +kernel
theorem dX5_set_53 : decode cX5_set 53 = .ok (.iload_n 3, 1) := by decide +kernel
theorem dX5_set_54 : decode cX5_set 54 = .ok (.invokevirtual 83, 3) := by decide +kernel
theorem dX5_set_57 : decode cX5_set 57 = .ok (.invokevirtual 73, 3) := by decide +kernel
theorem dX5_set_60 : decode cX5_set 60 = .ok (.ireturn, 1) := by decide +kernel
theorem dX5_copy_0 : decode cX5_copy 0 = .ok (.iload_n 1, 1) := by decide +kernel
theorem dX5_copy_1 : decode cX5_copy 1 = .ok (.invokestatic 57, 3) := by decide +kernel
theorem dX5_copy_4 : decode cX5_copy 4 = .ok (.ifCond .eq 10, 3) := by decide +kernel
theorem dX5_copy_7 : decode cX5_copy 7 = .ok (.iload_n 3, 1) := by decide +kernel
theorem dX5_copy_8 : decode cX5_copy 8 = .ok (.invokestatic 57, 3) := by decide +kernel
theorem dX5_copy_11 : decode cX5_copy 11 = .ok (.ifCond .ne 6, 3) := by decide +kernel
theorem dX5_copy_14 : decode cX5_copy 14 = .ok (.ldc 64, 2) := by decide +kernel
theorem dX5_copy_16 : decode cX5_copy 16 = .ok (.ireturn, 1) := by decide +kernel
theorem dX5_copy_17 : decode cX5_copy 17 = .ok (.aload_n 0, 1) := by decide +kernel
theorem dX5_copy_18 : decode cX5_copy 18 = .ok (.getfield 10, 3) := by decide +kernel
theorem dX5_copy_21 : decode cX5_copy 21 = .ok (.iload_n 1, 1) := by decide +kernel
theorem dX5_copy_22 : decode cX5_copy 22 = .ok (.invokevirtual 76, 3) := by decide +kernel
theorem dX5_copy_25 : decode cX5_copy 25 = .ok (.ifCond .ne 14, 3) := by decide +kernel
theorem dX5_copy_28 : decode cX5_copy 28 = .ok (.aload_n 0, 1) := by decide +kernel
theorem dX5_copy_29 : decode cX5_copy 29 = .ok (.getfield 10, 3) := by decide +kernel
theorem dX5_copy_32 : decode cX5_copy 32 = .ok (.iload_n 3, 1) := by decide +kernel
theorem dX5_copy_33 : decode cX5_copy 33 = .ok (.invokevirtual 76, 3) := by decide +kernel
theorem dX5_copy_36 : decode cX5_copy 36 = .ok (.ifCond .eq 9, 3) := by decide +kernel
theorem dX5_copy_39 : decode cX5_copy 39 = .ok (.aload_n 0, 1) := by decide +kernel
theorem dX5_copy_40 : decode cX5_copy 40 = .ok (.iconst 1, 1) := by decide +kernel
theorem dX5_copy_41 : decode cX5_copy 41 = .ok (.invokevirtual 65, 3) := by decide +kernel
theorem dX5_copy_44 : decode cX5_copy 44 = .ok (.ireturn, 1) := by decide +kernel
theorem dX5_copy_45 : decode cX5_copy 45 = .ok (.aload_n 0, 1) := by decide +kernel
theorem dX5_copy_46 : decode cX5_copy 46 = .ok (.getfield 10, 3) := by decide +kernel
theorem dX5_copy_49 : decode cX5_copy 49 = .ok (.iload_n 1, 1) := by decide +kernel
theorem dX5_copy_50 : decode cX5_copy 50 = .ok (.iload_n 3, 1) := by decide +kernel
theorem dX5_copy_51 : decode cX5_copy 51 = .ok (.invokevirtual 87, 3) := by decide +kernel
theorem dX5_copy_54 : decode cX5_copy 54 = .ok (.ifCond .ne 9, 3) := by decide +kernel
theorem dX5_copy_57 : decode cX5_copy 57 = .ok (.aload_n 0, 1) := by decide +kernel
theorem dX5_copy_58 : decode cX5_copy 58 = .ok (.iconst 5, 1) := by decide +kernel
theorem dX5_copy_59 : decode cX5_copy 59 = .ok (.invokevirtual 65, 3) := by decide +kernel
theorem dX5_copy_62 : decode cX5_copy 62 = .ok (.ireturn, 1) := by decide +kernel
theorem dX5_copy_63 : decode cX5_copy 63 = .ok (.aload_n 0, 1) := by decide +kernel
theorem dX5_copy_64 : decode cX5_copy 64 = .ok (.getfield 10, 3) := by decide +kernel
theorem dX5_copy_67 : decode cX5_copy 67 = .ok (.iload_n 1, 1) := by decide +kernel
theorem dX5_copy_68 : decode cX5_copy 68 = .ok (.iload_n 2, 1) := by decide +kernel
theorem dX5_copy_69 : decode cX5_copy 69 = .ok (.iload 5, 2) := by decide +kernel
theorem dX5_copy_71 : decode cX5_copy 71 = .ok (.invokevirtual 79, 3) := by decide +kernel
theorem dX5_copy_74 : decode cX5_copy 74 = .ok (.ifCond .eq 18, 3) := by decide +kernel
theorem dX5_copy_77 : decode cX5_copy 77 = .ok (.aload_n 0, 1) := by decide +kernel
theorem dX5_copy_78 : decode cX5_copy 78 = .ok (.getfield 10, 3) := by decide +kernel
theorem dX5_copy_81 : decode cX5_copy 81 = .ok (.iload_n 3, 1) := by decide +kernel
theorem dX5_copy_82 : decode cX5_copy 82 = .ok (.iload 4, 2) := by decide +kernel
theorem dX5_copy_84 : decode cX5_copy 84 = .ok (.iload 5, 2) := by decide +kernel
theorem dX5_copy_86 : decode cX5_copy 86 = .ok (.invokevirtual 79, 3) := by decide +kernel
theorem dX5_copy_89 : decode cX5_copy 89 = .ok (.ifCond .ne 9, 3) := by decide +kernel
theorem dX5_copy_92 : decode cX5_copy 92 = .ok (.aload_n 0, 1) := by decide +kernel
theorem dX5_copy_93 : decode cX5_copy 93 = .ok (.iconst 2, 1) := by decide +kernel
theorem dX5_copy_94 : decode cX5_copy 94 = .ok (.invokevirtual 65, 3) := by decide +kernel
theorem dX5_copy_97 : decode cX5_copy 97 = .ok (.ireturn, 1) := by decide +kernel
theorem dX5_copy_98 : decode cX5_copy 98 = .ok (.aload_n 0, 1) := by decide +kernel
theorem dX5_copy_99 : decode cX5_copy 99 = .ok (.getfield 10, 3) := by decide +kernel
theorem dX5_copy_102 : decode cX5_copy 102 = .ok (.iload_n 1, 1) := by decide +kernel
theorem dX5_copy_103 : decode cX5_copy 103 = .ok (.iload_n 2, 1) := by decide +kernel
theorem dX5_copy_104 : decode cX5_copy 104 = .ok (.iload_n 3, 1) := by decide +kernel
theorem dX5_copy_105 : decode cX5_copy 105 = .ok (.iload 4, 2) := by decide +kernel
theorem dX5_copy_107 : decode cX5_copy 107 = .ok (.iload 5, 2) := by decide +kernel
theorem dX5_copy_109 : decode cX5_copy 109 = .ok (.invokevirtual 91, 3) := by decide +kernel
theorem dX5_copy_112 : decode cX5_copy 112 = .ok (.aload_n 0, 1) := by decide +kernel
theorem dX5_copy_113 : decode cX5_copy 113 = .ok (.iload 5, 2) := by decide +kernel
theorem dX5_copy_115 : decode cX5_copy 115 = .ok (.invokevirtual 73, 3) := by decide +kernel
theorem dX5_copy_118 : decode cX5_copy 118 = .ok (.ireturn, 1) := by decide +kernel
theorem dX5_drop_0 : decode cX5_drop 0 = .ok (.iload_n 1, 1) := by decide +kernel
theorem dX5_drop_1 : decode cX5_drop 1 = .ok (.invokestatic 57, 3) := by decide +kernel
theorem dX5_drop_4 : decode cX5_drop 4 = .ok (.ifCond .ne 6, 3) := by decide +kernel
theorem dX5_drop_7 : decode cX5_drop 7 = .ok (.ldc 64, 2) := by decide +kernel
theorem dX5_drop_9 : decode cX5_drop 9 = .ok (.ireturn, 1) := by decide +kernel
theorem dX5_drop_10 : decode cX5_drop 10 = .ok (.aload_n 0, 1) := by decide +kernel
theorem dX5_drop_11 : decode cX5_drop 11 = .ok (.getfield 10, 3) := by decide +kernel
theorem dX5_drop_14 : decode cX5_drop 14 = .ok (.iload_n 1, 1) := by decide +kernel
theorem dX5_drop_15 : decode cX5_drop 15 = .ok (.invokevirtual 76, 3) := by decide +kernel
theorem dX5_drop_18 : decode cX5_drop 18 = .ok (.ifCond .eq 9, 3) := by decide +kernel
theorem dX5_drop_21 : decode cX5_drop 21 = .ok (.aload_n 0, 1) := by decide +kernel
theorem dX5_drop_22 : decode cX5_drop 22 = .ok (.iconst 1, 1) := by decide +kernel
theorem dX5_drop_23 : decode cX5_drop 23 = .ok (.invokevirtual 65, 3) := by decide +kernel
theorem dX5_drop_26 : decode cX5_drop 26 = .ok (.ireturn, 1) := by decide +kernel
theorem dX5_drop_27 : decode cX5_drop 27 = .ok (.aload_n 0, 1) := by decide +kernel
theorem dX5_drop_28 : decode cX5_drop 28 = .ok (.aload_n 0, 1) := by decide +kernel
theorem dX5_drop_29 : decode cX5_drop 29 = .ok (.getfield 10, 3) := by decide +kernel
theorem dX5_drop_32 : decode cX5_drop 32 = .ok (.iload_n 1, 1) := by decide +kernel
theorem dX5_drop_33 : decode cX5_drop 33 = .ok (.invokevirtual 95, 3) := by decide +kernel
theorem dX5_drop_36 : decode cX5_drop 36 = .ok (.invokevirtual 73, 3) := by decide +kernel
theorem dX5_drop_39 : decode cX5_drop 39 = .ok (.ireturn, 1) := by decide +kernel
theorem dX5_feed_0 : decode cX5_feed 0 = .ok (.iload_n 1, 1) := by decide +kernel
theorem dX5_feed_1 : decode cX5_feed 1 = .ok (.iconst 0, 1) := by decide +kernel
theorem dX5_feed_2 : decode cX5_feed 2 = .ok (.sipush 255, 3) := by decide +kernel
theorem dX5_feed_5 : decode cX5_feed 5 = .ok (.invokestatic 98, 3) := by decide +kernel
theorem dX5_feed_8 : decode cX5_feed 8 = .ok (.ifCond .ne 6, 3) := by decide +kernel
theorem dX5_feed_11 : decode cX5_feed 11 = .ok (.ldc 64, 2) := by decide +kernel
theorem dX5_feed_13 : decode cX5_feed 13 = .ok (.ireturn, 1) := by decide +kernel
theorem dX5_feed_14 : decode cX5_feed 14 = .ok (.aload_n 0, 1) := by decide +kernel
theorem dX5_feed_15 : decode cX5_feed 15 = .ok (.getfield 19, 3) := by decide +kernel
theorem dX5_feed_18 : decode cX5_feed 18 = .ok (.invokevirtual 101, 3) := by decide +kernel
theorem dX5_feed_21 : decode cX5_feed 21 = .ok (.ifCond .eq 6, 3) := by decide +kernel
theorem dX5_feed_24 : decode cX5_feed 24 = .ok (.ldc 105, 2) := by decide +kernel
theorem dX5_feed_26 : decode cX5_feed 26 = .ok (.ireturn, 1) := by decide +kernel
theorem dX5_feed_27 : decode cX5_feed 27 = .ok (.aload_n 0, 1) := by decide +kernel
theorem dX5_feed_28 : decode cX5_feed 28 = .ok (.getfield 19, 3) := by decide +kernel
theorem dX5_feed_31 : decode cX5_feed 31 = .ok (.iload_n 1, 1) := by decide +kernel
theorem dX5_feed_32 : decode cX5_feed 32 = .ok (.invokevirtual 106, 3) := by decide +kernel
theorem dX5_feed_35 : decode cX5_feed 35 = .ok (.ireturn, 1) := by decide +kernel
theorem dX5_river_0 : decode cX5_river 0 = .ok (.aload_n 0, 1) := by decide +kernel
theorem dX5_river_1 : decode cX5_river 1 = .ok (.getfield 19, 3) := by decide +kernel
theorem dX5_river_4 : decode cX5_river 4 = .ok (.aload_n 0, 1) := by decide +kernel
theorem dX5_river_5 : decode cX5_river 5 = .ok (.getfield 37, 3) := by decide +kernel
theorem dX5_river_8 : decode cX5_river 8 = .ok (.invokevirtual 109, 3) := by decide +kernel
theorem dX5_river_11 : decode cX5_river 11 = .ok (.istore_n 1, 1) := by decide +kernel
theorem dX5_river_12 : decode cX5_river 12 = .ok (.aload_n 0, 1) := by decide +kernel
theorem dX5_river_13 : decode cX5_river 13 = .ok (.getfield 19, 3) := by decide +kernel
theorem dX5_river_16 : decode cX5_river 16 = .ok (.invokevirtual 113, 3) := by decide +kernel
theorem dX5_river_19 : decode cX5_river 19 = .ok (.iload_n 1, 1) := by decide +kernel
theorem dX5_river_20 : decode cX5_river 20 = .ok (.ifCond .ne 14, 3) := by decide +kernel
theorem dX5_river_23 : decode cX5_river 23 = .ok (.ldc 116, 2) := by decide +kernel
theorem dX5_river_25 : decode cX5_river 25 = .ok (.aload_n 0, 1) := by decide +kernel
theorem dX5_river_26 : decode cX5_river 26 = .ok (.getfield 19, 3) := by decide +kernel
theorem dX5_river_29 : decode cX5_river 29 = .ok (.getfield 117, 3) := by decide +kernel
theorem dX5_river_32 : decode cX5_river 32 = .ok (.isub, 1) := by decide +kernel
theorem dX5_river_33 : decode cX5_river 33 = .ok (.ireturn, 1) := by decide +kernel
theorem dX5_river_34 : decode cX5_river 34 = .ok (.aload_n 0, 1) := by decide +kernel
theorem dX5_river_35 : decode cX5_river 35 = .ok (.getfield 33, 3) := by decide +kernel
theorem dX5_river_38 : decode cX5_river 38 = .ok (.aload_n 0, 1) := by decide +kernel
theorem dX5_river_39 : decode cX5_river 39 = .ok (.getfield 37, 3) := by decide +kernel
theorem dX5_river_42 : decode cX5_river 42 = .ok (.invokevirtual 120, 3) := by decide +kernel
theorem dX5_river_45 : decode cX5_river 45 = .ok (.aload_n 0, 1) := by decide +kernel
theorem dX5_river_46 : decode cX5_river 46 = .ok (.invokevirtual 124, 3) := by decide +kernel
theorem dX5_river_49 : decode cX5_river 49 = .ok (.aload_n 0, 1) := by decide +kernel
theorem dX5_river_50 : decode cX5_river 50 = .ok (.getfield 33, 3) := by decide +kernel
theorem dX5_river_53 : decode cX5_river 53 = .ok (.getfield 127, 3) := by decide +kernel
theorem dX5_river_56 : decode cX5_river 56 = .ok (.ireturn, 1) := by decide +kernel
theorem dX5_fault_0 : decode cX5_fault 0 = .ok (.aload_n 0, 1) := by decide +kernel
theorem dX5_fault_1 : decode cX5_fault 1 = .ok (.getfield 19, 3) := by decide +kernel
theorem dX5_fault_4 : decode cX5_fault 4 = .ok (.getfield 130, 3) := by decide +kernel
theorem dX5_fault_7 : decode cX5_fault 7 = .ok (.ireturn, 1) := by decide +kernel
theorem dX5_minutes_0 : decode cX5_minutes 0 = .ok (.aload_n 0, 1) := by decide +kernel
theorem dX5_minutes_1 : decode cX5_minutes 1 = .ok (.invokevirtual 133, 3) := by decide +kernel
theorem dX5_minutes_4 : decode cX5_minutes 4 = .ok (.ifCond .ne 6, 3) := by decide +kernel
theorem dX5_minutes_7 : decode cX5_minutes 7 = .ok (.ldc 136, 2) := by decide +kernel
theorem dX5_minutes_9 : decode cX5_minutes 9 = .ok (.ireturn, 1) := by decide +kernel
theorem dX5_minutes_10 : decode cX5_minutes 10 = .ok (.iload_n 1, 1) := by decide +kernel
theorem dX5_minutes_11 : decode cX5_minutes 11 = .ok (.iconst 1, 1) := by decide +kernel
theorem dX5_minutes_12 : decode cX5_minutes 12 = .ok (.bipush 24, 2) := by decide +kernel
theorem dX5_minutes_14 : decode cX5_minutes 14 = .ok (.invokestatic 98, 3) := by decide +kernel
theorem dX5_minutes_17 : decode cX5_minutes 17 = .ok (.ifCond .ne 6, 3) := by decide +kernel
theorem dX5_minutes_20 : decode cX5_minutes 20 = .ok (.ldc 64, 2) := by decide +kernel
theorem dX5_minutes_22 : decode cX5_minutes 22 = .ok (.ireturn, 1) := by decide +kernel
theorem dX5_minutes_23 : decode cX5_minutes 23 = .ok (.aload_n 0, 1) := by decide +kernel
theorem dX5_minutes_24 : decode cX5_minutes 24 = .ok (.getfield 33, 3) := by decide +kernel
theorem dX5_minutes_27 : decode cX5_minutes 27 = .ok (.getfield 137, 3) := by decide +kernel
theorem dX5_minutes_30 : decode cX5_minutes 30 = .ok (.iload_n 1, 1) := by decide +kernel
theorem dX5_minutes_31 : decode cX5_minutes 31 = .ok (.iadd, 1) := by decide +kernel
theorem dX5_minutes_32 : decode cX5_minutes 32 = .ok (.sipush 9999, 3) := by decide +kernel
theorem dX5_minutes_35 : decode cX5_minutes 35 = .ok (.if_icmp .le 6, 3) := by decide +kernel
theorem dX5_minutes_38 : decode cX5_minutes 38 = .ok (.ldc 105, 2) := by decide +kernel
theorem dX5_minutes_40 : decode cX5_minutes 40 = .ok (.ireturn, 1) := by decide +kernel
theorem dX5_minutes_41 : decode cX5_minutes 41 = .ok (.iconst 0, 1) := by decide +kernel
theorem dX5_minutes_42 : decode cX5_minutes 42 = .ok (.istore_n 2, 1) := by decide +kernel
theorem dX5_minutes_43 : decode cX5_minutes 43 = .ok (.iload_n 2, 1) := by decide +kernel
theorem dX5_minutes_44 : decode cX5_minutes 44 = .ok (.iload_n 1, 1) := by decide +kernel
theorem dX5_minutes_45 : decode cX5_minutes 45 = .ok (.if_icmp .ge 20, 3) := by decide +kernel
theorem dX5_minutes_48 : decode cX5_minutes 48 = .ok (.aload_n 0, 1) := by decide +kernel
theorem dX5_minutes_49 : decode cX5_minutes 49 = .ok (.invokevirtual 140, 3) := by decide +kernel
theorem dX5_minutes_52 : decode cX5_minutes 52 = .ok (.aload_n 0, 1) := by decide +kernel
theorem dX5_minutes_53 : decode cX5_minutes 53 = .ok (.getfield 33, 3) := by decide +kernel
theorem dX5_minutes_56 : decode cX5_minutes 56 = .ok (.invokevirtual 143, 3) := by decide +kernel
theorem dX5_minutes_59 : decode cX5_minutes 59 = .ok (.iinc 2 1, 3) := by decide +kernel
theorem dX5_minutes_62 : decode cX5_minutes 62 = .ok (.goto (-19), 3) := by decide +kernel
theorem dX5_minutes_65 : decode cX5_minutes 65 = .ok (.aload_n 0, 1) := by decide +kernel
theorem dX5_minutes_66 : decode cX5_minutes 66 = .ok (.getfield 33, 3) := by decide +kernel
theorem dX5_minutes_69 : decode cX5_minutes 69 = .ok (.invokevirtual 146, 3) := by decide +kernel
theorem dX5_minutes_72 : decode cX5_minutes 72 = .ok (.ireturn, 1) := by decide +kernel
theorem dX5_say_0 : decode cX5_say 0 = .ok (.aload_n 0, 1) := by decide +kernel
theorem dX5_say_1 : decode cX5_say 1 = .ok (.getfield 33, 3) := by decide +kernel
theorem dX5_say_4 : decode cX5_say 4 = .ok (.iload_n 1, 1) := by decide +kernel
theorem dX5_say_5 : decode cX5_say 5 = .ok (.invokevirtual 150, 3) := by decide +kernel
theorem dX5_say_8 : decode cX5_say 8 = .ok (.ifCond .eq 24, 3) := by decide +kernel
theorem dX5_say_11 : decode cX5_say 11 = .ok (.iload_n 2, 1) := by decide +kernel
theorem dX5_say_12 : decode cX5_say 12 = .ok (.iconst 1, 1) := by decide +kernel
theorem dX5_say_13 : decode cX5_say 13 = .ok (.bipush 60, 2) := by decide +kernel
theorem dX5_say_15 : decode cX5_say 15 = .ok (.invokestatic 98, 3) := by decide +kernel
theorem dX5_say_18 : decode cX5_say 18 = .ok (.ifCond .eq 14, 3) := by decide +kernel
theorem dX5_say_21 : decode cX5_say 21 = .ok (.aload_n 0, 1) := by decide +kernel
theorem dX5_say_22 : decode cX5_say 22 = .ok (.getfield 33, 3) := by decide +kernel
theorem dX5_say_25 : decode cX5_say 25 = .ok (.iload_n 3, 1) := by decide +kernel
theorem dX5_say_26 : decode cX5_say 26 = .ok (.invokevirtual 153, 3) := by decide +kernel
theorem dX5_say_29 : decode cX5_say 29 = .ok (.ifCond .ne 6, 3) := by decide +kernel
theorem dX5_say_32 : decode cX5_say 32 = .ok (.ldc 64, 2) := by decide +kernel
theorem dX5_say_34 : decode cX5_say 34 = .ok (.ireturn, 1) := by decide +kernel
theorem dX5_say_35 : decode cX5_say 35 = .ok (.aload_n 0, 1) := by decide +kernel
theorem dX5_say_36 : decode cX5_say 36 = .ok (.getfield 33, 3) := by decide +kernel
theorem dX5_say_39 : decode cX5_say 39 = .ok (.iload_n 1, 1) := by decide +kernel
theorem dX5_say_40 : decode cX5_say 40 = .ok (.invokevirtual 156, 3) := by decide +kernel
theorem dX5_say_43 : decode cX5_say 43 = .ok (.istore 4, 2) := by decide +kernel
theorem dX5_say_45 : decode cX5_say 45 = .ok (.aload_n 0, 1) := by decide +kernel
theorem dX5_say_46 : decode cX5_say 46 = .ok (.invokevirtual 140, 3) := by decide +kernel
theorem dX5_say_49 : decode cX5_say 49 = .ok (.aload_n 0, 1) := by decide +kernel
theorem dX5_say_50 : decode cX5_say 50 = .ok (.getfield 33, 3) := by decide +kernel
theorem dX5_say_53 : decode cX5_say 53 = .ok (.getfield 159, 3) := by decide +kernel
theorem dX5_say_56 : decode cX5_say 56 = .ok (.iload_n 1, 1) := by decide +kernel
theorem dX5_say_57 : decode cX5_say 57 = .ok (.iload_n 2, 1) := by decide +kernel
theorem dX5_say_58 : decode cX5_say 58 = .ok (.iload_n 3, 1) := by decide +kernel
theorem dX5_say_59 : decode cX5_say 59 = .ok (.invokestatic 163, 3) := by decide +kernel
theorem dX5_say_62 : decode cX5_say 62 = .ok (.iastore, 1) := by decide +kernel
theorem dX5_say_63 : decode cX5_say 63 = .ok (.iload 4, 2) := by decide +kernel
theorem dX5_say_65 : decode cX5_say 65 = .ok (.ireturn, 1) := by decide +kernel
theorem dX5_speed_0 : decode cX5_speed 0 = .ok (.aload_n 0, 1) := by decide +kernel
theorem dX5_speed_1 : decode cX5_speed 1 = .ok (.getfield 33, 3) := by decide +kernel
theorem dX5_speed_4 : decode cX5_speed 4 = .ok (.iload_n 1, 1) := by decide +kernel
theorem dX5_speed_5 : decode cX5_speed 5 = .ok (.invokevirtual 153, 3) := by decide +kernel
theorem dX5_speed_8 : decode cX5_speed 8 = .ok (.ifCond .eq 12, 3) := by decide +kernel
theorem dX5_speed_11 : decode cX5_speed 11 = .ok (.iload_n 2, 1) := by decide +kernel
theorem dX5_speed_12 : decode cX5_speed 12 = .ok (.iconst 0, 1) := by decide +kernel
theorem dX5_speed_13 : decode cX5_speed 13 = .ok (.iconst 3, 1) := by decide +kernel
theorem dX5_speed_14 : decode cX5_speed 14 = .ok (.invokestatic 98, 3) := by decide +kernel
theorem dX5_speed_17 : decode cX5_speed 17 = .ok (.ifCond .ne 6, 3) := by decide +kernel
theorem dX5_speed_20 : decode cX5_speed 20 = .ok (.ldc 64, 2) := by decide +kernel
theorem dX5_speed_22 : decode cX5_speed 22 = .ok (.ireturn, 1) := by decide +kernel
theorem dX5_speed_23 : decode cX5_speed 23 = .ok (.aload_n 0, 1) := by decide +kernel
theorem dX5_speed_24 : decode cX5_speed 24 = .ok (.getfield 33, 3) := by decide +kernel
theorem dX5_speed_27 : decode cX5_speed 27 = .ok (.getfield 167, 3) := by decide +kernel
theorem dX5_speed_30 : decode cX5_speed 30 = .ok (.iload_n 1, 1) := by decide +kernel
theorem dX5_speed_31 : decode cX5_speed 31 = .ok (.iaload, 1) := by decide +kernel
theorem dX5_speed_32 : decode cX5_speed 32 = .ok (.istore_n 3, 1) := by decide +kernel
theorem dX5_speed_33 : decode cX5_speed 33 = .ok (.aload_n 0, 1) := by decide +kernel
theorem dX5_speed_34 : decode cX5_speed 34 = .ok (.invokevirtual 140, 3) := by decide +kernel
theorem dX5_speed_37 : decode cX5_speed 37 = .ok (.aload_n 0, 1) := by decide +kernel
theorem dX5_speed_38 : decode cX5_speed 38 = .ok (.getfield 33, 3) := by decide +kernel
theorem dX5_speed_41 : decode cX5_speed 41 = .ok (.getfield 167, 3) := by decide +kernel
theorem dX5_speed_44 : decode cX5_speed 44 = .ok (.iload_n 1, 1) := by decide +kernel
theorem dX5_speed_45 : decode cX5_speed 45 = .ok (.iload_n 2, 1) := by decide +kernel
theorem dX5_speed_46 : decode cX5_speed 46 = .ok (.iastore, 1) := by decide +kernel
theorem dX5_speed_47 : decode cX5_speed 47 = .ok (.iload_n 3, 1) := by decide +kernel
theorem dX5_speed_48 : decode cX5_speed 48 = .ok (.ireturn, 1) := by decide +kernel
theorem dX5_rain_0 : decode cX5_rain 0 = .ok (.aload_n 0, 1) := by decide +kernel
theorem dX5_rain_1 : decode cX5_rain 1 = .ok (.invokevirtual 133, 3) := by decide +kernel
theorem dX5_rain_4 : decode cX5_rain 4 = .ok (.ifCond .ne 6, 3) := by decide +kernel
theorem dX5_rain_7 : decode cX5_rain 7 = .ok (.ldc 136, 2) := by decide +kernel
theorem dX5_rain_9 : decode cX5_rain 9 = .ok (.ireturn, 1) := by decide +kernel
theorem dX5_rain_10 : decode cX5_rain 10 = .ok (.iload_n 1, 1) := by decide +kernel
theorem dX5_rain_11 : decode cX5_rain 11 = .ok (.iconst 0, 1) := by decide +kernel
theorem dX5_rain_12 : decode cX5_rain 12 = .ok (.bipush 15, 2) := by decide +kernel
theorem dX5_rain_14 : decode cX5_rain 14 = .ok (.invokestatic 98, 3) := by decide +kernel
theorem dX5_rain_17 : decode cX5_rain 17 = .ok (.ifCond .ne 6, 3) := by decide +kernel
theorem dX5_rain_20 : decode cX5_rain 20 = .ok (.ldc 64, 2) := by decide +kernel
theorem dX5_rain_22 : decode cX5_rain 22 = .ok (.ireturn, 1) := by decide +kernel
theorem dX5_rain_23 : decode cX5_rain 23 = .ok (.aload_n 0, 1) := by decide +kernel
theorem dX5_rain_24 : decode cX5_rain 24 = .ok (.getfield 33, 3) := by decide +kernel
theorem dX5_rain_27 : decode cX5_rain 27 = .ok (.getfield 170, 3) := by decide +kernel
theorem dX5_rain_30 : decode cX5_rain 30 = .ok (.istore_n 2, 1) := by decide +kernel
theorem dX5_rain_31 : decode cX5_rain 31 = .ok (.aload_n 0, 1) := by decide +kernel
theorem dX5_rain_32 : decode cX5_rain 32 = .ok (.invokevirtual 140, 3) := by decide +kernel
theorem dX5_rain_35 : decode cX5_rain 35 = .ok (.aload_n 0, 1) := by decide +kernel
theorem dX5_rain_36 : decode cX5_rain 36 = .ok (.getfield 33, 3) := by decide +kernel
theorem dX5_rain_39 : decode cX5_rain 39 = .ok (.iload_n 1, 1) := by decide +kernel
theorem dX5_rain_40 : decode cX5_rain 40 = .ok (.putfield 170, 3) := by decide +kernel
theorem dX5_rain_43 : decode cX5_rain 43 = .ok (.iload_n 2, 1) := by decide +kernel
theorem dX5_rain_44 : decode cX5_rain 44 = .ok (.ireturn, 1) := by decide +kernel
theorem dX5_undo_0 : decode cX5_undo 0 = .ok (.aload_n 0, 1) := by decide +kernel
theorem dX5_undo_1 : decode cX5_undo 1 = .ok (.getfield 51, 3) := by decide +kernel
theorem dX5_undo_4 : decode cX5_undo 4 = .ok (.ifCond .ne 6, 3) := by decide +kernel
theorem dX5_undo_7 : decode cX5_undo 7 = .ok (.ldc 136, 2) := by decide +kernel
theorem dX5_undo_9 : decode cX5_undo 9 = .ok (.ireturn, 1) := by decide +kernel
theorem dX5_undo_10 : decode cX5_undo 10 = .ok (.aload_n 0, 1) := by decide +kernel
theorem dX5_undo_11 : decode cX5_undo 11 = .ok (.aload_n 0, 1) := by decide +kernel
theorem dX5_undo_12 : decode cX5_undo 12 = .ok (.getfield 47, 3) := by decide +kernel
theorem dX5_undo_15 : decode cX5_undo 15 = .ok (.bipush 24, 2) := by decide +kernel
theorem dX5_undo_17 : decode cX5_undo 17 = .ok (.iadd, 1) := by decide +kernel
theorem dX5_undo_18 : decode cX5_undo 18 = .ok (.iconst 1, 1) := by decide +kernel
theorem dX5_undo_19 : decode cX5_undo 19 = .ok (.isub, 1) := by decide +kernel
theorem dX5_undo_20 : decode cX5_undo 20 = .ok (.bipush 24, 2) := by decide +kernel
theorem dX5_undo_22 : decode cX5_undo 22 = .ok (.irem, 1) := by decide +kernel
theorem dX5_undo_23 : decode cX5_undo 23 = .ok (.putfield 47, 3) := by decide +kernel
theorem dX5_undo_26 : decode cX5_undo 26 = .ok (.aload_n 0, 1) := by decide +kernel
theorem dX5_undo_27 : decode cX5_undo 27 = .ok (.dup, 1) := by decide +kernel
theorem dX5_undo_28 : decode cX5_undo 28 = .ok (.getfield 51, 3) := by decide +kernel
theorem dX5_undo_31 : decode cX5_undo 31 = .ok (.iconst 1, 1) := by decide +kernel
theorem dX5_undo_32 : decode cX5_undo 32 = .ok (.isub, 1) := by decide +kernel
theorem dX5_undo_33 : decode cX5_undo 33 = .ok (.putfield 51, 3) := by decide +kernel
theorem dX5_undo_36 : decode cX5_undo 36 = .ok (.aload_n 0, 1) := by decide +kernel
theorem dX5_undo_37 : decode cX5_undo 37 = .ok (.getfield 33, 3) := by decide +kernel
theorem dX5_undo_40 : decode cX5_undo 40 = .ok (.aload_n 0, 1) := by decide +kernel
theorem dX5_undo_41 : decode cX5_undo 41 = .ok (.getfield 40, 3) := by decide +kernel
theorem dX5_undo_44 : decode cX5_undo 44 = .ok (.aload_n 0, 1) := by decide +kernel
theorem dX5_undo_45 : decode cX5_undo 45 = .ok (.getfield 47, 3) := by decide +kernel
theorem dX5_undo_48 : decode cX5_undo 48 = .ok (.aaload, 1) := by decide +kernel
theorem dX5_undo_49 : decode cX5_undo 49 = .ok (.invokevirtual 120, 3) := by decide +kernel
theorem dX5_undo_52 : decode cX5_undo 52 = .ok (.aload_n 0, 1) := by decide +kernel
theorem dX5_undo_53 : decode cX5_undo 53 = .ok (.getfield 51, 3) := by decide +kernel
theorem dX5_undo_56 : decode cX5_undo 56 = .ok (.ireturn, 1) := by decide +kernel
theorem dX5_word_0 : decode cX5_word 0 = .ok (.aload_n 0, 1) := by decide +kernel
theorem dX5_word_1 : decode cX5_word 1 = .ok (.getfield 33, 3) := by decide +kernel
theorem dX5_word_4 : decode cX5_word 4 = .ok (.iload_n 1, 1) := by decide +kernel
theorem dX5_word_5 : decode cX5_word 5 = .ok (.invokevirtual 150, 3) := by decide +kernel
theorem dX5_word_8 : decode cX5_word 8 = .ok (.ifCond .ne 6, 3) := by decide +kernel
theorem dX5_word_11 : decode cX5_word 11 = .ok (.ldc 64, 2) := by decide +kernel
theorem dX5_word_13 : decode cX5_word 13 = .ok (.ireturn, 1) := by decide +kernel
theorem dX5_word_14 : decode cX5_word 14 = .ok (.aload_n 0, 1) := by decide +kernel
theorem dX5_word_15 : decode cX5_word 15 = .ok (.getfield 33, 3) := by decide +kernel
theorem dX5_word_18 : decode cX5_word 18 = .ok (.getfield 159, 3) := by decide +kernel
theorem dX5_word_21 : decode cX5_word 21 = .ok (.iload_n 1, 1) := by decide +kernel
theorem dX5_word_22 : decode cX5_word 22 = .ok (.iaload, 1) := by decide +kernel
theorem dX5_word_23 : decode cX5_word 23 = .ok (.istore_n 3, 1) := by decide +kernel
theorem dX5_word_24 : decode cX5_word 24 = .ok (.iload_n 2, 1) := by decide +kernel
theorem dX5_word_25 : decode cX5_word 25 = .ok (.tableswitch 59 0 3 #[31, 36, 41, 54], 31) := by decide +kernel
theorem dX5_word_56 : decode cX5_word 56 = .ok (.iload_n 3, 1) := by decide +kernel
theorem dX5_word_57 : decode cX5_word 57 = .ok (.invokestatic 173, 3) := by decide +kernel
theorem dX5_word_60 : decode cX5_word 60 = .ok (.ireturn, 1) := by decide +kernel
theorem dX5_word_61 : decode cX5_word 61 = .ok (.iload_n 3, 1) := by decide +kernel
theorem dX5_word_62 : decode cX5_word 62 = .ok (.invokestatic 176, 3) := by decide +kernel
theorem dX5_word_65 : decode cX5_word 65 = .ok (.ireturn, 1) := by decide +kernel
theorem dX5_word_66 : decode cX5_word 66 = .ok (.iload_n 3, 1) := by decide +kernel
theorem dX5_word_67 : decode cX5_word 67 = .ok (.invokestatic 179, 3) := by decide +kernel
theorem dX5_word_70 : decode cX5_word 70 = .ok (.ifCond .eq 7, 3) := by decide +kernel
theorem dX5_word_73 : decode cX5_word 73 = .ok (.iconst 1, 1) := by decide +kernel
theorem dX5_word_74 : decode cX5_word 74 = .ok (.goto 4, 3) := by decide +kernel
theorem dX5_word_77 : decode cX5_word 77 = .ok (.iconst 0, 1) := by decide +kernel
theorem dX5_word_78 : decode cX5_word 78 = .ok (.ireturn, 1) := by decide +kernel
theorem dX5_word_79 : decode cX5_word 79 = .ok (.iload_n 3, 1) := by decide +kernel
theorem dX5_word_80 : decode cX5_word 80 = .ok (.invokestatic 182, 3) := by decide +kernel
theorem dX5_word_83 : decode cX5_word 83 = .ok (.ireturn, 1) := by decide +kernel
theorem dX5_word_84 : decode cX5_word 84 = .ok (.ldc 64, 2) := by decide +kernel
theorem dX5_word_86 : decode cX5_word 86 = .ok (.ireturn, 1) := by decide +kernel
theorem dX5_cell_0 : decode cX5_cell 0 = .ok (.aload_n 0, 1) := by decide +kernel
theorem dX5_cell_1 : decode cX5_cell 1 = .ok (.getfield 33, 3) := by decide +kernel
theorem dX5_cell_4 : decode cX5_cell 4 = .ok (.iload_n 1, 1) := by decide +kernel
theorem dX5_cell_5 : decode cX5_cell 5 = .ok (.invokevirtual 153, 3) := by decide +kernel
theorem dX5_cell_8 : decode cX5_cell 8 = .ok (.ifCond .ne 6, 3) := by decide +kernel
theorem dX5_cell_11 : decode cX5_cell 11 = .ok (.ldc 64, 2) := by decide +kernel
theorem dX5_cell_13 : decode cX5_cell 13 = .ok (.ireturn, 1) := by decide +kernel
theorem dX5_cell_14 : decode cX5_cell 14 = .ok (.iload_n 2, 1) := by decide +kernel
theorem dX5_cell_15 : decode cX5_cell 15 = .ok (.tableswitch 67 0 2 #[25, 35, 58], 25) := by decide +kernel
theorem dX5_cell_40 : decode cX5_cell 40 = .ok (.aload_n 0, 1) := by decide +kernel
theorem dX5_cell_41 : decode cX5_cell 41 = .ok (.getfield 33, 3) := by decide +kernel
theorem dX5_cell_44 : decode cX5_cell 44 = .ok (.getfield 167, 3) := by decide +kernel
theorem dX5_cell_47 : decode cX5_cell 47 = .ok (.iload_n 1, 1) := by decide +kernel
theorem dX5_cell_48 : decode cX5_cell 48 = .ok (.iaload, 1) := by decide +kernel
theorem dX5_cell_49 : decode cX5_cell 49 = .ok (.ireturn, 1) := by decide +kernel
theorem dX5_cell_50 : decode cX5_cell 50 = .ok (.aload_n 0, 1) := by decide +kernel
theorem dX5_cell_51 : decode cX5_cell 51 = .ok (.getfield 33, 3) := by decide +kernel
theorem dX5_cell_54 : decode cX5_cell 54 = .ok (.iload_n 1, 1) := by decide +kernel
theorem dX5_cell_55 : decode cX5_cell 55 = .ok (.aload_n 0, 1) := by decide +kernel
theorem dX5_cell_56 : decode cX5_cell 56 = .ok (.getfield 33, 3) := by decide +kernel
theorem dX5_cell_59 : decode cX5_cell 59 = .ok (.aload_n 0, 1) := by decide +kernel
theorem dX5_cell_60 : decode cX5_cell 60 = .ok (.getfield 33, 3) := by decide +kernel
theorem dX5_cell_63 : decode cX5_cell 63 = .ok (.getfield 137, 3) := by decide +kernel
theorem dX5_cell_66 : decode cX5_cell 66 = .ok (.invokevirtual 185, 3) := by decide +kernel
theorem dX5_cell_69 : decode cX5_cell 69 = .ok (.invokevirtual 188, 3) := by decide +kernel
theorem dX5_cell_72 : decode cX5_cell 72 = .ok (.ireturn, 1) := by decide +kernel
theorem dX5_cell_73 : decode cX5_cell 73 = .ok (.aload_n 0, 1) := by decide +kernel
theorem dX5_cell_74 : decode cX5_cell 74 = .ok (.getfield 33, 3) := by decide +kernel
theorem dX5_cell_77 : decode cX5_cell 77 = .ok (.iload_n 1, 1) := by decide +kernel
theorem dX5_cell_78 : decode cX5_cell 78 = .ok (.invokevirtual 192, 3) := by decide +kernel
theorem dX5_cell_81 : decode cX5_cell 81 = .ok (.ireturn, 1) := by decide +kernel
theorem dX5_cell_82 : decode cX5_cell 82 = .ok (.ldc 64, 2) := by decide +kernel
theorem dX5_cell_84 : decode cX5_cell 84 = .ok (.ireturn, 1) := by decide +kernel
theorem dX5_ahead_0 : decode cX5_ahead 0 = .ok (.aload_n 0, 1) := by decide +kernel
theorem dX5_ahead_1 : decode cX5_ahead 1 = .ok (.getfield 33, 3) := by decide +kernel
theorem dX5_ahead_4 : decode cX5_ahead 4 = .ok (.iload_n 1, 1) := by decide +kernel
theorem dX5_ahead_5 : decode cX5_ahead 5 = .ok (.invokevirtual 150, 3) := by decide +kernel
theorem dX5_ahead_8 : decode cX5_ahead 8 = .ok (.ifCond .eq 22, 3) := by decide +kernel
theorem dX5_ahead_11 : decode cX5_ahead 11 = .ok (.iload_n 2, 1) := by decide +kernel
theorem dX5_ahead_12 : decode cX5_ahead 12 = .ok (.iconst 0, 1) := by decide +kernel
theorem dX5_ahead_13 : decode cX5_ahead 13 = .ok (.bipush 60, 2) := by decide +kernel
theorem dX5_ahead_15 : decode cX5_ahead 15 = .ok (.invokestatic 98, 3) := by decide +kernel
theorem dX5_ahead_18 : decode cX5_ahead 18 = .ok (.ifCond .eq 12, 3) := by decide +kernel
theorem dX5_ahead_21 : decode cX5_ahead 21 = .ok (.iload_n 3, 1) := by decide +kernel
theorem dX5_ahead_22 : decode cX5_ahead 22 = .ok (.iconst 0, 1) := by decide +kernel
theorem dX5_ahead_23 : decode cX5_ahead 23 = .ok (.iconst 1, 1) := by decide +kernel
theorem dX5_ahead_24 : decode cX5_ahead 24 = .ok (.invokestatic 98, 3) := by decide +kernel
theorem dX5_ahead_27 : decode cX5_ahead 27 = .ok (.ifCond .ne 6, 3) := by decide +kernel
theorem dX5_ahead_30 : decode cX5_ahead 30 = .ok (.ldc 64, 2) := by decide +kernel
theorem dX5_ahead_32 : decode cX5_ahead 32 = .ok (.ireturn, 1) := by decide +kernel
theorem dX5_ahead_33 : decode cX5_ahead 33 = .ok (.aload_n 0, 1) := by decide +kernel
theorem dX5_ahead_34 : decode cX5_ahead 34 = .ok (.getfield 33, 3) := by decide +kernel
theorem dX5_ahead_37 : decode cX5_ahead 37 = .ok (.iload_n 1, 1) := by decide +kernel
theorem dX5_ahead_38 : decode cX5_ahead 38 = .ok (.iload_n 2, 1) := by decide +kernel
theorem dX5_ahead_39 : decode cX5_ahead 39 = .ok (.invokevirtual 195, 3) := by decide +kernel
theorem dX5_ahead_42 : decode cX5_ahead 42 = .ok (.istore 4, 2) := by decide +kernel
theorem dX5_ahead_44 : decode cX5_ahead 44 = .ok (.iload_n 3, 1) := by decide +kernel
theorem dX5_ahead_45 : decode cX5_ahead 45 = .ok (.ifCond .ne 11, 3) := by decide +kernel
theorem dX5_ahead_48 : decode cX5_ahead 48 = .ok (.iload 4, 2) := by decide +kernel
theorem dX5_ahead_50 : decode cX5_ahead 50 = .ok (.invokestatic 176, 3) := by decide +kernel
theorem dX5_ahead_53 : decode cX5_ahead 53 = .ok (.goto 8, 3) := by decide +kernel
theorem dX5_ahead_56 : decode cX5_ahead 56 = .ok (.iload 4, 2) := by decide +kernel
theorem dX5_ahead_58 : decode cX5_ahead 58 = .ok (.invokestatic 173, 3) := by decide +kernel
theorem dX5_ahead_61 : decode cX5_ahead 61 = .ok (.ireturn, 1) := by decide +kernel
theorem dX5_quarrel_0 : decode cX5_quarrel 0 = .ok (.aload_n 0, 1) := by decide +kernel
theorem dX5_quarrel_1 : decode cX5_quarrel 1 = .ok (.invokevirtual 133, 3) := by decide +kernel
theorem dX5_quarrel_4 : decode cX5_quarrel 4 = .ok (.ifCond .ne 6, 3) := by decide +kernel
theorem dX5_quarrel_7 : decode cX5_quarrel 7 = .ok (.ldc 136, 2) := by decide +kernel
theorem dX5_quarrel_9 : decode cX5_quarrel 9 = .ok (.ireturn, 1) := by decide +kernel
theorem dX5_quarrel_10 : decode cX5_quarrel 10 = .ok (.iload_n 1, 1) := by decide +kernel
theorem dX5_quarrel_11 : decode cX5_quarrel 11 = .ok (.iconst 0, 1) := by decide +kernel
theorem dX5_quarrel_12 : decode cX5_quarrel 12 = .ok (.bipush 60, 2) := by decide +kernel
theorem dX5_quarrel_14 : decode cX5_quarrel 14 = .ok (.invokestatic 98, 3) := by decide +kernel
theorem dX5_quarrel_17 : decode cX5_quarrel 17 = .ok (.ifCond .ne 6, 3) := by decide +kernel
theorem dX5_quarrel_20 : decode cX5_quarrel 20 = .ok (.ldc 64, 2) := by decide +kernel
theorem dX5_quarrel_22 : decode cX5_quarrel 22 = .ok (.ireturn, 1) := by decide +kernel
theorem dX5_quarrel_23 : decode cX5_quarrel 23 = .ok (.aload_n 0, 1) := by decide +kernel
theorem dX5_quarrel_24 : decode cX5_quarrel 24 = .ok (.getfield 33, 3) := by decide +kernel
theorem dX5_quarrel_27 : decode cX5_quarrel 27 = .ok (.iload_n 1, 1) := by decide +kernel
theorem dX5_quarrel_28 : decode cX5_quarrel 28 = .ok (.invokevirtual 198, 3) := by decide +kernel
theorem dX5_quarrel_31 : decode cX5_quarrel 31 = .ok (.ireturn, 1) := by decide +kernel
theorem dX5_over_0 : decode cX5_over 0 = .ok (.aload_n 0, 1) := by decide +kernel
theorem dX5_over_1 : decode cX5_over 1 = .ok (.getfield 33, 3) := by decide +kernel
theorem dX5_over_4 : decode cX5_over 4 = .ok (.iload_n 1, 1) := by decide +kernel
theorem dX5_over_5 : decode cX5_over 5 = .ok (.invokevirtual 150, 3) := by decide +kernel
theorem dX5_over_8 : decode cX5_over 8 = .ok (.ifCond .ne 6, 3) := by decide +kernel
theorem dX5_over_11 : decode cX5_over 11 = .ok (.ldc 64, 2) := by decide +kernel
theorem dX5_over_13 : decode cX5_over 13 = .ok (.ireturn, 1) := by decide +kernel
theorem dX5_over_14 : decode cX5_over 14 = .ok (.aload_n 0, 1) := by decide +kernel
theorem dX5_over_15 : decode cX5_over 15 = .ok (.getfield 33, 3) := by decide +kernel
theorem dX5_over_18 : decode cX5_over 18 = .ok (.iload_n 1, 1) := by decide +kernel
theorem dX5_over_19 : decode cX5_over 19 = .ok (.bipush 60, 2) := by decide +kernel
theorem dX5_over_21 : decode cX5_over 21 = .ok (.invokevirtual 201, 3) := by decide +kernel
theorem dX5_over_24 : decode cX5_over 24 = .ok (.ireturn, 1) := by decide +kernel
theorem dX5_kept_0 : decode cX5_kept 0 = .ok (.aload_n 0, 1) := by decide +kernel
theorem dX5_kept_1 : decode cX5_kept 1 = .ok (.invokevirtual 133, 3) := by decide +kernel
theorem dX5_kept_4 : decode cX5_kept 4 = .ok (.ifCond .ne 6, 3) := by decide +kernel
theorem dX5_kept_7 : decode cX5_kept 7 = .ok (.ldc 136, 2) := by decide +kernel
theorem dX5_kept_9 : decode cX5_kept 9 = .ok (.ireturn, 1) := by decide +kernel
theorem dX5_kept_10 : decode cX5_kept 10 = .ok (.iconst 0, 1) := by decide +kernel
theorem dX5_kept_11 : decode cX5_kept 11 = .ok (.istore_n 1, 1) := by decide +kernel
theorem dX5_kept_12 : decode cX5_kept 12 = .ok (.iconst 0, 1) := by decide +kernel
theorem dX5_kept_13 : decode cX5_kept 13 = .ok (.istore_n 2, 1) := by decide +kernel
theorem dX5_kept_14 : decode cX5_kept 14 = .ok (.iload_n 2, 1) := by decide +kernel
theorem dX5_kept_15 : decode cX5_kept 15 = .ok (.aload_n 0, 1) := by decide +kernel
theorem dX5_kept_16 : decode cX5_kept 16 = .ok (.getfield 33, 3) := by decide +kernel
theorem dX5_kept_19 : decode cX5_kept 19 = .ok (.getfield 204, 3) := by decide +kernel
theorem dX5_kept_22 : decode cX5_kept 22 = .ok (.if_icmp .ge 31, 3) := by decide +kernel
theorem dX5_kept_25 : decode cX5_kept 25 = .ok (.aload_n 0, 1) := by decide +kernel
theorem dX5_kept_26 : decode cX5_kept 26 = .ok (.getfield 33, 3) := by decide +kernel
theorem dX5_kept_29 : decode cX5_kept 29 = .ok (.iload_n 2, 1) := by decide +kernel
theorem dX5_kept_30 : decode cX5_kept 30 = .ok (.bipush 60, 2) := by decide +kernel
theorem dX5_kept_32 : decode cX5_kept 32 = .ok (.invokevirtual 195, 3) := by decide +kernel
theorem dX5_kept_35 : decode cX5_kept 35 = .ok (.invokestatic 179, 3) := by decide +kernel
theorem dX5_kept_38 : decode cX5_kept 38 = .ok (.ifCond .ne 9, 3) := by decide +kernel
theorem dX5_kept_41 : decode cX5_kept 41 = .ok (.iload_n 1, 1) := by decide +kernel
theorem dX5_kept_42 : decode cX5_kept 42 = .ok (.iconst 1, 1) := by decide +kernel
theorem dX5_kept_43 : decode cX5_kept 43 = .ok (.iload_n 2, 1) := by decide +kernel
theorem dX5_kept_44 : decode cX5_kept 44 = .ok (.ishl, 1) := by decide +kernel
theorem dX5_kept_45 : decode cX5_kept 45 = .ok (.ior, 1) := by decide +kernel
theorem dX5_kept_46 : decode cX5_kept 46 = .ok (.istore_n 1, 1) := by decide +kernel
theorem dX5_kept_47 : decode cX5_kept 47 = .ok (.iinc 2 1, 3) := by decide +kernel
theorem dX5_kept_50 : decode cX5_kept 50 = .ok (.goto (-36), 3) := by decide +kernel
theorem dX5_kept_53 : decode cX5_kept 53 = .ok (.iload_n 1, 1) := by decide +kernel
theorem dX5_kept_54 : decode cX5_kept 54 = .ok (.ireturn, 1) := by decide +kernel
theorem dX5_calm_0 : decode cX5_calm 0 = .ok (.aload_n 0, 1) := by decide +kernel
theorem dX5_calm_1 : decode cX5_calm 1 = .ok (.invokevirtual 133, 3) := by decide +kernel
theorem dX5_calm_4 : decode cX5_calm 4 = .ok (.ifCond .ne 6, 3) := by decide +kernel
theorem dX5_calm_7 : decode cX5_calm 7 = .ok (.ldc 136, 2) := by decide +kernel
theorem dX5_calm_9 : decode cX5_calm 9 = .ok (.ireturn, 1) := by decide +kernel
theorem dX5_calm_10 : decode cX5_calm 10 = .ok (.iload_n 1, 1) := by decide +kernel
theorem dX5_calm_11 : decode cX5_calm 11 = .ok (.iconst 1, 1) := by decide +kernel
theorem dX5_calm_12 : decode cX5_calm 12 = .ok (.bipush 30, 2) := by decide +kernel
theorem dX5_calm_14 : decode cX5_calm 14 = .ok (.invokestatic 98, 3) := by decide +kernel
theorem dX5_calm_17 : decode cX5_calm 17 = .ok (.ifCond .eq 12, 3) := by decide +kernel
theorem dX5_calm_20 : decode cX5_calm 20 = .ok (.iload_n 2, 1) := by decide +kernel
theorem dX5_calm_21 : decode cX5_calm 21 = .ok (.iconst 0, 1) := by decide +kernel
theorem dX5_calm_22 : decode cX5_calm 22 = .ok (.iconst 1, 1) := by decide +kernel
theorem dX5_calm_23 : decode cX5_calm 23 = .ok (.invokestatic 98, 3) := by decide +kernel
theorem dX5_calm_26 : decode cX5_calm 26 = .ok (.ifCond .ne 6, 3) := by decide +kernel
theorem dX5_calm_29 : decode cX5_calm 29 = .ok (.ldc 64, 2) := by decide +kernel
theorem dX5_calm_31 : decode cX5_calm 31 = .ok (.ireturn, 1) := by decide +kernel
theorem dX5_calm_32 : decode cX5_calm 32 = .ok (.aload_n 0, 1) := by decide +kernel
theorem dX5_calm_33 : decode cX5_calm 33 = .ok (.getfield 37, 3) := by decide +kernel
theorem dX5_calm_36 : decode cX5_calm 36 = .ok (.aload_n 0, 1) := by decide +kernel
theorem dX5_calm_37 : decode cX5_calm 37 = .ok (.getfield 33, 3) := by decide +kernel
theorem dX5_calm_40 : decode cX5_calm 40 = .ok (.invokevirtual 120, 3) := by decide +kernel
theorem dX5_calm_43 : decode cX5_calm 43 = .ok (.iconst 0, 1) := by decide +kernel
theorem dX5_calm_44 : decode cX5_calm 44 = .ok (.istore_n 3, 1) := by decide +kernel
theorem dX5_calm_45 : decode cX5_calm 45 = .ok (.iconst 0, 1) := by decide +kernel
theorem dX5_calm_46 : decode cX5_calm 46 = .ok (.istore 4, 2) := by decide +kernel
theorem dX5_calm_48 : decode cX5_calm 48 = .ok (.iconst 0, 1) := by decide +kernel
theorem dX5_calm_49 : decode cX5_calm 49 = .ok (.istore 5, 2) := by decide +kernel
theorem dX5_calm_51 : decode cX5_calm 51 = .ok (.iload 5, 2) := by decide +kernel
theorem dX5_calm_53 : decode cX5_calm 53 = .ok (.aload_n 0, 1) := by decide +kernel
theorem dX5_calm_54 : decode cX5_calm 54 = .ok (.getfield 33, 3) := by decide +kernel
theorem dX5_calm_57 : decode cX5_calm 57 = .ok (.getfield 127, 3) := by decide +kernel
theorem dX5_calm_60 : decode cX5_calm 60 = .ok (.if_icmp .ge 69, 3) := by decide +kernel
theorem dX5_calm_63 : decode cX5_calm 63 = .ok (.aload_n 0, 1) := by decide +kernel
theorem dX5_calm_64 : decode cX5_calm 64 = .ok (.getfield 37, 3) := by decide +kernel
theorem dX5_calm_67 : decode cX5_calm 67 = .ok (.getfield 167, 3) := by decide +kernel
theorem dX5_calm_70 : decode cX5_calm 70 = .ok (.iload 5, 2) := by decide +kernel
theorem dX5_calm_72 : decode cX5_calm 72 = .ok (.iconst 0, 1) := by decide +kernel
theorem dX5_calm_73 : decode cX5_calm 73 = .ok (.iastore, 1) := by decide +kernel
theorem dX5_calm_74 : decode cX5_calm 74 = .ok (.aload_n 0, 1) := by decide +kernel
theorem dX5_calm_75 : decode cX5_calm 75 = .ok (.getfield 37, 3) := by decide +kernel
theorem dX5_calm_78 : decode cX5_calm 78 = .ok (.iload_n 1, 1) := by decide +kernel
theorem dX5_calm_79 : decode cX5_calm 79 = .ok (.invokevirtual 198, 3) := by decide +kernel
theorem dX5_calm_82 : decode cX5_calm 82 = .ok (.istore 6, 2) := by decide +kernel
theorem dX5_calm_84 : decode cX5_calm 84 = .ok (.aload_n 0, 1) := by decide +kernel
theorem dX5_calm_85 : decode cX5_calm 85 = .ok (.getfield 37, 3) := by decide +kernel
theorem dX5_calm_88 : decode cX5_calm 88 = .ok (.getfield 167, 3) := by decide +kernel
theorem dX5_calm_91 : decode cX5_calm 91 = .ok (.iload 5, 2) := by decide +kernel
theorem dX5_calm_93 : decode cX5_calm 93 = .ok (.aload_n 0, 1) := by decide +kernel
theorem dX5_calm_94 : decode cX5_calm 94 = .ok (.getfield 33, 3) := by decide +kernel
theorem dX5_calm_97 : decode cX5_calm 97 = .ok (.getfield 167, 3) := by decide +kernel
theorem dX5_calm_100 : decode cX5_calm 100 = .ok (.iload 5, 2) := by decide +kernel
theorem dX5_calm_102 : decode cX5_calm 102 = .ok (.iaload, 1) := by decide +kernel
theorem dX5_calm_103 : decode cX5_calm 103 = .ok (.iastore, 1) := by decide +kernel
theorem dX5_calm_104 : decode cX5_calm 104 = .ok (.iload 5, 2) := by decide +kernel
theorem dX5_calm_106 : decode cX5_calm 106 = .ok (.ifCond .eq 10, 3) := by decide +kernel
theorem dX5_calm_109 : decode cX5_calm 109 = .ok (.iload 6, 2) := by decide +kernel
theorem dX5_calm_111 : decode cX5_calm 111 = .ok (.iload 4, 2) := by decide +kernel
theorem dX5_calm_113 : decode cX5_calm 113 = .ok (.if_icmp .ge 10, 3) := by decide +kernel
theorem dX5_calm_116 : decode cX5_calm 116 = .ok (.iload 6, 2) := by decide +kernel
theorem dX5_calm_118 : decode cX5_calm 118 = .ok (.istore 4, 2) := by decide +kernel
theorem dX5_calm_120 : decode cX5_calm 120 = .ok (.iload 5, 2) := by decide +kernel
theorem dX5_calm_122 : decode cX5_calm 122 = .ok (.istore_n 3, 1) := by decide +kernel
theorem dX5_calm_123 : decode cX5_calm 123 = .ok (.iinc 5 1, 3) := by decide +kernel
theorem dX5_calm_126 : decode cX5_calm 126 = .ok (.goto (-75), 3) := by decide +kernel
theorem dX5_calm_129 : decode cX5_calm 129 = .ok (.iload_n 2, 1) := by decide +kernel
theorem dX5_calm_130 : decode cX5_calm 130 = .ok (.ifCond .ne 7, 3) := by decide +kernel
theorem dX5_calm_133 : decode cX5_calm 133 = .ok (.iload_n 3, 1) := by decide +kernel
theorem dX5_calm_134 : decode cX5_calm 134 = .ok (.goto 5, 3) := by decide +kernel
theorem dX5_calm_137 : decode cX5_calm 137 = .ok (.iload 4, 2) := by decide +kernel
theorem dX5_calm_139 : decode cX5_calm 139 = .ok (.ireturn, 1) := by decide +kernel
theorem dX5_swift_0 : decode cX5_swift 0 = .ok (.aload_n 0, 1) := by decide +kernel
theorem dX5_swift_1 : decode cX5_swift 1 = .ok (.invokevirtual 133, 3) := by decide +kernel
theorem dX5_swift_4 : decode cX5_swift 4 = .ok (.ifCond .ne 6, 3) := by decide +kernel
theorem dX5_swift_7 : decode cX5_swift 7 = .ok (.ldc 136, 2) := by decide +kernel
theorem dX5_swift_9 : decode cX5_swift 9 = .ok (.ireturn, 1) := by decide +kernel
theorem dX5_swift_10 : decode cX5_swift 10 = .ok (.iload_n 1, 1) := by decide +kernel
theorem dX5_swift_11 : decode cX5_swift 11 = .ok (.iconst 1, 1) := by decide +kernel
theorem dX5_swift_12 : decode cX5_swift 12 = .ok (.bipush 30, 2) := by decide +kernel
theorem dX5_swift_14 : decode cX5_swift 14 = .ok (.invokestatic 98, 3) := by decide +kernel
theorem dX5_swift_17 : decode cX5_swift 17 = .ok (.ifCond .eq 12, 3) := by decide +kernel
theorem dX5_swift_20 : decode cX5_swift 20 = .ok (.iload_n 2, 1) := by decide +kernel
theorem dX5_swift_21 : decode cX5_swift 21 = .ok (.iconst 0, 1) := by decide +kernel
theorem dX5_swift_22 : decode cX5_swift 22 = .ok (.iconst 1, 1) := by decide +kernel
theorem dX5_swift_23 : decode cX5_swift 23 = .ok (.invokestatic 98, 3) := by decide +kernel
theorem dX5_swift_26 : decode cX5_swift 26 = .ok (.ifCond .ne 6, 3) := by decide +kernel
theorem dX5_swift_29 : decode cX5_swift 29 = .ok (.ldc 64, 2) := by decide +kernel
theorem dX5_swift_31 : decode cX5_swift 31 = .ok (.ireturn, 1) := by decide +kernel
theorem dX5_swift_32 : decode cX5_swift 32 = .ok (.aload_n 0, 1) := by decide +kernel
theorem dX5_swift_33 : decode cX5_swift 33 = .ok (.iload_n 1, 1) := by decide +kernel
theorem dX5_swift_34 : decode cX5_swift 34 = .ok (.invokevirtual 207, 3) := by decide +kernel
theorem dX5_swift_37 : decode cX5_swift 37 = .ok (.istore_n 3, 1) := by decide +kernel
theorem dX5_swift_38 : decode cX5_swift 38 = .ok (.iload_n 3, 1) := by decide +kernel
theorem dX5_swift_39 : decode cX5_swift 39 = .ok (.ldc 210, 2) := by decide +kernel
theorem dX5_swift_41 : decode cX5_swift 41 = .ok (.if_icmp .ne 6, 3) := by decide +kernel
theorem dX5_swift_44 : decode cX5_swift 44 = .ok (.ldc 210, 2) := by decide +kernel
theorem dX5_swift_46 : decode cX5_swift 46 = .ok (.ireturn, 1) := by decide +kernel
theorem dX5_swift_47 : decode cX5_swift 47 = .ok (.iload_n 2, 1) := by decide +kernel
theorem dX5_swift_48 : decode cX5_swift 48 = .ok (.ifCond .ne 10, 3) := by decide +kernel
theorem dX5_swift_51 : decode cX5_swift 51 = .ok (.iload_n 3, 1) := by decide +kernel
theorem dX5_swift_52 : decode cX5_swift 52 = .ok (.invokestatic 211, 3) := by decide +kernel
theorem dX5_swift_55 : decode cX5_swift 55 = .ok (.goto 4, 3) := by decide +kernel
theorem dX5_swift_58 : decode cX5_swift 58 = .ok (.iload_n 3, 1) := by decide +kernel
theorem dX5_swift_59 : decode cX5_swift 59 = .ok (.ireturn, 1) := by decide +kernel
theorem dX5_stir_0 : decode cX5_stir 0 = .ok (.aload_n 0, 1) := by decide +kernel
theorem dX5_stir_1 : decode cX5_stir 1 = .ok (.getfield 33, 3) := by decide +kernel
theorem dX5_stir_4 : decode cX5_stir 4 = .ok (.iload_n 1, 1) := by decide +kernel
theorem dX5_stir_5 : decode cX5_stir 5 = .ok (.invokevirtual 150, 3) := by decide +kernel
theorem dX5_stir_8 : decode cX5_stir 8 = .ok (.ifCond .eq 24, 3) := by decide +kernel
theorem dX5_stir_11 : decode cX5_stir 11 = .ok (.aload_n 0, 1) := by decide +kernel
theorem dX5_stir_12 : decode cX5_stir 12 = .ok (.getfield 33, 3) := by decide +kernel
theorem dX5_stir_15 : decode cX5_stir 15 = .ok (.iload_n 2, 1) := by decide +kernel
theorem dX5_stir_16 : decode cX5_stir 16 = .ok (.invokevirtual 153, 3) := by decide +kernel
theorem dX5_stir_19 : decode cX5_stir 19 = .ok (.ifCond .eq 13, 3) := by decide +kernel
theorem dX5_stir_22 : decode cX5_stir 22 = .ok (.iload_n 3, 1) := by decide +kernel
theorem dX5_stir_23 : decode cX5_stir 23 = .ok (.iconst 1, 1) := by decide +kernel
theorem dX5_stir_24 : decode cX5_stir 24 = .ok (.bipush 30, 2) := by decide +kernel
theorem dX5_stir_26 : decode cX5_stir 26 = .ok (.invokestatic 98, 3) := by decide +kernel
theorem dX5_stir_29 : decode cX5_stir 29 = .ok (.ifCond .ne 6, 3) := by decide +kernel
theorem dX5_stir_32 : decode cX5_stir 32 = .ok (.ldc 64, 2) := by decide +kernel
theorem dX5_stir_34 : decode cX5_stir 34 = .ok (.ireturn, 1) := by decide +kernel
theorem dX5_stir_35 : decode cX5_stir 35 = .ok (.aload_n 0, 1) := by decide +kernel
theorem dX5_stir_36 : decode cX5_stir 36 = .ok (.getfield 37, 3) := by decide +kernel
theorem dX5_stir_39 : decode cX5_stir 39 = .ok (.aload_n 0, 1) := by decide +kernel
theorem dX5_stir_40 : decode cX5_stir 40 = .ok (.getfield 33, 3) := by decide +kernel
theorem dX5_stir_43 : decode cX5_stir 43 = .ok (.invokevirtual 120, 3) := by decide +kernel
theorem dX5_stir_46 : decode cX5_stir 46 = .ok (.iconst 0, 1) := by decide +kernel
theorem dX5_stir_47 : decode cX5_stir 47 = .ok (.istore 4, 2) := by decide +kernel
theorem dX5_stir_49 : decode cX5_stir 49 = .ok (.iload 4, 2) := by decide +kernel
theorem dX5_stir_51 : decode cX5_stir 51 = .ok (.iconst 3, 1) := by decide +kernel
theorem dX5_stir_52 : decode cX5_stir 52 = .ok (.if_icmp .gt 38, 3) := by decide +kernel
theorem dX5_stir_55 : decode cX5_stir 55 = .ok (.aload_n 0, 1) := by decide +kernel
theorem dX5_stir_56 : decode cX5_stir 56 = .ok (.getfield 37, 3) := by decide +kernel
theorem dX5_stir_59 : decode cX5_stir 59 = .ok (.getfield 167, 3) := by decide +kernel
theorem dX5_stir_62 : decode cX5_stir 62 = .ok (.iload_n 2, 1) := by decide +kernel
theorem dX5_stir_63 : decode cX5_stir 63 = .ok (.iload 4, 2) := by decide +kernel
theorem dX5_stir_65 : decode cX5_stir 65 = .ok (.iastore, 1) := by decide +kernel
theorem dX5_stir_66 : decode cX5_stir 66 = .ok (.aload_n 0, 1) := by decide +kernel
theorem dX5_stir_67 : decode cX5_stir 67 = .ok (.getfield 37, 3) := by decide +kernel
theorem dX5_stir_70 : decode cX5_stir 70 = .ok (.iload_n 1, 1) := by decide +kernel
theorem dX5_stir_71 : decode cX5_stir 71 = .ok (.iload_n 3, 1) := by decide +kernel
theorem dX5_stir_72 : decode cX5_stir 72 = .ok (.invokevirtual 195, 3) := by decide +kernel
theorem dX5_stir_75 : decode cX5_stir 75 = .ok (.invokestatic 179, 3) := by decide +kernel
theorem dX5_stir_78 : decode cX5_stir 78 = .ok (.ifCond .eq 6, 3) := by decide +kernel
theorem dX5_stir_81 : decode cX5_stir 81 = .ok (.iload 4, 2) := by decide +kernel
theorem dX5_stir_83 : decode cX5_stir 83 = .ok (.ireturn, 1) := by decide +kernel
theorem dX5_stir_84 : decode cX5_stir 84 = .ok (.iinc 4 1, 3) := by decide +kernel
theorem dX5_stir_87 : decode cX5_stir 87 = .ok (.goto (-38), 3) := by decide +kernel
theorem dX5_stir_90 : decode cX5_stir 90 = .ok (.ldc 210, 2) := by decide +kernel
theorem dX5_stir_92 : decode cX5_stir 92 = .ok (.ireturn, 1) := by decide +kernel
theorem dX5_share_0 : decode cX5_share 0 = .ok (.aload_n 0, 1) := by decide +kernel
theorem dX5_share_1 : decode cX5_share 1 = .ok (.getfield 33, 3) := by decide +kernel
theorem dX5_share_4 : decode cX5_share 4 = .ok (.iload_n 1, 1) := by decide +kernel
theorem dX5_share_5 : decode cX5_share 5 = .ok (.invokevirtual 150, 3) := by decide +kernel
theorem dX5_share_8 : decode cX5_share 8 = .ok (.ifCond .eq 14, 3) := by decide +kernel
theorem dX5_share_11 : decode cX5_share 11 = .ok (.iload_n 2, 1) := by decide +kernel
theorem dX5_share_12 : decode cX5_share 12 = .ok (.iconst 0, 1) := by decide +kernel
theorem dX5_share_13 : decode cX5_share 13 = .ok (.sipush 999, 3) := by decide +kernel
theorem dX5_share_16 : decode cX5_share 16 = .ok (.invokestatic 98, 3) := by decide +kernel
theorem dX5_share_19 : decode cX5_share 19 = .ok (.ifCond .ne 6, 3) := by decide +kernel
theorem dX5_share_22 : decode cX5_share 22 = .ok (.ldc 64, 2) := by decide +kernel
theorem dX5_share_24 : decode cX5_share 24 = .ok (.ireturn, 1) := by decide +kernel
theorem dX5_share_25 : decode cX5_share 25 = .ok (.aload_n 0, 1) := by decide +kernel
theorem dX5_share_26 : decode cX5_share 26 = .ok (.getfield 33, 3) := by decide +kernel
theorem dX5_share_29 : decode cX5_share 29 = .ok (.iconst 0, 1) := by decide +kernel
theorem dX5_share_30 : decode cX5_share 30 = .ok (.invokevirtual 198, 3) := by decide +kernel
theorem dX5_share_33 : decode cX5_share 33 = .ok (.istore_n 3, 1) := by decide +kernel
theorem dX5_share_34 : decode cX5_share 34 = .ok (.iload_n 3, 1) := by decide +kernel
theorem dX5_share_35 : decode cX5_share 35 = .ok (.ifCond .eq 14, 3) := by decide +kernel
theorem dX5_share_38 : decode cX5_share 38 = .ok (.aload_n 0, 1) := by decide +kernel
theorem dX5_share_39 : decode cX5_share 39 = .ok (.getfield 33, 3) := by decide +kernel
theorem dX5_share_42 : decode cX5_share 42 = .ok (.iload_n 1, 1) := by decide +kernel
theorem dX5_share_43 : decode cX5_share 43 = .ok (.invokevirtual 156, 3) := by decide +kernel
theorem dX5_share_46 : decode cX5_share 46 = .ok (.ifCond .ne 5, 3) := by decide +kernel
theorem dX5_share_49 : decode cX5_share 49 = .ok (.iconst 0, 1) := by decide +kernel
theorem dX5_share_50 : decode cX5_share 50 = .ok (.ireturn, 1) := by decide +kernel
theorem dX5_share_51 : decode cX5_share 51 = .ok (.iload_n 2, 1) := by decide +kernel
theorem dX5_share_52 : decode cX5_share 52 = .ok (.istore 4, 2) := by decide +kernel
theorem dX5_share_54 : decode cX5_share 54 = .ok (.iconst 0, 1) := by decide +kernel
theorem dX5_share_55 : decode cX5_share 55 = .ok (.istore 5, 2) := by decide +kernel
theorem dX5_share_57 : decode cX5_share 57 = .ok (.iconst 0, 1) := by decide +kernel
theorem dX5_share_58 : decode cX5_share 58 = .ok (.istore 6, 2) := by decide +kernel
theorem dX5_share_60 : decode cX5_share 60 = .ok (.iload 6, 2) := by decide +kernel
theorem dX5_share_62 : decode cX5_share 62 = .ok (.aload_n 0, 1) := by decide +kernel
theorem dX5_share_63 : decode cX5_share 63 = .ok (.getfield 33, 3) := by decide +kernel
theorem dX5_share_66 : decode cX5_share 66 = .ok (.getfield 204, 3) := by decide +kernel
theorem dX5_share_69 : decode cX5_share 69 = .ok (.if_icmp .ge 48, 3) := by decide +kernel
theorem dX5_share_72 : decode cX5_share 72 = .ok (.iload 4, 2) := by decide +kernel
theorem dX5_share_74 : decode cX5_share 74 = .ok (.iload_n 2, 1) := by decide +kernel
theorem dX5_share_75 : decode cX5_share 75 = .ok (.aload_n 0, 1) := by decide +kernel
theorem dX5_share_76 : decode cX5_share 76 = .ok (.getfield 33, 3) := by decide +kernel
theorem dX5_share_79 : decode cX5_share 79 = .ok (.iload 6, 2) := by decide +kernel
theorem dX5_share_81 : decode cX5_share 81 = .ok (.invokevirtual 156, 3) := by decide +kernel
theorem dX5_share_84 : decode cX5_share 84 = .ok (.imul, 1) := by decide +kernel
theorem dX5_share_85 : decode cX5_share 85 = .ok (.iload_n 3, 1) := by decide +kernel
theorem dX5_share_86 : decode cX5_share 86 = .ok (.idiv, 1) := by decide +kernel
theorem dX5_share_87 : decode cX5_share 87 = .ok (.isub, 1) := by decide +kernel
theorem dX5_share_88 : decode cX5_share 88 = .ok (.istore 4, 2) := by decide +kernel
theorem dX5_share_90 : decode cX5_share 90 = .ok (.iload 6, 2) := by decide +kernel
theorem dX5_share_92 : decode cX5_share 92 = .ok (.iload_n 1, 1) := by decide +kernel
theorem dX5_share_93 : decode cX5_share 93 = .ok (.if_icmp .ge 18, 3) := by decide +kernel
theorem dX5_share_96 : decode cX5_share 96 = .ok (.aload_n 0, 1) := by decide +kernel
theorem dX5_share_97 : decode cX5_share 97 = .ok (.getfield 33, 3) := by decide +kernel
theorem dX5_share_100 : decode cX5_share 100 = .ok (.iload 6, 2) := by decide +kernel
theorem dX5_share_102 : decode cX5_share 102 = .ok (.invokevirtual 156, 3) := by decide +kernel
theorem dX5_share_105 : decode cX5_share 105 = .ok (.ifCond .le 6, 3) := by decide +kernel
theorem dX5_share_108 : decode cX5_share 108 = .ok (.iinc 5 1, 3) := by decide +kernel
theorem dX5_share_111 : decode cX5_share 111 = .ok (.iinc 6 1, 3) := by decide +kernel
theorem dX5_share_114 : decode cX5_share 114 = .ok (.goto (-54), 3) := by decide +kernel
theorem dX5_share_117 : decode cX5_share 117 = .ok (.iload_n 2, 1) := by decide +kernel
theorem dX5_share_118 : decode cX5_share 118 = .ok (.aload_n 0, 1) := by decide +kernel
theorem dX5_share_119 : decode cX5_share 119 = .ok (.getfield 33, 3) := by decide +kernel
theorem dX5_share_122 : decode cX5_share 122 = .ok (.iload_n 1, 1) := by decide +kernel
theorem dX5_share_123 : decode cX5_share 123 = .ok (.invokevirtual 156, 3) := by decide +kernel
theorem dX5_share_126 : decode cX5_share 126 = .ok (.imul, 1) := by decide +kernel
theorem dX5_share_127 : decode cX5_share 127 = .ok (.iload_n 3, 1) := by decide +kernel
theorem dX5_share_128 : decode cX5_share 128 = .ok (.idiv, 1) := by decide +kernel
theorem dX5_share_129 : decode cX5_share 129 = .ok (.iload 5, 2) := by decide +kernel
theorem dX5_share_131 : decode cX5_share 131 = .ok (.iload 4, 2) := by decide +kernel
theorem dX5_share_133 : decode cX5_share 133 = .ok (.if_icmp .ge 7, 3) := by decide +kernel
theorem dX5_share_136 : decode cX5_share 136 = .ok (.iconst 1, 1) := by decide +kernel
theorem dX5_share_137 : decode cX5_share 137 = .ok (.goto 4, 3) := by decide +kernel
theorem dX5_share_140 : decode cX5_share 140 = .ok (.iconst 0, 1) := by decide +kernel
theorem dX5_share_141 : decode cX5_share 141 = .ok (.iadd, 1) := by decide +kernel
theorem dX5_share_142 : decode cX5_share 142 = .ok (.ireturn, 1) := by decide +kernel
theorem dX5_fits_0 : decode cX5_fits 0 = .ok (.aload_n 0, 1) := by decide +kernel
theorem dX5_fits_1 : decode cX5_fits 1 = .ok (.getfield 33, 3) := by decide +kernel
theorem dX5_fits_4 : decode cX5_fits 4 = .ok (.iload_n 1, 1) := by decide +kernel
theorem dX5_fits_5 : decode cX5_fits 5 = .ok (.invokevirtual 150, 3) := by decide +kernel
theorem dX5_fits_8 : decode cX5_fits 8 = .ok (.ifCond .eq 31, 3) := by decide +kernel
theorem dX5_fits_11 : decode cX5_fits 11 = .ok (.iload_n 2, 1) := by decide +kernel
theorem dX5_fits_12 : decode cX5_fits 12 = .ok (.invokestatic 57, 3) := by decide +kernel
theorem dX5_fits_15 : decode cX5_fits 15 = .ok (.ifCond .eq 24, 3) := by decide +kernel
theorem dX5_fits_18 : decode cX5_fits 18 = .ok (.iload 4, 2) := by decide +kernel
theorem dX5_fits_20 : decode cX5_fits 20 = .ok (.iconst 1, 1) := by decide +kernel
theorem dX5_fits_21 : decode cX5_fits 21 = .ok (.bipush 12, 2) := by decide +kernel
theorem dX5_fits_23 : decode cX5_fits 23 = .ok (.invokestatic 98, 3) := by decide +kernel
theorem dX5_fits_26 : decode cX5_fits 26 = .ok (.ifCond .eq 13, 3) := by decide +kernel
theorem dX5_fits_29 : decode cX5_fits 29 = .ok (.iload 5, 2) := by decide +kernel
theorem dX5_fits_31 : decode cX5_fits 31 = .ok (.iconst 0, 1) := by decide +kernel
theorem dX5_fits_32 : decode cX5_fits 32 = .ok (.iconst 4, 1) := by decide +kernel
theorem dX5_fits_33 : decode cX5_fits 33 = .ok (.invokestatic 98, 3) := by decide +kernel
theorem dX5_fits_36 : decode cX5_fits 36 = .ok (.ifCond .ne 6, 3) := by decide +kernel
theorem dX5_fits_39 : decode cX5_fits 39 = .ok (.ldc 64, 2) := by decide +kernel
theorem dX5_fits_41 : decode cX5_fits 41 = .ok (.ireturn, 1) := by decide +kernel
theorem dX5_fits_42 : decode cX5_fits 42 = .ok (.aload_n 0, 1) := by decide +kernel
theorem dX5_fits_43 : decode cX5_fits 43 = .ok (.getfield 33, 3) := by decide +kernel
theorem dX5_fits_46 : decode cX5_fits 46 = .ok (.iload_n 1, 1) := by decide +kernel
theorem dX5_fits_47 : decode cX5_fits 47 = .ok (.invokevirtual 156, 3) := by decide +kernel
theorem dX5_fits_50 : decode cX5_fits 50 = .ok (.ifCond .ne 6, 3) := by decide +kernel
theorem dX5_fits_53 : decode cX5_fits 53 = .ok (.ldc 136, 2) := by decide +kernel
theorem dX5_fits_55 : decode cX5_fits 55 = .ok (.ireturn, 1) := by decide +kernel
theorem dX5_fits_56 : decode cX5_fits 56 = .ok (.aload_n 0, 1) := by decide +kernel
theorem dX5_fits_57 : decode cX5_fits 57 = .ok (.getfield 10, 3) := by decide +kernel
theorem dX5_fits_60 : decode cX5_fits 60 = .ok (.iload_n 2, 1) := by decide +kernel
theorem dX5_fits_61 : decode cX5_fits 61 = .ok (.invokevirtual 76, 3) := by decide +kernel
theorem dX5_fits_64 : decode cX5_fits 64 = .ok (.ifCond .eq 9, 3) := by decide +kernel
theorem dX5_fits_67 : decode cX5_fits 67 = .ok (.aload_n 0, 1) := by decide +kernel
theorem dX5_fits_68 : decode cX5_fits 68 = .ok (.iconst 1, 1) := by decide +kernel
theorem dX5_fits_69 : decode cX5_fits 69 = .ok (.invokevirtual 65, 3) := by decide +kernel
theorem dX5_fits_72 : decode cX5_fits 72 = .ok (.ireturn, 1) := by decide +kernel
theorem dX5_fits_73 : decode cX5_fits 73 = .ok (.aload_n 0, 1) := by decide +kernel
theorem dX5_fits_74 : decode cX5_fits 74 = .ok (.getfield 10, 3) := by decide +kernel
theorem dX5_fits_77 : decode cX5_fits 77 = .ok (.iload_n 2, 1) := by decide +kernel
theorem dX5_fits_78 : decode cX5_fits 78 = .ok (.iload_n 3, 1) := by decide +kernel
theorem dX5_fits_79 : decode cX5_fits 79 = .ok (.iload 4, 2) := by decide +kernel
theorem dX5_fits_81 : decode cX5_fits 81 = .ok (.invokevirtual 79, 3) := by decide +kernel
theorem dX5_fits_84 : decode cX5_fits 84 = .ok (.ifCond .ne 9, 3) := by decide +kernel
theorem dX5_fits_87 : decode cX5_fits 87 = .ok (.aload_n 0, 1) := by decide +kernel
theorem dX5_fits_88 : decode cX5_fits 88 = .ok (.iconst 2, 1) := by decide +kernel
theorem dX5_fits_89 : decode cX5_fits 89 = .ok (.invokevirtual 65, 3) := by decide +kernel
theorem dX5_fits_92 : decode cX5_fits 92 = .ok (.ireturn, 1) := by decide +kernel
theorem dX5_fits_93 : decode cX5_fits 93 = .ok (.aload_n 0, 1) := by decide +kernel
theorem dX5_fits_94 : decode cX5_fits 94 = .ok (.getfield 10, 3) := by decide +kernel
theorem dX5_fits_97 : decode cX5_fits 97 = .ok (.getfield 216, 3) := by decide +kernel
theorem dX5_fits_100 : decode cX5_fits 100 = .ok (.iload_n 2, 1) := by decide +kernel
theorem dX5_fits_101 : decode cX5_fits 101 = .ok (.aaload, 1) := by decide +kernel
theorem dX5_fits_102 : decode cX5_fits 102 = .ok (.astore 6, 2) := by decide +kernel
theorem dX5_fits_104 : decode cX5_fits 104 = .ok (.iload 5, 2) := by decide +kernel
theorem dX5_fits_106 : decode cX5_fits 106 = .ok (.tableswitch 90 0 3 #[30, 45, 60, 75], 30) := by decide +kernel
theorem dX5_fits_136 : decode cX5_fits 136 = .ok (.aload_n 0, 1) := by decide +kernel
theorem dX5_fits_137 : decode cX5_fits 137 = .ok (.aload_n 0, 1) := by decide +kernel
theorem dX5_fits_138 : decode cX5_fits 138 = .ok (.iload_n 1, 1) := by decide +kernel
theorem dX5_fits_139 : decode cX5_fits 139 = .ok (.aload 6, 2) := by decide +kernel
theorem dX5_fits_141 : decode cX5_fits 141 = .ok (.iload_n 3, 1) := by decide +kernel
theorem dX5_fits_142 : decode cX5_fits 142 = .ok (.iload 4, 2) := by decide +kernel
theorem dX5_fits_144 : decode cX5_fits 144 = .ok (.invokevirtual 220, 3) := by decide +kernel
theorem dX5_fits_147 : decode cX5_fits 147 = .ok (.invokevirtual 73, 3) := by decide +kernel
theorem dX5_fits_150 : decode cX5_fits 150 = .ok (.ireturn, 1) := by decide +kernel
theorem dX5_fits_151 : decode cX5_fits 151 = .ok (.aload_n 0, 1) := by decide +kernel
theorem dX5_fits_152 : decode cX5_fits 152 = .ok (.aload_n 0, 1) := by decide +kernel
theorem dX5_fits_153 : decode cX5_fits 153 = .ok (.iload_n 1, 1) := by decide +kernel
theorem dX5_fits_154 : decode cX5_fits 154 = .ok (.aload 6, 2) := by decide +kernel
theorem dX5_fits_156 : decode cX5_fits 156 = .ok (.iload_n 3, 1) := by decide +kernel
theorem dX5_fits_157 : decode cX5_fits 157 = .ok (.iload 4, 2) := by decide +kernel
theorem dX5_fits_159 : decode cX5_fits 159 = .ok (.invokevirtual 224, 3) := by decide +kernel
theorem dX5_fits_162 : decode cX5_fits 162 = .ok (.invokevirtual 73, 3) := by decide +kernel
theorem dX5_fits_165 : decode cX5_fits 165 = .ok (.ireturn, 1) := by decide +kernel
theorem dX5_fits_166 : decode cX5_fits 166 = .ok (.aload_n 0, 1) := by decide +kernel
theorem dX5_fits_167 : decode cX5_fits 167 = .ok (.aload_n 0, 1) := by decide +kernel
theorem dX5_fits_168 : decode cX5_fits 168 = .ok (.iload_n 1, 1) := by decide +kernel
theorem dX5_fits_169 : decode cX5_fits 169 = .ok (.aload 6, 2) := by decide +kernel
theorem dX5_fits_171 : decode cX5_fits 171 = .ok (.iload_n 3, 1) := by decide +kernel
theorem dX5_fits_172 : decode cX5_fits 172 = .ok (.iload 4, 2) := by decide +kernel
theorem dX5_fits_174 : decode cX5_fits 174 = .ok (.invokevirtual 227, 3) := by decide +kernel
theorem dX5_fits_177 : decode cX5_fits 177 = .ok (.invokevirtual 73, 3) := by decide +kernel
theorem dX5_fits_180 : decode cX5_fits 180 = .ok (.ireturn, 1) := by decide +kernel
theorem dX5_fits_181 : decode cX5_fits 181 = .ok (.aload_n 0, 1) := by decide +kernel
theorem dX5_fits_182 : decode cX5_fits 182 = .ok (.aload_n 0, 1) := by decide +kernel
theorem dX5_fits_183 : decode cX5_fits 183 = .ok (.iload_n 1, 1) := by decide +kernel
theorem dX5_fits_184 : decode cX5_fits 184 = .ok (.aload 6, 2) := by decide +kernel
theorem dX5_fits_186 : decode cX5_fits 186 = .ok (.iload_n 3, 1) := by decide +kernel
theorem dX5_fits_187 : decode cX5_fits 187 = .ok (.iload 4, 2) := by decide +kernel
theorem dX5_fits_189 : decode cX5_fits 189 = .ok (.invokevirtual 230, 3) := by decide +kernel
theorem dX5_fits_192 : decode cX5_fits 192 = .ok (.invokevirtual 73, 3) := by decide +kernel
theorem dX5_fits_195 : decode cX5_fits 195 = .ok (.ireturn, 1) := by decide +kernel
theorem dX5_fits_196 : decode cX5_fits 196 = .ok (.aload_n 0, 1) := by decide +kernel
theorem dX5_fits_197 : decode cX5_fits 197 = .ok (.aload_n 0, 1) := by decide +kernel
theorem dX5_fits_198 : decode cX5_fits 198 = .ok (.iload_n 1, 1) := by decide +kernel
theorem dX5_fits_199 : decode cX5_fits 199 = .ok (.aload 6, 2) := by decide +kernel
theorem dX5_fits_201 : decode cX5_fits 201 = .ok (.iload_n 3, 1) := by decide +kernel
theorem dX5_fits_202 : decode cX5_fits 202 = .ok (.iload 4, 2) := by decide +kernel
theorem dX5_fits_204 : decode cX5_fits 204 = .ok (.invokevirtual 233, 3) := by decide +kernel
theorem dX5_fits_207 : decode cX5_fits 207 = .ok (.invokevirtual 73, 3) := by decide +kernel
theorem dX5_fits_210 : decode cX5_fits 210 = .ok (.ireturn, 1) := by decide +kernel
theorem dX5_chance_0 : decode cX5_chance 0 = .ok (.aload_n 0, 1) := by decide +kernel
theorem dX5_chance_1 : decode cX5_chance 1 = .ok (.getfield 33, 3) := by decide +kernel
theorem dX5_chance_4 : decode cX5_chance 4 = .ok (.iload_n 1, 1) := by decide +kernel
theorem dX5_chance_5 : decode cX5_chance 5 = .ok (.invokevirtual 150, 3) := by decide +kernel
theorem dX5_chance_8 : decode cX5_chance 8 = .ok (.ifCond .eq 33, 3) := by decide +kernel
theorem dX5_chance_11 : decode cX5_chance 11 = .ok (.iload_n 2, 1) := by decide +kernel
theorem dX5_chance_12 : decode cX5_chance 12 = .ok (.iconst 0, 1) := by decide +kernel
theorem dX5_chance_13 : decode cX5_chance 13 = .ok (.bipush 8, 2) := by decide +kernel
theorem dX5_chance_15 : decode cX5_chance 15 = .ok (.invokestatic 98, 3) := by decide +kernel
theorem dX5_chance_18 : decode cX5_chance 18 = .ok (.ifCond .eq 23, 3) := by decide +kernel
theorem dX5_chance_21 : decode cX5_chance 21 = .ok (.iload_n 3, 1) := by decide +kernel
theorem dX5_chance_22 : decode cX5_chance 22 = .ok (.iconst 0, 1) := by decide +kernel
theorem dX5_chance_23 : decode cX5_chance 23 = .ok (.bipush 10, 2) := by decide +kernel
theorem dX5_chance_25 : decode cX5_chance 25 = .ok (.invokestatic 98, 3) := by decide +kernel
theorem dX5_chance_28 : decode cX5_chance 28 = .ok (.ifCond .eq 13, 3) := by decide +kernel
theorem dX5_chance_31 : decode cX5_chance 31 = .ok (.iload 4, 2) := by decide +kernel
theorem dX5_chance_33 : decode cX5_chance 33 = .ok (.iconst 0, 1) := by decide +kernel
theorem dX5_chance_34 : decode cX5_chance 34 = .ok (.iconst 1, 1) := by decide +kernel
theorem dX5_chance_35 : decode cX5_chance 35 = .ok (.invokestatic 98, 3) := by decide +kernel
theorem dX5_chance_38 : decode cX5_chance 38 = .ok (.ifCond .ne 6, 3) := by decide +kernel
theorem dX5_chance_41 : decode cX5_chance 41 = .ok (.ldc 64, 2) := by decide +kernel
theorem dX5_chance_43 : decode cX5_chance 43 = .ok (.ireturn, 1) := by decide +kernel
theorem dX5_chance_44 : decode cX5_chance 44 = .ok (.iconst 0, 1) := by decide +kernel
theorem dX5_chance_45 : decode cX5_chance 45 = .ok (.istore 5, 2) := by decide +kernel
theorem dX5_chance_47 : decode cX5_chance 47 = .ok (.iconst 0, 1) := by decide +kernel
theorem dX5_chance_48 : decode cX5_chance 48 = .ok (.istore 6, 2) := by decide +kernel
theorem dX5_chance_50 : decode cX5_chance 50 = .ok (.iload 6, 2) := by decide +kernel
theorem dX5_chance_52 : decode cX5_chance 52 = .ok (.iconst 1, 1) := by decide +kernel
theorem dX5_chance_53 : decode cX5_chance 53 = .ok (.iload_n 2, 1) := by decide +kernel
theorem dX5_chance_54 : decode cX5_chance 54 = .ok (.ishl, 1) := by decide +kernel
theorem dX5_chance_55 : decode cX5_chance 55 = .ok (.if_icmp .ge 56, 3) := by decide +kernel
theorem dX5_chance_58 : decode cX5_chance 58 = .ok (.aload_n 0, 1) := by decide +kernel
theorem dX5_chance_59 : decode cX5_chance 59 = .ok (.getfield 33, 3) := by decide +kernel
theorem dX5_chance_62 : decode cX5_chance 62 = .ok (.iload_n 1, 1) := by decide +kernel
theorem dX5_chance_63 : decode cX5_chance 63 = .ok (.iload_n 2, 1) := by decide +kernel
theorem dX5_chance_64 : decode cX5_chance 64 = .ok (.iload 6, 2) := by decide +kernel
theorem dX5_chance_66 : decode cX5_chance 66 = .ok (.invokevirtual 236, 3) := by decide +kernel
theorem dX5_chance_69 : decode cX5_chance 69 = .ok (.invokestatic 179, 3) := by decide +kernel
theorem dX5_chance_72 : decode cX5_chance 72 = .ok (.ifCond .eq 33, 3) := by decide +kernel
theorem dX5_chance_75 : decode cX5_chance 75 = .ok (.iload 6, 2) := by decide +kernel
theorem dX5_chance_77 : decode cX5_chance 77 = .ok (.invokestatic 211, 3) := by decide +kernel
theorem dX5_chance_80 : decode cX5_chance 80 = .ok (.istore 7, 2) := by decide +kernel
theorem dX5_chance_82 : decode cX5_chance 82 = .ok (.iload 5, 2) := by decide +kernel
theorem dX5_chance_84 : decode cX5_chance 84 = .ok (.iload_n 3, 1) := by decide +kernel
theorem dX5_chance_85 : decode cX5_chance 85 = .ok (.iload 7, 2) := by decide +kernel
theorem dX5_chance_87 : decode cX5_chance 87 = .ok (.invokestatic 239, 3) := by decide +kernel
theorem dX5_chance_90 : decode cX5_chance 90 = .ok (.bipush 10, 2) := by decide +kernel
theorem dX5_chance_92 : decode cX5_chance 92 = .ok (.iload_n 3, 1) := by decide +kernel
theorem dX5_chance_93 : decode cX5_chance 93 = .ok (.isub, 1) := by decide +kernel
theorem dX5_chance_94 : decode cX5_chance 94 = .ok (.iload_n 2, 1) := by decide +kernel
theorem dX5_chance_95 : decode cX5_chance 95 = .ok (.iload 7, 2) := by decide +kernel
theorem dX5_chance_97 : decode cX5_chance 97 = .ok (.isub, 1) := by decide +kernel
theorem dX5_chance_98 : decode cX5_chance 98 = .ok (.invokestatic 239, 3) := by decide +kernel
theorem dX5_chance_101 : decode cX5_chance 101 = .ok (.imul, 1) := by decide +kernel
theorem dX5_chance_102 : decode cX5_chance 102 = .ok (.iadd, 1) := by decide +kernel
theorem dX5_chance_103 : decode cX5_chance 103 = .ok (.istore 5, 2) := by decide +kernel
theorem dX5_chance_105 : decode cX5_chance 105 = .ok (.iinc 6 1, 3) := by decide +kernel
theorem dX5_chance_108 : decode cX5_chance 108 = .ok (.goto (-58), 3) := by decide +kernel
theorem dX5_chance_111 : decode cX5_chance 111 = .ok (.bipush 10, 2) := by decide +kernel
theorem dX5_chance_113 : decode cX5_chance 113 = .ok (.iload_n 2, 1) := by decide +kernel
theorem dX5_chance_114 : decode cX5_chance 114 = .ok (.invokestatic 239, 3) := by decide +kernel
theorem dX5_chance_117 : decode cX5_chance 117 = .ok (.istore 6, 2) := by decide +kernel
theorem dX5_chance_119 : decode cX5_chance 119 = .ok (.iload 5, 2) := by decide +kernel
theorem dX5_chance_121 : decode cX5_chance 121 = .ok (.iload 6, 2) := by decide +kernel
theorem dX5_chance_123 : decode cX5_chance 123 = .ok (.invokestatic 242, 3) := by decide +kernel
theorem dX5_chance_126 : decode cX5_chance 126 = .ok (.istore 7, 2) := by decide +kernel
theorem dX5_chance_128 : decode cX5_chance 128 = .ok (.iload 4, 2) := by decide +kernel
theorem dX5_chance_130 : decode cX5_chance 130 = .ok (.ifCond .ne 8, 3) := by decide +kernel
theorem dX5_chance_133 : decode cX5_chance 133 = .ok (.iload 5, 2) := by decide +kernel
theorem dX5_chance_135 : decode cX5_chance 135 = .ok (.goto 5, 3) := by decide +kernel
theorem dX5_chance_138 : decode cX5_chance 138 = .ok (.iload 6, 2) := by decide +kernel
theorem dX5_chance_140 : decode cX5_chance 140 = .ok (.iload 7, 2) := by decide +kernel
theorem dX5_chance_142 : decode cX5_chance 142 = .ok (.idiv, 1) := by decide +kernel
theorem dX5_chance_143 : decode cX5_chance 143 = .ok (.ireturn, 1) := by decide +kernel
theorem dX5_drawn_0 : decode cX5_drawn 0 = .ok (.aload_n 0, 1) := by decide +kernel
theorem dX5_drawn_1 : decode cX5_drawn 1 = .ok (.invokevirtual 133, 3) := by decide +kernel
theorem dX5_drawn_4 : decode cX5_drawn 4 = .ok (.ifCond .ne 6, 3) := by decide +kernel
theorem dX5_drawn_7 : decode cX5_drawn 7 = .ok (.ldc 136, 2) := by decide +kernel
theorem dX5_drawn_9 : decode cX5_drawn 9 = .ok (.ireturn, 1) := by decide +kernel
theorem dX5_drawn_10 : decode cX5_drawn 10 = .ok (.iload_n 1, 1) := by decide +kernel
theorem dX5_drawn_11 : decode cX5_drawn 11 = .ok (.iconst 0, 1) := by decide +kernel
theorem dX5_drawn_12 : decode cX5_drawn 12 = .ok (.bipush 60, 2) := by decide +kernel
theorem dX5_drawn_14 : decode cX5_drawn 14 = .ok (.invokestatic 98, 3) := by decide +kernel
theorem dX5_drawn_17 : decode cX5_drawn 17 = .ok (.ifCond .eq 22, 3) := by decide +kernel
theorem dX5_drawn_20 : decode cX5_drawn 20 = .ok (.iload_n 2, 1) := by decide +kernel
theorem dX5_drawn_21 : decode cX5_drawn 21 = .ok (.iconst 1, 1) := by decide +kernel
theorem dX5_drawn_22 : decode cX5_drawn 22 = .ok (.ldc 245, 2) := by decide +kernel
theorem dX5_drawn_24 : decode cX5_drawn 24 = .ok (.invokestatic 98, 3) := by decide +kernel
theorem dX5_drawn_27 : decode cX5_drawn 27 = .ok (.ifCond .eq 12, 3) := by decide +kernel
theorem dX5_drawn_30 : decode cX5_drawn 30 = .ok (.iload_n 3, 1) := by decide +kernel
theorem dX5_drawn_31 : decode cX5_drawn 31 = .ok (.iconst 0, 1) := by decide +kernel
theorem dX5_drawn_32 : decode cX5_drawn 32 = .ok (.iconst 1, 1) := by decide +kernel
theorem dX5_drawn_33 : decode cX5_drawn 33 = .ok (.invokestatic 98, 3) := by decide +kernel
theorem dX5_drawn_36 : decode cX5_drawn 36 = .ok (.ifCond .ne 6, 3) := by decide +kernel
theorem dX5_drawn_39 : decode cX5_drawn 39 = .ok (.ldc 64, 2) := by decide +kernel
theorem dX5_drawn_41 : decode cX5_drawn 41 = .ok (.ireturn, 1) := by decide +kernel
theorem dX5_drawn_42 : decode cX5_drawn 42 = .ok (.aload_n 0, 1) := by decide +kernel
theorem dX5_drawn_43 : decode cX5_drawn 43 = .ok (.getfield 37, 3) := by decide +kernel
theorem dX5_drawn_46 : decode cX5_drawn 46 = .ok (.aload_n 0, 1) := by decide +kernel
theorem dX5_drawn_47 : decode cX5_drawn 47 = .ok (.getfield 33, 3) := by decide +kernel
theorem dX5_drawn_50 : decode cX5_drawn 50 = .ok (.invokevirtual 120, 3) := by decide +kernel
theorem dX5_drawn_53 : decode cX5_drawn 53 = .ok (.iload_n 2, 1) := by decide +kernel
theorem dX5_drawn_54 : decode cX5_drawn 54 = .ok (.i2l, 1) := by decide +kernel
theorem dX5_drawn_55 : decode cX5_drawn 55 = .ok (.lstore 4, 2) := by decide +kernel
theorem dX5_drawn_57 : decode cX5_drawn 57 = .ok (.iconst 0, 1) := by decide +kernel
theorem dX5_drawn_58 : decode cX5_drawn 58 = .ok (.istore 6, 2) := by decide +kernel
theorem dX5_drawn_60 : decode cX5_drawn 60 = .ok (.iconst 0, 1) := by decide +kernel
theorem dX5_drawn_61 : decode cX5_drawn 61 = .ok (.istore 7, 2) := by decide +kernel
theorem dX5_drawn_63 : decode cX5_drawn 63 = .ok (.iload 7, 2) := by decide +kernel
theorem dX5_drawn_65 : decode cX5_drawn 65 = .ok (.iload_n 1, 1) := by decide +kernel
theorem dX5_drawn_66 : decode cX5_drawn 66 = .ok (.if_icmp .ge 58, 3) := by decide +kernel
theorem dX5_drawn_69 : decode cX5_drawn 69 = .ok (.lload 4, 2) := by decide +kernel
theorem dX5_drawn_71 : decode cX5_drawn 71 = .ok (.ldc2_w 246, 3) := by decide +kernel
theorem dX5_drawn_74 : decode cX5_drawn 74 = .ok (.lmul, 1) := by decide +kernel
theorem dX5_drawn_75 : decode cX5_drawn 75 = .ok (.ldc2_w 248, 3) := by decide +kernel
theorem dX5_drawn_78 : decode cX5_drawn 78 = .ok (.lrem, 1) := by decide +kernel
theorem dX5_drawn_79 : decode cX5_drawn 79 = .ok (.lstore 4, 2) := by decide +kernel
theorem dX5_drawn_81 : decode cX5_drawn 81 = .ok (.aload_n 0, 1) := by decide +kernel
theorem dX5_drawn_82 : decode cX5_drawn 82 = .ok (.getfield 37, 3) := by decide +kernel
theorem dX5_drawn_85 : decode cX5_drawn 85 = .ok (.lload 4, 2) := by decide +kernel
theorem dX5_drawn_87 : decode cX5_drawn 87 = .ok (.ldc2_w 250, 3) := by decide +kernel
theorem dX5_drawn_90 : decode cX5_drawn 90 = .ok (.lrem, 1) := by decide +kernel
theorem dX5_drawn_91 : decode cX5_drawn 91 = .ok (.l2i, 1) := by decide +kernel
theorem dX5_drawn_92 : decode cX5_drawn 92 = .ok (.putfield 170, 3) := by decide +kernel
theorem dX5_drawn_95 : decode cX5_drawn 95 = .ok (.aload_n 0, 1) := by decide +kernel
theorem dX5_drawn_96 : decode cX5_drawn 96 = .ok (.getfield 37, 3) := by decide +kernel
theorem dX5_drawn_99 : decode cX5_drawn 99 = .ok (.lload 4, 2) := by decide +kernel
theorem dX5_drawn_101 : decode cX5_drawn 101 = .ok (.l2i, 1) := by decide +kernel
theorem dX5_drawn_102 : decode cX5_drawn 102 = .ok (.invokevirtual 252, 3) := by decide +kernel
theorem dX5_drawn_105 : decode cX5_drawn 105 = .ok (.ifCond .eq 6, 3) := by decide +kernel
theorem dX5_drawn_108 : decode cX5_drawn 108 = .ok (.iinc 6 1, 3) := by decide +kernel
theorem dX5_drawn_111 : decode cX5_drawn 111 = .ok (.aload_n 0, 1) := by decide +kernel
theorem dX5_drawn_112 : decode cX5_drawn 112 = .ok (.getfield 37, 3) := by decide +kernel
theorem dX5_drawn_115 : decode cX5_drawn 115 = .ok (.invokevirtual 143, 3) := by decide +kernel
theorem dX5_drawn_118 : decode cX5_drawn 118 = .ok (.iinc 7 1, 3) := by decide +kernel
theorem dX5_drawn_121 : decode cX5_drawn 121 = .ok (.goto (-58), 3) := by decide +kernel
theorem dX5_drawn_124 : decode cX5_drawn 124 = .ok (.iload_n 3, 1) := by decide +kernel
theorem dX5_drawn_125 : decode cX5_drawn 125 = .ok (.ifCond .ne 14, 3) := by decide +kernel
theorem dX5_drawn_128 : decode cX5_drawn 128 = .ok (.aload_n 0, 1) := by decide +kernel
theorem dX5_drawn_129 : decode cX5_drawn 129 = .ok (.getfield 37, 3) := by decide +kernel
theorem dX5_drawn_132 : decode cX5_drawn 132 = .ok (.iconst 0, 1) := by decide +kernel
theorem dX5_drawn_133 : decode cX5_drawn 133 = .ok (.invokevirtual 198, 3) := by decide +kernel
theorem dX5_drawn_136 : decode cX5_drawn 136 = .ok (.goto 5, 3) := by decide +kernel
theorem dX5_drawn_139 : decode cX5_drawn 139 = .ok (.iload 6, 2) := by decide +kernel
theorem dX5_drawn_141 : decode cX5_drawn 141 = .ok (.ireturn, 1) := by decide +kernel
theorem dX5_image_0 : decode cX5_image 0 = .ok (.iload_n 1, 1) := by decide +kernel
theorem dX5_image_1 : decode cX5_image 1 = .ok (.iconst 0, 1) := by decide +kernel
theorem dX5_image_2 : decode cX5_image 2 = .ok (.iconst 1, 1) := by decide +kernel
theorem dX5_image_3 : decode cX5_image 3 = .ok (.invokestatic 98, 3) := by decide +kernel
theorem dX5_image_6 : decode cX5_image 6 = .ok (.ifCond .ne 6, 3) := by decide +kernel
theorem dX5_image_9 : decode cX5_image 9 = .ok (.ldc 64, 2) := by decide +kernel
theorem dX5_image_11 : decode cX5_image 11 = .ok (.ireturn, 1) := by decide +kernel
theorem dX5_image_12 : decode cX5_image 12 = .ok (.aload_n 0, 1) := by decide +kernel
theorem dX5_image_13 : decode cX5_image 13 = .ok (.invokevirtual 133, 3) := by decide +kernel
theorem dX5_image_16 : decode cX5_image 16 = .ok (.ifCond .ne 6, 3) := by decide +kernel
theorem dX5_image_19 : decode cX5_image 19 = .ok (.ldc 136, 2) := by decide +kernel
theorem dX5_image_21 : decode cX5_image 21 = .ok (.ireturn, 1) := by decide +kernel
theorem dX5_image_22 : decode cX5_image 22 = .ok (.aload_n 0, 1) := by decide +kernel
theorem dX5_image_23 : decode cX5_image 23 = .ok (.getfield 44, 3) := by decide +kernel
theorem dX5_image_26 : decode cX5_image 26 = .ok (.iload_n 1, 1) := by decide +kernel
theorem dX5_image_27 : decode cX5_image 27 = .ok (.aaload, 1) := by decide +kernel
theorem dX5_image_28 : decode cX5_image 28 = .ok (.aload_n 0, 1) := by decide +kernel
theorem dX5_image_29 : decode cX5_image 29 = .ok (.getfield 33, 3) := by decide +kernel
theorem dX5_image_32 : decode cX5_image 32 = .ok (.invokevirtual 120, 3) := by decide +kernel
theorem dX5_image_35 : decode cX5_image 35 = .ok (.iconst 1, 1) := by decide +kernel
theorem dX5_image_36 : decode cX5_image 36 = .ok (.ireturn, 1) := by decide +kernel
theorem dX5_restore_0 : decode cX5_restore 0 = .ok (.iload_n 1, 1) := by decide +kernel
theorem dX5_restore_1 : decode cX5_restore 1 = .ok (.iconst 0, 1) := by decide +kernel
theorem dX5_restore_2 : decode cX5_restore 2 = .ok (.iconst 1, 1) := by decide +kernel
theorem dX5_restore_3 : decode cX5_restore 3 = .ok (.invokestatic 98, 3) := by decide +kernel
theorem dX5_restore_6 : decode cX5_restore 6 = .ok (.ifCond .ne 6, 3) := by decide +kernel
theorem dX5_restore_9 : decode cX5_restore 9 = .ok (.ldc 64, 2) := by decide +kernel
theorem dX5_restore_11 : decode cX5_restore 11 = .ok (.ireturn, 1) := by decide +kernel
theorem dX5_restore_12 : decode cX5_restore 12 = .ok (.aload_n 0, 1) := by decide +kernel
theorem dX5_restore_13 : decode cX5_restore 13 = .ok (.getfield 44, 3) := by decide +kernel
theorem dX5_restore_16 : decode cX5_restore 16 = .ok (.iload_n 1, 1) := by decide +kernel
theorem dX5_restore_17 : decode cX5_restore 17 = .ok (.aaload, 1) := by decide +kernel
theorem dX5_restore_18 : decode cX5_restore 18 = .ok (.getfield 127, 3) := by decide +kernel
theorem dX5_restore_21 : decode cX5_restore 21 = .ok (.ifCond .ne 6, 3) := by decide +kernel
theorem dX5_restore_24 : decode cX5_restore 24 = .ok (.ldc 136, 2) := by decide +kernel
theorem dX5_restore_26 : decode cX5_restore 26 = .ok (.ireturn, 1) := by decide +kernel
theorem dX5_restore_27 : decode cX5_restore 27 = .ok (.aload_n 0, 1) := by decide +kernel
theorem dX5_restore_28 : decode cX5_restore 28 = .ok (.getfield 33, 3) := by decide +kernel
theorem dX5_restore_31 : decode cX5_restore 31 = .ok (.aload_n 0, 1) := by decide +kernel
theorem dX5_restore_32 : decode cX5_restore 32 = .ok (.getfield 44, 3) := by decide +kernel
theorem dX5_restore_35 : decode cX5_restore 35 = .ok (.iload_n 1, 1) := by decide +kernel
theorem dX5_restore_36 : decode cX5_restore 36 = .ok (.aaload, 1) := by decide +kernel
theorem dX5_restore_37 : decode cX5_restore 37 = .ok (.invokevirtual 120, 3) := by decide +kernel
theorem dX5_restore_40 : decode cX5_restore 40 = .ok (.aload_n 0, 1) := by decide +kernel
theorem dX5_restore_41 : decode cX5_restore 41 = .ok (.invokevirtual 124, 3) := by decide +kernel
theorem dX5_restore_44 : decode cX5_restore 44 = .ok (.iconst 1, 1) := by decide +kernel
theorem dX5_restore_45 : decode cX5_restore 45 = .ok (.ireturn, 1) := by decide +kernel
theorem dX5_kind_0 : decode cX5_kind 0 = .ok (.aload_n 0, 1) := by decide +kernel
theorem dX5_kind_1 : decode cX5_kind 1 = .ok (.getfield 33, 3) := by decide +kernel
theorem dX5_kind_4 : decode cX5_kind 4 = .ok (.iload_n 1, 1) := by decide +kernel
theorem dX5_kind_5 : decode cX5_kind 5 = .ok (.invokevirtual 150, 3) := by decide +kernel
theorem dX5_kind_8 : decode cX5_kind 8 = .ok (.ifCond .eq 15, 3) := by decide +kernel
theorem dX5_kind_11 : decode cX5_kind 11 = .ok (.aload_n 0, 1) := by decide +kernel
theorem dX5_kind_12 : decode cX5_kind 12 = .ok (.getfield 33, 3) := by decide +kernel
theorem dX5_kind_15 : decode cX5_kind 15 = .ok (.getfield 255, 3) := by decide +kernel
theorem dX5_kind_18 : decode cX5_kind 18 = .ok (.iload_n 1, 1) := by decide +kernel
theorem dX5_kind_19 : decode cX5_kind 19 = .ok (.iaload, 1) := by decide +kernel
theorem dX5_kind_20 : decode cX5_kind 20 = .ok (.goto 5, 3) := by decide +kernel
theorem dX5_kind_23 : decode cX5_kind 23 = .ok (.ldc 64, 2) := by decide +kernel
theorem dX5_kind_25 : decode cX5_kind 25 = .ok (.ireturn, 1) := by decide +kernel
theorem dX5_as_0 : decode cX5_as 0 = .ok (.aload_n 0, 1) := by decide +kernel
theorem dX5_as_1 : decode cX5_as 1 = .ok (.getfield 33, 3) := by decide +kernel
theorem dX5_as_4 : decode cX5_as 4 = .ok (.iload_n 1, 1) := by decide +kernel
theorem dX5_as_5 : decode cX5_as 5 = .ok (.invokevirtual 150, 3) := by decide +kernel
theorem dX5_as_8 : decode cX5_as 8 = .ok (.ifCond .eq 12, 3) := by decide +kernel
theorem dX5_as_11 : decode cX5_as 11 = .ok (.iload_n 2, 1) := by decide +kernel
theorem dX5_as_12 : decode cX5_as 12 = .ok (.iconst 0, 1) := by decide +kernel
theorem dX5_as_13 : decode cX5_as 13 = .ok (.iconst 5, 1) := by decide +kernel
theorem dX5_as_14 : decode cX5_as 14 = .ok (.invokestatic 98, 3) := by decide +kernel
theorem dX5_as_17 : decode cX5_as 17 = .ok (.ifCond .ne 6, 3) := by decide +kernel
theorem dX5_as_20 : decode cX5_as 20 = .ok (.ldc 64, 2) := by decide +kernel
theorem dX5_as_22 : decode cX5_as 22 = .ok (.ireturn, 1) := by decide +kernel
theorem dX5_as_23 : decode cX5_as 23 = .ok (.aload_n 0, 1) := by decide +kernel
theorem dX5_as_24 : decode cX5_as 24 = .ok (.getfield 33, 3) := by decide +kernel
theorem dX5_as_27 : decode cX5_as 27 = .ok (.getfield 255, 3) := by decide +kernel
theorem dX5_as_30 : decode cX5_as 30 = .ok (.iload_n 1, 1) := by decide +kernel
theorem dX5_as_31 : decode cX5_as 31 = .ok (.iaload, 1) := by decide +kernel
theorem dX5_as_32 : decode cX5_as 32 = .ok (.iload_n 2, 1) := by decide +kernel
theorem dX5_as_33 : decode cX5_as 33 = .ok (.invokestatic 260, 3) := by decide +kernel
theorem dX5_as_36 : decode cX5_as 36 = .ok (.ifCond .ne 9, 3) := by decide +kernel
theorem dX5_as_39 : decode cX5_as 39 = .ok (.aload_n 0, 1) := by decide +kernel
theorem dX5_as_40 : decode cX5_as 40 = .ok (.iconst 3, 1) := by decide +kernel
theorem dX5_as_41 : decode cX5_as 41 = .ok (.invokevirtual 65, 3) := by decide +kernel
theorem dX5_as_44 : decode cX5_as 44 = .ok (.ireturn, 1) := by decide +kernel
theorem dX5_as_45 : decode cX5_as 45 = .ok (.aload_n 0, 1) := by decide +kernel
theorem dX5_as_46 : decode cX5_as 46 = .ok (.iload_n 1, 1) := by decide +kernel
theorem dX5_as_47 : decode cX5_as 47 = .ok (.invokevirtual 73, 3) := by decide +kernel
theorem dX5_as_50 : decode cX5_as 50 = .ok (.ireturn, 1) := by decide +kernel
theorem dX5_ask_0 : decode cX5_ask 0 = .ok (.aload_n 0, 1) := by decide +kernel
theorem dX5_ask_1 : decode cX5_ask 1 = .ok (.getfield 33, 3) := by decide +kernel
theorem dX5_ask_4 : decode cX5_ask 4 = .ok (.iload_n 1, 1) := by decide +kernel
theorem dX5_ask_5 : decode cX5_ask 5 = .ok (.invokevirtual 150, 3) := by decide +kernel
theorem dX5_ask_8 : decode cX5_ask 8 = .ok (.ifCond .eq 12, 3) := by decide +kernel
theorem dX5_ask_11 : decode cX5_ask 11 = .ok (.iload_n 2, 1) := by decide +kernel
theorem dX5_ask_12 : decode cX5_ask 12 = .ok (.iconst 0, 1) := by decide +kernel
theorem dX5_ask_13 : decode cX5_ask 13 = .ok (.iconst 1, 1) := by decide +kernel
theorem dX5_ask_14 : decode cX5_ask 14 = .ok (.invokestatic 98, 3) := by decide +kernel
theorem dX5_ask_17 : decode cX5_ask 17 = .ok (.ifCond .ne 6, 3) := by decide +kernel
theorem dX5_ask_20 : decode cX5_ask 20 = .ok (.ldc 64, 2) := by decide +kernel
theorem dX5_ask_22 : decode cX5_ask 22 = .ok (.ireturn, 1) := by decide +kernel
theorem dX5_ask_23 : decode cX5_ask 23 = .ok (.aload_n 0, 1) := by decide +kernel
theorem dX5_ask_24 : decode cX5_ask 24 = .ok (.getfield 26, 3) := by decide +kernel
theorem dX5_ask_27 : decode cX5_ask 27 = .ok (.aload_n 0, 1) := by decide +kernel
theorem dX5_ask_28 : decode cX5_ask 28 = .ok (.getfield 33, 3) := by decide +kernel
theorem dX5_ask_31 : decode cX5_ask 31 = .ok (.iload_n 1, 1) := by decide +kernel
theorem dX5_ask_32 : decode cX5_ask 32 = .ok (.invokevirtual 263, 3) := by decide +kernel
theorem dX5_ask_35 : decode cX5_ask 35 = .ok (.iload_n 2, 1) := by decide +kernel
theorem dX5_ask_36 : decode cX5_ask 36 = .ok (.ifCond .ne 13, 3) := by decide +kernel
theorem dX5_ask_39 : decode cX5_ask 39 = .ok (.aload_n 0, 1) := by decide +kernel
theorem dX5_ask_40 : decode cX5_ask 40 = .ok (.getfield 26, 3) := by decide +kernel
theorem dX5_ask_43 : decode cX5_ask 43 = .ok (.invokevirtual 267, 3) := by decide +kernel
theorem dX5_ask_46 : decode cX5_ask 46 = .ok (.goto 10, 3) := by decide +kernel
theorem dX5_ask_49 : decode cX5_ask 49 = .ok (.aload_n 0, 1) := by decide +kernel
theorem dX5_ask_50 : decode cX5_ask 50 = .ok (.getfield 26, 3) := by decide +kernel
theorem dX5_ask_53 : decode cX5_ask 53 = .ok (.invokevirtual 270, 3) := by decide +kernel
theorem dX5_ask_56 : decode cX5_ask 56 = .ok (.ireturn, 1) := by decide +kernel
theorem dX5_trace_0 : decode cX5_trace 0 = .ok (.aload_n 0, 1) := by decide +kernel
theorem dX5_trace_1 : decode cX5_trace 1 = .ok (.getfield 26, 3) := by decide +kernel
theorem dX5_trace_4 : decode cX5_trace 4 = .ok (.iload_n 1, 1) := by decide +kernel
theorem dX5_trace_5 : decode cX5_trace 5 = .ok (.invokevirtual 273, 3) := by decide +kernel
theorem dX5_trace_8 : decode cX5_trace 8 = .ok (.ifCond .eq 15, 3) := by decide +kernel
theorem dX5_trace_11 : decode cX5_trace 11 = .ok (.aload_n 0, 1) := by decide +kernel
theorem dX5_trace_12 : decode cX5_trace 12 = .ok (.getfield 26, 3) := by decide +kernel
theorem dX5_trace_15 : decode cX5_trace 15 = .ok (.getfield 276, 3) := by decide +kernel
theorem dX5_trace_18 : decode cX5_trace 18 = .ok (.iload_n 1, 1) := by decide +kernel
theorem dX5_trace_19 : decode cX5_trace 19 = .ok (.iaload, 1) := by decide +kernel
theorem dX5_trace_20 : decode cX5_trace 20 = .ok (.goto 5, 3) := by decide +kernel
theorem dX5_trace_23 : decode cX5_trace 23 = .ok (.ldc 210, 2) := by decide +kernel
theorem dX5_trace_25 : decode cX5_trace 25 = .ok (.ireturn, 1) := by decide +kernel
theorem dX5_count_0 : decode cX5_count 0 = .ok (.iload_n 1, 1) := by decide +kernel
theorem dX5_count_1 : decode cX5_count 1 = .ok (.tableswitch 133 0 9 #[55, 63, 71, 79, 87, 95, 103, 112, 120, 125], 55) := by decide +kernel
theorem dX5_count_56 : decode cX5_count 56 = .ok (.aload_n 0, 1) := by decide +kernel
theorem dX5_count_57 : decode cX5_count 57 = .ok (.getfield 10, 3) := by decide +kernel
theorem dX5_count_60 : decode cX5_count 60 = .ok (.invokevirtual 279, 3) := by decide +kernel
theorem dX5_count_63 : decode cX5_count 63 = .ok (.ireturn, 1) := by decide +kernel
theorem dX5_count_64 : decode cX5_count 64 = .ok (.aload_n 0, 1) := by decide +kernel
theorem dX5_count_65 : decode cX5_count 65 = .ok (.getfield 33, 3) := by decide +kernel
theorem dX5_count_68 : decode cX5_count 68 = .ok (.getfield 127, 3) := by decide +kernel
theorem dX5_count_71 : decode cX5_count 71 = .ok (.ireturn, 1) := by decide +kernel
theorem dX5_count_72 : decode cX5_count 72 = .ok (.aload_n 0, 1) := by decide +kernel
theorem dX5_count_73 : decode cX5_count 73 = .ok (.getfield 33, 3) := by decide +kernel
theorem dX5_count_76 : decode cX5_count 76 = .ok (.getfield 204, 3) := by decide +kernel
theorem dX5_count_79 : decode cX5_count 79 = .ok (.ireturn, 1) := by decide +kernel
theorem dX5_count_80 : decode cX5_count 80 = .ok (.aload_n 0, 1) := by decide +kernel
theorem dX5_count_81 : decode cX5_count 81 = .ok (.getfield 33, 3) := by decide +kernel
theorem dX5_count_84 : decode cX5_count 84 = .ok (.getfield 137, 3) := by decide +kernel
theorem dX5_count_87 : decode cX5_count 87 = .ok (.ireturn, 1) := by decide +kernel
theorem dX5_count_88 : decode cX5_count 88 = .ok (.aload_n 0, 1) := by decide +kernel
theorem dX5_count_89 : decode cX5_count 89 = .ok (.getfield 33, 3) := by decide +kernel
theorem dX5_count_92 : decode cX5_count 92 = .ok (.getfield 170, 3) := by decide +kernel
theorem dX5_count_95 : decode cX5_count 95 = .ok (.ireturn, 1) := by decide +kernel
theorem dX5_count_96 : decode cX5_count 96 = .ok (.aload_n 0, 1) := by decide +kernel
theorem dX5_count_97 : decode cX5_count 97 = .ok (.getfield 33, 3) := by decide +kernel
theorem dX5_count_100 : decode cX5_count 100 = .ok (.getfield 282, 3) := by decide +kernel
theorem dX5_count_103 : decode cX5_count 103 = .ok (.ireturn, 1) := by decide +kernel
theorem dX5_count_104 : decode cX5_count 104 = .ok (.aload_n 0, 1) := by decide +kernel
theorem dX5_count_105 : decode cX5_count 105 = .ok (.getfield 33, 3) := by decide +kernel
theorem dX5_count_108 : decode cX5_count 108 = .ok (.iconst 0, 1) := by decide +kernel
theorem dX5_count_109 : decode cX5_count 109 = .ok (.invokevirtual 198, 3) := by decide +kernel
theorem dX5_count_112 : decode cX5_count 112 = .ok (.ireturn, 1) := by decide +kernel
theorem dX5_count_113 : decode cX5_count 113 = .ok (.aload_n 0, 1) := by decide +kernel
theorem dX5_count_114 : decode cX5_count 114 = .ok (.getfield 33, 3) := by decide +kernel
theorem dX5_count_117 : decode cX5_count 117 = .ok (.invokevirtual 146, 3) := by decide +kernel
theorem dX5_count_120 : decode cX5_count 120 = .ok (.ireturn, 1) := by decide +kernel
theorem dX5_count_121 : decode cX5_count 121 = .ok (.aload_n 0, 1) := by decide +kernel
theorem dX5_count_122 : decode cX5_count 122 = .ok (.getfield 51, 3) := by decide +kernel
theorem dX5_count_125 : decode cX5_count 125 = .ok (.ireturn, 1) := by decide +kernel
theorem dX5_count_126 : decode cX5_count 126 = .ok (.aload_n 0, 1) := by decide +kernel
theorem dX5_count_127 : decode cX5_count 127 = .ok (.getfield 19, 3) := by decide +kernel
theorem dX5_count_130 : decode cX5_count 130 = .ok (.getfield 285, 3) := by decide +kernel
theorem dX5_count_133 : decode cX5_count 133 = .ok (.ireturn, 1) := by decide +kernel
theorem dX5_count_134 : decode cX5_count 134 = .ok (.ldc 64, 2) := by decide +kernel
theorem dX5_count_136 : decode cX5_count 136 = .ok (.ireturn, 1) := by decide +kernel
theorem dX5_status_0 : decode cX5_status 0 = .ok (.aload_n 0, 1) := by decide +kernel
theorem dX5_status_1 : decode cX5_status 1 = .ok (.getfield 54, 3) := by decide +kernel
theorem dX5_status_4 : decode cX5_status 4 = .ok (.ireturn, 1) := by decide +kernel
theorem dX5_isWithin_0 : decode cX5_isWithin 0 = .ok (.iload_n 1, 1) := by decide +kernel
theorem dX5_isWithin_1 : decode cX5_isWithin 1 = .ok (.iload_n 0, 1) := by decide +kernel
theorem dX5_isWithin_2 : decode cX5_isWithin 2 = .ok (.if_icmp .gt 12, 3) := by decide +kernel
theorem dX5_isWithin_5 : decode cX5_isWithin 5 = .ok (.iload_n 0, 1) := by decide +kernel
theorem dX5_isWithin_6 : decode cX5_isWithin 6 = .ok (.iload_n 2, 1) := by decide +kernel
theorem dX5_isWithin_7 : decode cX5_isWithin 7 = .ok (.if_icmp .gt 7, 3) := by decide +kernel
theorem dX5_isWithin_10 : decode cX5_isWithin 10 = .ok (.iconst 1, 1) := by decide +kernel
theorem dX5_isWithin_11 : decode cX5_isWithin 11 = .ok (.goto 4, 3) := by decide +kernel
theorem dX5_isWithin_14 : decode cX5_isWithin 14 = .ok (.iconst 0, 1) := by decide +kernel
theorem dX5_isWithin_15 : decode cX5_isWithin 15 = .ok (.ireturn, 1) := by decide +kernel
theorem dX5_finding_0 : decode cX5_finding 0 = .ok (.aload_n 0, 1) := by decide +kernel
theorem dX5_finding_1 : decode cX5_finding 1 = .ok (.iload_n 1, 1) := by decide +kernel
theorem dX5_finding_2 : decode cX5_finding 2 = .ok (.putfield 54, 3) := by decide +kernel
theorem dX5_finding_5 : decode cX5_finding 5 = .ok (.ldc_w 288, 3) := by decide +kernel
theorem dX5_finding_8 : decode cX5_finding 8 = .ok (.iload_n 1, 1) := by decide +kernel
theorem dX5_finding_9 : decode cX5_finding 9 = .ok (.isub, 1) := by decide +kernel
theorem dX5_finding_10 : decode cX5_finding 10 = .ok (.ireturn, 1) := by decide +kernel
theorem dX5_unfound_0 : decode cX5_unfound 0 = .ok (.aload_n 0, 1) := by decide +kernel
theorem dX5_unfound_1 : decode cX5_unfound 1 = .ok (.iconst 0, 1) := by decide +kernel
theorem dX5_unfound_2 : decode cX5_unfound 2 = .ok (.putfield 54, 3) := by decide +kernel
theorem dX5_unfound_5 : decode cX5_unfound 5 = .ok (.iload_n 1, 1) := by decide +kernel
theorem dX5_unfound_6 : decode cX5_unfound 6 = .ok (.ireturn, 1) := by decide +kernel
theorem dX5_hasRiver_0 : decode cX5_hasRiver 0 = .ok (.aload_n 0, 1) := by decide +kernel
theorem dX5_hasRiver_1 : decode cX5_hasRiver 1 = .ok (.getfield 33, 3) := by decide +kernel
theorem dX5_hasRiver_4 : decode cX5_hasRiver 4 = .ok (.getfield 127, 3) := by decide +kernel
theorem dX5_hasRiver_7 : decode cX5_hasRiver 7 = .ok (.ifCond .le 7, 3) := by decide +kernel
theorem dX5_hasRiver_10 : decode cX5_hasRiver 10 = .ok (.iconst 1, 1) := by decide +kernel
theorem dX5_hasRiver_11 : decode cX5_hasRiver 11 = .ok (.goto 4, 3) := by decide +kernel
theorem dX5_hasRiver_14 : decode cX5_hasRiver 14 = .ok (.iconst 0, 1) := by decide +kernel
theorem dX5_hasRiver_15 : decode cX5_hasRiver 15 = .ok (.ireturn, 1) := by decide +kernel
theorem dX5_cellOrNone_0 : decode cX5_cellOrNone 0 = .ok (.iload_n 0, 1) := by decide +kernel
theorem dX5_cellOrNone_1 : decode cX5_cellOrNone 1 = .ok (.invokestatic 179, 3) := by decide +kernel
theorem dX5_cellOrNone_4 : decode cX5_cellOrNone 4 = .ok (.ifCond .eq 8, 3) := by decide +kernel
theorem dX5_cellOrNone_7 : decode cX5_cellOrNone 7 = .ok (.ldc 210, 2) := by decide +kernel
theorem dX5_cellOrNone_9 : decode cX5_cellOrNone 9 = .ok (.goto 7, 3) := by decide +kernel
theorem dX5_cellOrNone_12 : decode cX5_cellOrNone 12 = .ok (.iload_n 0, 1) := by decide +kernel
theorem dX5_cellOrNone_13 : decode cX5_cellOrNone 13 = .ok (.invokestatic 182, 3) := by decide +kernel
theorem dX5_cellOrNone_16 : decode cX5_cellOrNone 16 = .ok (.ireturn, 1) := by decide +kernel
theorem dX5_keepAct_0 : decode cX5_keepAct 0 = .ok (.aload_n 0, 1) := by decide +kernel
theorem dX5_keepAct_1 : decode cX5_keepAct 1 = .ok (.getfield 40, 3) := by decide +kernel
theorem dX5_keepAct_4 : decode cX5_keepAct 4 = .ok (.aload_n 0, 1) := by decide +kernel
theorem dX5_keepAct_5 : decode cX5_keepAct 5 = .ok (.getfield 47, 3) := by decide +kernel
theorem dX5_keepAct_8 : decode cX5_keepAct 8 = .ok (.aaload, 1) := by decide +kernel
theorem dX5_keepAct_9 : decode cX5_keepAct 9 = .ok (.aload_n 0, 1) := by decide +kernel
theorem dX5_keepAct_10 : decode cX5_keepAct 10 = .ok (.getfield 33, 3) := by decide +kernel
theorem dX5_keepAct_13 : decode cX5_keepAct 13 = .ok (.invokevirtual 120, 3) := by decide +kernel
theorem dX5_keepAct_16 : decode cX5_keepAct 16 = .ok (.aload_n 0, 1) := by decide +kernel
theorem dX5_keepAct_17 : decode cX5_keepAct 17 = .ok (.aload_n 0, 1) := by decide +kernel
theorem dX5_keepAct_18 : decode cX5_keepAct 18 = .ok (.getfield 47, 3) := by decide +kernel
theorem dX5_keepAct_21 : decode cX5_keepAct 21 = .ok (.iconst 1, 1) := by decide +kernel
theorem dX5_keepAct_22 : decode cX5_keepAct 22 = .ok (.iadd, 1) := by decide +kernel
theorem dX5_keepAct_23 : decode cX5_keepAct 23 = .ok (.bipush 24, 2) := by decide +kernel
theorem dX5_keepAct_25 : decode cX5_keepAct 25 = .ok (.irem, 1) := by decide +kernel
theorem dX5_keepAct_26 : decode cX5_keepAct 26 = .ok (.putfield 47, 3) := by decide +kernel
theorem dX5_keepAct_29 : decode cX5_keepAct 29 = .ok (.aload_n 0, 1) := by decide +kernel
theorem dX5_keepAct_30 : decode cX5_keepAct 30 = .ok (.aload_n 0, 1) := by decide +kernel
theorem dX5_keepAct_31 : decode cX5_keepAct 31 = .ok (.getfield 51, 3) := by decide +kernel
theorem dX5_keepAct_34 : decode cX5_keepAct 34 = .ok (.iconst 1, 1) := by decide +kernel
theorem dX5_keepAct_35 : decode cX5_keepAct 35 = .ok (.iadd, 1) := by decide +kernel
theorem dX5_keepAct_36 : decode cX5_keepAct 36 = .ok (.bipush 24, 2) := by decide +kernel
theorem dX5_keepAct_38 : decode cX5_keepAct 38 = .ok (.invokestatic 289, 3) := by decide +kernel
theorem dX5_keepAct_41 : decode cX5_keepAct 41 = .ok (.putfield 51, 3) := by decide +kernel
theorem dX5_keepAct_44 : decode cX5_keepAct 44 = .ok (.return_, 1) := by decide +kernel
theorem dX5_forgetActs_0 : decode cX5_forgetActs 0 = .ok (.aload_n 0, 1) := by decide +kernel
theorem dX5_forgetActs_1 : decode cX5_forgetActs 1 = .ok (.iconst 0, 1) := by decide +kernel
theorem dX5_forgetActs_2 : decode cX5_forgetActs 2 = .ok (.putfield 47, 3) := by decide +kernel
theorem dX5_forgetActs_5 : decode cX5_forgetActs 5 = .ok (.aload_n 0, 1) := by decide +kernel
theorem dX5_forgetActs_6 : decode cX5_forgetActs 6 = .ok (.iconst 0, 1) := by decide +kernel
theorem dX5_forgetActs_7 : decode cX5_forgetActs 7 = .ok (.putfield 51, 3) := by decide +kernel
theorem dX5_forgetActs_10 : decode cX5_forgetActs 10 = .ok (.return_, 1) := by decide +kernel
theorem dX5_fewestSwift_0 : decode cX5_fewestSwift 0 = .ok (.aload_n 0, 1) := by decide +kernel
theorem dX5_fewestSwift_1 : decode cX5_fewestSwift 1 = .ok (.getfield 33, 3) := by decide +kernel
theorem dX5_fewestSwift_4 : decode cX5_fewestSwift 4 = .ok (.invokevirtual 294, 3) := by decide +kernel
theorem dX5_fewestSwift_7 : decode cX5_fewestSwift 7 = .ok (.ifCond .eq 6, 3) := by decide +kernel
theorem dX5_fewestSwift_10 : decode cX5_fewestSwift 10 = .ok (.ldc 210, 2) := by decide +kernel
theorem dX5_fewestSwift_12 : decode cX5_fewestSwift 12 = .ok (.ireturn, 1) := by decide +kernel
theorem dX5_fewestSwift_13 : decode cX5_fewestSwift 13 = .ok (.aload_n 0, 1) := by decide +kernel
theorem dX5_fewestSwift_14 : decode cX5_fewestSwift 14 = .ok (.getfield 37, 3) := by decide +kernel
theorem dX5_fewestSwift_17 : decode cX5_fewestSwift 17 = .ok (.aload_n 0, 1) := by decide +kernel
theorem dX5_fewestSwift_18 : decode cX5_fewestSwift 18 = .ok (.getfield 33, 3) := by decide +kernel
theorem dX5_fewestSwift_21 : decode cX5_fewestSwift 21 = .ok (.invokevirtual 120, 3) := by decide +kernel
theorem dX5_fewestSwift_24 : decode cX5_fewestSwift 24 = .ok (.iconst 0, 1) := by decide +kernel
theorem dX5_fewestSwift_25 : decode cX5_fewestSwift 25 = .ok (.istore_n 2, 1) := by decide +kernel
theorem dX5_fewestSwift_26 : decode cX5_fewestSwift 26 = .ok (.iload_n 2, 1) := by decide +kernel
theorem dX5_fewestSwift_27 : decode cX5_fewestSwift 27 = .ok (.aload_n 0, 1) := by decide +kernel
theorem dX5_fewestSwift_28 : decode cX5_fewestSwift 28 = .ok (.getfield 33, 3) := by decide +kernel
theorem dX5_fewestSwift_31 : decode cX5_fewestSwift 31 = .ok (.getfield 127, 3) := by decide +kernel
theorem dX5_fewestSwift_34 : decode cX5_fewestSwift 34 = .ok (.if_icmp .gt 66, 3) := by decide +kernel
theorem dX5_fewestSwift_37 : decode cX5_fewestSwift 37 = .ok (.iconst 0, 1) := by decide +kernel
theorem dX5_fewestSwift_38 : decode cX5_fewestSwift 38 = .ok (.istore_n 3, 1) := by decide +kernel
theorem dX5_fewestSwift_39 : decode cX5_fewestSwift 39 = .ok (.iload_n 3, 1) := by decide +kernel
theorem dX5_fewestSwift_40 : decode cX5_fewestSwift 40 = .ok (.iconst 1, 1) := by decide +kernel
theorem dX5_fewestSwift_41 : decode cX5_fewestSwift 41 = .ok (.aload_n 0, 1) := by decide +kernel
theorem dX5_fewestSwift_42 : decode cX5_fewestSwift 42 = .ok (.getfield 33, 3) := by decide +kernel
theorem dX5_fewestSwift_45 : decode cX5_fewestSwift 45 = .ok (.getfield 127, 3) := by decide +kernel
theorem dX5_fewestSwift_48 : decode cX5_fewestSwift 48 = .ok (.ishl, 1) := by decide +kernel
theorem dX5_fewestSwift_49 : decode cX5_fewestSwift 49 = .ok (.if_icmp .ge 45, 3) := by decide +kernel
theorem dX5_fewestSwift_52 : decode cX5_fewestSwift 52 = .ok (.iload_n 3, 1) := by decide +kernel
theorem dX5_fewestSwift_53 : decode cX5_fewestSwift 53 = .ok (.invokestatic 211, 3) := by decide +kernel
theorem dX5_fewestSwift_56 : decode cX5_fewestSwift 56 = .ok (.iload_n 2, 1) := by decide +kernel
theorem dX5_fewestSwift_57 : decode cX5_fewestSwift 57 = .ok (.if_icmp .eq 6, 3) := by decide +kernel
theorem dX5_fewestSwift_60 : decode cX5_fewestSwift 60 = .ok (.goto 28, 3) := by decide +kernel
theorem dX5_fewestSwift_63 : decode cX5_fewestSwift 63 = .ok (.aload_n 0, 1) := by decide +kernel
theorem dX5_fewestSwift_64 : decode cX5_fewestSwift 64 = .ok (.getfield 37, 3) := by decide +kernel
theorem dX5_fewestSwift_67 : decode cX5_fewestSwift 67 = .ok (.aload_n 0, 1) := by decide +kernel
theorem dX5_fewestSwift_68 : decode cX5_fewestSwift 68 = .ok (.getfield 33, 3) := by decide +kernel
theorem dX5_fewestSwift_71 : decode cX5_fewestSwift 71 = .ok (.iload_n 3, 1) := by decide +kernel
theorem dX5_fewestSwift_72 : decode cX5_fewestSwift 72 = .ok (.invokevirtual 297, 3) := by decide +kernel
theorem dX5_fewestSwift_75 : decode cX5_fewestSwift 75 = .ok (.aload_n 0, 1) := by decide +kernel
theorem dX5_fewestSwift_76 : decode cX5_fewestSwift 76 = .ok (.getfield 37, 3) := by decide +kernel
theorem dX5_fewestSwift_79 : decode cX5_fewestSwift 79 = .ok (.iload_n 1, 1) := by decide +kernel
theorem dX5_fewestSwift_80 : decode cX5_fewestSwift 80 = .ok (.invokevirtual 300, 3) := by decide +kernel
theorem dX5_fewestSwift_83 : decode cX5_fewestSwift 83 = .ok (.ifCond .eq 5, 3) := by decide +kernel
theorem dX5_fewestSwift_86 : decode cX5_fewestSwift 86 = .ok (.iload_n 3, 1) := by decide +kernel
theorem dX5_fewestSwift_87 : decode cX5_fewestSwift 87 = .ok (.ireturn, 1) := by decide +kernel
theorem dX5_fewestSwift_88 : decode cX5_fewestSwift 88 = .ok (.iinc 3 1, 3) := by decide +kernel
theorem dX5_fewestSwift_91 : decode cX5_fewestSwift 91 = .ok (.goto (-52), 3) := by decide +kernel
theorem dX5_fewestSwift_94 : decode cX5_fewestSwift 94 = .ok (.iinc 2 1, 3) := by decide +kernel
theorem dX5_fewestSwift_97 : decode cX5_fewestSwift 97 = .ok (.goto (-71), 3) := by decide +kernel
theorem dX5_fewestSwift_100 : decode cX5_fewestSwift 100 = .ok (.ldc 210, 2) := by decide +kernel
theorem dX5_fewestSwift_102 : decode cX5_fewestSwift 102 = .ok (.ireturn, 1) := by decide +kernel
theorem dX5_fittingSorts_0 : decode cX5_fittingSorts 0 = .ok (.iconst 0, 1) := by decide +kernel
theorem dX5_fittingSorts_1 : decode cX5_fittingSorts 1 = .ok (.istore 5, 2) := by decide +kernel
theorem dX5_fittingSorts_3 : decode cX5_fittingSorts 3 = .ok (.iconst 1, 1) := by decide +kernel
theorem dX5_fittingSorts_4 : decode cX5_fittingSorts 4 = .ok (.istore 6, 2) := by decide +kernel
theorem dX5_fittingSorts_6 : decode cX5_fittingSorts 6 = .ok (.iload 6, 2) := by decide +kernel
theorem dX5_fittingSorts_8 : decode cX5_fittingSorts 8 = .ok (.iconst 5, 1) := by decide +kernel
theorem dX5_fittingSorts_9 : decode cX5_fittingSorts 9 = .ok (.if_icmp .gt 43, 3) := by decide +kernel
theorem dX5_fittingSorts_12 : decode cX5_fittingSorts 12 = .ok (.aload_n 0, 1) := by decide +kernel
theorem dX5_fittingSorts_13 : decode cX5_fittingSorts 13 = .ok (.getfield 33, 3) := by decide +kernel
theorem dX5_fittingSorts_16 : decode cX5_fittingSorts 16 = .ok (.iload 6, 2) := by decide +kernel
theorem dX5_fittingSorts_18 : decode cX5_fittingSorts 18 = .ok (.aload_n 0, 1) := by decide +kernel
theorem dX5_fittingSorts_19 : decode cX5_fittingSorts 19 = .ok (.getfield 33, 3) := by decide +kernel
theorem dX5_fittingSorts_22 : decode cX5_fittingSorts 22 = .ok (.getfield 159, 3) := by decide +kernel
theorem dX5_fittingSorts_25 : decode cX5_fittingSorts 25 = .ok (.iload_n 1, 1) := by decide +kernel
theorem dX5_fittingSorts_26 : decode cX5_fittingSorts 26 = .ok (.iaload, 1) := by decide +kernel
theorem dX5_fittingSorts_27 : decode cX5_fittingSorts 27 = .ok (.aload_n 2, 1) := by decide +kernel
theorem dX5_fittingSorts_28 : decode cX5_fittingSorts 28 = .ok (.iload_n 3, 1) := by decide +kernel
theorem dX5_fittingSorts_29 : decode cX5_fittingSorts 29 = .ok (.iload 4, 2) := by decide +kernel
theorem dX5_fittingSorts_31 : decode cX5_fittingSorts 31 = .ok (.invokevirtual 303, 3) := by decide +kernel
theorem dX5_fittingSorts_34 : decode cX5_fittingSorts 34 = .ok (.ifCond .eq 12, 3) := by decide +kernel
theorem dX5_fittingSorts_37 : decode cX5_fittingSorts 37 = .ok (.iload 5, 2) := by decide +kernel
theorem dX5_fittingSorts_39 : decode cX5_fittingSorts 39 = .ok (.iconst 1, 1) := by decide +kernel
theorem dX5_fittingSorts_40 : decode cX5_fittingSorts 40 = .ok (.iload 6, 2) := by decide +kernel
theorem dX5_fittingSorts_42 : decode cX5_fittingSorts 42 = .ok (.ishl, 1) := by decide +kernel
theorem dX5_fittingSorts_43 : decode cX5_fittingSorts 43 = .ok (.ior, 1) := by decide +kernel
theorem dX5_fittingSorts_44 : decode cX5_fittingSorts 44 = .ok (.istore 5, 2) := by decide +kernel
theorem dX5_fittingSorts_46 : decode cX5_fittingSorts 46 = .ok (.iinc 6 1, 3) := by decide +kernel
theorem dX5_fittingSorts_49 : decode cX5_fittingSorts 49 = .ok (.goto (-43), 3) := by decide +kernel
theorem dX5_fittingSorts_52 : decode cX5_fittingSorts 52 = .ok (.iload 5, 2) := by decide +kernel
theorem dX5_fittingSorts_54 : decode cX5_fittingSorts 54 = .ok (.ireturn, 1) := by decide +kernel
theorem dX5_fittingStarts_0 : decode cX5_fittingStarts 0 = .ok (.iconst 0, 1) := by decide +kernel
theorem dX5_fittingStarts_1 : decode cX5_fittingStarts 1 = .ok (.istore 5, 2) := by decide +kernel
theorem dX5_fittingStarts_3 : decode cX5_fittingStarts 3 = .ok (.iconst 0, 1) := by decide +kernel
theorem dX5_fittingStarts_4 : decode cX5_fittingStarts 4 = .ok (.istore 6, 2) := by decide +kernel
theorem dX5_fittingStarts_6 : decode cX5_fittingStarts 6 = .ok (.iload 6, 2) := by decide +kernel
theorem dX5_fittingStarts_8 : decode cX5_fittingStarts 8 = .ok (.aload_n 0, 1) := by decide +kernel
theorem dX5_fittingStarts_9 : decode cX5_fittingStarts 9 = .ok (.getfield 33, 3) := by decide +kernel
theorem dX5_fittingStarts_12 : decode cX5_fittingStarts 12 = .ok (.getfield 127, 3) := by decide +kernel
theorem dX5_fittingStarts_15 : decode cX5_fittingStarts 15 = .ok (.if_icmp .ge 58, 3) := by decide +kernel
theorem dX5_fittingStarts_18 : decode cX5_fittingStarts 18 = .ok (.aload_n 0, 1) := by decide +kernel
theorem dX5_fittingStarts_19 : decode cX5_fittingStarts 19 = .ok (.getfield 33, 3) := by decide +kernel
theorem dX5_fittingStarts_22 : decode cX5_fittingStarts 22 = .ok (.iload_n 1, 1) := by decide +kernel
theorem dX5_fittingStarts_23 : decode cX5_fittingStarts 23 = .ok (.invokevirtual 156, 3) := by decide +kernel
theorem dX5_fittingStarts_26 : decode cX5_fittingStarts 26 = .ok (.iload 6, 2) := by decide +kernel
theorem dX5_fittingStarts_28 : decode cX5_fittingStarts 28 = .ok (.invokestatic 163, 3) := by decide +kernel
theorem dX5_fittingStarts_31 : decode cX5_fittingStarts 31 = .ok (.istore 7, 2) := by decide +kernel
theorem dX5_fittingStarts_33 : decode cX5_fittingStarts 33 = .ok (.aload_n 0, 1) := by decide +kernel
theorem dX5_fittingStarts_34 : decode cX5_fittingStarts 34 = .ok (.getfield 33, 3) := by decide +kernel
theorem dX5_fittingStarts_37 : decode cX5_fittingStarts 37 = .ok (.aload_n 0, 1) := by decide +kernel
theorem dX5_fittingStarts_38 : decode cX5_fittingStarts 38 = .ok (.getfield 33, 3) := by decide +kernel
theorem dX5_fittingStarts_41 : decode cX5_fittingStarts 41 = .ok (.getfield 255, 3) := by decide +kernel
theorem dX5_fittingStarts_44 : decode cX5_fittingStarts 44 = .ok (.iload_n 1, 1) := by decide +kernel
theorem dX5_fittingStarts_45 : decode cX5_fittingStarts 45 = .ok (.iaload, 1) := by decide +kernel
theorem dX5_fittingStarts_46 : decode cX5_fittingStarts 46 = .ok (.iload 7, 2) := by decide +kernel
theorem dX5_fittingStarts_48 : decode cX5_fittingStarts 48 = .ok (.aload_n 2, 1) := by decide +kernel
theorem dX5_fittingStarts_49 : decode cX5_fittingStarts 49 = .ok (.iload_n 3, 1) := by decide +kernel
theorem dX5_fittingStarts_50 : decode cX5_fittingStarts 50 = .ok (.iload 4, 2) := by decide +kernel
theorem dX5_fittingStarts_52 : decode cX5_fittingStarts 52 = .ok (.invokevirtual 303, 3) := by decide +kernel
theorem dX5_fittingStarts_55 : decode cX5_fittingStarts 55 = .ok (.ifCond .eq 12, 3) := by decide +kernel
theorem dX5_fittingStarts_58 : decode cX5_fittingStarts 58 = .ok (.iload 5, 2) := by decide +kernel
theorem dX5_fittingStarts_60 : decode cX5_fittingStarts 60 = .ok (.iconst 1, 1) := by decide +kernel
theorem dX5_fittingStarts_61 : decode cX5_fittingStarts 61 = .ok (.iload 6, 2) := by decide +kernel
theorem dX5_fittingStarts_63 : decode cX5_fittingStarts 63 = .ok (.ishl, 1) := by decide +kernel
theorem dX5_fittingStarts_64 : decode cX5_fittingStarts 64 = .ok (.ior, 1) := by decide +kernel
theorem dX5_fittingStarts_65 : decode cX5_fittingStarts 65 = .ok (.istore 5, 2) := by decide +kernel
theorem dX5_fittingStarts_67 : decode cX5_fittingStarts 67 = .ok (.iinc 6 1, 3) := by decide +kernel
theorem dX5_fittingStarts_70 : decode cX5_fittingStarts 70 = .ok (.goto (-64), 3) := by decide +kernel
theorem dX5_fittingStarts_73 : decode cX5_fittingStarts 73 = .ok (.iload 5, 2) := by decide +kernel
theorem dX5_fittingStarts_75 : decode cX5_fittingStarts 75 = .ok (.ireturn, 1) := by decide +kernel
theorem dX5_fittingRains_0 : decode cX5_fittingRains 0 = .ok (.aload_n 0, 1) := by decide +kernel
theorem dX5_fittingRains_1 : decode cX5_fittingRains 1 = .ok (.getfield 37, 3) := by decide +kernel
theorem dX5_fittingRains_4 : decode cX5_fittingRains 4 = .ok (.aload_n 0, 1) := by decide +kernel
theorem dX5_fittingRains_5 : decode cX5_fittingRains 5 = .ok (.getfield 33, 3) := by decide +kernel
theorem dX5_fittingRains_8 : decode cX5_fittingRains 8 = .ok (.invokevirtual 120, 3) := by decide +kernel
theorem dX5_fittingRains_11 : decode cX5_fittingRains 11 = .ok (.iconst 0, 1) := by decide +kernel
theorem dX5_fittingRains_12 : decode cX5_fittingRains 12 = .ok (.istore 5, 2) := by decide +kernel
theorem dX5_fittingRains_14 : decode cX5_fittingRains 14 = .ok (.iconst 0, 1) := by decide +kernel
theorem dX5_fittingRains_15 : decode cX5_fittingRains 15 = .ok (.istore 6, 2) := by decide +kernel
theorem dX5_fittingRains_17 : decode cX5_fittingRains 17 = .ok (.iload 6, 2) := by decide +kernel
theorem dX5_fittingRains_19 : decode cX5_fittingRains 19 = .ok (.bipush 15, 2) := by decide +kernel
theorem dX5_fittingRains_21 : decode cX5_fittingRains 21 = .ok (.if_icmp .gt 59, 3) := by decide +kernel
theorem dX5_fittingRains_24 : decode cX5_fittingRains 24 = .ok (.aload_n 0, 1) := by decide +kernel
theorem dX5_fittingRains_25 : decode cX5_fittingRains 25 = .ok (.getfield 37, 3) := by decide +kernel
theorem dX5_fittingRains_28 : decode cX5_fittingRains 28 = .ok (.iload 6, 2) := by decide +kernel
theorem dX5_fittingRains_30 : decode cX5_fittingRains 30 = .ok (.putfield 170, 3) := by decide +kernel
theorem dX5_fittingRains_33 : decode cX5_fittingRains 33 = .ok (.aload_n 0, 1) := by decide +kernel
theorem dX5_fittingRains_34 : decode cX5_fittingRains 34 = .ok (.getfield 37, 3) := by decide +kernel
theorem dX5_fittingRains_37 : decode cX5_fittingRains 37 = .ok (.aload_n 0, 1) := by decide +kernel
theorem dX5_fittingRains_38 : decode cX5_fittingRains 38 = .ok (.getfield 37, 3) := by decide +kernel
theorem dX5_fittingRains_41 : decode cX5_fittingRains 41 = .ok (.getfield 255, 3) := by decide +kernel
theorem dX5_fittingRains_44 : decode cX5_fittingRains 44 = .ok (.iload_n 1, 1) := by decide +kernel
theorem dX5_fittingRains_45 : decode cX5_fittingRains 45 = .ok (.iaload, 1) := by decide +kernel
theorem dX5_fittingRains_46 : decode cX5_fittingRains 46 = .ok (.aload_n 0, 1) := by decide +kernel
theorem dX5_fittingRains_47 : decode cX5_fittingRains 47 = .ok (.getfield 37, 3) := by decide +kernel
theorem dX5_fittingRains_50 : decode cX5_fittingRains 50 = .ok (.getfield 159, 3) := by decide +kernel
theorem dX5_fittingRains_53 : decode cX5_fittingRains 53 = .ok (.iload_n 1, 1) := by decide +kernel
theorem dX5_fittingRains_54 : decode cX5_fittingRains 54 = .ok (.iaload, 1) := by decide +kernel
theorem dX5_fittingRains_55 : decode cX5_fittingRains 55 = .ok (.aload_n 2, 1) := by decide +kernel
theorem dX5_fittingRains_56 : decode cX5_fittingRains 56 = .ok (.iload_n 3, 1) := by decide +kernel
theorem dX5_fittingRains_57 : decode cX5_fittingRains 57 = .ok (.iload 4, 2) := by decide +kernel
theorem dX5_fittingRains_59 : decode cX5_fittingRains 59 = .ok (.invokevirtual 303, 3) := by decide +kernel
theorem dX5_fittingRains_62 : decode cX5_fittingRains 62 = .ok (.ifCond .eq 12, 3) := by decide +kernel
theorem dX5_fittingRains_65 : decode cX5_fittingRains 65 = .ok (.iload 5, 2) := by decide +kernel
theorem dX5_fittingRains_67 : decode cX5_fittingRains 67 = .ok (.iconst 1, 1) := by decide +kernel
theorem dX5_fittingRains_68 : decode cX5_fittingRains 68 = .ok (.iload 6, 2) := by decide +kernel
theorem dX5_fittingRains_70 : decode cX5_fittingRains 70 = .ok (.ishl, 1) := by decide +kernel
theorem dX5_fittingRains_71 : decode cX5_fittingRains 71 = .ok (.ior, 1) := by decide +kernel
theorem dX5_fittingRains_72 : decode cX5_fittingRains 72 = .ok (.istore 5, 2) := by decide +kernel
theorem dX5_fittingRains_74 : decode cX5_fittingRains 74 = .ok (.iinc 6 1, 3) := by decide +kernel
theorem dX5_fittingRains_77 : decode cX5_fittingRains 77 = .ok (.goto (-60), 3) := by decide +kernel
theorem dX5_fittingRains_80 : decode cX5_fittingRains 80 = .ok (.iload 5, 2) := by decide +kernel
theorem dX5_fittingRains_82 : decode cX5_fittingRains 82 = .ok (.ireturn, 1) := by decide +kernel
theorem dX5_fittingSizes_0 : decode cX5_fittingSizes 0 = .ok (.iconst 0, 1) := by decide +kernel
theorem dX5_fittingSizes_1 : decode cX5_fittingSizes 1 = .ok (.istore 5, 2) := by decide +kernel
theorem dX5_fittingSizes_3 : decode cX5_fittingSizes 3 = .ok (.iconst 1, 1) := by decide +kernel
theorem dX5_fittingSizes_4 : decode cX5_fittingSizes 4 = .ok (.istore 6, 2) := by decide +kernel
theorem dX5_fittingSizes_6 : decode cX5_fittingSizes 6 = .ok (.iload 6, 2) := by decide +kernel
theorem dX5_fittingSizes_8 : decode cX5_fittingSizes 8 = .ok (.bipush 60, 2) := by decide +kernel
theorem dX5_fittingSizes_10 : decode cX5_fittingSizes 10 = .ok (.if_icmp .gt 26, 3) := by decide +kernel
theorem dX5_fittingSizes_13 : decode cX5_fittingSizes 13 = .ok (.aload_n 0, 1) := by decide +kernel
theorem dX5_fittingSizes_14 : decode cX5_fittingSizes 14 = .ok (.iload_n 1, 1) := by decide +kernel
theorem dX5_fittingSizes_15 : decode cX5_fittingSizes 15 = .ok (.iload 6, 2) := by decide +kernel
theorem dX5_fittingSizes_17 : decode cX5_fittingSizes 17 = .ok (.aload_n 2, 1) := by decide +kernel
theorem dX5_fittingSizes_18 : decode cX5_fittingSizes 18 = .ok (.iload_n 3, 1) := by decide +kernel
theorem dX5_fittingSizes_19 : decode cX5_fittingSizes 19 = .ok (.iload 4, 2) := by decide +kernel
theorem dX5_fittingSizes_21 : decode cX5_fittingSizes 21 = .ok (.invokevirtual 307, 3) := by decide +kernel
theorem dX5_fittingSizes_24 : decode cX5_fittingSizes 24 = .ok (.ifCond .eq 6, 3) := by decide +kernel
theorem dX5_fittingSizes_27 : decode cX5_fittingSizes 27 = .ok (.iinc 5 1, 3) := by decide +kernel
theorem dX5_fittingSizes_30 : decode cX5_fittingSizes 30 = .ok (.iinc 6 1, 3) := by decide +kernel
theorem dX5_fittingSizes_33 : decode cX5_fittingSizes 33 = .ok (.goto (-27), 3) := by decide +kernel
theorem dX5_fittingSizes_36 : decode cX5_fittingSizes 36 = .ok (.iload 5, 2) := by decide +kernel
theorem dX5_fittingSizes_38 : decode cX5_fittingSizes 38 = .ok (.ireturn, 1) := by decide +kernel
theorem dX5_leastFittingSize_0 : decode cX5_leastFittingSize 0 = .ok (.iconst 1, 1) := by decide +kernel
theorem dX5_leastFittingSize_1 : decode cX5_leastFittingSize 1 = .ok (.istore 5, 2) := by decide +kernel
theorem dX5_leastFittingSize_3 : decode cX5_leastFittingSize 3 = .ok (.iload 5, 2) := by decide +kernel
theorem dX5_leastFittingSize_5 : decode cX5_leastFittingSize 5 = .ok (.bipush 60, 2) := by decide +kernel
theorem dX5_leastFittingSize_7 : decode cX5_leastFittingSize 7 = .ok (.if_icmp .gt 26, 3) := by decide +kernel
theorem dX5_leastFittingSize_10 : decode cX5_leastFittingSize 10 = .ok (.aload_n 0, 1) := by decide +kernel
theorem dX5_leastFittingSize_11 : decode cX5_leastFittingSize 11 = .ok (.iload_n 1, 1) := by decide +kernel
theorem dX5_leastFittingSize_12 : decode cX5_leastFittingSize 12 = .ok (.iload 5, 2) := by decide +kernel
theorem dX5_leastFittingSize_14 : decode cX5_leastFittingSize 14 = .ok (.aload_n 2, 1) := by decide +kernel
theorem dX5_leastFittingSize_15 : decode cX5_leastFittingSize 15 = .ok (.iload_n 3, 1) := by decide +kernel
theorem dX5_leastFittingSize_16 : decode cX5_leastFittingSize 16 = .ok (.iload 4, 2) := by decide +kernel
theorem dX5_leastFittingSize_18 : decode cX5_leastFittingSize 18 = .ok (.invokevirtual 307, 3) := by decide +kernel
theorem dX5_leastFittingSize_21 : decode cX5_leastFittingSize 21 = .ok (.ifCond .eq 6, 3) := by decide +kernel
theorem dX5_leastFittingSize_24 : decode cX5_leastFittingSize 24 = .ok (.iload 5, 2) := by decide +kernel
theorem dX5_leastFittingSize_26 : decode cX5_leastFittingSize 26 = .ok (.ireturn, 1) := by decide +kernel
theorem dX5_leastFittingSize_27 : decode cX5_leastFittingSize 27 = .ok (.iinc 5 1, 3) := by decide +kernel
theorem dX5_leastFittingSize_30 : decode cX5_leastFittingSize 30 = .ok (.goto (-27), 3) := by decide +kernel
theorem dX5_leastFittingSize_33 : decode cX5_leastFittingSize 33 = .ok (.ldc 210, 2) := by decide +kernel
theorem dX5_leastFittingSize_35 : decode cX5_leastFittingSize 35 = .ok (.ireturn, 1) := by decide +kernel
theorem dX5_fitsSize_0 : decode cX5_fitsSize 0 = .ok (.iload_n 2, 1) := by decide +kernel
theorem dX5_fitsSize_1 : decode cX5_fitsSize 1 = .ok (.aload_n 0, 1) := by decide +kernel
theorem dX5_fitsSize_2 : decode cX5_fitsSize 2 = .ok (.getfield 33, 3) := by decide +kernel
theorem dX5_fitsSize_5 : decode cX5_fitsSize 5 = .ok (.getfield 159, 3) := by decide +kernel
theorem dX5_fitsSize_8 : decode cX5_fitsSize 8 = .ok (.iload_n 1, 1) := by decide +kernel
theorem dX5_fitsSize_9 : decode cX5_fitsSize 9 = .ok (.iaload, 1) := by decide +kernel
theorem dX5_fitsSize_10 : decode cX5_fitsSize 10 = .ok (.invokestatic 182, 3) := by decide +kernel
theorem dX5_fitsSize_13 : decode cX5_fitsSize 13 = .ok (.invokestatic 163, 3) := by decide +kernel
theorem dX5_fitsSize_16 : decode cX5_fitsSize 16 = .ok (.istore 6, 2) := by decide +kernel
theorem dX5_fitsSize_18 : decode cX5_fitsSize 18 = .ok (.aload_n 0, 1) := by decide +kernel
theorem dX5_fitsSize_19 : decode cX5_fitsSize 19 = .ok (.getfield 33, 3) := by decide +kernel
theorem dX5_fitsSize_22 : decode cX5_fitsSize 22 = .ok (.aload_n 0, 1) := by decide +kernel
theorem dX5_fitsSize_23 : decode cX5_fitsSize 23 = .ok (.getfield 33, 3) := by decide +kernel
theorem dX5_fitsSize_26 : decode cX5_fitsSize 26 = .ok (.getfield 255, 3) := by decide +kernel
theorem dX5_fitsSize_29 : decode cX5_fitsSize 29 = .ok (.iload_n 1, 1) := by decide +kernel
theorem dX5_fitsSize_30 : decode cX5_fitsSize 30 = .ok (.iaload, 1) := by decide +kernel
theorem dX5_fitsSize_31 : decode cX5_fitsSize 31 = .ok (.iload 6, 2) := by decide +kernel
theorem dX5_fitsSize_33 : decode cX5_fitsSize 33 = .ok (.aload_n 3, 1) := by decide +kernel
theorem dX5_fitsSize_34 : decode cX5_fitsSize 34 = .ok (.iload 4, 2) := by decide +kernel
theorem dX5_fitsSize_36 : decode cX5_fitsSize 36 = .ok (.iload 5, 2) := by decide +kernel
theorem dX5_fitsSize_38 : decode cX5_fitsSize 38 = .ok (.invokevirtual 303, 3) := by decide +kernel
theorem dX5_fitsSize_41 : decode cX5_fitsSize 41 = .ok (.ireturn, 1) := by decide +kernel
theorem dX5_power_0 : decode cX5_power 0 = .ok (.iconst 1, 1) := by decide +kernel
theorem dX5_power_1 : decode cX5_power 1 = .ok (.istore_n 2, 1) := by decide +kernel
theorem dX5_power_2 : decode cX5_power 2 = .ok (.iconst 0, 1) := by decide +kernel
theorem dX5_power_3 : decode cX5_power 3 = .ok (.istore_n 3, 1) := by decide +kernel
theorem dX5_power_4 : decode cX5_power 4 = .ok (.iload_n 3, 1) := by decide +kernel
theorem dX5_power_5 : decode cX5_power 5 = .ok (.iload_n 1, 1) := by decide +kernel
theorem dX5_power_6 : decode cX5_power 6 = .ok (.if_icmp .ge 13, 3) := by decide +kernel
theorem dX5_power_9 : decode cX5_power 9 = .ok (.iload_n 2, 1) := by decide +kernel
theorem dX5_power_10 : decode cX5_power 10 = .ok (.iload_n 0, 1) := by decide +kernel
theorem dX5_power_11 : decode cX5_power 11 = .ok (.imul, 1) := by decide +kernel
theorem dX5_power_12 : decode cX5_power 12 = .ok (.istore_n 2, 1) := by decide +kernel
theorem dX5_power_13 : decode cX5_power 13 = .ok (.iinc 3 1, 3) := by decide +kernel
theorem dX5_power_16 : decode cX5_power 16 = .ok (.goto (-12), 3) := by decide +kernel
theorem dX5_power_19 : decode cX5_power 19 = .ok (.iload_n 2, 1) := by decide +kernel
theorem dX5_power_20 : decode cX5_power 20 = .ok (.ireturn, 1) := by decide +kernel
theorem dX5_commonDivisor_0 : decode cX5_commonDivisor 0 = .ok (.iload_n 0, 1) := by decide +kernel
theorem dX5_commonDivisor_1 : decode cX5_commonDivisor 1 = .ok (.istore_n 2, 1) := by decide +kernel
theorem dX5_commonDivisor_2 : decode cX5_commonDivisor 2 = .ok (.iload_n 1, 1) := by decide +kernel
theorem dX5_commonDivisor_3 : decode cX5_commonDivisor 3 = .ok (.istore_n 3, 1) := by decide +kernel
theorem dX5_commonDivisor_4 : decode cX5_commonDivisor 4 = .ok (.iconst 0, 1) := by decide +kernel
theorem dX5_commonDivisor_5 : decode cX5_commonDivisor 5 = .ok (.istore 4, 2) := by decide +kernel
theorem dX5_commonDivisor_7 : decode cX5_commonDivisor 7 = .ok (.iload 4, 2) := by decide +kernel
theorem dX5_commonDivisor_9 : decode cX5_commonDivisor 9 = .ok (.bipush 100, 2) := by decide +kernel
theorem dX5_commonDivisor_11 : decode cX5_commonDivisor 11 = .ok (.if_icmp .ge 23, 3) := by decide +kernel
theorem dX5_commonDivisor_14 : decode cX5_commonDivisor 14 = .ok (.iload_n 2, 1) := by decide +kernel
theorem dX5_commonDivisor_15 : decode cX5_commonDivisor 15 = .ok (.ifCond .eq 19, 3) := by decide +kernel
theorem dX5_commonDivisor_18 : decode cX5_commonDivisor 18 = .ok (.iload_n 3, 1) := by decide +kernel
theorem dX5_commonDivisor_19 : decode cX5_commonDivisor 19 = .ok (.iload_n 2, 1) := by decide +kernel
theorem dX5_commonDivisor_20 : decode cX5_commonDivisor 20 = .ok (.irem, 1) := by decide +kernel
theorem dX5_commonDivisor_21 : decode cX5_commonDivisor 21 = .ok (.istore 5, 2) := by decide +kernel
theorem dX5_commonDivisor_23 : decode cX5_commonDivisor 23 = .ok (.iload_n 2, 1) := by decide +kernel
theorem dX5_commonDivisor_24 : decode cX5_commonDivisor 24 = .ok (.istore_n 3, 1) := by decide +kernel
theorem dX5_commonDivisor_25 : decode cX5_commonDivisor 25 = .ok (.iload 5, 2) := by decide +kernel
theorem dX5_commonDivisor_27 : decode cX5_commonDivisor 27 = .ok (.istore_n 2, 1) := by decide +kernel
theorem dX5_commonDivisor_28 : decode cX5_commonDivisor 28 = .ok (.iinc 4 1, 3) := by decide +kernel
theorem dX5_commonDivisor_31 : decode cX5_commonDivisor 31 = .ok (.goto (-24), 3) := by decide +kernel
theorem dX5_commonDivisor_34 : decode cX5_commonDivisor 34 = .ok (.iconst 1, 1) := by decide +kernel
theorem dX5_commonDivisor_35 : decode cX5_commonDivisor 35 = .ok (.iload_n 3, 1) := by decide +kernel
theorem dX5_commonDivisor_36 : decode cX5_commonDivisor 36 = .ok (.invokestatic 310, 3) := by decide +kernel
theorem dX5_commonDivisor_39 : decode cX5_commonDivisor 39 = .ok (.ireturn, 1) := by decide +kernel
theorem dJ6_bitCount_0f7a4_0 : decode cJ6_bitCount_0f7a4 0 = .ok (.iload_n 0, 1) := by decide +kernel
theorem dJ6_bitCount_0f7a4_1 : decode cJ6_bitCount_0f7a4 1 = .ok (.iload_n 0, 1) := by decide +kernel
theorem dJ6_bitCount_0f7a4_2 : decode cJ6_bitCount_0f7a4 2 = .ok (.iconst 1, 1) := by decide +kernel
theorem dJ6_bitCount_0f7a4_3 : decode cJ6_bitCount_0f7a4 3 = .ok (.iushr, 1) := by decide +kernel
theorem dJ6_bitCount_0f7a4_4 : decode cJ6_bitCount_0f7a4 4 = .ok (.ldc_w 265, 3) := by decide +kernel
theorem dJ6_bitCount_0f7a4_7 : decode cJ6_bitCount_0f7a4 7 = .ok (.iand, 1) := by decide +kernel
theorem dJ6_bitCount_0f7a4_8 : decode cJ6_bitCount_0f7a4 8 = .ok (.isub, 1) := by decide +kernel
theorem dJ6_bitCount_0f7a4_9 : decode cJ6_bitCount_0f7a4 9 = .ok (.istore_n 0, 1) := by decide +kernel
theorem dJ6_bitCount_0f7a4_10 : decode cJ6_bitCount_0f7a4 10 = .ok (.iload_n 0, 1) := by decide +kernel
theorem dJ6_bitCount_0f7a4_11 : decode cJ6_bitCount_0f7a4 11 = .ok (.ldc_w 266, 3) := by decide +kernel
theorem dJ6_bitCount_0f7a4_14 : decode cJ6_bitCount_0f7a4 14 = .ok (.iand, 1) := by decide +kernel
theorem dJ6_bitCount_0f7a4_15 : decode cJ6_bitCount_0f7a4 15 = .ok (.iload_n 0, 1) := by decide +kernel
theorem dJ6_bitCount_0f7a4_16 : decode cJ6_bitCount_0f7a4 16 = .ok (.iconst 2, 1) := by decide +kernel
theorem dJ6_bitCount_0f7a4_17 : decode cJ6_bitCount_0f7a4 17 = .ok (.iushr, 1) := by decide +kernel
theorem dJ6_bitCount_0f7a4_18 : decode cJ6_bitCount_0f7a4 18 = .ok (.ldc_w 266, 3) := by decide +kernel
theorem dJ6_bitCount_0f7a4_21 : decode cJ6_bitCount_0f7a4 21 = .ok (.iand, 1) := by decide +kernel
theorem dJ6_bitCount_0f7a4_22 : decode cJ6_bitCount_0f7a4 22 = .ok (.iadd, 1) := by decide +kernel
theorem dJ6_bitCount_0f7a4_23 : decode cJ6_bitCount_0f7a4 23 = .ok (.istore_n 0, 1) := by decide +kernel
theorem dJ6_bitCount_0f7a4_24 : decode cJ6_bitCount_0f7a4 24 = .ok (.iload_n 0, 1) := by decide +kernel
theorem dJ6_bitCount_0f7a4_25 : decode cJ6_bitCount_0f7a4 25 = .ok (.iload_n 0, 1) := by decide +kernel
theorem dJ6_bitCount_0f7a4_26 : decode cJ6_bitCount_0f7a4 26 = .ok (.iconst 4, 1) := by decide +kernel
theorem dJ6_bitCount_0f7a4_27 : decode cJ6_bitCount_0f7a4 27 = .ok (.iushr, 1) := by decide +kernel
theorem dJ6_bitCount_0f7a4_28 : decode cJ6_bitCount_0f7a4 28 = .ok (.iadd, 1) := by decide +kernel
theorem dJ6_bitCount_0f7a4_29 : decode cJ6_bitCount_0f7a4 29 = .ok (.ldc_w 267, 3) := by decide +kernel
theorem dJ6_bitCount_0f7a4_32 : decode cJ6_bitCount_0f7a4 32 = .ok (.iand, 1) := by decide +kernel
theorem dJ6_bitCount_0f7a4_33 : decode cJ6_bitCount_0f7a4 33 = .ok (.istore_n 0, 1) := by decide +kernel
theorem dJ6_bitCount_0f7a4_34 : decode cJ6_bitCount_0f7a4 34 = .ok (.iload_n 0, 1) := by decide +kernel
theorem dJ6_bitCount_0f7a4_35 : decode cJ6_bitCount_0f7a4 35 = .ok (.iload_n 0, 1) := by decide +kernel
theorem dJ6_bitCount_0f7a4_36 : decode cJ6_bitCount_0f7a4 36 = .ok (.bipush 8, 2) := by decide +kernel
theorem dJ6_bitCount_0f7a4_38 : decode cJ6_bitCount_0f7a4 38 = .ok (.iushr, 1) := by decide +kernel
theorem dJ6_bitCount_0f7a4_39 : decode cJ6_bitCount_0f7a4 39 = .ok (.iadd, 1) := by decide +kernel
theorem dJ6_bitCount_0f7a4_40 : decode cJ6_bitCount_0f7a4 40 = .ok (.istore_n 0, 1) := by decide +kernel
theorem dJ6_bitCount_0f7a4_41 : decode cJ6_bitCount_0f7a4 41 = .ok (.iload_n 0, 1) := by decide +kernel
theorem dJ6_bitCount_0f7a4_42 : decode cJ6_bitCount_0f7a4 42 = .ok (.iload_n 0, 1) := by decide +kernel
theorem dJ6_bitCount_0f7a4_43 : decode cJ6_bitCount_0f7a4 43 = .ok (.bipush 16, 2) := by decide +kernel
theorem dJ6_bitCount_0f7a4_45 : decode cJ6_bitCount_0f7a4 45 = .ok (.iushr, 1) := by decide +kernel
theorem dJ6_bitCount_0f7a4_46 : decode cJ6_bitCount_0f7a4 46 = .ok (.iadd, 1) := by decide +kernel
theorem dJ6_bitCount_0f7a4_47 : decode cJ6_bitCount_0f7a4 47 = .ok (.istore_n 0, 1) := by decide +kernel
theorem dJ6_bitCount_0f7a4_48 : decode cJ6_bitCount_0f7a4 48 = .ok (.iload_n 0, 1) := by decide +kernel
theorem dJ6_bitCount_0f7a4_49 : decode cJ6_bitCount_0f7a4 49 = .ok (.bipush 63, 2) := by decide +kernel
theorem dJ6_bitCount_0f7a4_51 : decode cJ6_bitCount_0f7a4 51 = .ok (.iand, 1) := by decide +kernel
theorem dJ6_bitCount_0f7a4_52 : decode cJ6_bitCount_0f7a4 52 = .ok (.ireturn, 1) := by decide +kernel
theorem dJ9_max_7cf53_0 : decode cJ9_max_7cf53 0 = .ok (.iload_n 0, 1) := by decide +kernel
theorem dJ9_max_7cf53_1 : decode cJ9_max_7cf53 1 = .ok (.iload_n 1, 1) := by decide +kernel
theorem dJ9_max_7cf53_2 : decode cJ9_max_7cf53 2 = .ok (.if_icmp .lt 7, 3) := by decide +kernel
theorem dJ9_max_7cf53_5 : decode cJ9_max_7cf53 5 = .ok (.iload_n 0, 1) := by decide +kernel
theorem dJ9_max_7cf53_6 : decode cJ9_max_7cf53 6 = .ok (.goto 4, 3) := by decide +kernel
theorem dJ9_max_7cf53_9 : decode cJ9_max_7cf53 9 = .ok (.iload_n 1, 1) := by decide +kernel
theorem dJ9_max_7cf53_10 : decode cJ9_max_7cf53 10 = .ok (.ireturn, 1) := by decide +kernel
theorem dJ9_min_7cf53_0 : decode cJ9_min_7cf53 0 = .ok (.iload_n 0, 1) := by decide +kernel
theorem dJ9_min_7cf53_1 : decode cJ9_min_7cf53 1 = .ok (.iload_n 1, 1) := by decide +kernel
theorem dJ9_min_7cf53_2 : decode cJ9_min_7cf53 2 = .ok (.if_icmp .gt 7, 3) := by decide +kernel
theorem dJ9_min_7cf53_5 : decode cJ9_min_7cf53 5 = .ok (.iload_n 0, 1) := by decide +kernel
theorem dJ9_min_7cf53_6 : decode cJ9_min_7cf53 6 = .ok (.goto 4, 3) := by decide +kernel
theorem dJ9_min_7cf53_9 : decode cJ9_min_7cf53 9 = .ok (.iload_n 1, 1) := by decide +kernel
theorem dJ9_min_7cf53_10 : decode cJ9_min_7cf53 10 = .ok (.ireturn, 1) := by decide +kernel
theorem dJ7_fill_53178_0 : decode cJ7_fill_53178 0 = .ok (.iconst 0, 1) := by decide +kernel
theorem dJ7_fill_53178_1 : decode cJ7_fill_53178 1 = .ok (.istore_n 2, 1) := by decide +kernel
theorem dJ7_fill_53178_2 : decode cJ7_fill_53178 2 = .ok (.aload_n 0, 1) := by decide +kernel
theorem dJ7_fill_53178_3 : decode cJ7_fill_53178 3 = .ok (.arraylength, 1) := by decide +kernel
theorem dJ7_fill_53178_4 : decode cJ7_fill_53178 4 = .ok (.istore_n 3, 1) := by decide +kernel
theorem dJ7_fill_53178_5 : decode cJ7_fill_53178 5 = .ok (.iload_n 2, 1) := by decide +kernel
theorem dJ7_fill_53178_6 : decode cJ7_fill_53178 6 = .ok (.iload_n 3, 1) := by decide +kernel
theorem dJ7_fill_53178_7 : decode cJ7_fill_53178 7 = .ok (.if_icmp .ge 13, 3) := by decide +kernel
theorem dJ7_fill_53178_10 : decode cJ7_fill_53178 10 = .ok (.aload_n 0, 1) := by decide +kernel
theorem dJ7_fill_53178_11 : decode cJ7_fill_53178 11 = .ok (.iload_n 2, 1) := by decide +kernel
theorem dJ7_fill_53178_12 : decode cJ7_fill_53178 12 = .ok (.iload_n 1, 1) := by decide +kernel
theorem dJ7_fill_53178_13 : decode cJ7_fill_53178 13 = .ok (.iastore, 1) := by decide +kernel
theorem dJ7_fill_53178_14 : decode cJ7_fill_53178 14 = .ok (.iinc 2 1, 3) := by decide +kernel
theorem dJ7_fill_53178_17 : decode cJ7_fill_53178 17 = .ok (.goto (-12), 3) := by decide +kernel
theorem dJ7_fill_53178_20 : decode cJ7_fill_53178 20 = .ok (.return_, 1) := by decide +kernel
