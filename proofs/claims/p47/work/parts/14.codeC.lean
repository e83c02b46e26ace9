/-! decoded code (printed by wip/p47/gen13.py) -/
theorem qX0_of_0 : decB cX0_of 0 [.iload_n 0, .sipush 10000] 4 = true := by decide +kernel
theorem qX0_of_5 : decB cX0_of 5 [.istore_n 1, .iload_n 0, .bipush 100] 9 = true := by decide +kernel
theorem qX0_of_10 : decB cX0_of 10 [.bipush 100] 12 = true := by decide +kernel
theorem qX0_of_13 : decB cX0_of 13 [.istore_n 2, .iload_n 0, .bipush 100] 17 = true := by decide +kernel
theorem qX0_of_18 : decB cX0_of 18 [.istore_n 3, .iload_n 1, .sipush 2000] 23 = true := by decide +kernel
theorem qX0_of_26 : decB cX0_of 26 [.iload_n 1, .sipush 2099] 30 = true := by decide +kernel
theorem qX0_of_33 : decB cX0_of 33 [.iload_n 2, .iconst 1] 35 = true := by decide +kernel
theorem qX0_of_38 : decB cX0_of 38 [.iload_n 2, .bipush 12] 41 = true := by decide +kernel
theorem qX0_of_44 : decB cX0_of 44 [.iload_n 3, .iconst 1] 46 = true := by decide +kernel
theorem qX0_of_49 : decB cX0_of 49 [.iload_n 3, .iload_n 1, .iload_n 2] 52 = true := by decide +kernel
theorem qX0_of_58 : decB cX0_of 58 [.iconst (-1)] 59 = true := by decide +kernel
theorem qX0_of_60 : decB cX0_of 60 [.iload_n 1, .sipush 2000, .isub, .istore 4, .iload 4, .sipush 365, .imul, .iload 4, .iconst 3, .iadd, .iconst 4] 78 = true := by decide +kernel
theorem qX0_of_79 : decB cX0_of 79 [.iadd, .iload_n 1, .iload_n 2] 82 = true := by decide +kernel
theorem qX0_of_85 : decB cX0_of 85 [.iadd, .iload_n 3, .iadd, .iconst 1, .isub] 90 = true := by decide +kernel
theorem dX0_of_4 : decode cX0_of 4 = .ok (.idiv, 1) := by decide +kernel
theorem dX0_of_9 : decode cX0_of 9 = .ok (.idiv, 1) := by decide +kernel
theorem dX0_of_12 : decode cX0_of 12 = .ok (.irem, 1) := by decide +kernel
theorem dX0_of_17 : decode cX0_of 17 = .ok (.irem, 1) := by decide +kernel
theorem dX0_of_23 : decode cX0_of 23 = .ok (.if_icmp .lt 35, 3) := by decide +kernel
theorem dX0_of_30 : decode cX0_of 30 = .ok (.if_icmp .gt 28, 3) := by decide +kernel
theorem dX0_of_35 : decode cX0_of 35 = .ok (.if_icmp .lt 23, 3) := by decide +kernel
theorem dX0_of_41 : decode cX0_of 41 = .ok (.if_icmp .gt 17, 3) := by decide +kernel
theorem dX0_of_46 : decode cX0_of 46 = .ok (.if_icmp .lt 12, 3) := by decide +kernel
theorem dX0_of_52 : decode cX0_of 52 = .ok (.invokestatic 9, 3) := by decide +kernel
theorem dX0_of_55 : decode cX0_of 55 = .ok (.if_icmp .le 5, 3) := by decide +kernel
theorem dX0_of_59 : decode cX0_of 59 = .ok (.ireturn, 1) := by decide +kernel
theorem dX0_of_78 : decode cX0_of 78 = .ok (.idiv, 1) := by decide +kernel
theorem dX0_of_82 : decode cX0_of 82 = .ok (.invokestatic 15, 3) := by decide +kernel
theorem dX0_of_90 : decode cX0_of 90 = .ok (.ireturn, 1) := by decide +kernel
theorem qX0_dateOf_0 : decB cX0_dateOf 0 [.iload_n 0, .iconst 4, .imul, .sipush 1461] 6 = true := by decide +kernel
theorem qX0_dateOf_7 : decB cX0_dateOf 7 [.istore_n 1, .sipush 2000, .iload_n 1, .iadd, .istore_n 2, .iload_n 0, .iload_n 1, .sipush 365, .imul, .isub, .iload_n 1, .iconst 3, .iadd, .iconst 4] 25 = true := by decide +kernel
theorem qX0_dateOf_26 : decB cX0_dateOf 26 [.isub, .istore_n 3, .bipush 12, .istore 4] 32 = true := by decide +kernel
theorem qX0_dateOf_32 : decB cX0_dateOf 32 [.iload 4, .iconst 1] 35 = true := by decide +kernel
theorem qX0_dateOf_38 : decB cX0_dateOf 38 [.iload_n 2, .iload 4] 41 = true := by decide +kernel
theorem qX0_dateOf_44 : decB cX0_dateOf 44 [.iload_n 3] 45 = true := by decide +kernel
theorem qX0_dateOf_48 : decB cX0_dateOf 48 [.iinc 4 (-1), .goto (-19)] 32 = true := by decide +kernel
theorem qX0_dateOf_54 : decB cX0_dateOf 54 [.iload_n 2, .sipush 10000, .imul, .iload 4, .bipush 100, .imul, .iadd, .iload_n 3, .iadd, .iload_n 2, .iload 4] 70 = true := by decide +kernel
theorem qX0_dateOf_73 : decB cX0_dateOf 73 [.isub, .iconst 1, .iadd] 76 = true := by decide +kernel
theorem dX0_dateOf_6 : decode cX0_dateOf 6 = .ok (.idiv, 1) := by decide +kernel
theorem dX0_dateOf_25 : decode cX0_dateOf 25 = .ok (.idiv, 1) := by decide +kernel
theorem dX0_dateOf_35 : decode cX0_dateOf 35 = .ok (.if_icmp .le 19, 3) := by decide +kernel
theorem dX0_dateOf_41 : decode cX0_dateOf 41 = .ok (.invokestatic 15, 3) := by decide +kernel
theorem dX0_dateOf_45 : decode cX0_dateOf 45 = .ok (.if_icmp .le 9, 3) := by decide +kernel
theorem dX0_dateOf_70 : decode cX0_dateOf 70 = .ok (.invokestatic 15, 3) := by decide +kernel
theorem dX0_dateOf_76 : decode cX0_dateOf 76 = .ok (.ireturn, 1) := by decide +kernel
theorem qX0_beforeMonth_0 : decB cX0_beforeMonth 0 [.iload_n 1, .iconst 1] 2 = true := by decide +kernel
theorem qX0_beforeMonth_5 : decB cX0_beforeMonth 5 [.iload_n 1, .bipush 12] 8 = true := by decide +kernel
theorem qX0_beforeMonth_11 : decB cX0_beforeMonth 11 [.iconst 0] 12 = true := by decide +kernel
theorem qX0_beforeMonth_16 : decB cX0_beforeMonth 16 [.iload_n 1, .iconst 1, .isub] 19 = true := by decide +kernel
theorem qX0_beforeMonth_20 : decB cX0_beforeMonth 20 [.iload_n 1, .iconst 2] 22 = true := by decide +kernel
theorem qX0_beforeMonth_25 : decB cX0_beforeMonth 25 [.iload_n 0, .iconst 4] 27 = true := by decide +kernel
theorem qX0_beforeMonth_31 : decB cX0_beforeMonth 31 [.iconst 1, .goto 4] 36 = true := by decide +kernel
theorem qX0_beforeMonth_35 : decB cX0_beforeMonth 35 [.iconst 0] 36 = true := by decide +kernel
theorem qX0_beforeMonth_36 : decB cX0_beforeMonth 36 [.iadd] 37 = true := by decide +kernel
theorem dX0_beforeMonth_2 : decode cX0_beforeMonth 2 = .ok (.if_icmp .lt 9, 3) := by decide +kernel
theorem dX0_beforeMonth_8 : decode cX0_beforeMonth 8 = .ok (.if_icmp .le 5, 3) := by decide +kernel
theorem dX0_beforeMonth_12 : decode cX0_beforeMonth 12 = .ok (.ireturn, 1) := by decide +kernel
theorem dX0_beforeMonth_13 : decode cX0_beforeMonth 13 = .ok (.getstatic 18, 3) := by decide +kernel
theorem dX0_beforeMonth_19 : decode cX0_beforeMonth 19 = .ok (.iaload, 1) := by decide +kernel
theorem dX0_beforeMonth_22 : decode cX0_beforeMonth 22 = .ok (.if_icmp .le 13, 3) := by decide +kernel
theorem dX0_beforeMonth_27 : decode cX0_beforeMonth 27 = .ok (.irem, 1) := by decide +kernel
theorem dX0_beforeMonth_28 : decode cX0_beforeMonth 28 = .ok (.ifCond .ne 7, 3) := by decide +kernel
theorem dX0_beforeMonth_37 : decode cX0_beforeMonth 37 = .ok (.ireturn, 1) := by decide +kernel
theorem qX0_inMonth_0 : decB cX0_inMonth 0 [.iload_n 1, .bipush 12] 3 = true := by decide +kernel
theorem qX0_inMonth_6 : decB cX0_inMonth 6 [.sipush 365, .iload_n 0, .iconst 4] 11 = true := by decide +kernel
theorem qX0_inMonth_15 : decB cX0_inMonth 15 [.iconst 1, .goto 4] 20 = true := by decide +kernel
theorem qX0_inMonth_19 : decB cX0_inMonth 19 [.iconst 0] 20 = true := by decide +kernel
theorem qX0_inMonth_20 : decB cX0_inMonth 20 [.iadd, .goto 10] 31 = true := by decide +kernel
theorem qX0_inMonth_24 : decB cX0_inMonth 24 [.iload_n 0, .iload_n 1, .iconst 1, .iadd] 28 = true := by decide +kernel
theorem qX0_inMonth_31 : decB cX0_inMonth 31 [.istore_n 2, .iload_n 2, .iload_n 0, .iload_n 1] 35 = true := by decide +kernel
theorem qX0_inMonth_38 : decB cX0_inMonth 38 [.isub] 39 = true := by decide +kernel
theorem dX0_inMonth_3 : decode cX0_inMonth 3 = .ok (.if_icmp .ne 21, 3) := by decide +kernel
theorem dX0_inMonth_11 : decode cX0_inMonth 11 = .ok (.irem, 1) := by decide +kernel
theorem dX0_inMonth_12 : decode cX0_inMonth 12 = .ok (.ifCond .ne 7, 3) := by decide +kernel
theorem dX0_inMonth_28 : decode cX0_inMonth 28 = .ok (.invokestatic 15, 3) := by decide +kernel
theorem dX0_inMonth_35 : decode cX0_inMonth 35 = .ok (.invokestatic 15, 3) := by decide +kernel
theorem dX0_inMonth_39 : decode cX0_inMonth 39 = .ok (.ireturn, 1) := by decide +kernel
theorem qX0_weekdayOf_0 : decB cX0_weekdayOf 0 [.iload_n 0, .iconst 5, .iadd, .bipush 7] 5 = true := by decide +kernel
theorem qX0_weekdayOf_6 : decB cX0_weekdayOf 6 [.iconst 1, .iadd] 8 = true := by decide +kernel
theorem dX0_weekdayOf_5 : decode cX0_weekdayOf 5 = .ok (.irem, 1) := by decide +kernel
theorem dX0_weekdayOf_8 : decode cX0_weekdayOf 8 = .ok (.ireturn, 1) := by decide +kernel
theorem qX0_isDayOfYear_0 : decB cX0_isDayOfYear 0 [.bipush 101, .iload_n 0] 3 = true := by decide +kernel
theorem qX0_isDayOfYear_6 : decB cX0_isDayOfYear 6 [.iload_n 0, .sipush 1231] 10 = true := by decide +kernel
theorem qX0_isDayOfYear_15 : decB cX0_isDayOfYear 15 [.iload_n 0, .iadd] 17 = true := by decide +kernel
theorem qX0_isDayOfYear_20 : decB cX0_isDayOfYear 20 [.iconst (-1)] 21 = true := by decide +kernel
theorem qX0_isDayOfYear_24 : decB cX0_isDayOfYear 24 [.iconst 1, .goto 4] 29 = true := by decide +kernel
theorem qX0_isDayOfYear_28 : decB cX0_isDayOfYear 28 [.iconst 0] 29 = true := by decide +kernel
theorem dX0_isDayOfYear_3 : decode cX0_isDayOfYear 3 = .ok (.if_icmp .gt 25, 3) := by decide +kernel
theorem dX0_isDayOfYear_10 : decode cX0_isDayOfYear 10 = .ok (.if_icmp .gt 18, 3) := by decide +kernel
theorem dX0_isDayOfYear_13 : decode cX0_isDayOfYear 13 = .ok (.ldc 22, 2) := by decide +kernel
theorem dX0_isDayOfYear_17 : decode cX0_isDayOfYear 17 = .ok (.invokestatic 23, 3) := by decide +kernel
theorem dX0_isDayOfYear_21 : decode cX0_isDayOfYear 21 = .ok (.if_icmp .eq 7, 3) := by decide +kernel
theorem dX0_isDayOfYear_29 : decode cX0_isDayOfYear 29 = .ok (.ireturn, 1) := by decide +kernel
theorem qX1_init_0 : decB cX1_init 0 [.aload_n 0] 1 = true := by decide +kernel
theorem qX1_init_4 : decB cX1_init 4 [.aload_n 0, .bipush 6] 7 = true := by decide +kernel
theorem qX1_init_13 : decB cX1_init 13 [.iconst 0, .istore_n 1] 15 = true := by decide +kernel
theorem qX1_init_15 : decB cX1_init 15 [.iload_n 1, .bipush 6] 18 = true := by decide +kernel
theorem qX1_init_21 : decB cX1_init 21 [.aload_n 0] 22 = true := by decide +kernel
theorem qX1_init_25 : decB cX1_init 25 [.iload_n 1] 26 = true := by decide +kernel
theorem qX1_init_29 : decB cX1_init 29 [.dup] 30 = true := by decide +kernel
theorem qX1_init_34 : decB cX1_init 34 [.iinc 1 1, .goto (-22)] 15 = true := by decide +kernel
theorem dX1_init_1 : decode cX1_init 1 = .ok (.invokespecial 3, 3) := by decide +kernel
theorem dX1_init_7 : decode cX1_init 7 = .ok (.anewarray 9, 3) := by decide +kernel
theorem dX1_init_10 : decode cX1_init 10 = .ok (.putfield 11, 3) := by decide +kernel
theorem dX1_init_18 : decode cX1_init 18 = .ok (.if_icmp .ge 22, 3) := by decide +kernel
theorem dX1_init_22 : decode cX1_init 22 = .ok (.getfield 11, 3) := by decide +kernel
theorem dX1_init_26 : decode cX1_init 26 = .ok (.new 9, 3) := by decide +kernel
theorem dX1_init_30 : decode cX1_init 30 = .ok (.invokespecial 17, 3) := by decide +kernel
theorem dX1_init_33 : decode cX1_init 33 = .ok (.aastore, 1) := by decide +kernel
theorem dX1_init_40 : decode cX1_init 40 = .ok (.return_, 1) := by decide +kernel
theorem qX1_keep_0 : decB cX1_keep 0 [.aload_n 0] 1 = true := by decide +kernel
theorem qX1_keep_4 : decB cX1_keep 4 [.aload_n 0] 5 = true := by decide +kernel
theorem qX1_keep_9 : decB cX1_keep 9 [.aload_n 1] 10 = true := by decide +kernel
theorem qX1_keep_13 : decB cX1_keep 13 [.aload_n 0, .aload_n 0] 15 = true := by decide +kernel
theorem qX1_keep_18 : decB cX1_keep 18 [.iconst 1, .iadd, .bipush 6] 22 = true := by decide +kernel
theorem qX1_keep_26 : decB cX1_keep 26 [.aload_n 0, .aload_n 0] 28 = true := by decide +kernel
theorem qX1_keep_31 : decB cX1_keep 31 [.iconst 1, .iadd, .bipush 6] 35 = true := by decide +kernel
theorem dX1_keep_1 : decode cX1_keep 1 = .ok (.getfield 11, 3) := by decide +kernel
theorem dX1_keep_5 : decode cX1_keep 5 = .ok (.getfield 18, 3) := by decide +kernel
theorem dX1_keep_8 : decode cX1_keep 8 = .ok (.aaload, 1) := by decide +kernel
theorem dX1_keep_10 : decode cX1_keep 10 = .ok (.invokevirtual 22, 3) := by decide +kernel
theorem dX1_keep_15 : decode cX1_keep 15 = .ok (.getfield 18, 3) := by decide +kernel
theorem dX1_keep_22 : decode cX1_keep 22 = .ok (.irem, 1) := by decide +kernel
theorem dX1_keep_23 : decode cX1_keep 23 = .ok (.putfield 18, 3) := by decide +kernel
theorem dX1_keep_28 : decode cX1_keep 28 = .ok (.getfield 26, 3) := by decide +kernel
theorem dX1_keep_35 : decode cX1_keep 35 = .ok (.invokestatic 29, 3) := by decide +kernel
theorem dX1_keep_38 : decode cX1_keep 38 = .ok (.putfield 26, 3) := by decide +kernel
theorem dX1_keep_41 : decode cX1_keep 41 = .ok (.return_, 1) := by decide +kernel
theorem qX1_takeBack_0 : decB cX1_takeBack 0 [.aload_n 0] 1 = true := by decide +kernel
theorem qX1_takeBack_4 : decB cX1_takeBack 4 [.iconst 1] 5 = true := by decide +kernel
theorem qX1_takeBack_8 : decB cX1_takeBack 8 [.iconst (-1)] 9 = true := by decide +kernel
theorem qX1_takeBack_10 : decB cX1_takeBack 10 [.aload_n 0, .aload_n 0] 12 = true := by decide +kernel
theorem qX1_takeBack_15 : decB cX1_takeBack 15 [.bipush 6, .iadd, .iconst 1, .isub, .bipush 6] 22 = true := by decide +kernel
theorem qX1_takeBack_26 : decB cX1_takeBack 26 [.aload_n 0, .dup] 28 = true := by decide +kernel
theorem qX1_takeBack_31 : decB cX1_takeBack 31 [.iconst 1, .isub] 33 = true := by decide +kernel
theorem qX1_takeBack_36 : decB cX1_takeBack 36 [.aload_n 1, .aload_n 0] 38 = true := by decide +kernel
theorem qX1_takeBack_41 : decB cX1_takeBack 41 [.aload_n 0] 42 = true := by decide +kernel
theorem qX1_takeBack_49 : decB cX1_takeBack 49 [.aload_n 0] 50 = true := by decide +kernel
theorem dX1_takeBack_1 : decode cX1_takeBack 1 = .ok (.getfield 26, 3) := by decide +kernel
theorem dX1_takeBack_5 : decode cX1_takeBack 5 = .ok (.if_icmp .ge 5, 3) := by decide +kernel
theorem dX1_takeBack_9 : decode cX1_takeBack 9 = .ok (.ireturn, 1) := by decide +kernel
theorem dX1_takeBack_12 : decode cX1_takeBack 12 = .ok (.getfield 18, 3) := by decide +kernel
theorem dX1_takeBack_22 : decode cX1_takeBack 22 = .ok (.irem, 1) := by decide +kernel
theorem dX1_takeBack_23 : decode cX1_takeBack 23 = .ok (.putfield 18, 3) := by decide +kernel
theorem dX1_takeBack_28 : decode cX1_takeBack 28 = .ok (.getfield 26, 3) := by decide +kernel
theorem dX1_takeBack_33 : decode cX1_takeBack 33 = .ok (.putfield 26, 3) := by decide +kernel
theorem dX1_takeBack_38 : decode cX1_takeBack 38 = .ok (.getfield 11, 3) := by decide +kernel
theorem dX1_takeBack_42 : decode cX1_takeBack 42 = .ok (.getfield 18, 3) := by decide +kernel
theorem dX1_takeBack_45 : decode cX1_takeBack 45 = .ok (.aaload, 1) := by decide +kernel
theorem dX1_takeBack_46 : decode cX1_takeBack 46 = .ok (.invokevirtual 22, 3) := by decide +kernel
theorem dX1_takeBack_50 : decode cX1_takeBack 50 = .ok (.getfield 26, 3) := by decide +kernel
theorem dX1_takeBack_53 : decode cX1_takeBack 53 = .ok (.ireturn, 1) := by decide +kernel
theorem qX2_init_0 : decB cX2_init 0 [.aload_n 0] 1 = true := by decide +kernel
theorem qX2_init_4 : decB cX2_init 4 [.aload_n 0, .sipush 8822] 8 = true := by decide +kernel
theorem qX2_init_11 : decB cX2_init 11 [.aload_n 0, .iconst (-1)] 13 = true := by decide +kernel
theorem qX2_init_16 : decB cX2_init 16 [.aload_n 0, .iconst 3] 18 = true := by decide +kernel
theorem qX2_init_24 : decB cX2_init 24 [.aload_n 0, .iconst 4] 26 = true := by decide +kernel
theorem qX2_init_32 : decB cX2_init 32 [.aload_n 0, .bipush 20] 35 = true := by decide +kernel
theorem qX2_init_41 : decB cX2_init 41 [.aload_n 0] 42 = true := by decide +kernel
theorem qX2_init_45 : decB cX2_init 45 [.dup] 46 = true := by decide +kernel
theorem qX2_init_52 : decB cX2_init 52 [.aload_n 0, .iconst 4] 54 = true := by decide +kernel
theorem qX2_init_59 : decB cX2_init 59 [.aload_n 0] 60 = true := by decide +kernel
theorem qX2_init_63 : decB cX2_init 63 [.dup] 64 = true := by decide +kernel
theorem qX2_init_70 : decB cX2_init 70 [.aload_n 0] 71 = true := by decide +kernel
theorem qX2_init_74 : decB cX2_init 74 [.dup] 75 = true := by decide +kernel
theorem qX2_init_81 : decB cX2_init 81 [.iconst 0, .istore_n 1] 83 = true := by decide +kernel
theorem qX2_init_83 : decB cX2_init 83 [.iload_n 1, .iconst 3] 85 = true := by decide +kernel
theorem qX2_init_88 : decB cX2_init 88 [.aload_n 0] 89 = true := by decide +kernel
theorem qX2_init_92 : decB cX2_init 92 [.iload_n 1] 93 = true := by decide +kernel
theorem qX2_init_96 : decB cX2_init 96 [.dup] 97 = true := by decide +kernel
theorem qX2_init_101 : decB cX2_init 101 [.iinc 1 1, .goto (-21)] 83 = true := by decide +kernel
theorem qX2_init_107 : decB cX2_init 107 [.iconst 0, .istore_n 1] 109 = true := by decide +kernel
theorem qX2_init_109 : decB cX2_init 109 [.iload_n 1, .iconst 4] 111 = true := by decide +kernel
theorem qX2_init_114 : decB cX2_init 114 [.aload_n 0] 115 = true := by decide +kernel
theorem qX2_init_118 : decB cX2_init 118 [.iload_n 1] 119 = true := by decide +kernel
theorem qX2_init_122 : decB cX2_init 122 [.dup] 123 = true := by decide +kernel
theorem qX2_init_127 : decB cX2_init 127 [.iinc 1 1, .goto (-21)] 109 = true := by decide +kernel
theorem qX2_init_133 : decB cX2_init 133 [.iconst 0, .istore_n 1] 135 = true := by decide +kernel
theorem qX2_init_135 : decB cX2_init 135 [.iload_n 1, .bipush 20] 138 = true := by decide +kernel
theorem qX2_init_141 : decB cX2_init 141 [.aload_n 0] 142 = true := by decide +kernel
theorem qX2_init_145 : decB cX2_init 145 [.iload_n 1] 146 = true := by decide +kernel
theorem qX2_init_149 : decB cX2_init 149 [.dup, .iconst 0, .iconst 0, .iconst 1, .iconst 1, .iconst 0] 155 = true := by decide +kernel
theorem qX2_init_159 : decB cX2_init 159 [.iinc 1 1, .goto (-27)] 135 = true := by decide +kernel
theorem dX2_init_1 : decode cX2_init 1 = .ok (.invokespecial 3, 3) := by decide +kernel
theorem dX2_init_8 : decode cX2_init 8 = .ok (.putfield 11, 3) := by decide +kernel
theorem dX2_init_13 : decode cX2_init 13 = .ok (.putfield 17, 3) := by decide +kernel
theorem dX2_init_18 : decode cX2_init 18 = .ok (.anewarray 20, 3) := by decide +kernel
theorem dX2_init_21 : decode cX2_init 21 = .ok (.putfield 22, 3) := by decide +kernel
theorem dX2_init_26 : decode cX2_init 26 = .ok (.anewarray 26, 3) := by decide +kernel
theorem dX2_init_29 : decode cX2_init 29 = .ok (.putfield 28, 3) := by decide +kernel
theorem dX2_init_35 : decode cX2_init 35 = .ok (.anewarray 32, 3) := by decide +kernel
theorem dX2_init_38 : decode cX2_init 38 = .ok (.putfield 34, 3) := by decide +kernel
theorem dX2_init_42 : decode cX2_init 42 = .ok (.new 38, 3) := by decide +kernel
theorem dX2_init_46 : decode cX2_init 46 = .ok (.invokespecial 40, 3) := by decide +kernel
theorem dX2_init_49 : decode cX2_init 49 = .ok (.putfield 41, 3) := by decide +kernel
theorem dX2_init_54 : decode cX2_init 54 = .ok (.newarray .long, 2) := by decide +kernel
theorem dX2_init_56 : decode cX2_init 56 = .ok (.putfield 45, 3) := by decide +kernel
theorem dX2_init_60 : decode cX2_init 60 = .ok (.new 49, 3) := by decide +kernel
theorem dX2_init_64 : decode cX2_init 64 = .ok (.invokespecial 51, 3) := by decide +kernel
theorem dX2_init_67 : decode cX2_init 67 = .ok (.putfield 52, 3) := by decide +kernel
theorem dX2_init_71 : decode cX2_init 71 = .ok (.new 56, 3) := by decide +kernel
theorem dX2_init_75 : decode cX2_init 75 = .ok (.invokespecial 58, 3) := by decide +kernel
theorem dX2_init_78 : decode cX2_init 78 = .ok (.putfield 59, 3) := by decide +kernel
theorem dX2_init_85 : decode cX2_init 85 = .ok (.if_icmp .ge 22, 3) := by decide +kernel
theorem dX2_init_89 : decode cX2_init 89 = .ok (.getfield 22, 3) := by decide +kernel
theorem dX2_init_93 : decode cX2_init 93 = .ok (.new 20, 3) := by decide +kernel
theorem dX2_init_97 : decode cX2_init 97 = .ok (.invokespecial 63, 3) := by decide +kernel
theorem dX2_init_100 : decode cX2_init 100 = .ok (.aastore, 1) := by decide +kernel
theorem dX2_init_111 : decode cX2_init 111 = .ok (.if_icmp .ge 22, 3) := by decide +kernel
theorem dX2_init_115 : decode cX2_init 115 = .ok (.getfield 28, 3) := by decide +kernel
theorem dX2_init_119 : decode cX2_init 119 = .ok (.new 26, 3) := by decide +kernel
theorem dX2_init_123 : decode cX2_init 123 = .ok (.invokespecial 64, 3) := by decide +kernel
theorem dX2_init_126 : decode cX2_init 126 = .ok (.aastore, 1) := by decide +kernel
theorem dX2_init_138 : decode cX2_init 138 = .ok (.if_icmp .ge 27, 3) := by decide +kernel
theorem dX2_init_142 : decode cX2_init 142 = .ok (.getfield 34, 3) := by decide +kernel
theorem dX2_init_146 : decode cX2_init 146 = .ok (.new 32, 3) := by decide +kernel
theorem dX2_init_155 : decode cX2_init 155 = .ok (.invokespecial 65, 3) := by decide +kernel
theorem dX2_init_158 : decode cX2_init 158 = .ok (.aastore, 1) := by decide +kernel
theorem dX2_init_165 : decode cX2_init 165 = .ok (.return_, 1) := by decide +kernel
theorem qX2_copyFrom_0 : decB cX2_copyFrom 0 [.aload_n 0, .aload_n 1] 2 = true := by decide +kernel
theorem qX2_copyFrom_8 : decB cX2_copyFrom 8 [.aload_n 0, .aload_n 1] 10 = true := by decide +kernel
theorem qX2_copyFrom_16 : decB cX2_copyFrom 16 [.aload_n 0, .aload_n 1] 18 = true := by decide +kernel
theorem qX2_copyFrom_24 : decB cX2_copyFrom 24 [.aload_n 0, .aload_n 1] 26 = true := by decide +kernel
theorem qX2_copyFrom_32 : decB cX2_copyFrom 32 [.aload_n 0, .aload_n 1] 34 = true := by decide +kernel
theorem qX2_copyFrom_40 : decB cX2_copyFrom 40 [.aload_n 0, .aload_n 1] 42 = true := by decide +kernel
theorem qX2_copyFrom_48 : decB cX2_copyFrom 48 [.aload_n 0, .aload_n 1] 50 = true := by decide +kernel
theorem qX2_copyFrom_56 : decB cX2_copyFrom 56 [.aload_n 0, .aload_n 1] 58 = true := by decide +kernel
theorem qX2_copyFrom_64 : decB cX2_copyFrom 64 [.iconst 0, .istore_n 2] 66 = true := by decide +kernel
theorem qX2_copyFrom_66 : decB cX2_copyFrom 66 [.iload_n 2, .aload_n 0] 68 = true := by decide +kernel
theorem qX2_copyFrom_74 : decB cX2_copyFrom 74 [.aload_n 0] 75 = true := by decide +kernel
theorem qX2_copyFrom_78 : decB cX2_copyFrom 78 [.iload_n 2] 79 = true := by decide +kernel
theorem qX2_copyFrom_80 : decB cX2_copyFrom 80 [.aload_n 1] 81 = true := by decide +kernel
theorem qX2_copyFrom_84 : decB cX2_copyFrom 84 [.iload_n 2] 85 = true := by decide +kernel
theorem qX2_copyFrom_89 : decB cX2_copyFrom 89 [.iinc 2 1, .goto (-26)] 66 = true := by decide +kernel
theorem qX2_copyFrom_95 : decB cX2_copyFrom 95 [.iconst 0, .istore_n 2] 97 = true := by decide +kernel
theorem qX2_copyFrom_97 : decB cX2_copyFrom 97 [.iload_n 2, .aload_n 0] 99 = true := by decide +kernel
theorem qX2_copyFrom_105 : decB cX2_copyFrom 105 [.aload_n 0] 106 = true := by decide +kernel
theorem qX2_copyFrom_109 : decB cX2_copyFrom 109 [.iload_n 2] 110 = true := by decide +kernel
theorem qX2_copyFrom_111 : decB cX2_copyFrom 111 [.aload_n 1] 112 = true := by decide +kernel
theorem qX2_copyFrom_115 : decB cX2_copyFrom 115 [.iload_n 2] 116 = true := by decide +kernel
theorem qX2_copyFrom_120 : decB cX2_copyFrom 120 [.iinc 2 1, .goto (-26)] 97 = true := by decide +kernel
theorem qX2_copyFrom_126 : decB cX2_copyFrom 126 [.iconst 0, .istore_n 2] 128 = true := by decide +kernel
theorem qX2_copyFrom_128 : decB cX2_copyFrom 128 [.iload_n 2, .aload_n 0] 130 = true := by decide +kernel
theorem qX2_copyFrom_136 : decB cX2_copyFrom 136 [.aload_n 0] 137 = true := by decide +kernel
theorem qX2_copyFrom_140 : decB cX2_copyFrom 140 [.iload_n 2] 141 = true := by decide +kernel
theorem qX2_copyFrom_142 : decB cX2_copyFrom 142 [.aload_n 1] 143 = true := by decide +kernel
theorem qX2_copyFrom_146 : decB cX2_copyFrom 146 [.iload_n 2] 147 = true := by decide +kernel
theorem qX2_copyFrom_151 : decB cX2_copyFrom 151 [.iinc 2 1, .goto (-26)] 128 = true := by decide +kernel
theorem qX2_copyFrom_157 : decB cX2_copyFrom 157 [.aload_n 0] 158 = true := by decide +kernel
theorem qX2_copyFrom_161 : decB cX2_copyFrom 161 [.aload_n 1] 162 = true := by decide +kernel
theorem qX2_copyFrom_168 : decB cX2_copyFrom 168 [.aload_n 1] 169 = true := by decide +kernel
theorem qX2_copyFrom_172 : decB cX2_copyFrom 172 [.iconst 0, .aload_n 0] 174 = true := by decide +kernel
theorem qX2_copyFrom_177 : decB cX2_copyFrom 177 [.iconst 0, .iconst 4] 179 = true := by decide +kernel
theorem qX2_copyFrom_182 : decB cX2_copyFrom 182 [.aload_n 0] 183 = true := by decide +kernel
theorem qX2_copyFrom_186 : decB cX2_copyFrom 186 [.aload_n 1] 187 = true := by decide +kernel
theorem qX2_copyFrom_193 : decB cX2_copyFrom 193 [.aload_n 0] 194 = true := by decide +kernel
theorem qX2_copyFrom_197 : decB cX2_copyFrom 197 [.aload_n 1] 198 = true := by decide +kernel
theorem dX2_copyFrom_2 : decode cX2_copyFrom 2 = .ok (.getfield 11, 3) := by decide +kernel
theorem dX2_copyFrom_5 : decode cX2_copyFrom 5 = .ok (.putfield 11, 3) := by decide +kernel
theorem dX2_copyFrom_10 : decode cX2_copyFrom 10 = .ok (.getfield 17, 3) := by decide +kernel
theorem dX2_copyFrom_13 : decode cX2_copyFrom 13 = .ok (.putfield 17, 3) := by decide +kernel
theorem dX2_copyFrom_18 : decode cX2_copyFrom 18 = .ok (.getfield 68, 3) := by decide +kernel
theorem dX2_copyFrom_21 : decode cX2_copyFrom 21 = .ok (.putfield 68, 3) := by decide +kernel
theorem dX2_copyFrom_26 : decode cX2_copyFrom 26 = .ok (.getfield 71, 3) := by decide +kernel
theorem dX2_copyFrom_29 : decode cX2_copyFrom 29 = .ok (.putfield 71, 3) := by decide +kernel
theorem dX2_copyFrom_34 : decode cX2_copyFrom 34 = .ok (.getfield 74, 3) := by decide +kernel
theorem dX2_copyFrom_37 : decode cX2_copyFrom 37 = .ok (.putfield 74, 3) := by decide +kernel
theorem dX2_copyFrom_42 : decode cX2_copyFrom 42 = .ok (.getfield 77, 3) := by decide +kernel
theorem dX2_copyFrom_45 : decode cX2_copyFrom 45 = .ok (.putfield 77, 3) := by decide +kernel
theorem dX2_copyFrom_50 : decode cX2_copyFrom 50 = .ok (.getfield 80, 3) := by decide +kernel
theorem dX2_copyFrom_53 : decode cX2_copyFrom 53 = .ok (.putfield 80, 3) := by decide +kernel
theorem dX2_copyFrom_58 : decode cX2_copyFrom 58 = .ok (.getfield 83, 3) := by decide +kernel
theorem dX2_copyFrom_61 : decode cX2_copyFrom 61 = .ok (.putfield 83, 3) := by decide +kernel
theorem dX2_copyFrom_68 : decode cX2_copyFrom 68 = .ok (.getfield 68, 3) := by decide +kernel
theorem dX2_copyFrom_71 : decode cX2_copyFrom 71 = .ok (.if_icmp .ge 24, 3) := by decide +kernel
theorem dX2_copyFrom_75 : decode cX2_copyFrom 75 = .ok (.getfield 22, 3) := by decide +kernel
theorem dX2_copyFrom_79 : decode cX2_copyFrom 79 = .ok (.aaload, 1) := by decide +kernel
theorem dX2_copyFrom_81 : decode cX2_copyFrom 81 = .ok (.getfield 22, 3) := by decide +kernel
theorem dX2_copyFrom_85 : decode cX2_copyFrom 85 = .ok (.aaload, 1) := by decide +kernel
theorem dX2_copyFrom_86 : decode cX2_copyFrom 86 = .ok (.invokevirtual 86, 3) := by decide +kernel
theorem dX2_copyFrom_99 : decode cX2_copyFrom 99 = .ok (.getfield 71, 3) := by decide +kernel
theorem dX2_copyFrom_102 : decode cX2_copyFrom 102 = .ok (.if_icmp .ge 24, 3) := by decide +kernel
theorem dX2_copyFrom_106 : decode cX2_copyFrom 106 = .ok (.getfield 28, 3) := by decide +kernel
theorem dX2_copyFrom_110 : decode cX2_copyFrom 110 = .ok (.aaload, 1) := by decide +kernel
theorem dX2_copyFrom_112 : decode cX2_copyFrom 112 = .ok (.getfield 28, 3) := by decide +kernel
theorem dX2_copyFrom_116 : decode cX2_copyFrom 116 = .ok (.aaload, 1) := by decide +kernel
theorem dX2_copyFrom_117 : decode cX2_copyFrom 117 = .ok (.invokevirtual 90, 3) := by decide +kernel
theorem dX2_copyFrom_130 : decode cX2_copyFrom 130 = .ok (.getfield 74, 3) := by decide +kernel
theorem dX2_copyFrom_133 : decode cX2_copyFrom 133 = .ok (.if_icmp .ge 24, 3) := by decide +kernel
theorem dX2_copyFrom_137 : decode cX2_copyFrom 137 = .ok (.getfield 34, 3) := by decide +kernel
theorem dX2_copyFrom_141 : decode cX2_copyFrom 141 = .ok (.aaload, 1) := by decide +kernel
theorem dX2_copyFrom_143 : decode cX2_copyFrom 143 = .ok (.getfield 34, 3) := by decide +kernel
theorem dX2_copyFrom_147 : decode cX2_copyFrom 147 = .ok (.aaload, 1) := by decide +kernel
theorem dX2_copyFrom_148 : decode cX2_copyFrom 148 = .ok (.invokevirtual 93, 3) := by decide +kernel
theorem dX2_copyFrom_158 : decode cX2_copyFrom 158 = .ok (.getfield 41, 3) := by decide +kernel
theorem dX2_copyFrom_162 : decode cX2_copyFrom 162 = .ok (.getfield 41, 3) := by decide +kernel
theorem dX2_copyFrom_165 : decode cX2_copyFrom 165 = .ok (.invokevirtual 96, 3) := by decide +kernel
theorem dX2_copyFrom_169 : decode cX2_copyFrom 169 = .ok (.getfield 45, 3) := by decide +kernel
theorem dX2_copyFrom_174 : decode cX2_copyFrom 174 = .ok (.getfield 45, 3) := by decide +kernel
theorem dX2_copyFrom_179 : decode cX2_copyFrom 179 = .ok (.invokestatic 99, 3) := by decide +kernel
theorem dX2_copyFrom_183 : decode cX2_copyFrom 183 = .ok (.getfield 52, 3) := by decide +kernel
theorem dX2_copyFrom_187 : decode cX2_copyFrom 187 = .ok (.getfield 52, 3) := by decide +kernel
theorem dX2_copyFrom_190 : decode cX2_copyFrom 190 = .ok (.invokevirtual 105, 3) := by decide +kernel
theorem dX2_copyFrom_194 : decode cX2_copyFrom 194 = .ok (.getfield 59, 3) := by decide +kernel
theorem dX2_copyFrom_198 : decode cX2_copyFrom 198 = .ok (.getfield 59, 3) := by decide +kernel
theorem dX2_copyFrom_201 : decode cX2_copyFrom 201 = .ok (.invokevirtual 108, 3) := by decide +kernel
theorem dX2_copyFrom_204 : decode cX2_copyFrom 204 = .ok (.return_, 1) := by decide +kernel
theorem qX2_addKindRow_0 : decB cX2_addKindRow 0 [.aload_n 0] 1 = true := by decide +kernel
theorem qX2_addKindRow_4 : decB cX2_addKindRow 4 [.iconst 3] 5 = true := by decide +kernel
theorem qX2_addKindRow_8 : decB cX2_addKindRow 8 [.iconst (-1)] 9 = true := by decide +kernel
theorem qX2_addKindRow_10 : decB cX2_addKindRow 10 [.aload_n 0] 11 = true := by decide +kernel
theorem qX2_addKindRow_14 : decB cX2_addKindRow 14 [.aload_n 0] 15 = true := by decide +kernel
theorem qX2_addKindRow_19 : decB cX2_addKindRow 19 [.iload_n 1, .iload_n 2] 21 = true := by decide +kernel
theorem qX2_addKindRow_24 : decB cX2_addKindRow 24 [.aload_n 0, .dup] 26 = true := by decide +kernel
theorem qX2_addKindRow_29 : decB cX2_addKindRow 29 [.iconst 1, .iadd] 31 = true := by decide +kernel
theorem qX2_addKindRow_34 : decB cX2_addKindRow 34 [.aload_n 0] 35 = true := by decide +kernel
theorem qX2_addKindRow_38 : decB cX2_addKindRow 38 [.iconst 1, .isub] 40 = true := by decide +kernel
theorem dX2_addKindRow_1 : decode cX2_addKindRow 1 = .ok (.getfield 68, 3) := by decide +kernel
theorem dX2_addKindRow_5 : decode cX2_addKindRow 5 = .ok (.if_icmp .lt 5, 3) := by decide +kernel
theorem dX2_addKindRow_9 : decode cX2_addKindRow 9 = .ok (.ireturn, 1) := by decide +kernel
theorem dX2_addKindRow_11 : decode cX2_addKindRow 11 = .ok (.getfield 22, 3) := by decide +kernel
theorem dX2_addKindRow_15 : decode cX2_addKindRow 15 = .ok (.getfield 68, 3) := by decide +kernel
theorem dX2_addKindRow_18 : decode cX2_addKindRow 18 = .ok (.aaload, 1) := by decide +kernel
theorem dX2_addKindRow_21 : decode cX2_addKindRow 21 = .ok (.invokevirtual 111, 3) := by decide +kernel
theorem dX2_addKindRow_26 : decode cX2_addKindRow 26 = .ok (.getfield 68, 3) := by decide +kernel
theorem dX2_addKindRow_31 : decode cX2_addKindRow 31 = .ok (.putfield 68, 3) := by decide +kernel
theorem dX2_addKindRow_35 : decode cX2_addKindRow 35 = .ok (.getfield 68, 3) := by decide +kernel
theorem dX2_addKindRow_40 : decode cX2_addKindRow 40 = .ok (.ireturn, 1) := by decide +kernel
theorem qX2_addSeasonRow_0 : decB cX2_addSeasonRow 0 [.aload_n 0] 1 = true := by decide +kernel
theorem qX2_addSeasonRow_4 : decB cX2_addSeasonRow 4 [.iconst 4] 5 = true := by decide +kernel
theorem qX2_addSeasonRow_8 : decB cX2_addSeasonRow 8 [.iconst (-1)] 9 = true := by decide +kernel
theorem qX2_addSeasonRow_10 : decB cX2_addSeasonRow 10 [.aload_n 0] 11 = true := by decide +kernel
theorem qX2_addSeasonRow_14 : decB cX2_addSeasonRow 14 [.aload_n 0] 15 = true := by decide +kernel
theorem qX2_addSeasonRow_19 : decB cX2_addSeasonRow 19 [.iload_n 1, .iload_n 2, .iload_n 3, .iload 4] 24 = true := by decide +kernel
theorem qX2_addSeasonRow_27 : decB cX2_addSeasonRow 27 [.aload_n 0, .dup] 29 = true := by decide +kernel
theorem qX2_addSeasonRow_32 : decB cX2_addSeasonRow 32 [.iconst 1, .iadd] 34 = true := by decide +kernel
theorem qX2_addSeasonRow_37 : decB cX2_addSeasonRow 37 [.aload_n 0] 38 = true := by decide +kernel
theorem qX2_addSeasonRow_41 : decB cX2_addSeasonRow 41 [.iconst 1, .isub] 43 = true := by decide +kernel
theorem dX2_addSeasonRow_1 : decode cX2_addSeasonRow 1 = .ok (.getfield 71, 3) := by decide +kernel
theorem dX2_addSeasonRow_5 : decode cX2_addSeasonRow 5 = .ok (.if_icmp .lt 5, 3) := by decide +kernel
theorem dX2_addSeasonRow_9 : decode cX2_addSeasonRow 9 = .ok (.ireturn, 1) := by decide +kernel
theorem dX2_addSeasonRow_11 : decode cX2_addSeasonRow 11 = .ok (.getfield 28, 3) := by decide +kernel
theorem dX2_addSeasonRow_15 : decode cX2_addSeasonRow 15 = .ok (.getfield 71, 3) := by decide +kernel
theorem dX2_addSeasonRow_18 : decode cX2_addSeasonRow 18 = .ok (.aaload, 1) := by decide +kernel
theorem dX2_addSeasonRow_24 : decode cX2_addSeasonRow 24 = .ok (.invokevirtual 115, 3) := by decide +kernel
theorem dX2_addSeasonRow_29 : decode cX2_addSeasonRow 29 = .ok (.getfield 71, 3) := by decide +kernel
theorem dX2_addSeasonRow_34 : decode cX2_addSeasonRow 34 = .ok (.putfield 71, 3) := by decide +kernel
theorem dX2_addSeasonRow_38 : decode cX2_addSeasonRow 38 = .ok (.getfield 71, 3) := by decide +kernel
theorem dX2_addSeasonRow_43 : decode cX2_addSeasonRow 43 = .ok (.ireturn, 1) := by decide +kernel
theorem qX2_addGuest_0 : decB cX2_addGuest 0 [.aload_n 0] 1 = true := by decide +kernel
theorem qX2_addGuest_4 : decB cX2_addGuest 4 [.bipush 20] 6 = true := by decide +kernel
theorem qX2_addGuest_9 : decB cX2_addGuest 9 [.aload_n 0] 10 = true := by decide +kernel
theorem qX2_addGuest_13 : decB cX2_addGuest 13 [.aload_n 0] 14 = true := by decide +kernel
theorem qX2_addGuest_18 : decB cX2_addGuest 18 [.aload_n 1] 19 = true := by decide +kernel
theorem qX2_addGuest_22 : decB cX2_addGuest 22 [.aload_n 0, .dup] 24 = true := by decide +kernel
theorem qX2_addGuest_27 : decB cX2_addGuest 27 [.iconst 1, .iadd] 29 = true := by decide +kernel
theorem qX2_addGuest_32 : decB cX2_addGuest 32 [.aload_n 0] 33 = true := by decide +kernel
theorem dX2_addGuest_1 : decode cX2_addGuest 1 = .ok (.getfield 74, 3) := by decide +kernel
theorem dX2_addGuest_6 : decode cX2_addGuest 6 = .ok (.if_icmp .ge 26, 3) := by decide +kernel
theorem dX2_addGuest_10 : decode cX2_addGuest 10 = .ok (.getfield 34, 3) := by decide +kernel
theorem dX2_addGuest_14 : decode cX2_addGuest 14 = .ok (.getfield 74, 3) := by decide +kernel
theorem dX2_addGuest_17 : decode cX2_addGuest 17 = .ok (.aaload, 1) := by decide +kernel
theorem dX2_addGuest_19 : decode cX2_addGuest 19 = .ok (.invokevirtual 93, 3) := by decide +kernel
theorem dX2_addGuest_24 : decode cX2_addGuest 24 = .ok (.getfield 74, 3) := by decide +kernel
theorem dX2_addGuest_29 : decode cX2_addGuest 29 = .ok (.putfield 74, 3) := by decide +kernel
theorem dX2_addGuest_33 : decode cX2_addGuest 33 = .ok (.getfield 74, 3) := by decide +kernel
theorem dX2_addGuest_36 : decode cX2_addGuest 36 = .ok (.ireturn, 1) := by decide +kernel
theorem qX2_isLastNightInReach_0 : decB cX2_isLastNightInReach 0 [.iload_n 1, .aload_n 0] 2 = true := by decide +kernel
theorem qX2_isLastNightInReach_5 : decB cX2_isLastNightInReach 5 [.sipush 365, .iadd] 9 = true := by decide +kernel
theorem qX2_isLastNightInReach_12 : decB cX2_isLastNightInReach 12 [.iload_n 1] 13 = true := by decide +kernel
theorem qX2_isLastNightInReach_18 : decB cX2_isLastNightInReach 18 [.iconst 1, .goto 4] 23 = true := by decide +kernel
theorem qX2_isLastNightInReach_22 : decB cX2_isLastNightInReach 22 [.iconst 0] 23 = true := by decide +kernel
theorem dX2_isLastNightInReach_2 : decode cX2_isLastNightInReach 2 = .ok (.getfield 11, 3) := by decide +kernel
theorem dX2_isLastNightInReach_9 : decode cX2_isLastNightInReach 9 = .ok (.if_icmp .gt 13, 3) := by decide +kernel
theorem dX2_isLastNightInReach_13 : decode cX2_isLastNightInReach 13 = .ok (.ldc 118, 2) := by decide +kernel
theorem dX2_isLastNightInReach_15 : decode cX2_isLastNightInReach 15 = .ok (.if_icmp .ge 7, 3) := by decide +kernel
theorem dX2_isLastNightInReach_23 : decode cX2_isLastNightInReach 23 = .ok (.ireturn, 1) := by decide +kernel
theorem qX2_nightPrice_0 : decB cX2_nightPrice 0 [.bipush 100, .aload_n 0] 3 = true := by decide +kernel
theorem qX2_nightPrice_6 : decB cX2_nightPrice 6 [.iload_n 1] 7 = true := by decide +kernel
theorem qX2_nightPrice_8 : decB cX2_nightPrice 8 [.aload_n 0] 9 = true := by decide +kernel
theorem qX2_nightPrice_12 : decB cX2_nightPrice 12 [.iload_n 1, .iload_n 2] 14 = true := by decide +kernel
theorem qX2_nightPrice_20 : decB cX2_nightPrice 20 [.iadd, .istore_n 3, .iload_n 2] 23 = true := by decide +kernel
theorem qX2_nightPrice_26 : decB cX2_nightPrice 26 [.sipush 10000] 29 = true := by decide +kernel
theorem qX2_nightPrice_30 : decB cX2_nightPrice 30 [.istore 4, .iconst 0, .istore 5] 35 = true := by decide +kernel
theorem qX2_nightPrice_35 : decB cX2_nightPrice 35 [.iload 5, .aload_n 0] 38 = true := by decide +kernel
theorem qX2_nightPrice_44 : decB cX2_nightPrice 44 [.aload_n 0] 45 = true := by decide +kernel
theorem qX2_nightPrice_48 : decB cX2_nightPrice 48 [.iload 5] 50 = true := by decide +kernel
theorem qX2_nightPrice_51 : decB cX2_nightPrice 51 [.iload 4] 53 = true := by decide +kernel
theorem qX2_nightPrice_59 : decB cX2_nightPrice 59 [.iload_n 3, .aload_n 0] 61 = true := by decide +kernel
theorem qX2_nightPrice_64 : decB cX2_nightPrice 64 [.iload 5] 66 = true := by decide +kernel
theorem qX2_nightPrice_70 : decB cX2_nightPrice 70 [.iadd, .istore_n 3] 72 = true := by decide +kernel
theorem qX2_nightPrice_72 : decB cX2_nightPrice 72 [.iinc 5 1, .goto (-40)] 35 = true := by decide +kernel
theorem qX2_nightPrice_78 : decB cX2_nightPrice 78 [.iload_n 2] 79 = true := by decide +kernel
theorem qX2_nightPrice_82 : decB cX2_nightPrice 82 [.istore 5, .iload 5, .iconst 5] 87 = true := by decide +kernel
theorem qX2_nightPrice_90 : decB cX2_nightPrice 90 [.iload 5, .bipush 6] 94 = true := by decide +kernel
theorem qX2_nightPrice_97 : decB cX2_nightPrice 97 [.iload_n 3, .aload_n 0] 99 = true := by decide +kernel
theorem qX2_nightPrice_102 : decB cX2_nightPrice 102 [.iadd, .istore_n 3] 104 = true := by decide +kernel
theorem qX2_nightPrice_104 : decB cX2_nightPrice 104 [.aload_n 0] 105 = true := by decide +kernel
theorem qX2_nightPrice_108 : decB cX2_nightPrice 108 [.iload_n 1] 109 = true := by decide +kernel
theorem qX2_nightPrice_113 : decB cX2_nightPrice 113 [.iconst 0, .iload_n 3] 115 = true := by decide +kernel
theorem dX2_nightPrice_3 : decode cX2_nightPrice 3 = .ok (.getfield 22, 3) := by decide +kernel
theorem dX2_nightPrice_7 : decode cX2_nightPrice 7 = .ok (.aaload, 1) := by decide +kernel
theorem dX2_nightPrice_9 : decode cX2_nightPrice 9 = .ok (.getfield 41, 3) := by decide +kernel
theorem dX2_nightPrice_14 : decode cX2_nightPrice 14 = .ok (.invokevirtual 119, 3) := by decide +kernel
theorem dX2_nightPrice_17 : decode cX2_nightPrice 17 = .ok (.invokevirtual 123, 3) := by decide +kernel
theorem dX2_nightPrice_23 : decode cX2_nightPrice 23 = .ok (.invokestatic 127, 3) := by decide +kernel
theorem dX2_nightPrice_29 : decode cX2_nightPrice 29 = .ok (.irem, 1) := by decide +kernel
theorem dX2_nightPrice_38 : decode cX2_nightPrice 38 = .ok (.getfield 71, 3) := by decide +kernel
theorem dX2_nightPrice_41 : decode cX2_nightPrice 41 = .ok (.if_icmp .ge 37, 3) := by decide +kernel
theorem dX2_nightPrice_45 : decode cX2_nightPrice 45 = .ok (.getfield 28, 3) := by decide +kernel
theorem dX2_nightPrice_50 : decode cX2_nightPrice 50 = .ok (.aaload, 1) := by decide +kernel
theorem dX2_nightPrice_53 : decode cX2_nightPrice 53 = .ok (.invokevirtual 130, 3) := by decide +kernel
theorem dX2_nightPrice_56 : decode cX2_nightPrice 56 = .ok (.ifCond .eq 16, 3) := by decide +kernel
theorem dX2_nightPrice_61 : decode cX2_nightPrice 61 = .ok (.getfield 28, 3) := by decide +kernel
theorem dX2_nightPrice_66 : decode cX2_nightPrice 66 = .ok (.aaload, 1) := by decide +kernel
theorem dX2_nightPrice_67 : decode cX2_nightPrice 67 = .ok (.getfield 134, 3) := by decide +kernel
theorem dX2_nightPrice_79 : decode cX2_nightPrice 79 = .ok (.invokestatic 137, 3) := by decide +kernel
theorem dX2_nightPrice_87 : decode cX2_nightPrice 87 = .ok (.if_icmp .eq 10, 3) := by decide +kernel
theorem dX2_nightPrice_94 : decode cX2_nightPrice 94 = .ok (.if_icmp .ne 10, 3) := by decide +kernel
theorem dX2_nightPrice_99 : decode cX2_nightPrice 99 = .ok (.getfield 80, 3) := by decide +kernel
theorem dX2_nightPrice_105 : decode cX2_nightPrice 105 = .ok (.getfield 22, 3) := by decide +kernel
theorem dX2_nightPrice_109 : decode cX2_nightPrice 109 = .ok (.aaload, 1) := by decide +kernel
theorem dX2_nightPrice_110 : decode cX2_nightPrice 110 = .ok (.getfield 140, 3) := by decide +kernel
theorem dX2_nightPrice_115 : decode cX2_nightPrice 115 = .ok (.invokestatic 143, 3) := by decide +kernel
theorem dX2_nightPrice_118 : decode cX2_nightPrice 118 = .ok (.invokestatic 148, 3) := by decide +kernel
theorem dX2_nightPrice_121 : decode cX2_nightPrice 121 = .ok (.ireturn, 1) := by decide +kernel
theorem qX2_leastNights_0 : decB cX2_leastNights 0 [.iload_n 1] 1 = true := by decide +kernel
theorem qX2_leastNights_4 : decB cX2_leastNights 4 [.sipush 10000] 7 = true := by decide +kernel
theorem qX2_leastNights_8 : decB cX2_leastNights 8 [.istore_n 2, .iconst 1, .istore_n 3, .iconst 0, .istore 4] 14 = true := by decide +kernel
theorem qX2_leastNights_14 : decB cX2_leastNights 14 [.iload 4, .aload_n 0] 17 = true := by decide +kernel
theorem qX2_leastNights_23 : decB cX2_leastNights 23 [.aload_n 0] 24 = true := by decide +kernel
theorem qX2_leastNights_27 : decB cX2_leastNights 27 [.iload 4] 29 = true := by decide +kernel
theorem qX2_leastNights_30 : decB cX2_leastNights 30 [.iload_n 2] 31 = true := by decide +kernel
theorem qX2_leastNights_37 : decB cX2_leastNights 37 [.iload_n 3, .aload_n 0] 39 = true := by decide +kernel
theorem qX2_leastNights_42 : decB cX2_leastNights 42 [.iload 4] 44 = true := by decide +kernel
theorem qX2_leastNights_51 : decB cX2_leastNights 51 [.istore_n 3] 52 = true := by decide +kernel
theorem qX2_leastNights_52 : decB cX2_leastNights 52 [.iinc 4 1, .goto (-41)] 14 = true := by decide +kernel
theorem qX2_leastNights_58 : decB cX2_leastNights 58 [.iload_n 3] 59 = true := by decide +kernel
theorem dX2_leastNights_1 : decode cX2_leastNights 1 = .ok (.invokestatic 127, 3) := by decide +kernel
theorem dX2_leastNights_7 : decode cX2_leastNights 7 = .ok (.irem, 1) := by decide +kernel
theorem dX2_leastNights_17 : decode cX2_leastNights 17 = .ok (.getfield 71, 3) := by decide +kernel
theorem dX2_leastNights_20 : decode cX2_leastNights 20 = .ok (.if_icmp .ge 38, 3) := by decide +kernel
theorem dX2_leastNights_24 : decode cX2_leastNights 24 = .ok (.getfield 28, 3) := by decide +kernel
theorem dX2_leastNights_29 : decode cX2_leastNights 29 = .ok (.aaload, 1) := by decide +kernel
theorem dX2_leastNights_31 : decode cX2_leastNights 31 = .ok (.invokevirtual 130, 3) := by decide +kernel
theorem dX2_leastNights_34 : decode cX2_leastNights 34 = .ok (.ifCond .eq 18, 3) := by decide +kernel
theorem dX2_leastNights_39 : decode cX2_leastNights 39 = .ok (.getfield 28, 3) := by decide +kernel
theorem dX2_leastNights_44 : decode cX2_leastNights 44 = .ok (.aaload, 1) := by decide +kernel
theorem dX2_leastNights_45 : decode cX2_leastNights 45 = .ok (.getfield 151, 3) := by decide +kernel
theorem dX2_leastNights_48 : decode cX2_leastNights 48 = .ok (.invokestatic 143, 3) := by decide +kernel
theorem dX2_leastNights_59 : decode cX2_leastNights 59 = .ok (.ireturn, 1) := by decide +kernel
theorem qX2_firstNotHad_0 : decB cX2_firstNotHad 0 [.aload_n 0] 1 = true := by decide +kernel
theorem qX2_firstNotHad_4 : decB cX2_firstNotHad 4 [.iload_n 1] 5 = true := by decide +kernel
theorem qX2_firstNotHad_6 : decB cX2_firstNotHad 6 [.astore 4, .iload_n 2, .istore 5] 11 = true := by decide +kernel
theorem qX2_firstNotHad_11 : decB cX2_firstNotHad 11 [.iload 5, .iload_n 2, .iload_n 3, .iadd] 16 = true := by decide +kernel
theorem qX2_firstNotHad_19 : decB cX2_firstNotHad 19 [.aload 4, .iload 5] 23 = true := by decide +kernel
theorem qX2_firstNotHad_29 : decB cX2_firstNotHad 29 [.aload_n 0] 30 = true := by decide +kernel
theorem qX2_firstNotHad_33 : decB cX2_firstNotHad 33 [.iload_n 1, .iload 5] 36 = true := by decide +kernel
theorem qX2_firstNotHad_39 : decB cX2_firstNotHad 39 [.aload 4] 41 = true := by decide +kernel
theorem qX2_firstNotHad_44 : decB cX2_firstNotHad 44 [.aload 4] 46 = true := by decide +kernel
theorem qX2_firstNotHad_49 : decB cX2_firstNotHad 49 [.iadd] 50 = true := by decide +kernel
theorem qX2_firstNotHad_53 : decB cX2_firstNotHad 53 [.iload 5] 55 = true := by decide +kernel
theorem qX2_firstNotHad_56 : decB cX2_firstNotHad 56 [.iinc 5 1, .goto (-48)] 11 = true := by decide +kernel
theorem qX2_firstNotHad_62 : decB cX2_firstNotHad 62 [.iconst (-1)] 63 = true := by decide +kernel
theorem dX2_firstNotHad_1 : decode cX2_firstNotHad 1 = .ok (.getfield 22, 3) := by decide +kernel
theorem dX2_firstNotHad_5 : decode cX2_firstNotHad 5 = .ok (.aaload, 1) := by decide +kernel
theorem dX2_firstNotHad_16 : decode cX2_firstNotHad 16 = .ok (.if_icmp .ge 46, 3) := by decide +kernel
theorem dX2_firstNotHad_23 : decode cX2_firstNotHad 23 = .ok (.invokevirtual 154, 3) := by decide +kernel
theorem dX2_firstNotHad_26 : decode cX2_firstNotHad 26 = .ok (.ifCond .ne 27, 3) := by decide +kernel
theorem dX2_firstNotHad_30 : decode cX2_firstNotHad 30 = .ok (.getfield 41, 3) := by decide +kernel
theorem dX2_firstNotHad_36 : decode cX2_firstNotHad 36 = .ok (.invokevirtual 119, 3) := by decide +kernel
theorem dX2_firstNotHad_41 : decode cX2_firstNotHad 41 = .ok (.getfield 157, 3) := by decide +kernel
theorem dX2_firstNotHad_46 : decode cX2_firstNotHad 46 = .ok (.getfield 160, 3) := by decide +kernel
theorem dX2_firstNotHad_50 : decode cX2_firstNotHad 50 = .ok (.if_icmp .lt 6, 3) := by decide +kernel
theorem dX2_firstNotHad_55 : decode cX2_firstNotHad 55 = .ok (.ireturn, 1) := by decide +kernel
theorem dX2_firstNotHad_63 : decode cX2_firstNotHad 63 = .ok (.ireturn, 1) := by decide +kernel
theorem qX2_refusalOf_0 : decB cX2_refusalOf 0 [.aload_n 0, .aload_n 1] 2 = true := by decide +kernel
theorem qX2_refusalOf_5 : decB cX2_refusalOf 5 [.aload_n 1] 6 = true := by decide +kernel
theorem qX2_refusalOf_9 : decB cX2_refusalOf 9 [.aload_n 1] 10 = true := by decide +kernel
theorem qX2_refusalOf_16 : decB cX2_refusalOf 16 [.istore_n 2, .iload_n 2, .iconst (-1)] 19 = true := by decide +kernel
theorem qX2_refusalOf_22 : decB cX2_refusalOf 22 [.aload_n 1] 23 = true := by decide +kernel
theorem qX2_refusalOf_26 : decB cX2_refusalOf 26 [.aload_n 0, .aload_n 1] 28 = true := by decide +kernel
theorem qX2_refusalOf_37 : decB cX2_refusalOf 37 [.aload_n 1] 38 = true := by decide +kernel
theorem qX2_refusalOf_42 : decB cX2_refusalOf 42 [.iload_n 2] 43 = true := by decide +kernel
theorem dX2_refusalOf_2 : decode cX2_refusalOf 2 = .ok (.getfield 163, 3) := by decide +kernel
theorem dX2_refusalOf_6 : decode cX2_refusalOf 6 = .ok (.getfield 166, 3) := by decide +kernel
theorem dX2_refusalOf_10 : decode cX2_refusalOf 10 = .ok (.getfield 169, 3) := by decide +kernel
theorem dX2_refusalOf_13 : decode cX2_refusalOf 13 = .ok (.invokevirtual 172, 3) := by decide +kernel
theorem dX2_refusalOf_19 : decode cX2_refusalOf 19 = .ok (.if_icmp .ne 23, 3) := by decide +kernel
theorem dX2_refusalOf_23 : decode cX2_refusalOf 23 = .ok (.getfield 169, 3) := by decide +kernel
theorem dX2_refusalOf_28 : decode cX2_refusalOf 28 = .ok (.getfield 166, 3) := by decide +kernel
theorem dX2_refusalOf_31 : decode cX2_refusalOf 31 = .ok (.invokevirtual 176, 3) := by decide +kernel
theorem dX2_refusalOf_34 : decode cX2_refusalOf 34 = .ok (.if_icmp .ge 8, 3) := by decide +kernel
theorem dX2_refusalOf_38 : decode cX2_refusalOf 38 = .ok (.getfield 166, 3) := by decide +kernel
theorem dX2_refusalOf_41 : decode cX2_refusalOf 41 = .ok (.ireturn, 1) := by decide +kernel
theorem dX2_refusalOf_43 : decode cX2_refusalOf 43 = .ok (.ireturn, 1) := by decide +kernel
theorem qX2_place_0 : decB cX2_place 0 [.aload_n 0, .aload_n 1] 2 = true := by decide +kernel
theorem qX2_place_5 : decB cX2_place 5 [.istore 4, .iload 4, .iconst (-1)] 10 = true := by decide +kernel
theorem qX2_place_13 : decB cX2_place 13 [.aload_n 0, .iload 4] 16 = true := by decide +kernel
theorem qX2_place_19 : decB cX2_place 19 [.iconst (-1)] 20 = true := by decide +kernel
theorem qX2_place_21 : decB cX2_place 21 [.aload_n 0, .aload_n 1, .iload_n 2, .iload_n 3] 25 = true := by decide +kernel
theorem dX2_place_2 : decode cX2_place 2 = .ok (.invokevirtual 179, 3) := by decide +kernel
theorem dX2_place_10 : decode cX2_place 10 = .ok (.if_icmp .eq 11, 3) := by decide +kernel
theorem dX2_place_16 : decode cX2_place 16 = .ok (.putfield 17, 3) := by decide +kernel
theorem dX2_place_20 : decode cX2_place 20 = .ok (.ireturn, 1) := by decide +kernel
theorem dX2_place_25 : decode cX2_place 25 = .ok (.invokevirtual 183, 3) := by decide +kernel
theorem dX2_place_28 : decode cX2_place 28 = .ok (.ireturn, 1) := by decide +kernel
theorem qX2_placeGroup_0 : decB cX2_placeGroup 0 [.aload_n 0] 1 = true := by decide +kernel
theorem qX2_placeGroup_7 : decB cX2_placeGroup 7 [.istore 4, .iconst 0, .istore 5] 12 = true := by decide +kernel
theorem qX2_placeGroup_12 : decB cX2_placeGroup 12 [.iload 5, .iload_n 2] 15 = true := by decide +kernel
theorem qX2_placeGroup_18 : decB cX2_placeGroup 18 [.aload_n 0, .aload_n 1, .iload_n 3, .aload_n 0] 22 = true := by decide +kernel
theorem qX2_placeGroup_28 : decB cX2_placeGroup 28 [.iconst (-1)] 29 = true := by decide +kernel
theorem qX2_placeGroup_32 : decB cX2_placeGroup 32 [.aload_n 0] 33 = true := by decide +kernel
theorem qX2_placeGroup_36 : decB cX2_placeGroup 36 [.iload 4] 38 = true := by decide +kernel
theorem qX2_placeGroup_41 : decB cX2_placeGroup 41 [.iconst (-1)] 42 = true := by decide +kernel
theorem qX2_placeGroup_43 : decB cX2_placeGroup 43 [.iinc 5 1, .goto (-34)] 12 = true := by decide +kernel
theorem qX2_placeGroup_49 : decB cX2_placeGroup 49 [.aload_n 0, .dup] 51 = true := by decide +kernel
theorem qX2_placeGroup_54 : decB cX2_placeGroup 54 [.iconst 1, .iadd] 56 = true := by decide +kernel
theorem qX2_placeGroup_59 : decB cX2_placeGroup 59 [.aload_n 0] 60 = true := by decide +kernel
theorem qX2_placeGroup_63 : decB cX2_placeGroup 63 [.iconst 1, .isub] 65 = true := by decide +kernel
theorem dX2_placeGroup_1 : decode cX2_placeGroup 1 = .ok (.getfield 41, 3) := by decide +kernel
theorem dX2_placeGroup_4 : decode cX2_placeGroup 4 = .ok (.getfield 187, 3) := by decide +kernel
theorem dX2_placeGroup_15 : decode cX2_placeGroup 15 = .ok (.if_icmp .ge 34, 3) := by decide +kernel
theorem dX2_placeGroup_22 : decode cX2_placeGroup 22 = .ok (.getfield 77, 3) := by decide +kernel
theorem dX2_placeGroup_25 : decode cX2_placeGroup 25 = .ok (.invokevirtual 190, 3) := by decide +kernel
theorem dX2_placeGroup_29 : decode cX2_placeGroup 29 = .ok (.if_icmp .ne 14, 3) := by decide +kernel
theorem dX2_placeGroup_33 : decode cX2_placeGroup 33 = .ok (.getfield 41, 3) := by decide +kernel
theorem dX2_placeGroup_38 : decode cX2_placeGroup 38 = .ok (.putfield 187, 3) := by decide +kernel
theorem dX2_placeGroup_42 : decode cX2_placeGroup 42 = .ok (.ireturn, 1) := by decide +kernel
theorem dX2_placeGroup_51 : decode cX2_placeGroup 51 = .ok (.getfield 77, 3) := by decide +kernel
theorem dX2_placeGroup_56 : decode cX2_placeGroup 56 = .ok (.putfield 77, 3) := by decide +kernel
theorem dX2_placeGroup_60 : decode cX2_placeGroup 60 = .ok (.getfield 77, 3) := by decide +kernel
theorem dX2_placeGroup_65 : decode cX2_placeGroup 65 = .ok (.ireturn, 1) := by decide +kernel
theorem qX2_takeIn_0 : decB cX2_takeIn 0 [.aload_n 0] 1 = true := by decide +kernel
theorem qX2_takeIn_7 : decB cX2_takeIn 7 [.bipush 60] 9 = true := by decide +kernel
theorem qX2_takeIn_12 : decB cX2_takeIn 12 [.iconst (-1)] 13 = true := by decide +kernel
theorem qX2_takeIn_14 : decB cX2_takeIn 14 [.aload_n 0] 15 = true := by decide +kernel
theorem qX2_takeIn_21 : decB cX2_takeIn 21 [.aload_n 0] 22 = true := by decide +kernel
theorem qX2_takeIn_29 : decB cX2_takeIn 29 [.astore 4, .aload 4, .aload_n 1, .iload_n 2, .iload_n 3, .aload_n 0] 37 = true := by decide +kernel
theorem qX2_takeIn_43 : decB cX2_takeIn 43 [.aload_n 0, .aload 4, .aload_n 1] 47 = true := by decide +kernel
theorem qX2_takeIn_53 : decB cX2_takeIn 53 [.pop, .aload_n 0] 55 = true := by decide +kernel
theorem qX2_takeIn_58 : decB cX2_takeIn 58 [.dup] 59 = true := by decide +kernel
theorem qX2_takeIn_62 : decB cX2_takeIn 62 [.iconst 1, .iadd] 64 = true := by decide +kernel
theorem qX2_takeIn_67 : decB cX2_takeIn 67 [.aload_n 0] 68 = true := by decide +kernel
theorem qX2_takeIn_74 : decB cX2_takeIn 74 [.iconst 1, .isub] 76 = true := by decide +kernel
theorem dX2_takeIn_1 : decode cX2_takeIn 1 = .ok (.getfield 41, 3) := by decide +kernel
theorem dX2_takeIn_4 : decode cX2_takeIn 4 = .ok (.getfield 187, 3) := by decide +kernel
theorem dX2_takeIn_9 : decode cX2_takeIn 9 = .ok (.if_icmp .lt 5, 3) := by decide +kernel
theorem dX2_takeIn_13 : decode cX2_takeIn 13 = .ok (.ireturn, 1) := by decide +kernel
theorem dX2_takeIn_15 : decode cX2_takeIn 15 = .ok (.getfield 41, 3) := by decide +kernel
theorem dX2_takeIn_18 : decode cX2_takeIn 18 = .ok (.getfield 193, 3) := by decide +kernel
theorem dX2_takeIn_22 : decode cX2_takeIn 22 = .ok (.getfield 41, 3) := by decide +kernel
theorem dX2_takeIn_25 : decode cX2_takeIn 25 = .ok (.getfield 187, 3) := by decide +kernel
theorem dX2_takeIn_28 : decode cX2_takeIn 28 = .ok (.aaload, 1) := by decide +kernel
theorem dX2_takeIn_37 : decode cX2_takeIn 37 = .ok (.getfield 83, 3) := by decide +kernel
theorem dX2_takeIn_40 : decode cX2_takeIn 40 = .ok (.invokevirtual 197, 3) := by decide +kernel
theorem dX2_takeIn_47 : decode cX2_takeIn 47 = .ok (.getfield 169, 3) := by decide +kernel
theorem dX2_takeIn_50 : decode cX2_takeIn 50 = .ok (.invokevirtual 202, 3) := by decide +kernel
theorem dX2_takeIn_55 : decode cX2_takeIn 55 = .ok (.getfield 41, 3) := by decide +kernel
theorem dX2_takeIn_59 : decode cX2_takeIn 59 = .ok (.getfield 187, 3) := by decide +kernel
theorem dX2_takeIn_64 : decode cX2_takeIn 64 = .ok (.putfield 187, 3) := by decide +kernel
theorem dX2_takeIn_68 : decode cX2_takeIn 68 = .ok (.getfield 41, 3) := by decide +kernel
theorem dX2_takeIn_71 : decode cX2_takeIn 71 = .ok (.getfield 187, 3) := by decide +kernel
theorem dX2_takeIn_76 : decode cX2_takeIn 76 = .ok (.ireturn, 1) := by decide +kernel
theorem qX2_addNights_0 : decB cX2_addNights 0 [.aload_n 1] 1 = true := by decide +kernel
theorem qX2_addNights_4 : decB cX2_addNights 4 [.istore_n 3, .iconst 0, .istore 4] 8 = true := by decide +kernel
theorem qX2_addNights_8 : decB cX2_addNights 8 [.iload 4, .iload_n 2] 11 = true := by decide +kernel
theorem qX2_addNights_14 : decB cX2_addNights 14 [.aload_n 1, .aload_n 0, .aload_n 1] 17 = true := by decide +kernel
theorem qX2_addNights_20 : decB cX2_addNights 20 [.aload_n 1] 21 = true := by decide +kernel
theorem qX2_addNights_24 : decB cX2_addNights 24 [.aload_n 1] 25 = true := by decide +kernel
theorem qX2_addNights_28 : decB cX2_addNights 28 [.iadd] 29 = true := by decide +kernel
theorem qX2_addNights_35 : decB cX2_addNights 35 [.iinc 4 1, .goto (-30)] 8 = true := by decide +kernel
theorem qX2_addNights_41 : decB cX2_addNights 41 [.aload_n 1] 42 = true := by decide +kernel
theorem qX2_addNights_45 : decB cX2_addNights 45 [.iload_n 3, .isub] 47 = true := by decide +kernel
theorem dX2_addNights_1 : decode cX2_addNights 1 = .ok (.getfield 206, 3) := by decide +kernel
theorem dX2_addNights_11 : decode cX2_addNights 11 = .ok (.if_icmp .ge 30, 3) := by decide +kernel
theorem dX2_addNights_17 : decode cX2_addNights 17 = .ok (.getfield 207, 3) := by decide +kernel
theorem dX2_addNights_21 : decode cX2_addNights 21 = .ok (.getfield 208, 3) := by decide +kernel
theorem dX2_addNights_25 : decode cX2_addNights 25 = .ok (.getfield 209, 3) := by decide +kernel
theorem dX2_addNights_29 : decode cX2_addNights 29 = .ok (.invokevirtual 210, 3) := by decide +kernel
theorem dX2_addNights_32 : decode cX2_addNights 32 = .ok (.invokevirtual 213, 3) := by decide +kernel
theorem dX2_addNights_42 : decode cX2_addNights 42 = .ok (.getfield 206, 3) := by decide +kernel
theorem dX2_addNights_47 : decode cX2_addNights 47 = .ok (.ireturn, 1) := by decide +kernel
theorem qX2_lengthen_0 : decB cX2_lengthen 0 [.aload_n 0, .aload_n 1] 2 = true := by decide +kernel
theorem qX2_lengthen_5 : decB cX2_lengthen 5 [.aload_n 1] 6 = true := by decide +kernel
theorem qX2_lengthen_9 : decB cX2_lengthen 9 [.aload_n 1] 10 = true := by decide +kernel
theorem qX2_lengthen_13 : decB cX2_lengthen 13 [.iadd, .iload_n 2] 15 = true := by decide +kernel
theorem qX2_lengthen_18 : decB cX2_lengthen 18 [.istore_n 3, .iload_n 3, .iconst (-1)] 21 = true := by decide +kernel
theorem qX2_lengthen_24 : decB cX2_lengthen 24 [.aload_n 0, .iload_n 3] 26 = true := by decide +kernel
theorem qX2_lengthen_29 : decB cX2_lengthen 29 [.iconst (-1)] 30 = true := by decide +kernel
theorem qX2_lengthen_31 : decB cX2_lengthen 31 [.aload_n 0, .aload_n 1, .iload_n 2] 34 = true := by decide +kernel
theorem dX2_lengthen_2 : decode cX2_lengthen 2 = .ok (.getfield 207, 3) := by decide +kernel
theorem dX2_lengthen_6 : decode cX2_lengthen 6 = .ok (.getfield 208, 3) := by decide +kernel
theorem dX2_lengthen_10 : decode cX2_lengthen 10 = .ok (.getfield 209, 3) := by decide +kernel
theorem dX2_lengthen_15 : decode cX2_lengthen 15 = .ok (.invokevirtual 172, 3) := by decide +kernel
theorem dX2_lengthen_21 : decode cX2_lengthen 21 = .ok (.if_icmp .eq 10, 3) := by decide +kernel
theorem dX2_lengthen_26 : decode cX2_lengthen 26 = .ok (.putfield 17, 3) := by decide +kernel
theorem dX2_lengthen_30 : decode cX2_lengthen 30 = .ok (.ireturn, 1) := by decide +kernel
theorem dX2_lengthen_34 : decode cX2_lengthen 34 = .ok (.invokevirtual 202, 3) := by decide +kernel
theorem dX2_lengthen_37 : decode cX2_lengthen 37 = .ok (.ireturn, 1) := by decide +kernel
theorem qX2_takeDeposit_0 : decB cX2_takeDeposit 0 [.aload_n 1, .iconst 1] 2 = true := by decide +kernel
theorem qX2_takeDeposit_5 : decB cX2_takeDeposit 5 [.aload_n 1, .aload_n 1] 7 = true := by decide +kernel
theorem qX2_takeDeposit_10 : decB cX2_takeDeposit 10 [.bipush 20] 12 = true := by decide +kernel
theorem qX2_takeDeposit_18 : decB cX2_takeDeposit 18 [.aload_n 0] 19 = true := by decide +kernel
theorem qX2_takeDeposit_22 : decB cX2_takeDeposit 22 [.iconst 0, .dup2] 24 = true := by decide +kernel
theorem qX2_takeDeposit_25 : decB cX2_takeDeposit 25 [.aload_n 1] 26 = true := by decide +kernel
theorem qX2_takeDeposit_30 : decB cX2_takeDeposit 30 [.lsub] 31 = true := by decide +kernel
theorem qX2_takeDeposit_32 : decB cX2_takeDeposit 32 [.aload_n 0] 33 = true := by decide +kernel
theorem qX2_takeDeposit_36 : decB cX2_takeDeposit 36 [.iconst 1, .dup2] 38 = true := by decide +kernel
theorem qX2_takeDeposit_39 : decB cX2_takeDeposit 39 [.aload_n 1] 40 = true := by decide +kernel
theorem qX2_takeDeposit_44 : decB cX2_takeDeposit 44 [.ladd] 45 = true := by decide +kernel
theorem qX2_takeDeposit_46 : decB cX2_takeDeposit 46 [.aload_n 1] 47 = true := by decide +kernel
theorem dX2_takeDeposit_2 : decode cX2_takeDeposit 2 = .ok (.putfield 217, 3) := by decide +kernel
theorem dX2_takeDeposit_7 : decode cX2_takeDeposit 7 = .ok (.getfield 206, 3) := by decide +kernel
theorem dX2_takeDeposit_12 : decode cX2_takeDeposit 12 = .ok (.invokestatic 148, 3) := by decide +kernel
theorem dX2_takeDeposit_15 : decode cX2_takeDeposit 15 = .ok (.putfield 220, 3) := by decide +kernel
theorem dX2_takeDeposit_19 : decode cX2_takeDeposit 19 = .ok (.getfield 45, 3) := by decide +kernel
theorem dX2_takeDeposit_24 : decode cX2_takeDeposit 24 = .ok (.laload, 1) := by decide +kernel
theorem dX2_takeDeposit_26 : decode cX2_takeDeposit 26 = .ok (.getfield 220, 3) := by decide +kernel
theorem dX2_takeDeposit_29 : decode cX2_takeDeposit 29 = .ok (.i2l, 1) := by decide +kernel
theorem dX2_takeDeposit_31 : decode cX2_takeDeposit 31 = .ok (.lastore, 1) := by decide +kernel
theorem dX2_takeDeposit_33 : decode cX2_takeDeposit 33 = .ok (.getfield 45, 3) := by decide +kernel
theorem dX2_takeDeposit_38 : decode cX2_takeDeposit 38 = .ok (.laload, 1) := by decide +kernel
theorem dX2_takeDeposit_40 : decode cX2_takeDeposit 40 = .ok (.getfield 220, 3) := by decide +kernel
theorem dX2_takeDeposit_43 : decode cX2_takeDeposit 43 = .ok (.i2l, 1) := by decide +kernel
theorem dX2_takeDeposit_45 : decode cX2_takeDeposit 45 = .ok (.lastore, 1) := by decide +kernel
theorem dX2_takeDeposit_47 : decode cX2_takeDeposit 47 = .ok (.getfield 220, 3) := by decide +kernel
theorem dX2_takeDeposit_50 : decode cX2_takeDeposit 50 = .ok (.ireturn, 1) := by decide +kernel
theorem qX2_cancelStay_0 : decB cX2_cancelStay 0 [.aload_n 1, .aload_n 0] 2 = true := by decide +kernel
theorem qX2_cancelStay_8 : decB cX2_cancelStay 8 [.istore_n 2, .aload_n 1] 10 = true := by decide +kernel
theorem qX2_cancelStay_13 : decB cX2_cancelStay 13 [.iconst 1] 14 = true := by decide +kernel
theorem qX2_cancelStay_17 : decB cX2_cancelStay 17 [.aload_n 0] 18 = true := by decide +kernel
theorem qX2_cancelStay_21 : decB cX2_cancelStay 21 [.iconst 1, .dup2] 23 = true := by decide +kernel
theorem qX2_cancelStay_24 : decB cX2_cancelStay 24 [.aload_n 1] 25 = true := by decide +kernel
theorem qX2_cancelStay_29 : decB cX2_cancelStay 29 [.lsub] 30 = true := by decide +kernel
theorem qX2_cancelStay_31 : decB cX2_cancelStay 31 [.aload_n 0] 32 = true := by decide +kernel
theorem qX2_cancelStay_35 : decB cX2_cancelStay 35 [.iconst 0, .dup2] 37 = true := by decide +kernel
theorem qX2_cancelStay_38 : decB cX2_cancelStay 38 [.iload_n 2] 39 = true := by decide +kernel
theorem qX2_cancelStay_40 : decB cX2_cancelStay 40 [.ladd] 41 = true := by decide +kernel
theorem qX2_cancelStay_42 : decB cX2_cancelStay 42 [.aload_n 0] 43 = true := by decide +kernel
theorem qX2_cancelStay_46 : decB cX2_cancelStay 46 [.iconst 2, .dup2] 48 = true := by decide +kernel
theorem qX2_cancelStay_49 : decB cX2_cancelStay 49 [.aload_n 1] 50 = true := by decide +kernel
theorem qX2_cancelStay_53 : decB cX2_cancelStay 53 [.iload_n 2, .isub] 55 = true := by decide +kernel
theorem qX2_cancelStay_56 : decB cX2_cancelStay 56 [.ladd] 57 = true := by decide +kernel
theorem qX2_cancelStay_58 : decB cX2_cancelStay 58 [.aload_n 1, .iconst 2] 60 = true := by decide +kernel
theorem qX2_cancelStay_63 : decB cX2_cancelStay 63 [.iload_n 2] 64 = true := by decide +kernel
theorem dX2_cancelStay_2 : decode cX2_cancelStay 2 = .ok (.getfield 11, 3) := by decide +kernel
theorem dX2_cancelStay_5 : decode cX2_cancelStay 5 = .ok (.invokevirtual 223, 3) := by decide +kernel
theorem dX2_cancelStay_10 : decode cX2_cancelStay 10 = .ok (.getfield 217, 3) := by decide +kernel
theorem dX2_cancelStay_14 : decode cX2_cancelStay 14 = .ok (.if_icmp .ne 44, 3) := by decide +kernel
theorem dX2_cancelStay_18 : decode cX2_cancelStay 18 = .ok (.getfield 45, 3) := by decide +kernel
theorem dX2_cancelStay_23 : decode cX2_cancelStay 23 = .ok (.laload, 1) := by decide +kernel
theorem dX2_cancelStay_25 : decode cX2_cancelStay 25 = .ok (.getfield 220, 3) := by decide +kernel
theorem dX2_cancelStay_28 : decode cX2_cancelStay 28 = .ok (.i2l, 1) := by decide +kernel
theorem dX2_cancelStay_30 : decode cX2_cancelStay 30 = .ok (.lastore, 1) := by decide +kernel
theorem dX2_cancelStay_32 : decode cX2_cancelStay 32 = .ok (.getfield 45, 3) := by decide +kernel
theorem dX2_cancelStay_37 : decode cX2_cancelStay 37 = .ok (.laload, 1) := by decide +kernel
theorem dX2_cancelStay_39 : decode cX2_cancelStay 39 = .ok (.i2l, 1) := by decide +kernel
theorem dX2_cancelStay_41 : decode cX2_cancelStay 41 = .ok (.lastore, 1) := by decide +kernel
theorem dX2_cancelStay_43 : decode cX2_cancelStay 43 = .ok (.getfield 45, 3) := by decide +kernel
theorem dX2_cancelStay_48 : decode cX2_cancelStay 48 = .ok (.laload, 1) := by decide +kernel
theorem dX2_cancelStay_50 : decode cX2_cancelStay 50 = .ok (.getfield 220, 3) := by decide +kernel
theorem dX2_cancelStay_55 : decode cX2_cancelStay 55 = .ok (.i2l, 1) := by decide +kernel
theorem dX2_cancelStay_57 : decode cX2_cancelStay 57 = .ok (.lastore, 1) := by decide +kernel
theorem dX2_cancelStay_60 : decode cX2_cancelStay 60 = .ok (.putfield 217, 3) := by decide +kernel
theorem dX2_cancelStay_64 : decode cX2_cancelStay 64 = .ok (.ireturn, 1) := by decide +kernel
theorem qX2_endStay_0 : decB cX2_endStay 0 [.aload_n 1] 1 = true := by decide +kernel
theorem qX2_endStay_5 : decB cX2_endStay 5 [.lstore_n 2, .aload_n 0] 7 = true := by decide +kernel
theorem qX2_endStay_10 : decB cX2_endStay 10 [.iconst 1, .dup2] 12 = true := by decide +kernel
theorem qX2_endStay_13 : decB cX2_endStay 13 [.aload_n 1] 14 = true := by decide +kernel
theorem qX2_endStay_18 : decB cX2_endStay 18 [.lsub] 19 = true := by decide +kernel
theorem qX2_endStay_20 : decB cX2_endStay 20 [.aload_n 0] 21 = true := by decide +kernel
theorem qX2_endStay_24 : decB cX2_endStay 24 [.iconst 0, .dup2] 26 = true := by decide +kernel
theorem qX2_endStay_27 : decB cX2_endStay 27 [.aload_n 1] 28 = true := by decide +kernel
theorem qX2_endStay_32 : decB cX2_endStay 32 [.lload_n 2, .ladd, .aload_n 1] 35 = true := by decide +kernel
theorem qX2_endStay_39 : decB cX2_endStay 39 [.lsub, .lsub] 41 = true := by decide +kernel
theorem qX2_endStay_42 : decB cX2_endStay 42 [.aload_n 0] 43 = true := by decide +kernel
theorem qX2_endStay_46 : decB cX2_endStay 46 [.iconst 2, .dup2] 48 = true := by decide +kernel
theorem qX2_endStay_49 : decB cX2_endStay 49 [.aload_n 1] 50 = true := by decide +kernel
theorem qX2_endStay_54 : decB cX2_endStay 54 [.ladd] 55 = true := by decide +kernel
theorem qX2_endStay_56 : decB cX2_endStay 56 [.aload_n 0] 57 = true := by decide +kernel
theorem qX2_endStay_60 : decB cX2_endStay 60 [.iconst 3, .dup2] 62 = true := by decide +kernel
theorem qX2_endStay_63 : decB cX2_endStay 63 [.lload_n 2, .ladd] 65 = true := by decide +kernel
theorem qX2_endStay_66 : decB cX2_endStay 66 [.aload_n 1, .iconst 4] 68 = true := by decide +kernel
theorem dX2_endStay_1 : decode cX2_endStay 1 = .ok (.invokevirtual 226, 3) := by decide +kernel
theorem dX2_endStay_4 : decode cX2_endStay 4 = .ok (.i2l, 1) := by decide +kernel
theorem dX2_endStay_7 : decode cX2_endStay 7 = .ok (.getfield 45, 3) := by decide +kernel
theorem dX2_endStay_12 : decode cX2_endStay 12 = .ok (.laload, 1) := by decide +kernel
theorem dX2_endStay_14 : decode cX2_endStay 14 = .ok (.getfield 220, 3) := by decide +kernel
theorem dX2_endStay_17 : decode cX2_endStay 17 = .ok (.i2l, 1) := by decide +kernel
theorem dX2_endStay_19 : decode cX2_endStay 19 = .ok (.lastore, 1) := by decide +kernel
theorem dX2_endStay_21 : decode cX2_endStay 21 = .ok (.getfield 45, 3) := by decide +kernel
theorem dX2_endStay_26 : decode cX2_endStay 26 = .ok (.laload, 1) := by decide +kernel
theorem dX2_endStay_28 : decode cX2_endStay 28 = .ok (.getfield 206, 3) := by decide +kernel
theorem dX2_endStay_31 : decode cX2_endStay 31 = .ok (.i2l, 1) := by decide +kernel
theorem dX2_endStay_35 : decode cX2_endStay 35 = .ok (.getfield 220, 3) := by decide +kernel
theorem dX2_endStay_38 : decode cX2_endStay 38 = .ok (.i2l, 1) := by decide +kernel
theorem dX2_endStay_41 : decode cX2_endStay 41 = .ok (.lastore, 1) := by decide +kernel
theorem dX2_endStay_43 : decode cX2_endStay 43 = .ok (.getfield 45, 3) := by decide +kernel
theorem dX2_endStay_48 : decode cX2_endStay 48 = .ok (.laload, 1) := by decide +kernel
theorem dX2_endStay_50 : decode cX2_endStay 50 = .ok (.getfield 206, 3) := by decide +kernel
theorem dX2_endStay_53 : decode cX2_endStay 53 = .ok (.i2l, 1) := by decide +kernel
theorem dX2_endStay_55 : decode cX2_endStay 55 = .ok (.lastore, 1) := by decide +kernel
theorem dX2_endStay_57 : decode cX2_endStay 57 = .ok (.getfield 45, 3) := by decide +kernel
theorem dX2_endStay_62 : decode cX2_endStay 62 = .ok (.laload, 1) := by decide +kernel
theorem dX2_endStay_65 : decode cX2_endStay 65 = .ok (.lastore, 1) := by decide +kernel
theorem dX2_endStay_68 : decode cX2_endStay 68 = .ok (.putfield 217, 3) := by decide +kernel
theorem dX2_endStay_71 : decode cX2_endStay 71 = .ok (.return_, 1) := by decide +kernel
theorem qX2_sendAway_0 : decB cX2_sendAway 0 [.aload_n 0] 1 = true := by decide +kernel
theorem qX2_sendAway_4 : decB cX2_sendAway 4 [.iconst 1, .dup2] 6 = true := by decide +kernel
theorem qX2_sendAway_7 : decB cX2_sendAway 7 [.aload_n 1] 8 = true := by decide +kernel
theorem qX2_sendAway_12 : decB cX2_sendAway 12 [.lsub] 13 = true := by decide +kernel
theorem qX2_sendAway_14 : decB cX2_sendAway 14 [.aload_n 0] 15 = true := by decide +kernel
theorem qX2_sendAway_18 : decB cX2_sendAway 18 [.iconst 0, .dup2] 20 = true := by decide +kernel
theorem qX2_sendAway_21 : decB cX2_sendAway 21 [.aload_n 1] 22 = true := by decide +kernel
theorem qX2_sendAway_26 : decB cX2_sendAway 26 [.ladd] 27 = true := by decide +kernel
theorem qX2_sendAway_28 : decB cX2_sendAway 28 [.aload_n 1, .iconst 3] 30 = true := by decide +kernel
theorem dX2_sendAway_1 : decode cX2_sendAway 1 = .ok (.getfield 45, 3) := by decide +kernel
theorem dX2_sendAway_6 : decode cX2_sendAway 6 = .ok (.laload, 1) := by decide +kernel
theorem dX2_sendAway_8 : decode cX2_sendAway 8 = .ok (.getfield 220, 3) := by decide +kernel
theorem dX2_sendAway_11 : decode cX2_sendAway 11 = .ok (.i2l, 1) := by decide +kernel
theorem dX2_sendAway_13 : decode cX2_sendAway 13 = .ok (.lastore, 1) := by decide +kernel
theorem dX2_sendAway_15 : decode cX2_sendAway 15 = .ok (.getfield 45, 3) := by decide +kernel
theorem dX2_sendAway_20 : decode cX2_sendAway 20 = .ok (.laload, 1) := by decide +kernel
theorem dX2_sendAway_22 : decode cX2_sendAway 22 = .ok (.getfield 220, 3) := by decide +kernel
theorem dX2_sendAway_25 : decode cX2_sendAway 25 = .ok (.i2l, 1) := by decide +kernel
theorem dX2_sendAway_27 : decode cX2_sendAway 27 = .ok (.lastore, 1) := by decide +kernel
theorem dX2_sendAway_30 : decode cX2_sendAway 30 = .ok (.putfield 217, 3) := by decide +kernel
theorem dX2_sendAway_33 : decode cX2_sendAway 33 = .ok (.return_, 1) := by decide +kernel
theorem qX2_passDay_0 : decB cX2_passDay 0 [.aload_n 0, .dup] 2 = true := by decide +kernel
theorem qX2_passDay_5 : decB cX2_passDay 5 [.iconst 1, .iadd] 7 = true := by decide +kernel
theorem qX2_passDay_10 : decB cX2_passDay 10 [.iconst 0, .istore_n 1] 12 = true := by decide +kernel
theorem qX2_passDay_12 : decB cX2_passDay 12 [.iload_n 1, .aload_n 0] 14 = true := by decide +kernel
theorem qX2_passDay_23 : decB cX2_passDay 23 [.aload_n 0] 24 = true := by decide +kernel
theorem qX2_passDay_30 : decB cX2_passDay 30 [.iload_n 1] 31 = true := by decide +kernel
theorem qX2_passDay_32 : decB cX2_passDay 32 [.astore_n 2, .aload_n 2] 34 = true := by decide +kernel
theorem qX2_passDay_37 : decB cX2_passDay 37 [.iconst 1] 38 = true := by decide +kernel
theorem qX2_passDay_41 : decB cX2_passDay 41 [.aload_n 2] 42 = true := by decide +kernel
theorem qX2_passDay_45 : decB cX2_passDay 45 [.aload_n 0] 46 = true := by decide +kernel
theorem qX2_passDay_52 : decB cX2_passDay 52 [.aload_n 0, .aload_n 2] 54 = true := by decide +kernel
theorem qX2_passDay_57 : decB cX2_passDay 57 [.iinc 1 1, .goto (-48)] 12 = true := by decide +kernel
theorem qX2_passDay_63 : decB cX2_passDay 63 [.aload_n 0] 64 = true := by decide +kernel
theorem qX2_passDay_67 : decB cX2_passDay 67 [.aload_n 0] 68 = true := by decide +kernel
theorem qX2_passDay_74 : decB cX2_passDay 74 [.iconst 0, .istore_n 1] 76 = true := by decide +kernel
theorem qX2_passDay_76 : decB cX2_passDay 76 [.iload_n 1, .aload_n 0] 78 = true := by decide +kernel
theorem qX2_passDay_84 : decB cX2_passDay 84 [.aload_n 0, .iload_n 1] 86 = true := by decide +kernel
theorem qX2_passDay_89 : decB cX2_passDay 89 [.iinc 1 1, .goto (-16)] 76 = true := by decide +kernel
theorem dX2_passDay_2 : decode cX2_passDay 2 = .ok (.getfield 11, 3) := by decide +kernel
theorem dX2_passDay_7 : decode cX2_passDay 7 = .ok (.putfield 11, 3) := by decide +kernel
theorem dX2_passDay_14 : decode cX2_passDay 14 = .ok (.getfield 41, 3) := by decide +kernel
theorem dX2_passDay_17 : decode cX2_passDay 17 = .ok (.getfield 187, 3) := by decide +kernel
theorem dX2_passDay_20 : decode cX2_passDay 20 = .ok (.if_icmp .ge 43, 3) := by decide +kernel
theorem dX2_passDay_24 : decode cX2_passDay 24 = .ok (.getfield 41, 3) := by decide +kernel
theorem dX2_passDay_27 : decode cX2_passDay 27 = .ok (.getfield 193, 3) := by decide +kernel
theorem dX2_passDay_31 : decode cX2_passDay 31 = .ok (.aaload, 1) := by decide +kernel
theorem dX2_passDay_34 : decode cX2_passDay 34 = .ok (.getfield 217, 3) := by decide +kernel
theorem dX2_passDay_38 : decode cX2_passDay 38 = .ok (.if_icmp .ne 19, 3) := by decide +kernel
theorem dX2_passDay_42 : decode cX2_passDay 42 = .ok (.invokevirtual 230, 3) := by decide +kernel
theorem dX2_passDay_46 : decode cX2_passDay 46 = .ok (.getfield 11, 3) := by decide +kernel
theorem dX2_passDay_49 : decode cX2_passDay 49 = .ok (.if_icmp .ge 8, 3) := by decide +kernel
theorem dX2_passDay_54 : decode cX2_passDay 54 = .ok (.invokevirtual 233, 3) := by decide +kernel
theorem dX2_passDay_64 : decode cX2_passDay 64 = .ok (.getfield 41, 3) := by decide +kernel
theorem dX2_passDay_68 : decode cX2_passDay 68 = .ok (.getfield 11, 3) := by decide +kernel
theorem dX2_passDay_71 : decode cX2_passDay 71 = .ok (.invokevirtual 237, 3) := by decide +kernel
theorem dX2_passDay_78 : decode cX2_passDay 78 = .ok (.getfield 68, 3) := by decide +kernel
theorem dX2_passDay_81 : decode cX2_passDay 81 = .ok (.if_icmp .ge 14, 3) := by decide +kernel
theorem dX2_passDay_86 : decode cX2_passDay 86 = .ok (.invokevirtual 240, 3) := by decide +kernel
theorem dX2_passDay_95 : decode cX2_passDay 95 = .ok (.return_, 1) := by decide +kernel
theorem qX2_sendAwayBeyondRooms_0 : decB cX2_sendAwayBeyondRooms 0 [.aload_n 0] 1 = true := by decide +kernel
theorem qX2_sendAwayBeyondRooms_4 : decB cX2_sendAwayBeyondRooms 4 [.iload_n 1, .aload_n 0] 6 = true := by decide +kernel
theorem qX2_sendAwayBeyondRooms_12 : decB cX2_sendAwayBeyondRooms 12 [.aload_n 0] 13 = true := by decide +kernel
theorem qX2_sendAwayBeyondRooms_16 : decB cX2_sendAwayBeyondRooms 16 [.iload_n 1] 17 = true := by decide +kernel
theorem qX2_sendAwayBeyondRooms_21 : decB cX2_sendAwayBeyondRooms 21 [.isub, .istore_n 2, .iconst 0, .istore_n 3] 25 = true := by decide +kernel
theorem qX2_sendAwayBeyondRooms_25 : decB cX2_sendAwayBeyondRooms 25 [.iload_n 3, .iload_n 2] 27 = true := by decide +kernel
theorem qX2_sendAwayBeyondRooms_30 : decB cX2_sendAwayBeyondRooms 30 [.aload_n 0] 31 = true := by decide +kernel
theorem qX2_sendAwayBeyondRooms_34 : decB cX2_sendAwayBeyondRooms 34 [.iload_n 1, .aload_n 0] 36 = true := by decide +kernel
theorem qX2_sendAwayBeyondRooms_42 : decB cX2_sendAwayBeyondRooms 42 [.istore 4, .iload 4, .iconst (-1)] 47 = true := by decide +kernel
theorem qX2_sendAwayBeyondRooms_50 : decB cX2_sendAwayBeyondRooms 50 [.aload_n 0, .aload_n 0] 52 = true := by decide +kernel
theorem qX2_sendAwayBeyondRooms_58 : decB cX2_sendAwayBeyondRooms 58 [.iload 4] 60 = true := by decide +kernel
theorem qX2_sendAwayBeyondRooms_64 : decB cX2_sendAwayBeyondRooms 64 [.iinc 3 1, .goto (-42)] 25 = true := by decide +kernel
theorem dX2_sendAwayBeyondRooms_1 : decode cX2_sendAwayBeyondRooms 1 = .ok (.getfield 41, 3) := by decide +kernel
theorem dX2_sendAwayBeyondRooms_6 : decode cX2_sendAwayBeyondRooms 6 = .ok (.getfield 11, 3) := by decide +kernel
theorem dX2_sendAwayBeyondRooms_9 : decode cX2_sendAwayBeyondRooms 9 = .ok (.invokevirtual 119, 3) := by decide +kernel
theorem dX2_sendAwayBeyondRooms_13 : decode cX2_sendAwayBeyondRooms 13 = .ok (.getfield 22, 3) := by decide +kernel
theorem dX2_sendAwayBeyondRooms_17 : decode cX2_sendAwayBeyondRooms 17 = .ok (.aaload, 1) := by decide +kernel
theorem dX2_sendAwayBeyondRooms_18 : decode cX2_sendAwayBeyondRooms 18 = .ok (.getfield 157, 3) := by decide +kernel
theorem dX2_sendAwayBeyondRooms_27 : decode cX2_sendAwayBeyondRooms 27 = .ok (.if_icmp .ge 43, 3) := by decide +kernel
theorem dX2_sendAwayBeyondRooms_31 : decode cX2_sendAwayBeyondRooms 31 = .ok (.getfield 41, 3) := by decide +kernel
theorem dX2_sendAwayBeyondRooms_36 : decode cX2_sendAwayBeyondRooms 36 = .ok (.getfield 11, 3) := by decide +kernel
theorem dX2_sendAwayBeyondRooms_39 : decode cX2_sendAwayBeyondRooms 39 = .ok (.invokevirtual 243, 3) := by decide +kernel
theorem dX2_sendAwayBeyondRooms_47 : decode cX2_sendAwayBeyondRooms 47 = .ok (.if_icmp .eq 17, 3) := by decide +kernel
theorem dX2_sendAwayBeyondRooms_52 : decode cX2_sendAwayBeyondRooms 52 = .ok (.getfield 41, 3) := by decide +kernel
theorem dX2_sendAwayBeyondRooms_55 : decode cX2_sendAwayBeyondRooms 55 = .ok (.getfield 193, 3) := by decide +kernel
theorem dX2_sendAwayBeyondRooms_60 : decode cX2_sendAwayBeyondRooms 60 = .ok (.aaload, 1) := by decide +kernel
theorem dX2_sendAwayBeyondRooms_61 : decode cX2_sendAwayBeyondRooms 61 = .ok (.invokevirtual 246, 3) := by decide +kernel
theorem dX2_sendAwayBeyondRooms_70 : decode cX2_sendAwayBeyondRooms 70 = .ok (.return_, 1) := by decide +kernel
theorem qX2_lookAtGuests_0 : decB cX2_lookAtGuests 0 [.iconst 0, .istore_n 1, .iconst 0, .istore_n 2, .iconst 0, .istore_n 3] 6 = true := by decide +kernel
theorem qX2_lookAtGuests_6 : decB cX2_lookAtGuests 6 [.iload_n 3, .aload_n 0] 8 = true := by decide +kernel
theorem qX2_lookAtGuests_14 : decB cX2_lookAtGuests 14 [.aload_n 0] 15 = true := by decide +kernel
theorem qX2_lookAtGuests_18 : decB cX2_lookAtGuests 18 [.iload_n 3] 19 = true := by decide +kernel
theorem qX2_lookAtGuests_20 : decB cX2_lookAtGuests 20 [.astore 4, .aload 4] 24 = true := by decide +kernel
theorem qX2_lookAtGuests_27 : decB cX2_lookAtGuests 27 [.aload_n 0] 28 = true := by decide +kernel
theorem qX2_lookAtGuests_34 : decB cX2_lookAtGuests 34 [.goto 58] 92 = true := by decide +kernel
theorem qX2_lookAtGuests_37 : decB cX2_lookAtGuests 37 [.aload_n 0] 38 = true := by decide +kernel
theorem qX2_lookAtGuests_44 : decB cX2_lookAtGuests 44 [.bipush 60] 46 = true := by decide +kernel
theorem qX2_lookAtGuests_49 : decB cX2_lookAtGuests 49 [.aload_n 0, .aload 4] 52 = true := by decide +kernel
theorem qX2_lookAtGuests_55 : decB cX2_lookAtGuests 55 [.iconst (-1)] 56 = true := by decide +kernel
theorem qX2_lookAtGuests_59 : decB cX2_lookAtGuests 59 [.aload_n 0, .aload 4, .aload 4] 64 = true := by decide +kernel
theorem qX2_lookAtGuests_67 : decB cX2_lookAtGuests 67 [.iconst (-1)] 68 = true := by decide +kernel
theorem qX2_lookAtGuests_71 : decB cX2_lookAtGuests 71 [.pop, .iinc 1 1, .goto 17] 92 = true := by decide +kernel
theorem qX2_lookAtGuests_78 : decB cX2_lookAtGuests 78 [.aload_n 0] 79 = true := by decide +kernel
theorem qX2_lookAtGuests_82 : decB cX2_lookAtGuests 82 [.iload_n 2] 83 = true := by decide +kernel
theorem qX2_lookAtGuests_84 : decB cX2_lookAtGuests 84 [.aload 4] 86 = true := by decide +kernel
theorem qX2_lookAtGuests_89 : decB cX2_lookAtGuests 89 [.iinc 2 1] 92 = true := by decide +kernel
theorem qX2_lookAtGuests_92 : decB cX2_lookAtGuests 92 [.iinc 3 1, .goto (-89)] 6 = true := by decide +kernel
theorem qX2_lookAtGuests_98 : decB cX2_lookAtGuests 98 [.aload_n 0, .iload_n 2] 100 = true := by decide +kernel
theorem qX2_lookAtGuests_103 : decB cX2_lookAtGuests 103 [.iload_n 1] 104 = true := by decide +kernel
theorem dX2_lookAtGuests_8 : decode cX2_lookAtGuests 8 = .ok (.getfield 74, 3) := by decide +kernel
theorem dX2_lookAtGuests_11 : decode cX2_lookAtGuests 11 = .ok (.if_icmp .ge 87, 3) := by decide +kernel
theorem dX2_lookAtGuests_15 : decode cX2_lookAtGuests 15 = .ok (.getfield 34, 3) := by decide +kernel
theorem dX2_lookAtGuests_19 : decode cX2_lookAtGuests 19 = .ok (.aaload, 1) := by decide +kernel
theorem dX2_lookAtGuests_24 : decode cX2_lookAtGuests 24 = .ok (.getfield 166, 3) := by decide +kernel
theorem dX2_lookAtGuests_28 : decode cX2_lookAtGuests 28 = .ok (.getfield 11, 3) := by decide +kernel
theorem dX2_lookAtGuests_31 : decode cX2_lookAtGuests 31 = .ok (.if_icmp .ge 6, 3) := by decide +kernel
theorem dX2_lookAtGuests_38 : decode cX2_lookAtGuests 38 = .ok (.getfield 41, 3) := by decide +kernel
theorem dX2_lookAtGuests_41 : decode cX2_lookAtGuests 41 = .ok (.getfield 187, 3) := by decide +kernel
theorem dX2_lookAtGuests_46 : decode cX2_lookAtGuests 46 = .ok (.if_icmp .ge 32, 3) := by decide +kernel
theorem dX2_lookAtGuests_52 : decode cX2_lookAtGuests 52 = .ok (.invokevirtual 179, 3) := by decide +kernel
theorem dX2_lookAtGuests_56 : decode cX2_lookAtGuests 56 = .ok (.if_icmp .ne 22, 3) := by decide +kernel
theorem dX2_lookAtGuests_64 : decode cX2_lookAtGuests 64 = .ok (.getfield 166, 3) := by decide +kernel
theorem dX2_lookAtGuests_68 : decode cX2_lookAtGuests 68 = .ok (.invokevirtual 183, 3) := by decide +kernel
theorem dX2_lookAtGuests_79 : decode cX2_lookAtGuests 79 = .ok (.getfield 34, 3) := by decide +kernel
theorem dX2_lookAtGuests_83 : decode cX2_lookAtGuests 83 = .ok (.aaload, 1) := by decide +kernel
theorem dX2_lookAtGuests_86 : decode cX2_lookAtGuests 86 = .ok (.invokevirtual 93, 3) := by decide +kernel
theorem dX2_lookAtGuests_100 : decode cX2_lookAtGuests 100 = .ok (.putfield 74, 3) := by decide +kernel
theorem dX2_lookAtGuests_104 : decode cX2_lookAtGuests 104 = .ok (.ireturn, 1) := by decide +kernel
theorem qX3_init_0 : decB cX3_init 0 [.aload_n 0] 1 = true := by decide +kernel
theorem qX3_init_4 : decB cX3_init 4 [.aload_n 0, .iconst 1] 6 = true := by decide +kernel
theorem qX3_init_9 : decB cX3_init 9 [.aload_n 0, .sipush 571] 13 = true := by decide +kernel
theorem dX3_init_1 : decode cX3_init 1 = .ok (.invokespecial 1, 3) := by decide +kernel
theorem dX3_init_6 : decode cX3_init 6 = .ok (.putfield 7, 3) := by decide +kernel
theorem dX3_init_13 : decode cX3_init 13 = .ok (.newarray .long, 2) := by decide +kernel
theorem dX3_init_15 : decode cX3_init 15 = .ok (.putfield 15, 3) := by decide +kernel
theorem dX3_init_18 : decode cX3_init 18 = .ok (.return_, 1) := by decide +kernel
theorem qX3_begin_0 : decB cX3_begin 0 [.aload_n 0, .iload_n 1] 2 = true := by decide +kernel
theorem qX3_begin_5 : decB cX3_begin 5 [.aload_n 0, .iload_n 2] 7 = true := by decide +kernel
theorem qX3_begin_10 : decB cX3_begin 10 [.aload_n 0, .iconst 0] 12 = true := by decide +kernel
theorem qX3_begin_15 : decB cX3_begin 15 [.aload_n 0] 16 = true := by decide +kernel
theorem qX3_begin_19 : decB cX3_begin 19 [.lconst 0] 20 = true := by decide +kernel
theorem dX3_begin_2 : decode cX3_begin 2 = .ok (.putfield 7, 3) := by decide +kernel
theorem dX3_begin_7 : decode cX3_begin 7 = .ok (.putfield 19, 3) := by decide +kernel
theorem dX3_begin_12 : decode cX3_begin 12 = .ok (.putfield 22, 3) := by decide +kernel
theorem dX3_begin_16 : decode cX3_begin 16 = .ok (.getfield 15, 3) := by decide +kernel
theorem dX3_begin_20 : decode cX3_begin 20 = .ok (.invokestatic 25, 3) := by decide +kernel
theorem dX3_begin_23 : decode cX3_begin 23 = .ok (.return_, 1) := by decide +kernel
theorem qX3_copyFrom_0 : decB cX3_copyFrom 0 [.aload_n 0, .aload_n 1] 2 = true := by decide +kernel
theorem qX3_copyFrom_8 : decB cX3_copyFrom 8 [.aload_n 0, .aload_n 1] 10 = true := by decide +kernel
theorem qX3_copyFrom_16 : decB cX3_copyFrom 16 [.aload_n 0, .aload_n 1] 18 = true := by decide +kernel
theorem qX3_copyFrom_24 : decB cX3_copyFrom 24 [.aload_n 1] 25 = true := by decide +kernel
theorem qX3_copyFrom_28 : decB cX3_copyFrom 28 [.iconst 0, .aload_n 0] 30 = true := by decide +kernel
theorem qX3_copyFrom_33 : decB cX3_copyFrom 33 [.iconst 0, .aload_n 0] 35 = true := by decide +kernel
theorem dX3_copyFrom_2 : decode cX3_copyFrom 2 = .ok (.getfield 7, 3) := by decide +kernel
theorem dX3_copyFrom_5 : decode cX3_copyFrom 5 = .ok (.putfield 7, 3) := by decide +kernel
theorem dX3_copyFrom_10 : decode cX3_copyFrom 10 = .ok (.getfield 19, 3) := by decide +kernel
theorem dX3_copyFrom_13 : decode cX3_copyFrom 13 = .ok (.putfield 19, 3) := by decide +kernel
theorem dX3_copyFrom_18 : decode cX3_copyFrom 18 = .ok (.getfield 22, 3) := by decide +kernel
theorem dX3_copyFrom_21 : decode cX3_copyFrom 21 = .ok (.putfield 22, 3) := by decide +kernel
theorem dX3_copyFrom_25 : decode cX3_copyFrom 25 = .ok (.getfield 15, 3) := by decide +kernel
theorem dX3_copyFrom_30 : decode cX3_copyFrom 30 = .ok (.getfield 15, 3) := by decide +kernel
theorem dX3_copyFrom_35 : decode cX3_copyFrom 35 = .ok (.getfield 15, 3) := by decide +kernel
theorem dX3_copyFrom_38 : decode cX3_copyFrom 38 = .ok (.arraylength, 1) := by decide +kernel
theorem dX3_copyFrom_39 : decode cX3_copyFrom 39 = .ok (.invokestatic 31, 3) := by decide +kernel
theorem dX3_copyFrom_42 : decode cX3_copyFrom 42 = .ok (.return_, 1) := by decide +kernel
theorem qX3_isClosed_0 : decB cX3_isClosed 0 [.iconst 0, .iload_n 1] 2 = true := by decide +kernel
theorem qX3_isClosed_5 : decB cX3_isClosed 5 [.iload_n 1] 6 = true := by decide +kernel
theorem qX3_isClosed_11 : decB cX3_isClosed 11 [.aload_n 0] 12 = true := by decide +kernel
theorem qX3_isClosed_15 : decB cX3_isClosed 15 [.iload_n 1, .bipush 64] 18 = true := by decide +kernel
theorem qX3_isClosed_20 : decB cX3_isClosed 20 [.iload_n 1, .bipush 64] 23 = true := by decide +kernel
theorem qX3_isClosed_25 : decB cX3_isClosed 25 [.lconst 1] 26 = true := by decide +kernel
theorem qX3_isClosed_27 : decB cX3_isClosed 27 [.lconst 1] 28 = true := by decide +kernel
theorem qX3_isClosed_32 : decB cX3_isClosed 32 [.iconst 1, .goto 4] 37 = true := by decide +kernel
theorem qX3_isClosed_36 : decB cX3_isClosed 36 [.iconst 0] 37 = true := by decide +kernel
theorem dX3_isClosed_2 : decode cX3_isClosed 2 = .ok (.if_icmp .gt 34, 3) := by decide +kernel
theorem dX3_isClosed_6 : decode cX3_isClosed 6 = .ok (.ldc 37, 2) := by decide +kernel
theorem dX3_isClosed_8 : decode cX3_isClosed 8 = .ok (.if_icmp .ge 28, 3) := by decide +kernel
theorem dX3_isClosed_12 : decode cX3_isClosed 12 = .ok (.getfield 15, 3) := by decide +kernel
theorem dX3_isClosed_18 : decode cX3_isClosed 18 = .ok (.idiv, 1) := by decide +kernel
theorem dX3_isClosed_19 : decode cX3_isClosed 19 = .ok (.laload, 1) := by decide +kernel
theorem dX3_isClosed_23 : decode cX3_isClosed 23 = .ok (.irem, 1) := by decide +kernel
theorem dX3_isClosed_24 : decode cX3_isClosed 24 = .ok (.lshr, 1) := by decide +kernel
theorem dX3_isClosed_26 : decode cX3_isClosed 26 = .ok (.land, 1) := by decide +kernel
theorem dX3_isClosed_28 : decode cX3_isClosed 28 = .ok (.lcmp, 1) := by decide +kernel
theorem dX3_isClosed_29 : decode cX3_isClosed 29 = .ok (.ifCond .ne 7, 3) := by decide +kernel
theorem dX3_isClosed_37 : decode cX3_isClosed 37 = .ok (.ireturn, 1) := by decide +kernel
theorem qX3_setClosed_0 : decB cX3_setClosed 0 [.iload_n 1] 1 = true := by decide +kernel
theorem qX3_setClosed_4 : decB cX3_setClosed 4 [.iload_n 1] 5 = true := by decide +kernel
theorem qX3_setClosed_11 : decB cX3_setClosed 11 [.lconst 1, .iload_n 1, .bipush 64] 15 = true := by decide +kernel
theorem qX3_setClosed_17 : decB cX3_setClosed 17 [.lstore_n 3, .aload_n 0] 19 = true := by decide +kernel
theorem qX3_setClosed_22 : decB cX3_setClosed 22 [.iload_n 1, .bipush 64] 25 = true := by decide +kernel
theorem qX3_setClosed_26 : decB cX3_setClosed 26 [.iload_n 2] 27 = true := by decide +kernel
theorem qX3_setClosed_30 : decB cX3_setClosed 30 [.aload_n 0] 31 = true := by decide +kernel
theorem qX3_setClosed_34 : decB cX3_setClosed 34 [.iload_n 1, .bipush 64] 37 = true := by decide +kernel
theorem qX3_setClosed_39 : decB cX3_setClosed 39 [.lload_n 3] 40 = true := by decide +kernel
theorem qX3_setClosed_41 : decB cX3_setClosed 41 [.goto 18] 59 = true := by decide +kernel
theorem qX3_setClosed_44 : decB cX3_setClosed 44 [.aload_n 0] 45 = true := by decide +kernel
theorem qX3_setClosed_48 : decB cX3_setClosed 48 [.iload_n 1, .bipush 64] 51 = true := by decide +kernel
theorem qX3_setClosed_53 : decB cX3_setClosed 53 [.lload_n 3] 54 = true := by decide +kernel
theorem dX3_setClosed_1 : decode cX3_setClosed 1 = .ok (.ifCond .lt 9, 3) := by decide +kernel
theorem dX3_setClosed_5 : decode cX3_setClosed 5 = .ok (.ldc 37, 2) := by decide +kernel
theorem dX3_setClosed_7 : decode cX3_setClosed 7 = .ok (.if_icmp .lt 4, 3) := by decide +kernel
theorem dX3_setClosed_10 : decode cX3_setClosed 10 = .ok (.return_, 1) := by decide +kernel
theorem dX3_setClosed_15 : decode cX3_setClosed 15 = .ok (.irem, 1) := by decide +kernel
theorem dX3_setClosed_16 : decode cX3_setClosed 16 = .ok (.lshl, 1) := by decide +kernel
theorem dX3_setClosed_19 : decode cX3_setClosed 19 = .ok (.getfield 15, 3) := by decide +kernel
theorem dX3_setClosed_25 : decode cX3_setClosed 25 = .ok (.idiv, 1) := by decide +kernel
theorem dX3_setClosed_27 : decode cX3_setClosed 27 = .ok (.ifCond .eq 17, 3) := by decide +kernel
theorem dX3_setClosed_31 : decode cX3_setClosed 31 = .ok (.getfield 15, 3) := by decide +kernel
theorem dX3_setClosed_37 : decode cX3_setClosed 37 = .ok (.idiv, 1) := by decide +kernel
theorem dX3_setClosed_38 : decode cX3_setClosed 38 = .ok (.laload, 1) := by decide +kernel
theorem dX3_setClosed_40 : decode cX3_setClosed 40 = .ok (.lor, 1) := by decide +kernel
theorem dX3_setClosed_45 : decode cX3_setClosed 45 = .ok (.getfield 15, 3) := by decide +kernel
theorem dX3_setClosed_51 : decode cX3_setClosed 51 = .ok (.idiv, 1) := by decide +kernel
theorem dX3_setClosed_52 : decode cX3_setClosed 52 = .ok (.laload, 1) := by decide +kernel
theorem dX3_setClosed_54 : decode cX3_setClosed 54 = .ok (.ldc2_w 38, 3) := by decide +kernel
theorem dX3_setClosed_57 : decode cX3_setClosed 57 = .ok (.lxor, 1) := by decide +kernel
theorem dX3_setClosed_58 : decode cX3_setClosed 58 = .ok (.land, 1) := by decide +kernel
theorem dX3_setClosed_59 : decode cX3_setClosed 59 = .ok (.lastore, 1) := by decide +kernel
theorem dX3_setClosed_60 : decode cX3_setClosed 60 = .ok (.return_, 1) := by decide +kernel
theorem qX3_percentageFor_0 : decB cX3_percentageFor 0 [.aload_n 0] 1 = true := by decide +kernel
theorem qX3_percentageFor_4 : decB cX3_percentageFor 4 [.iconst 1] 5 = true := by decide +kernel
theorem qX3_percentageFor_8 : decB cX3_percentageFor 8 [.iconst 0, .goto 14] 23 = true := by decide +kernel
theorem qX3_percentageFor_12 : decB cX3_percentageFor 12 [.bipush 10, .iconst 4, .iload_n 1, .imul, .aload_n 0] 18 = true := by decide +kernel
theorem qX3_percentageFor_22 : decB cX3_percentageFor 22 [.imul] 23 = true := by decide +kernel
theorem dX3_percentageFor_1 : decode cX3_percentageFor 1 = .ok (.getfield 7, 3) := by decide +kernel
theorem dX3_percentageFor_5 : decode cX3_percentageFor 5 = .ok (.if_icmp .ge 7, 3) := by decide +kernel
theorem dX3_percentageFor_18 : decode cX3_percentageFor 18 = .ok (.getfield 7, 3) := by decide +kernel
theorem dX3_percentageFor_21 : decode cX3_percentageFor 21 = .ok (.idiv, 1) := by decide +kernel
theorem dX3_percentageFor_23 : decode cX3_percentageFor 23 = .ok (.ireturn, 1) := by decide +kernel
theorem qX4_init_0 : decB cX4_init 0 [.aload_n 0] 1 = true := by decide +kernel
theorem qX4_init_4 : decB cX4_init 4 [.aload_n 0, .iconst 4] 6 = true := by decide +kernel
theorem qX4_init_11 : decB cX4_init 11 [.aload_n 0, .iconst 4] 13 = true := by decide +kernel
theorem dX4_init_1 : decode cX4_init 1 = .ok (.invokespecial 3, 3) := by decide +kernel
theorem dX4_init_6 : decode cX4_init 6 = .ok (.newarray .int, 2) := by decide +kernel
theorem dX4_init_8 : decode cX4_init 8 = .ok (.putfield 9, 3) := by decide +kernel
theorem dX4_init_13 : decode cX4_init 13 = .ok (.newarray .int, 2) := by decide +kernel
theorem dX4_init_15 : decode cX4_init 15 = .ok (.putfield 15, 3) := by decide +kernel
theorem dX4_init_18 : decode cX4_init 18 = .ok (.return_, 1) := by decide +kernel
theorem qX4_copyFrom_0 : decB cX4_copyFrom 0 [.aload_n 1] 1 = true := by decide +kernel
theorem qX4_copyFrom_4 : decB cX4_copyFrom 4 [.iconst 0, .aload_n 0] 6 = true := by decide +kernel
theorem qX4_copyFrom_9 : decB cX4_copyFrom 9 [.iconst 0, .iconst 4] 11 = true := by decide +kernel
theorem qX4_copyFrom_14 : decB cX4_copyFrom 14 [.aload_n 1] 15 = true := by decide +kernel
theorem qX4_copyFrom_18 : decB cX4_copyFrom 18 [.iconst 0, .aload_n 0] 20 = true := by decide +kernel
theorem qX4_copyFrom_23 : decB cX4_copyFrom 23 [.iconst 0, .iconst 4] 25 = true := by decide +kernel
theorem dX4_copyFrom_1 : decode cX4_copyFrom 1 = .ok (.getfield 9, 3) := by decide +kernel
theorem dX4_copyFrom_6 : decode cX4_copyFrom 6 = .ok (.getfield 9, 3) := by decide +kernel
theorem dX4_copyFrom_11 : decode cX4_copyFrom 11 = .ok (.invokestatic 18, 3) := by decide +kernel
theorem dX4_copyFrom_15 : decode cX4_copyFrom 15 = .ok (.getfield 15, 3) := by decide +kernel
theorem dX4_copyFrom_20 : decode cX4_copyFrom 20 = .ok (.getfield 15, 3) := by decide +kernel
theorem dX4_copyFrom_25 : decode cX4_copyFrom 25 = .ok (.invokestatic 18, 3) := by decide +kernel
theorem dX4_copyFrom_28 : decode cX4_copyFrom 28 = .ok (.return_, 1) := by decide +kernel
theorem qX4_oddsTogether_0 : decB cX4_oddsTogether 0 [.iconst 0, .istore_n 1, .iconst 0, .istore_n 2] 4 = true := by decide +kernel
theorem qX4_oddsTogether_4 : decB cX4_oddsTogether 4 [.iload_n 2, .iconst 4] 6 = true := by decide +kernel
theorem qX4_oddsTogether_9 : decB cX4_oddsTogether 9 [.iload_n 1, .aload_n 0] 11 = true := by decide +kernel
theorem qX4_oddsTogether_14 : decB cX4_oddsTogether 14 [.iload_n 2] 15 = true := by decide +kernel
theorem qX4_oddsTogether_16 : decB cX4_oddsTogether 16 [.iadd, .istore_n 1, .iinc 2 1, .goto (-17)] 4 = true := by decide +kernel
theorem qX4_oddsTogether_24 : decB cX4_oddsTogether 24 [.iload_n 1] 25 = true := by decide +kernel
theorem dX4_oddsTogether_6 : decode cX4_oddsTogether 6 = .ok (.if_icmp .ge 18, 3) := by decide +kernel
theorem dX4_oddsTogether_11 : decode cX4_oddsTogether 11 = .ok (.getfield 15, 3) := by decide +kernel
theorem dX4_oddsTogether_15 : decode cX4_oddsTogether 15 = .ok (.iaload, 1) := by decide +kernel
theorem dX4_oddsTogether_25 : decode cX4_oddsTogether 25 = .ok (.ireturn, 1) := by decide +kernel
theorem qX4_incomes_0 : decB cX4_incomes 0 [.bipush 6] 2 = true := by decide +kernel
theorem qX4_incomes_4 : decB cX4_incomes 4 [.astore_n 2, .lconst 1, .lstore_n 3, .iconst 0, .istore 5] 10 = true := by decide +kernel
theorem qX4_incomes_10 : decB cX4_incomes 10 [.iload 5, .iload_n 1] 13 = true := by decide +kernel
theorem qX4_incomes_16 : decB cX4_incomes 16 [.iconst 5, .istore 6] 19 = true := by decide +kernel
theorem qX4_incomes_19 : decB cX4_incomes 19 [.iload 6] 21 = true := by decide +kernel
theorem qX4_incomes_24 : decB cX4_incomes 24 [.aload_n 2, .iload 6, .aload_n 0, .aload_n 2, .iload 6] 31 = true := by decide +kernel
theorem qX4_incomes_32 : decB cX4_incomes 32 [.aload_n 2, .iload 6, .iconst 1, .isub] 37 = true := by decide +kernel
theorem qX4_incomes_38 : decB cX4_incomes 38 [.lload_n 3] 39 = true := by decide +kernel
theorem qX4_incomes_43 : decB cX4_incomes 43 [.iinc 6 (-1), .goto (-27)] 19 = true := by decide +kernel
theorem qX4_incomes_49 : decB cX4_incomes 49 [.lload_n 3] 50 = true := by decide +kernel
theorem qX4_incomes_53 : decB cX4_incomes 53 [.lmul, .lstore_n 3, .iinc 5 1, .goto (-48)] 10 = true := by decide +kernel
theorem qX4_incomes_61 : decB cX4_incomes 61 [.aload_n 2] 62 = true := by decide +kernel
theorem dX4_incomes_2 : decode cX4_incomes 2 = .ok (.newarray .long, 2) := by decide +kernel
theorem dX4_incomes_13 : decode cX4_incomes 13 = .ok (.if_icmp .ge 48, 3) := by decide +kernel
theorem dX4_incomes_21 : decode cX4_incomes 21 = .ok (.ifCond .le 28, 3) := by decide +kernel
theorem dX4_incomes_31 : decode cX4_incomes 31 = .ok (.laload, 1) := by decide +kernel
theorem dX4_incomes_37 : decode cX4_incomes 37 = .ok (.laload, 1) := by decide +kernel
theorem dX4_incomes_39 : decode cX4_incomes 39 = .ok (.invokevirtual 24, 3) := by decide +kernel
theorem dX4_incomes_42 : decode cX4_incomes 42 = .ok (.lastore, 1) := by decide +kernel
theorem dX4_incomes_50 : decode cX4_incomes 50 = .ok (.ldc2_w 28, 3) := by decide +kernel
theorem dX4_incomes_62 : decode cX4_incomes 62 = .ok (.areturn, 1) := by decide +kernel
theorem qX4_withOneDayMore_0 : decB cX4_withOneDayMore 0 [.sipush 1000, .aload_n 0] 4 = true := by decide +kernel
theorem qX4_withOneDayMore_7 : decB cX4_withOneDayMore 7 [.isub] 8 = true := by decide +kernel
theorem qX4_withOneDayMore_9 : decB cX4_withOneDayMore 9 [.lload_n 1, .lmul, .lstore 7, .iconst 0, .istore 9] 16 = true := by decide +kernel
theorem qX4_withOneDayMore_16 : decB cX4_withOneDayMore 16 [.iload 9, .iconst 4] 19 = true := by decide +kernel
theorem qX4_withOneDayMore_22 : decB cX4_withOneDayMore 22 [.lload 7, .aload_n 0] 25 = true := by decide +kernel
theorem qX4_withOneDayMore_28 : decB cX4_withOneDayMore 28 [.iload 9] 30 = true := by decide +kernel
theorem qX4_withOneDayMore_32 : decB cX4_withOneDayMore 32 [.lload_n 1, .aload_n 0] 34 = true := by decide +kernel
theorem qX4_withOneDayMore_37 : decB cX4_withOneDayMore 37 [.iload 9] 39 = true := by decide +kernel
theorem qX4_withOneDayMore_41 : decB cX4_withOneDayMore 41 [.lload 5, .lmul, .lload_n 3, .ladd] 46 = true := by decide +kernel
theorem qX4_withOneDayMore_49 : decB cX4_withOneDayMore 49 [.lmul, .ladd, .lstore 7, .iinc 9 1, .goto (-40)] 16 = true := by decide +kernel
theorem qX4_withOneDayMore_59 : decB cX4_withOneDayMore 59 [.lload 7] 61 = true := by decide +kernel
theorem dX4_withOneDayMore_4 : decode cX4_withOneDayMore 4 = .ok (.invokevirtual 30, 3) := by decide +kernel
theorem dX4_withOneDayMore_8 : decode cX4_withOneDayMore 8 = .ok (.i2l, 1) := by decide +kernel
theorem dX4_withOneDayMore_19 : decode cX4_withOneDayMore 19 = .ok (.if_icmp .ge 40, 3) := by decide +kernel
theorem dX4_withOneDayMore_25 : decode cX4_withOneDayMore 25 = .ok (.getfield 15, 3) := by decide +kernel
theorem dX4_withOneDayMore_30 : decode cX4_withOneDayMore 30 = .ok (.iaload, 1) := by decide +kernel
theorem dX4_withOneDayMore_31 : decode cX4_withOneDayMore 31 = .ok (.i2l, 1) := by decide +kernel
theorem dX4_withOneDayMore_34 : decode cX4_withOneDayMore 34 = .ok (.getfield 9, 3) := by decide +kernel
theorem dX4_withOneDayMore_39 : decode cX4_withOneDayMore 39 = .ok (.iaload, 1) := by decide +kernel
theorem dX4_withOneDayMore_40 : decode cX4_withOneDayMore 40 = .ok (.i2l, 1) := by decide +kernel
theorem dX4_withOneDayMore_46 : decode cX4_withOneDayMore 46 = .ok (.invokestatic 34, 3) := by decide +kernel
theorem dX4_withOneDayMore_61 : decode cX4_withOneDayMore 61 = .ok (.lreturn, 1) := by decide +kernel
theorem qX4_leastToTake_0 : decB cX4_leastToTake 0 [.iload_n 1, .iconst 1] 2 = true := by decide +kernel
theorem qX4_leastToTake_5 : decB cX4_leastToTake 5 [.iload_n 2, .iconst 1] 7 = true := by decide +kernel
theorem qX4_leastToTake_10 : decB cX4_leastToTake 10 [.iload_n 2, .iconst 4] 12 = true := by decide +kernel
theorem qX4_leastToTake_15 : decB cX4_leastToTake 15 [.iconst 0] 16 = true := by decide +kernel
theorem qX4_leastToTake_17 : decB cX4_leastToTake 17 [.aload_n 0, .iload_n 1, .iconst 1, .isub] 21 = true := by decide +kernel
theorem qX4_leastToTake_24 : decB cX4_leastToTake 24 [.astore_n 3, .aload_n 3, .iload_n 2] 27 = true := by decide +kernel
theorem qX4_leastToTake_28 : decB cX4_leastToTake 28 [.aload_n 3, .iload_n 2, .iconst 1, .isub] 32 = true := by decide +kernel
theorem qX4_leastToTake_33 : decB cX4_leastToTake 33 [.lsub, .lstore 4] 36 = true := by decide +kernel
theorem qX4_leastToTake_39 : decB cX4_leastToTake 39 [.iload_n 1, .iconst 1, .isub] 42 = true := by decide +kernel
theorem qX4_leastToTake_45 : decB cX4_leastToTake 45 [.lstore 6, .lload 6, .lconst 1] 50 = true := by decide +kernel
theorem qX4_leastToTake_54 : decB cX4_leastToTake 54 [.iconst 0, .goto 14] 69 = true := by decide +kernel
theorem qX4_leastToTake_58 : decB cX4_leastToTake 58 [.lload 4, .lload 6, .ladd, .lconst 1, .lsub, .lload 6] 67 = true := by decide +kernel
theorem qX4_leastToTake_68 : decB cX4_leastToTake 68 [.l2i] 69 = true := by decide +kernel
theorem dX4_leastToTake_2 : decode cX4_leastToTake 2 = .ok (.if_icmp .lt 13, 3) := by decide +kernel
theorem dX4_leastToTake_7 : decode cX4_leastToTake 7 = .ok (.if_icmp .lt 8, 3) := by decide +kernel
theorem dX4_leastToTake_12 : decode cX4_leastToTake 12 = .ok (.if_icmp .le 5, 3) := by decide +kernel
theorem dX4_leastToTake_16 : decode cX4_leastToTake 16 = .ok (.ireturn, 1) := by decide +kernel
theorem dX4_leastToTake_21 : decode cX4_leastToTake 21 = .ok (.invokevirtual 40, 3) := by decide +kernel
theorem dX4_leastToTake_27 : decode cX4_leastToTake 27 = .ok (.laload, 1) := by decide +kernel
theorem dX4_leastToTake_32 : decode cX4_leastToTake 32 = .ok (.laload, 1) := by decide +kernel
theorem dX4_leastToTake_36 : decode cX4_leastToTake 36 = .ok (.ldc2_w 28, 3) := by decide +kernel
theorem dX4_leastToTake_42 : decode cX4_leastToTake 42 = .ok (.invokestatic 44, 3) := by decide +kernel
theorem dX4_leastToTake_50 : decode cX4_leastToTake 50 = .ok (.lcmp, 1) := by decide +kernel
theorem dX4_leastToTake_51 : decode cX4_leastToTake 51 = .ok (.ifCond .ge 7, 3) := by decide +kernel
theorem dX4_leastToTake_67 : decode cX4_leastToTake 67 = .ok (.ldiv, 1) := by decide +kernel
theorem dX4_leastToTake_69 : decode cX4_leastToTake 69 = .ok (.ireturn, 1) := by decide +kernel
theorem qX5_init_0 : decB cX5_init 0 [.aload_n 0] 1 = true := by decide +kernel
theorem qX5_init_4 : decB cX5_init 4 [.aload_n 0, .bipush 60] 7 = true := by decide +kernel
theorem qX5_init_12 : decB cX5_init 12 [.aload_n 0, .bipush 60] 15 = true := by decide +kernel
theorem qX5_init_20 : decB cX5_init 20 [.aload_n 0, .bipush 6] 23 = true := by decide +kernel
theorem dX5_init_1 : decode cX5_init 1 = .ok (.invokespecial 3, 3) := by decide +kernel
theorem dX5_init_7 : decode cX5_init 7 = .ok (.newarray .int, 2) := by decide +kernel
theorem dX5_init_9 : decode cX5_init 9 = .ok (.putfield 9, 3) := by decide +kernel
theorem dX5_init_15 : decode cX5_init 15 = .ok (.newarray .int, 2) := by decide +kernel
theorem dX5_init_17 : decode cX5_init 17 = .ok (.putfield 15, 3) := by decide +kernel
theorem dX5_init_23 : decode cX5_init 23 = .ok (.newarray .int, 2) := by decide +kernel
theorem dX5_init_25 : decode cX5_init 25 = .ok (.putfield 18, 3) := by decide +kernel
theorem dX5_init_28 : decode cX5_init 28 = .ok (.return_, 1) := by decide +kernel
theorem qX5_give_0 : decB cX5_give 0 [.aload_n 0, .aload_n 1] 2 = true := by decide +kernel
theorem qX5_give_5 : decB cX5_give 5 [.iload_n 2] 6 = true := by decide +kernel
theorem qX5_give_9 : decB cX5_give 9 [.aload_n 0] 10 = true := by decide +kernel
theorem qX5_give_13 : decB cX5_give 13 [.iconst (-1)] 14 = true := by decide +kernel
theorem qX5_give_17 : decB cX5_give 17 [.aload_n 0, .iconst 0] 19 = true := by decide +kernel
theorem qX5_give_22 : decB cX5_give 22 [.iconst 0, .istore_n 3] 24 = true := by decide +kernel
theorem qX5_give_24 : decB cX5_give 24 [.iload_n 3, .aload_n 0] 26 = true := by decide +kernel
theorem qX5_give_32 : decB cX5_give 32 [.aload_n 1] 33 = true := by decide +kernel
theorem qX5_give_39 : decB cX5_give 39 [.aload_n 0] 40 = true := by decide +kernel
theorem qX5_give_43 : decB cX5_give 43 [.iload_n 3] 44 = true := by decide +kernel
theorem qX5_give_46 : decB cX5_give 46 [.astore 4, .aload_n 0, .aload 4] 51 = true := by decide +kernel
theorem qX5_give_54 : decB cX5_give 54 [.aload_n 1] 55 = true := by decide +kernel
theorem qX5_give_58 : decB cX5_give 58 [.iload_n 2] 59 = true := by decide +kernel
theorem qX5_give_66 : decB cX5_give 66 [.istore 5, .aload_n 0] 69 = true := by decide +kernel
theorem qX5_give_72 : decB cX5_give 72 [.aload_n 0] 73 = true := by decide +kernel
theorem qX5_give_76 : decB cX5_give 76 [.iload_n 3] 77 = true := by decide +kernel
theorem qX5_give_78 : decB cX5_give 78 [.iload 5] 80 = true := by decide +kernel
theorem qX5_give_81 : decB cX5_give 81 [.iload 5, .iconst (-1)] 84 = true := by decide +kernel
theorem qX5_give_87 : decB cX5_give 87 [.aload_n 0, .iconst 1] 89 = true := by decide +kernel
theorem qX5_give_92 : decB cX5_give 92 [.goto 15] 107 = true := by decide +kernel
theorem qX5_give_95 : decB cX5_give 95 [.aload_n 0] 96 = true := by decide +kernel
theorem qX5_give_99 : decB cX5_give 99 [.iload 5, .aload 4] 103 = true := by decide +kernel
theorem qX5_give_107 : decB cX5_give 107 [.iinc 3 1, .goto (-86)] 24 = true := by decide +kernel
theorem dX5_give_2 : decode cX5_give 2 = .ok (.getfield 21, 3) := by decide +kernel
theorem dX5_give_6 : decode cX5_give 6 = .ok (.invokevirtual 27, 3) := by decide +kernel
theorem dX5_give_10 : decode cX5_give 10 = .ok (.getfield 18, 3) := by decide +kernel
theorem dX5_give_14 : decode cX5_give 14 = .ok (.invokestatic 31, 3) := by decide +kernel
theorem dX5_give_19 : decode cX5_give 19 = .ok (.putfield 37, 3) := by decide +kernel
theorem dX5_give_26 : decode cX5_give 26 = .ok (.getfield 41, 3) := by decide +kernel
theorem dX5_give_29 : decode cX5_give 29 = .ok (.if_icmp .ge 84, 3) := by decide +kernel
theorem dX5_give_33 : decode cX5_give 33 = .ok (.getfield 21, 3) := by decide +kernel
theorem dX5_give_36 : decode cX5_give 36 = .ok (.getfield 45, 3) := by decide +kernel
theorem dX5_give_40 : decode cX5_give 40 = .ok (.getfield 9, 3) := by decide +kernel
theorem dX5_give_44 : decode cX5_give 44 = .ok (.iaload, 1) := by decide +kernel
theorem dX5_give_45 : decode cX5_give 45 = .ok (.aaload, 1) := by decide +kernel
theorem dX5_give_51 : decode cX5_give 51 = .ok (.getfield 51, 3) := by decide +kernel
theorem dX5_give_55 : decode cX5_give 55 = .ok (.getfield 56, 3) := by decide +kernel
theorem dX5_give_59 : decode cX5_give 59 = .ok (.aaload, 1) := by decide +kernel
theorem dX5_give_60 : decode cX5_give 60 = .ok (.getfield 60, 3) := by decide +kernel
theorem dX5_give_63 : decode cX5_give 63 = .ok (.invokevirtual 64, 3) := by decide +kernel
theorem dX5_give_69 : decode cX5_give 69 = .ok (.getfield 15, 3) := by decide +kernel
theorem dX5_give_73 : decode cX5_give 73 = .ok (.getfield 9, 3) := by decide +kernel
theorem dX5_give_77 : decode cX5_give 77 = .ok (.iaload, 1) := by decide +kernel
theorem dX5_give_80 : decode cX5_give 80 = .ok (.iastore, 1) := by decide +kernel
theorem dX5_give_84 : decode cX5_give 84 = .ok (.if_icmp .ne 11, 3) := by decide +kernel
theorem dX5_give_89 : decode cX5_give 89 = .ok (.putfield 37, 3) := by decide +kernel
theorem dX5_give_96 : decode cX5_give 96 = .ok (.getfield 18, 3) := by decide +kernel
theorem dX5_give_103 : decode cX5_give 103 = .ok (.invokevirtual 68, 3) := by decide +kernel
theorem dX5_give_106 : decode cX5_give 106 = .ok (.iastore, 1) := by decide +kernel
theorem dX5_give_113 : decode cX5_give 113 = .ok (.return_, 1) := by decide +kernel
theorem qX5_sort_0 : decB cX5_sort 0 [.aload_n 0, .iconst 0] 2 = true := by decide +kernel
theorem qX5_sort_5 : decB cX5_sort 5 [.iconst 0, .istore_n 3] 7 = true := by decide +kernel
theorem qX5_sort_7 : decB cX5_sort 7 [.iload_n 3, .aload_n 1] 9 = true := by decide +kernel
theorem qX5_sort_15 : decB cX5_sort 15 [.aload_n 1] 16 = true := by decide +kernel
theorem qX5_sort_19 : decB cX5_sort 19 [.iload_n 3] 20 = true := by decide +kernel
theorem qX5_sort_21 : decB cX5_sort 21 [.astore 4, .aload 4] 25 = true := by decide +kernel
theorem qX5_sort_28 : decB cX5_sort 28 [.iload_n 2] 29 = true := by decide +kernel
theorem qX5_sort_32 : decB cX5_sort 32 [.aload 4] 34 = true := by decide +kernel
theorem qX5_sort_40 : decB cX5_sort 40 [.goto 79] 119 = true := by decide +kernel
theorem qX5_sort_43 : decB cX5_sort 43 [.aload_n 0] 44 = true := by decide +kernel
theorem qX5_sort_47 : decB cX5_sort 47 [.istore 5] 49 = true := by decide +kernel
theorem qX5_sort_49 : decB cX5_sort 49 [.iload 5] 51 = true := by decide +kernel
theorem qX5_sort_54 : decB cX5_sort 54 [.aload_n 1] 55 = true := by decide +kernel
theorem qX5_sort_58 : decB cX5_sort 58 [.aload_n 0] 59 = true := by decide +kernel
theorem qX5_sort_62 : decB cX5_sort 62 [.iload 5, .iconst 1, .isub] 66 = true := by decide +kernel
theorem qX5_sort_71 : decB cX5_sort 71 [.aload 4] 73 = true := by decide +kernel
theorem qX5_sort_79 : decB cX5_sort 79 [.aload_n 0] 80 = true := by decide +kernel
theorem qX5_sort_83 : decB cX5_sort 83 [.iload 5, .aload_n 0] 86 = true := by decide +kernel
theorem qX5_sort_89 : decB cX5_sort 89 [.iload 5, .iconst 1, .isub] 93 = true := by decide +kernel
theorem qX5_sort_95 : decB cX5_sort 95 [.iinc 5 (-1), .goto (-49)] 49 = true := by decide +kernel
theorem qX5_sort_101 : decB cX5_sort 101 [.aload_n 0] 102 = true := by decide +kernel
theorem qX5_sort_105 : decB cX5_sort 105 [.iload 5, .iload_n 3] 108 = true := by decide +kernel
theorem qX5_sort_109 : decB cX5_sort 109 [.aload_n 0, .dup] 111 = true := by decide +kernel
theorem qX5_sort_114 : decB cX5_sort 114 [.iconst 1, .iadd] 116 = true := by decide +kernel
theorem qX5_sort_119 : decB cX5_sort 119 [.iinc 3 1, .goto (-115)] 7 = true := by decide +kernel
theorem dX5_sort_2 : decode cX5_sort 2 = .ok (.putfield 41, 3) := by decide +kernel
theorem dX5_sort_9 : decode cX5_sort 9 = .ok (.getfield 72, 3) := by decide +kernel
theorem dX5_sort_12 : decode cX5_sort 12 = .ok (.if_icmp .ge 113, 3) := by decide +kernel
theorem dX5_sort_16 : decode cX5_sort 16 = .ok (.getfield 45, 3) := by decide +kernel
theorem dX5_sort_20 : decode cX5_sort 20 = .ok (.aaload, 1) := by decide +kernel
theorem dX5_sort_25 : decode cX5_sort 25 = .ok (.getfield 73, 3) := by decide +kernel
theorem dX5_sort_29 : decode cX5_sort 29 = .ok (.if_icmp .ne 90, 3) := by decide +kernel
theorem dX5_sort_34 : decode cX5_sort 34 = .ok (.invokevirtual 76, 3) := by decide +kernel
theorem dX5_sort_37 : decode cX5_sort 37 = .ok (.ifCond .ne 6, 3) := by decide +kernel
theorem dX5_sort_44 : decode cX5_sort 44 = .ok (.getfield 41, 3) := by decide +kernel
theorem dX5_sort_51 : decode cX5_sort 51 = .ok (.ifCond .le 50, 3) := by decide +kernel
theorem dX5_sort_55 : decode cX5_sort 55 = .ok (.getfield 45, 3) := by decide +kernel
theorem dX5_sort_59 : decode cX5_sort 59 = .ok (.getfield 9, 3) := by decide +kernel
theorem dX5_sort_66 : decode cX5_sort 66 = .ok (.iaload, 1) := by decide +kernel
theorem dX5_sort_67 : decode cX5_sort 67 = .ok (.aaload, 1) := by decide +kernel
theorem dX5_sort_68 : decode cX5_sort 68 = .ok (.getfield 51, 3) := by decide +kernel
theorem dX5_sort_73 : decode cX5_sort 73 = .ok (.getfield 51, 3) := by decide +kernel
theorem dX5_sort_76 : decode cX5_sort 76 = .ok (.if_icmp .le 25, 3) := by decide +kernel
theorem dX5_sort_80 : decode cX5_sort 80 = .ok (.getfield 9, 3) := by decide +kernel
theorem dX5_sort_86 : decode cX5_sort 86 = .ok (.getfield 9, 3) := by decide +kernel
theorem dX5_sort_93 : decode cX5_sort 93 = .ok (.iaload, 1) := by decide +kernel
theorem dX5_sort_94 : decode cX5_sort 94 = .ok (.iastore, 1) := by decide +kernel
theorem dX5_sort_102 : decode cX5_sort 102 = .ok (.getfield 9, 3) := by decide +kernel
theorem dX5_sort_108 : decode cX5_sort 108 = .ok (.iastore, 1) := by decide +kernel
theorem dX5_sort_111 : decode cX5_sort 111 = .ok (.getfield 41, 3) := by decide +kernel
theorem dX5_sort_116 : decode cX5_sort 116 = .ok (.putfield 41, 3) := by decide +kernel
theorem dX5_sort_125 : decode cX5_sort 125 = .ok (.return_, 1) := by decide +kernel
theorem qX5_lowestFree_0 : decB cX5_lowestFree 0 [.iconst 0, .istore_n 3] 2 = true := by decide +kernel
theorem qX5_lowestFree_2 : decB cX5_lowestFree 2 [.iload_n 3, .iload_n 2] 4 = true := by decide +kernel
theorem qX5_lowestFree_7 : decB cX5_lowestFree 7 [.iload_n 3, .bipush 6] 10 = true := by decide +kernel
theorem qX5_lowestFree_13 : decB cX5_lowestFree 13 [.aload_n 0] 14 = true := by decide +kernel
theorem qX5_lowestFree_17 : decB cX5_lowestFree 17 [.iload_n 3] 18 = true := by decide +kernel
theorem qX5_lowestFree_19 : decB cX5_lowestFree 19 [.iload_n 1] 20 = true := by decide +kernel
theorem qX5_lowestFree_23 : decB cX5_lowestFree 23 [.iload_n 3] 24 = true := by decide +kernel
theorem qX5_lowestFree_25 : decB cX5_lowestFree 25 [.iinc 3 1, .goto (-26)] 2 = true := by decide +kernel
theorem qX5_lowestFree_31 : decB cX5_lowestFree 31 [.iconst (-1)] 32 = true := by decide +kernel
theorem dX5_lowestFree_4 : decode cX5_lowestFree 4 = .ok (.if_icmp .ge 27, 3) := by decide +kernel
theorem dX5_lowestFree_10 : decode cX5_lowestFree 10 = .ok (.if_icmp .ge 21, 3) := by decide +kernel
theorem dX5_lowestFree_14 : decode cX5_lowestFree 14 = .ok (.getfield 18, 3) := by decide +kernel
theorem dX5_lowestFree_18 : decode cX5_lowestFree 18 = .ok (.iaload, 1) := by decide +kernel
theorem dX5_lowestFree_20 : decode cX5_lowestFree 20 = .ok (.if_icmp .ge 5, 3) := by decide +kernel
theorem dX5_lowestFree_24 : decode cX5_lowestFree 24 = .ok (.ireturn, 1) := by decide +kernel
theorem dX5_lowestFree_32 : decode cX5_lowestFree 32 = .ok (.ireturn, 1) := by decide +kernel
theorem qX6_init_0 : decB cX6_init 0 [.aload_n 0] 1 = true := by decide +kernel
theorem qX6_init_4 : decB cX6_init 4 [.aload_n 0, .iconst 4] 6 = true := by decide +kernel
theorem dX6_init_1 : decode cX6_init 1 = .ok (.invokespecial 3, 3) := by decide +kernel
theorem dX6_init_6 : decode cX6_init 6 = .ok (.newarray .int, 2) := by decide +kernel
theorem dX6_init_8 : decode cX6_init 8 = .ok (.putfield 9, 3) := by decide +kernel
theorem dX6_init_11 : decode cX6_init 11 = .ok (.return_, 1) := by decide +kernel
theorem qX6_begin_0 : decB cX6_begin 0 [.aload_n 0, .iconst 1] 2 = true := by decide +kernel
theorem qX6_begin_5 : decB cX6_begin 5 [.aload_n 0, .iload_n 1] 7 = true := by decide +kernel
theorem qX6_begin_10 : decB cX6_begin 10 [.aload_n 0, .iload_n 2] 12 = true := by decide +kernel
theorem qX6_begin_15 : decB cX6_begin 15 [.aload_n 0, .iconst 0] 17 = true := by decide +kernel
theorem qX6_begin_20 : decB cX6_begin 20 [.aload_n 0, .iload_n 2] 22 = true := by decide +kernel
theorem qX6_begin_25 : decB cX6_begin 25 [.aload_n 0, .iconst 0] 27 = true := by decide +kernel
theorem dX6_begin_2 : decode cX6_begin 2 = .ok (.putfield 15, 3) := by decide +kernel
theorem dX6_begin_7 : decode cX6_begin 7 = .ok (.putfield 19, 3) := by decide +kernel
theorem dX6_begin_12 : decode cX6_begin 12 = .ok (.putfield 23, 3) := by decide +kernel
theorem dX6_begin_17 : decode cX6_begin 17 = .ok (.putfield 26, 3) := by decide +kernel
theorem dX6_begin_22 : decode cX6_begin 22 = .ok (.putfield 29, 3) := by decide +kernel
theorem dX6_begin_27 : decode cX6_begin 27 = .ok (.putfield 32, 3) := by decide +kernel
theorem dX6_begin_30 : decode cX6_begin 30 = .ok (.return_, 1) := by decide +kernel
theorem qX6_copyFrom_0 : decB cX6_copyFrom 0 [.aload_n 0, .aload_n 1] 2 = true := by decide +kernel
theorem qX6_copyFrom_8 : decB cX6_copyFrom 8 [.aload_n 0, .aload_n 1] 10 = true := by decide +kernel
theorem qX6_copyFrom_16 : decB cX6_copyFrom 16 [.aload_n 0, .aload_n 1] 18 = true := by decide +kernel
theorem qX6_copyFrom_24 : decB cX6_copyFrom 24 [.aload_n 0, .aload_n 1] 26 = true := by decide +kernel
theorem qX6_copyFrom_32 : decB cX6_copyFrom 32 [.aload_n 0, .aload_n 1] 34 = true := by decide +kernel
theorem qX6_copyFrom_40 : decB cX6_copyFrom 40 [.aload_n 0, .aload_n 1] 42 = true := by decide +kernel
theorem qX6_copyFrom_48 : decB cX6_copyFrom 48 [.aload_n 1] 49 = true := by decide +kernel
theorem qX6_copyFrom_52 : decB cX6_copyFrom 52 [.iconst 0, .aload_n 0] 54 = true := by decide +kernel
theorem qX6_copyFrom_57 : decB cX6_copyFrom 57 [.iconst 0, .iconst 4] 59 = true := by decide +kernel
theorem dX6_copyFrom_2 : decode cX6_copyFrom 2 = .ok (.getfield 15, 3) := by decide +kernel
theorem dX6_copyFrom_5 : decode cX6_copyFrom 5 = .ok (.putfield 15, 3) := by decide +kernel
theorem dX6_copyFrom_10 : decode cX6_copyFrom 10 = .ok (.getfield 19, 3) := by decide +kernel
theorem dX6_copyFrom_13 : decode cX6_copyFrom 13 = .ok (.putfield 19, 3) := by decide +kernel
theorem dX6_copyFrom_18 : decode cX6_copyFrom 18 = .ok (.getfield 23, 3) := by decide +kernel
theorem dX6_copyFrom_21 : decode cX6_copyFrom 21 = .ok (.putfield 23, 3) := by decide +kernel
theorem dX6_copyFrom_26 : decode cX6_copyFrom 26 = .ok (.getfield 26, 3) := by decide +kernel
theorem dX6_copyFrom_29 : decode cX6_copyFrom 29 = .ok (.putfield 26, 3) := by decide +kernel
theorem dX6_copyFrom_34 : decode cX6_copyFrom 34 = .ok (.getfield 29, 3) := by decide +kernel
theorem dX6_copyFrom_37 : decode cX6_copyFrom 37 = .ok (.putfield 29, 3) := by decide +kernel
theorem dX6_copyFrom_42 : decode cX6_copyFrom 42 = .ok (.getfield 32, 3) := by decide +kernel
theorem dX6_copyFrom_45 : decode cX6_copyFrom 45 = .ok (.putfield 32, 3) := by decide +kernel
theorem dX6_copyFrom_49 : decode cX6_copyFrom 49 = .ok (.getfield 9, 3) := by decide +kernel
theorem dX6_copyFrom_54 : decode cX6_copyFrom 54 = .ok (.getfield 9, 3) := by decide +kernel
theorem dX6_copyFrom_59 : decode cX6_copyFrom 59 = .ok (.invokestatic 35, 3) := by decide +kernel
theorem dX6_copyFrom_62 : decode cX6_copyFrom 62 = .ok (.return_, 1) := by decide +kernel
theorem qX6_take_0 : decB cX6_take 0 [.aload_n 0] 1 = true := by decide +kernel
theorem qX6_take_7 : decB cX6_take 7 [.iload_n 1, .aload_n 2, .aload_n 0] 10 = true := by decide +kernel
theorem qX6_take_13 : decB cX6_take 13 [.aload_n 0] 14 = true := by decide +kernel
theorem qX6_take_23 : decB cX6_take 23 [.iconst 1, .goto 4] 28 = true := by decide +kernel
theorem qX6_take_27 : decB cX6_take 27 [.iconst 0] 28 = true := by decide +kernel
theorem qX6_take_28 : decB cX6_take 28 [.istore_n 3, .aload_n 0, .dup] 31 = true := by decide +kernel
theorem qX6_take_34 : decB cX6_take 34 [.iconst 1, .isub] 36 = true := by decide +kernel
theorem qX6_take_39 : decB cX6_take 39 [.aload_n 0, .iload_n 1] 41 = true := by decide +kernel
theorem qX6_take_44 : decB cX6_take 44 [.iload_n 3] 45 = true := by decide +kernel
theorem qX6_take_48 : decB cX6_take 48 [.iconst (-1)] 49 = true := by decide +kernel
theorem qX6_take_50 : decB cX6_take 50 [.aload_n 0, .dup] 52 = true := by decide +kernel
theorem qX6_take_55 : decB cX6_take 55 [.iconst 1, .isub] 57 = true := by decide +kernel
theorem qX6_take_60 : decB cX6_take 60 [.aload_n 0, .dup] 62 = true := by decide +kernel
theorem qX6_take_65 : decB cX6_take 65 [.iload_n 1, .iadd] 67 = true := by decide +kernel
theorem qX6_take_70 : decB cX6_take 70 [.aload_n 0] 71 = true := by decide +kernel
theorem dX6_take_1 : decode cX6_take 1 = .ok (.getfield 23, 3) := by decide +kernel
theorem dX6_take_4 : decode cX6_take 4 = .ok (.ifCond .le 23, 3) := by decide +kernel
theorem dX6_take_10 : decode cX6_take 10 = .ok (.getfield 19, 3) := by decide +kernel
theorem dX6_take_14 : decode cX6_take 14 = .ok (.getfield 23, 3) := by decide +kernel
theorem dX6_take_17 : decode cX6_take 17 = .ok (.invokevirtual 41, 3) := by decide +kernel
theorem dX6_take_20 : decode cX6_take 20 = .ok (.if_icmp .lt 7, 3) := by decide +kernel
theorem dX6_take_31 : decode cX6_take 31 = .ok (.getfield 19, 3) := by decide +kernel
theorem dX6_take_36 : decode cX6_take 36 = .ok (.putfield 19, 3) := by decide +kernel
theorem dX6_take_41 : decode cX6_take 41 = .ok (.invokevirtual 47, 3) := by decide +kernel
theorem dX6_take_45 : decode cX6_take 45 = .ok (.ifCond .ne 5, 3) := by decide +kernel
theorem dX6_take_49 : decode cX6_take 49 = .ok (.ireturn, 1) := by decide +kernel
theorem dX6_take_52 : decode cX6_take 52 = .ok (.getfield 23, 3) := by decide +kernel
theorem dX6_take_57 : decode cX6_take 57 = .ok (.putfield 23, 3) := by decide +kernel
theorem dX6_take_62 : decode cX6_take 62 = .ok (.getfield 26, 3) := by decide +kernel
theorem dX6_take_67 : decode cX6_take 67 = .ok (.putfield 26, 3) := by decide +kernel
theorem dX6_take_71 : decode cX6_take 71 = .ok (.getfield 26, 3) := by decide +kernel
theorem dX6_take_74 : decode cX6_take 74 = .ok (.ireturn, 1) := by decide +kernel
theorem qX6_remember_0 : decB cX6_remember 0 [.aload_n 0] 1 = true := by decide +kernel
theorem qX6_remember_4 : decB cX6_remember 4 [.iconst 4] 5 = true := by decide +kernel
theorem qX6_remember_9 : decB cX6_remember 9 [.aload_n 0] 10 = true := by decide +kernel
theorem qX6_remember_13 : decB cX6_remember 13 [.istore_n 2] 14 = true := by decide +kernel
theorem qX6_remember_14 : decB cX6_remember 14 [.iload_n 2] 15 = true := by decide +kernel
theorem qX6_remember_18 : decB cX6_remember 18 [.aload_n 0] 19 = true := by decide +kernel
theorem qX6_remember_22 : decB cX6_remember 22 [.iload_n 2, .iconst 1, .isub] 25 = true := by decide +kernel
theorem qX6_remember_26 : decB cX6_remember 26 [.iload_n 1] 27 = true := by decide +kernel
theorem qX6_remember_30 : decB cX6_remember 30 [.aload_n 0] 31 = true := by decide +kernel
theorem qX6_remember_34 : decB cX6_remember 34 [.iload_n 2, .aload_n 0] 36 = true := by decide +kernel
theorem qX6_remember_39 : decB cX6_remember 39 [.iload_n 2, .iconst 1, .isub] 42 = true := by decide +kernel
theorem qX6_remember_44 : decB cX6_remember 44 [.iinc 2 (-1), .goto (-33)] 14 = true := by decide +kernel
theorem qX6_remember_50 : decB cX6_remember 50 [.aload_n 0] 51 = true := by decide +kernel
theorem qX6_remember_54 : decB cX6_remember 54 [.iload_n 2, .iload_n 1] 56 = true := by decide +kernel
theorem qX6_remember_57 : decB cX6_remember 57 [.aload_n 0, .dup] 59 = true := by decide +kernel
theorem qX6_remember_62 : decB cX6_remember 62 [.iconst 1, .iadd] 64 = true := by decide +kernel
theorem dX6_remember_1 : decode cX6_remember 1 = .ok (.getfield 32, 3) := by decide +kernel
theorem dX6_remember_5 : decode cX6_remember 5 = .ok (.if_icmp .lt 4, 3) := by decide +kernel
theorem dX6_remember_8 : decode cX6_remember 8 = .ok (.return_, 1) := by decide +kernel
theorem dX6_remember_10 : decode cX6_remember 10 = .ok (.getfield 32, 3) := by decide +kernel
theorem dX6_remember_15 : decode cX6_remember 15 = .ok (.ifCond .le 35, 3) := by decide +kernel
theorem dX6_remember_19 : decode cX6_remember 19 = .ok (.getfield 9, 3) := by decide +kernel
theorem dX6_remember_25 : decode cX6_remember 25 = .ok (.iaload, 1) := by decide +kernel
theorem dX6_remember_27 : decode cX6_remember 27 = .ok (.if_icmp .ge 23, 3) := by decide +kernel
theorem dX6_remember_31 : decode cX6_remember 31 = .ok (.getfield 9, 3) := by decide +kernel
theorem dX6_remember_36 : decode cX6_remember 36 = .ok (.getfield 9, 3) := by decide +kernel
theorem dX6_remember_42 : decode cX6_remember 42 = .ok (.iaload, 1) := by decide +kernel
theorem dX6_remember_43 : decode cX6_remember 43 = .ok (.iastore, 1) := by decide +kernel
theorem dX6_remember_51 : decode cX6_remember 51 = .ok (.getfield 9, 3) := by decide +kernel
theorem dX6_remember_56 : decode cX6_remember 56 = .ok (.iastore, 1) := by decide +kernel
theorem dX6_remember_59 : decode cX6_remember 59 = .ok (.getfield 32, 3) := by decide +kernel
theorem dX6_remember_64 : decode cX6_remember 64 = .ok (.putfield 32, 3) := by decide +kernel
theorem dX6_remember_67 : decode cX6_remember 67 = .ok (.return_, 1) := by decide +kernel
theorem qX6_tell_0 : decB cX6_tell 0 [.iload_n 1] 1 = true := by decide +kernel
theorem qX6_tell_28 : decB cX6_tell 28 [.aload_n 0] 29 = true := by decide +kernel
theorem qX6_tell_33 : decB cX6_tell 33 [.aload_n 0] 34 = true := by decide +kernel
theorem qX6_tell_38 : decB cX6_tell 38 [.aload_n 0] 39 = true := by decide +kernel
theorem qX6_tell_43 : decB cX6_tell 43 [.aload_n 0] 44 = true := by decide +kernel
theorem dX6_tell_1 : decode cX6_tell 1 = .ok (.tableswitch 42 0 2 #[27, 32, 37], 27) := by decide +kernel
theorem dX6_tell_29 : decode cX6_tell 29 = .ok (.getfield 19, 3) := by decide +kernel
theorem dX6_tell_32 : decode cX6_tell 32 = .ok (.ireturn, 1) := by decide +kernel
theorem dX6_tell_34 : decode cX6_tell 34 = .ok (.getfield 23, 3) := by decide +kernel
theorem dX6_tell_37 : decode cX6_tell 37 = .ok (.ireturn, 1) := by decide +kernel
theorem dX6_tell_39 : decode cX6_tell 39 = .ok (.getfield 26, 3) := by decide +kernel
theorem dX6_tell_42 : decode cX6_tell 42 = .ok (.ireturn, 1) := by decide +kernel
theorem dX6_tell_44 : decode cX6_tell 44 = .ok (.invokevirtual 51, 3) := by decide +kernel
theorem dX6_tell_47 : decode cX6_tell 47 = .ok (.ireturn, 1) := by decide +kernel
theorem qX6_bestInHindsight_0 : decB cX6_bestInHindsight 0 [.iconst 0, .istore_n 1, .iconst 0, .istore_n 2] 4 = true := by decide +kernel
theorem qX6_bestInHindsight_4 : decB cX6_bestInHindsight 4 [.iload_n 2, .aload_n 0] 6 = true := by decide +kernel
theorem qX6_bestInHindsight_12 : decB cX6_bestInHindsight 12 [.iload_n 2, .aload_n 0] 14 = true := by decide +kernel
theorem qX6_bestInHindsight_20 : decB cX6_bestInHindsight 20 [.iload_n 2, .iconst 4] 22 = true := by decide +kernel
theorem qX6_bestInHindsight_25 : decB cX6_bestInHindsight 25 [.iload_n 1, .aload_n 0] 27 = true := by decide +kernel
theorem qX6_bestInHindsight_30 : decB cX6_bestInHindsight 30 [.iload_n 2] 31 = true := by decide +kernel
theorem qX6_bestInHindsight_32 : decB cX6_bestInHindsight 32 [.iadd, .istore_n 1, .iinc 2 1, .goto (-33)] 4 = true := by decide +kernel
theorem qX6_bestInHindsight_40 : decB cX6_bestInHindsight 40 [.iload_n 1] 41 = true := by decide +kernel
theorem dX6_bestInHindsight_6 : decode cX6_bestInHindsight 6 = .ok (.getfield 32, 3) := by decide +kernel
theorem dX6_bestInHindsight_9 : decode cX6_bestInHindsight 9 = .ok (.if_icmp .ge 31, 3) := by decide +kernel
theorem dX6_bestInHindsight_14 : decode cX6_bestInHindsight 14 = .ok (.getfield 29, 3) := by decide +kernel
theorem dX6_bestInHindsight_17 : decode cX6_bestInHindsight 17 = .ok (.if_icmp .ge 23, 3) := by decide +kernel
theorem dX6_bestInHindsight_22 : decode cX6_bestInHindsight 22 = .ok (.if_icmp .ge 18, 3) := by decide +kernel
theorem dX6_bestInHindsight_27 : decode cX6_bestInHindsight 27 = .ok (.getfield 9, 3) := by decide +kernel
theorem dX6_bestInHindsight_31 : decode cX6_bestInHindsight 31 = .ok (.iaload, 1) := by decide +kernel
theorem dX6_bestInHindsight_41 : decode cX6_bestInHindsight 41 = .ok (.ireturn, 1) := by decide +kernel
theorem qX7_init_0 : decB cX7_init 0 [.aload_n 0] 1 = true := by decide +kernel
theorem dX7_init_1 : decode cX7_init 1 = .ok (.invokespecial 1, 3) := by decide +kernel
theorem dX7_init_4 : decode cX7_init 4 = .ok (.return_, 1) := by decide +kernel
theorem qX7_begin_0 : decB cX7_begin 0 [.aload_n 0, .iload_n 1] 2 = true := by decide +kernel
theorem qX7_begin_5 : decB cX7_begin 5 [.aload_n 0, .iload_n 2] 7 = true := by decide +kernel
theorem qX7_begin_10 : decB cX7_begin 10 [.aload_n 0, .iload_n 3] 12 = true := by decide +kernel
theorem qX7_begin_15 : decB cX7_begin 15 [.aload_n 0, .iload 4] 18 = true := by decide +kernel
theorem dX7_begin_2 : decode cX7_begin 2 = .ok (.putfield 7, 3) := by decide +kernel
theorem dX7_begin_7 : decode cX7_begin 7 = .ok (.putfield 13, 3) := by decide +kernel
theorem dX7_begin_12 : decode cX7_begin 12 = .ok (.putfield 16, 3) := by decide +kernel
theorem dX7_begin_18 : decode cX7_begin 18 = .ok (.putfield 19, 3) := by decide +kernel
theorem dX7_begin_21 : decode cX7_begin 21 = .ok (.return_, 1) := by decide +kernel
theorem qX7_copyFrom_0 : decB cX7_copyFrom 0 [.aload_n 0, .aload_n 1] 2 = true := by decide +kernel
theorem qX7_copyFrom_5 : decB cX7_copyFrom 5 [.aload_n 1] 6 = true := by decide +kernel
theorem qX7_copyFrom_9 : decB cX7_copyFrom 9 [.aload_n 1] 10 = true := by decide +kernel
theorem qX7_copyFrom_13 : decB cX7_copyFrom 13 [.aload_n 1] 14 = true := by decide +kernel
theorem dX7_copyFrom_2 : decode cX7_copyFrom 2 = .ok (.getfield 7, 3) := by decide +kernel
theorem dX7_copyFrom_6 : decode cX7_copyFrom 6 = .ok (.getfield 13, 3) := by decide +kernel
theorem dX7_copyFrom_10 : decode cX7_copyFrom 10 = .ok (.getfield 16, 3) := by decide +kernel
theorem dX7_copyFrom_14 : decode cX7_copyFrom 14 = .ok (.getfield 19, 3) := by decide +kernel
theorem dX7_copyFrom_17 : decode cX7_copyFrom 17 = .ok (.invokevirtual 22, 3) := by decide +kernel
theorem dX7_copyFrom_20 : decode cX7_copyFrom 20 = .ok (.return_, 1) := by decide +kernel
theorem qX7_has_0 : decB cX7_has 0 [.aload_n 0] 1 = true := by decide +kernel
theorem qX7_has_4 : decB cX7_has 4 [.aload_n 0] 5 = true := by decide +kernel
theorem qX7_has_11 : decB cX7_has 11 [.aload_n 0] 12 = true := by decide +kernel
theorem qX7_has_15 : decB cX7_has 15 [.iload_n 1] 16 = true := by decide +kernel
theorem qX7_has_19 : decB cX7_has 19 [.iload_n 1, .aload_n 0] 21 = true := by decide +kernel
theorem qX7_has_27 : decB cX7_has 27 [.iconst 1, .goto 4] 32 = true := by decide +kernel
theorem qX7_has_31 : decB cX7_has 31 [.iconst 0] 32 = true := by decide +kernel
theorem qX7_has_33 : decB cX7_has 33 [.iload_n 1, .aload_n 0] 35 = true := by decide +kernel
theorem qX7_has_41 : decB cX7_has 41 [.iload_n 1, .aload_n 0] 43 = true := by decide +kernel
theorem qX7_has_49 : decB cX7_has 49 [.iconst 1, .goto 4] 54 = true := by decide +kernel
theorem qX7_has_53 : decB cX7_has 53 [.iconst 0] 54 = true := by decide +kernel
theorem dX7_has_1 : decode cX7_has 1 = .ok (.getfield 7, 3) := by decide +kernel
theorem dX7_has_5 : decode cX7_has 5 = .ok (.getfield 13, 3) := by decide +kernel
theorem dX7_has_8 : decode cX7_has 8 = .ok (.if_icmp .gt 25, 3) := by decide +kernel
theorem dX7_has_12 : decode cX7_has 12 = .ok (.getfield 7, 3) := by decide +kernel
theorem dX7_has_16 : decode cX7_has 16 = .ok (.if_icmp .gt 15, 3) := by decide +kernel
theorem dX7_has_21 : decode cX7_has 21 = .ok (.getfield 13, 3) := by decide +kernel
theorem dX7_has_24 : decode cX7_has 24 = .ok (.if_icmp .gt 7, 3) := by decide +kernel
theorem dX7_has_32 : decode cX7_has 32 = .ok (.ireturn, 1) := by decide +kernel
theorem dX7_has_35 : decode cX7_has 35 = .ok (.getfield 7, 3) := by decide +kernel
theorem dX7_has_38 : decode cX7_has 38 = .ok (.if_icmp .ge 11, 3) := by decide +kernel
theorem dX7_has_43 : decode cX7_has 43 = .ok (.getfield 13, 3) := by decide +kernel
theorem dX7_has_46 : decode cX7_has 46 = .ok (.if_icmp .gt 7, 3) := by decide +kernel
theorem dX7_has_54 : decode cX7_has 54 = .ok (.ireturn, 1) := by decide +kernel
theorem qX8_init_0 : decB cX8_init 0 [.aload_n 0] 1 = true := by decide +kernel
theorem qX8_init_4 : decB cX8_init 4 [.aload_n 0, .bipush 14] 7 = true := by decide +kernel
theorem dX8_init_1 : decode cX8_init 1 = .ok (.invokespecial 3, 3) := by decide +kernel
theorem dX8_init_7 : decode cX8_init 7 = .ok (.newarray .int, 2) := by decide +kernel
theorem dX8_init_9 : decode cX8_init 9 = .ok (.putfield 9, 3) := by decide +kernel
theorem dX8_init_12 : decode cX8_init 12 = .ok (.return_, 1) := by decide +kernel
theorem qX8_begin_0 : decB cX8_begin 0 [.aload_n 0, .iconst 0] 2 = true := by decide +kernel
theorem qX8_begin_5 : decB cX8_begin 5 [.aload_n 0, .aload_n 1] 7 = true := by decide +kernel
theorem qX8_begin_13 : decB cX8_begin 13 [.aload_n 0, .aload_n 1] 15 = true := by decide +kernel
theorem qX8_begin_21 : decB cX8_begin 21 [.aload_n 0, .iconst 0] 23 = true := by decide +kernel
theorem qX8_begin_26 : decB cX8_begin 26 [.aload_n 0, .aload_n 1] 28 = true := by decide +kernel
theorem qX8_begin_34 : decB cX8_begin 34 [.aload_n 0, .aload_n 1] 36 = true := by decide +kernel
theorem qX8_begin_42 : decB cX8_begin 42 [.aload_n 0, .iload 4] 45 = true := by decide +kernel
theorem qX8_begin_48 : decB cX8_begin 48 [.aload_n 0, .iconst 0] 50 = true := by decide +kernel
theorem qX8_begin_53 : decB cX8_begin 53 [.aload_n 0, .iconst 0] 55 = true := by decide +kernel
theorem qX8_begin_58 : decB cX8_begin 58 [.aload_n 0, .iload_n 3] 60 = true := by decide +kernel
theorem qX8_begin_63 : decB cX8_begin 63 [.aload_n 0, .iload_n 2] 65 = true := by decide +kernel
theorem dX8_begin_2 : decode cX8_begin 2 = .ok (.putfield 15, 3) := by decide +kernel
theorem dX8_begin_7 : decode cX8_begin 7 = .ok (.getfield 19, 3) := by decide +kernel
theorem dX8_begin_10 : decode cX8_begin 10 = .ok (.putfield 24, 3) := by decide +kernel
theorem dX8_begin_15 : decode cX8_begin 15 = .ok (.getfield 25, 3) := by decide +kernel
theorem dX8_begin_18 : decode cX8_begin 18 = .ok (.putfield 28, 3) := by decide +kernel
theorem dX8_begin_23 : decode cX8_begin 23 = .ok (.putfield 29, 3) := by decide +kernel
theorem dX8_begin_28 : decode cX8_begin 28 = .ok (.getfield 32, 3) := by decide +kernel
theorem dX8_begin_31 : decode cX8_begin 31 = .ok (.putfield 35, 3) := by decide +kernel
theorem dX8_begin_36 : decode cX8_begin 36 = .ok (.getfield 36, 3) := by decide +kernel
theorem dX8_begin_39 : decode cX8_begin 39 = .ok (.putfield 39, 3) := by decide +kernel
theorem dX8_begin_45 : decode cX8_begin 45 = .ok (.putfield 40, 3) := by decide +kernel
theorem dX8_begin_50 : decode cX8_begin 50 = .ok (.putfield 43, 3) := by decide +kernel
theorem dX8_begin_55 : decode cX8_begin 55 = .ok (.putfield 46, 3) := by decide +kernel
theorem dX8_begin_60 : decode cX8_begin 60 = .ok (.putfield 49, 3) := by decide +kernel
theorem dX8_begin_65 : decode cX8_begin 65 = .ok (.putfield 52, 3) := by decide +kernel
theorem dX8_begin_68 : decode cX8_begin 68 = .ok (.return_, 1) := by decide +kernel
theorem qX8_copyFrom_0 : decB cX8_copyFrom 0 [.aload_n 0, .aload_n 1] 2 = true := by decide +kernel
theorem qX8_copyFrom_8 : decB cX8_copyFrom 8 [.aload_n 0, .aload_n 1] 10 = true := by decide +kernel
theorem qX8_copyFrom_16 : decB cX8_copyFrom 16 [.aload_n 0, .aload_n 1] 18 = true := by decide +kernel
theorem qX8_copyFrom_24 : decB cX8_copyFrom 24 [.aload_n 0, .aload_n 1] 26 = true := by decide +kernel
theorem qX8_copyFrom_32 : decB cX8_copyFrom 32 [.aload_n 0, .aload_n 1] 34 = true := by decide +kernel
theorem qX8_copyFrom_40 : decB cX8_copyFrom 40 [.aload_n 0, .aload_n 1] 42 = true := by decide +kernel
theorem qX8_copyFrom_48 : decB cX8_copyFrom 48 [.aload_n 0, .aload_n 1] 50 = true := by decide +kernel
theorem qX8_copyFrom_56 : decB cX8_copyFrom 56 [.aload_n 0, .aload_n 1] 58 = true := by decide +kernel
theorem qX8_copyFrom_64 : decB cX8_copyFrom 64 [.aload_n 0, .aload_n 1] 66 = true := by decide +kernel
theorem qX8_copyFrom_72 : decB cX8_copyFrom 72 [.aload_n 0, .aload_n 1] 74 = true := by decide +kernel
theorem qX8_copyFrom_80 : decB cX8_copyFrom 80 [.aload_n 0, .aload_n 1] 82 = true := by decide +kernel
theorem qX8_copyFrom_88 : decB cX8_copyFrom 88 [.aload_n 1] 89 = true := by decide +kernel
theorem qX8_copyFrom_92 : decB cX8_copyFrom 92 [.iconst 0, .aload_n 0] 94 = true := by decide +kernel
theorem qX8_copyFrom_97 : decB cX8_copyFrom 97 [.iconst 0, .bipush 14] 100 = true := by decide +kernel
theorem dX8_copyFrom_2 : decode cX8_copyFrom 2 = .ok (.getfield 15, 3) := by decide +kernel
theorem dX8_copyFrom_5 : decode cX8_copyFrom 5 = .ok (.putfield 15, 3) := by decide +kernel
theorem dX8_copyFrom_10 : decode cX8_copyFrom 10 = .ok (.getfield 24, 3) := by decide +kernel
theorem dX8_copyFrom_13 : decode cX8_copyFrom 13 = .ok (.putfield 24, 3) := by decide +kernel
theorem dX8_copyFrom_18 : decode cX8_copyFrom 18 = .ok (.getfield 28, 3) := by decide +kernel
theorem dX8_copyFrom_21 : decode cX8_copyFrom 21 = .ok (.putfield 28, 3) := by decide +kernel
theorem dX8_copyFrom_26 : decode cX8_copyFrom 26 = .ok (.getfield 29, 3) := by decide +kernel
theorem dX8_copyFrom_29 : decode cX8_copyFrom 29 = .ok (.putfield 29, 3) := by decide +kernel
theorem dX8_copyFrom_34 : decode cX8_copyFrom 34 = .ok (.getfield 35, 3) := by decide +kernel
theorem dX8_copyFrom_37 : decode cX8_copyFrom 37 = .ok (.putfield 35, 3) := by decide +kernel
theorem dX8_copyFrom_42 : decode cX8_copyFrom 42 = .ok (.getfield 39, 3) := by decide +kernel
theorem dX8_copyFrom_45 : decode cX8_copyFrom 45 = .ok (.putfield 39, 3) := by decide +kernel
theorem dX8_copyFrom_50 : decode cX8_copyFrom 50 = .ok (.getfield 40, 3) := by decide +kernel
theorem dX8_copyFrom_53 : decode cX8_copyFrom 53 = .ok (.putfield 40, 3) := by decide +kernel
theorem dX8_copyFrom_58 : decode cX8_copyFrom 58 = .ok (.getfield 43, 3) := by decide +kernel
theorem dX8_copyFrom_61 : decode cX8_copyFrom 61 = .ok (.putfield 43, 3) := by decide +kernel
theorem dX8_copyFrom_66 : decode cX8_copyFrom 66 = .ok (.getfield 46, 3) := by decide +kernel
theorem dX8_copyFrom_69 : decode cX8_copyFrom 69 = .ok (.putfield 46, 3) := by decide +kernel
theorem dX8_copyFrom_74 : decode cX8_copyFrom 74 = .ok (.getfield 49, 3) := by decide +kernel
theorem dX8_copyFrom_77 : decode cX8_copyFrom 77 = .ok (.putfield 49, 3) := by decide +kernel
theorem dX8_copyFrom_82 : decode cX8_copyFrom 82 = .ok (.getfield 52, 3) := by decide +kernel
theorem dX8_copyFrom_85 : decode cX8_copyFrom 85 = .ok (.putfield 52, 3) := by decide +kernel
theorem dX8_copyFrom_89 : decode cX8_copyFrom 89 = .ok (.getfield 9, 3) := by decide +kernel
theorem dX8_copyFrom_94 : decode cX8_copyFrom 94 = .ok (.getfield 9, 3) := by decide +kernel
theorem dX8_copyFrom_100 : decode cX8_copyFrom 100 = .ok (.invokestatic 55, 3) := by decide +kernel
theorem dX8_copyFrom_103 : decode cX8_copyFrom 103 = .ok (.return_, 1) := by decide +kernel
theorem qX8_isAlive_0 : decB cX8_isAlive 0 [.aload_n 0] 1 = true := by decide +kernel
theorem qX8_isAlive_7 : decB cX8_isAlive 7 [.aload_n 0] 8 = true := by decide +kernel
theorem qX8_isAlive_11 : decB cX8_isAlive 11 [.iconst 1] 12 = true := by decide +kernel
theorem qX8_isAlive_15 : decB cX8_isAlive 15 [.iconst 1, .goto 4] 20 = true := by decide +kernel
theorem qX8_isAlive_19 : decB cX8_isAlive 19 [.iconst 0] 20 = true := by decide +kernel
theorem dX8_isAlive_1 : decode cX8_isAlive 1 = .ok (.getfield 15, 3) := by decide +kernel
theorem dX8_isAlive_4 : decode cX8_isAlive 4 = .ok (.ifCond .eq 11, 3) := by decide +kernel
theorem dX8_isAlive_8 : decode cX8_isAlive 8 = .ok (.getfield 15, 3) := by decide +kernel
theorem dX8_isAlive_12 : decode cX8_isAlive 12 = .ok (.if_icmp .ne 7, 3) := by decide +kernel
theorem dX8_isAlive_20 : decode cX8_isAlive 20 = .ok (.ireturn, 1) := by decide +kernel
theorem qX8_lastNight_0 : decB cX8_lastNight 0 [.aload_n 0] 1 = true := by decide +kernel
theorem qX8_lastNight_4 : decB cX8_lastNight 4 [.aload_n 0] 5 = true := by decide +kernel
theorem qX8_lastNight_8 : decB cX8_lastNight 8 [.iadd, .iconst 1, .isub] 11 = true := by decide +kernel
theorem dX8_lastNight_1 : decode cX8_lastNight 1 = .ok (.getfield 28, 3) := by decide +kernel
theorem dX8_lastNight_5 : decode cX8_lastNight 5 = .ok (.getfield 29, 3) := by decide +kernel
theorem dX8_lastNight_11 : decode cX8_lastNight 11 = .ok (.ireturn, 1) := by decide +kernel
theorem qX8_hasNight_0 : decB cX8_hasNight 0 [.aload_n 0] 1 = true := by decide +kernel
theorem qX8_hasNight_4 : decB cX8_hasNight 4 [.iload_n 1] 5 = true := by decide +kernel
theorem qX8_hasNight_8 : decB cX8_hasNight 8 [.iload_n 1, .aload_n 0] 10 = true := by decide +kernel
theorem qX8_hasNight_13 : decB cX8_hasNight 13 [.aload_n 0] 14 = true := by decide +kernel
theorem qX8_hasNight_17 : decB cX8_hasNight 17 [.iadd] 18 = true := by decide +kernel
theorem qX8_hasNight_21 : decB cX8_hasNight 21 [.iconst 1, .goto 4] 26 = true := by decide +kernel
theorem qX8_hasNight_25 : decB cX8_hasNight 25 [.iconst 0] 26 = true := by decide +kernel
theorem dX8_hasNight_1 : decode cX8_hasNight 1 = .ok (.getfield 28, 3) := by decide +kernel
theorem dX8_hasNight_5 : decode cX8_hasNight 5 = .ok (.if_icmp .gt 20, 3) := by decide +kernel
theorem dX8_hasNight_10 : decode cX8_hasNight 10 = .ok (.getfield 28, 3) := by decide +kernel
theorem dX8_hasNight_14 : decode cX8_hasNight 14 = .ok (.getfield 29, 3) := by decide +kernel
theorem dX8_hasNight_18 : decode cX8_hasNight 18 = .ok (.if_icmp .ge 7, 3) := by decide +kernel
theorem dX8_hasNight_26 : decode cX8_hasNight 26 = .ok (.ireturn, 1) := by decide +kernel
theorem qX8_addNight_0 : decB cX8_addNight 0 [.aload_n 0] 1 = true := by decide +kernel
theorem qX8_addNight_4 : decB cX8_addNight 4 [.bipush 14] 6 = true := by decide +kernel
theorem qX8_addNight_9 : decB cX8_addNight 9 [.aload_n 0] 10 = true := by decide +kernel
theorem qX8_addNight_13 : decB cX8_addNight 13 [.aload_n 0] 14 = true := by decide +kernel
theorem qX8_addNight_17 : decB cX8_addNight 17 [.iload_n 1] 18 = true := by decide +kernel
theorem qX8_addNight_19 : decB cX8_addNight 19 [.aload_n 0, .dup] 21 = true := by decide +kernel
theorem qX8_addNight_24 : decB cX8_addNight 24 [.iconst 1, .iadd] 26 = true := by decide +kernel
theorem qX8_addNight_29 : decB cX8_addNight 29 [.aload_n 0, .dup] 31 = true := by decide +kernel
theorem qX8_addNight_34 : decB cX8_addNight 34 [.iload_n 1, .iadd] 36 = true := by decide +kernel
theorem dX8_addNight_1 : decode cX8_addNight 1 = .ok (.getfield 29, 3) := by decide +kernel
theorem dX8_addNight_6 : decode cX8_addNight 6 = .ok (.if_icmp .ge 33, 3) := by decide +kernel
theorem dX8_addNight_10 : decode cX8_addNight 10 = .ok (.getfield 9, 3) := by decide +kernel
theorem dX8_addNight_14 : decode cX8_addNight 14 = .ok (.getfield 29, 3) := by decide +kernel
theorem dX8_addNight_18 : decode cX8_addNight 18 = .ok (.iastore, 1) := by decide +kernel
theorem dX8_addNight_21 : decode cX8_addNight 21 = .ok (.getfield 29, 3) := by decide +kernel
theorem dX8_addNight_26 : decode cX8_addNight 26 = .ok (.putfield 29, 3) := by decide +kernel
theorem dX8_addNight_31 : decode cX8_addNight 31 = .ok (.getfield 43, 3) := by decide +kernel
theorem dX8_addNight_36 : decode cX8_addNight 36 = .ok (.putfield 43, 3) := by decide +kernel
theorem dX8_addNight_39 : decode cX8_addNight 39 = .ok (.return_, 1) := by decide +kernel
theorem qX8_dropNights_0 : decB cX8_dropNights 0 [.iconst 0, .istore_n 2, .iconst 0, .istore_n 3] 4 = true := by decide +kernel
theorem qX8_dropNights_4 : decB cX8_dropNights 4 [.iload_n 3, .iload_n 1] 6 = true := by decide +kernel
theorem qX8_dropNights_9 : decB cX8_dropNights 9 [.aload_n 0] 10 = true := by decide +kernel
theorem qX8_dropNights_16 : decB cX8_dropNights 16 [.aload_n 0, .dup] 18 = true := by decide +kernel
theorem qX8_dropNights_21 : decB cX8_dropNights 21 [.iconst 1, .isub] 23 = true := by decide +kernel
theorem qX8_dropNights_26 : decB cX8_dropNights 26 [.iload_n 2, .aload_n 0] 28 = true := by decide +kernel
theorem qX8_dropNights_31 : decB cX8_dropNights 31 [.aload_n 0] 32 = true := by decide +kernel
theorem qX8_dropNights_36 : decB cX8_dropNights 36 [.iadd, .istore_n 2, .iinc 3 1, .goto (-37)] 4 = true := by decide +kernel
theorem qX8_dropNights_44 : decB cX8_dropNights 44 [.aload_n 0, .dup] 46 = true := by decide +kernel
theorem qX8_dropNights_49 : decB cX8_dropNights 49 [.iload_n 2, .isub] 51 = true := by decide +kernel
theorem qX8_dropNights_54 : decB cX8_dropNights 54 [.iload_n 2] 55 = true := by decide +kernel
theorem dX8_dropNights_6 : decode cX8_dropNights 6 = .ok (.if_icmp .ge 38, 3) := by decide +kernel
theorem dX8_dropNights_10 : decode cX8_dropNights 10 = .ok (.getfield 29, 3) := by decide +kernel
theorem dX8_dropNights_13 : decode cX8_dropNights 13 = .ok (.ifCond .le 31, 3) := by decide +kernel
theorem dX8_dropNights_18 : decode cX8_dropNights 18 = .ok (.getfield 29, 3) := by decide +kernel
theorem dX8_dropNights_23 : decode cX8_dropNights 23 = .ok (.putfield 29, 3) := by decide +kernel
theorem dX8_dropNights_28 : decode cX8_dropNights 28 = .ok (.getfield 9, 3) := by decide +kernel
theorem dX8_dropNights_32 : decode cX8_dropNights 32 = .ok (.getfield 29, 3) := by decide +kernel
theorem dX8_dropNights_35 : decode cX8_dropNights 35 = .ok (.iaload, 1) := by decide +kernel
theorem dX8_dropNights_46 : decode cX8_dropNights 46 = .ok (.getfield 43, 3) := by decide +kernel
theorem dX8_dropNights_51 : decode cX8_dropNights 51 = .ok (.putfield 43, 3) := by decide +kernel
theorem dX8_dropNights_55 : decode cX8_dropNights 55 = .ok (.ireturn, 1) := by decide +kernel
theorem qX8_taxOfAll_0 : decB cX8_taxOfAll 0 [.aload_n 0] 1 = true := by decide +kernel
theorem qX8_taxOfAll_4 : decB cX8_taxOfAll 4 [.aload_n 0] 5 = true := by decide +kernel
theorem qX8_taxOfAll_8 : decB cX8_taxOfAll 8 [.aload_n 0] 9 = true := by decide +kernel
theorem qX8_taxOfAll_12 : decB cX8_taxOfAll 12 [.imul, .aload_n 0] 14 = true := by decide +kernel
theorem qX8_taxOfAll_17 : decB cX8_taxOfAll 17 [.aload_n 0] 18 = true := by decide +kernel
theorem qX8_taxOfAll_24 : decB cX8_taxOfAll 24 [.imul, .iadd, .imul] 27 = true := by decide +kernel
theorem dX8_taxOfAll_1 : decode cX8_taxOfAll 1 = .ok (.getfield 29, 3) := by decide +kernel
theorem dX8_taxOfAll_5 : decode cX8_taxOfAll 5 = .ok (.getfield 35, 3) := by decide +kernel
theorem dX8_taxOfAll_9 : decode cX8_taxOfAll 9 = .ok (.getfield 40, 3) := by decide +kernel
theorem dX8_taxOfAll_14 : decode cX8_taxOfAll 14 = .ok (.getfield 39, 3) := by decide +kernel
theorem dX8_taxOfAll_18 : decode cX8_taxOfAll 18 = .ok (.getfield 40, 3) := by decide +kernel
theorem dX8_taxOfAll_21 : decode cX8_taxOfAll 21 = .ok (.invokestatic 61, 3) := by decide +kernel
theorem dX8_taxOfAll_27 : decode cX8_taxOfAll 27 = .ok (.ireturn, 1) := by decide +kernel
theorem qX8_refundOn_0 : decB cX8_refundOn 0 [.aload_n 0] 1 = true := by decide +kernel
theorem qX8_refundOn_4 : decB cX8_refundOn 4 [.iconst 1] 5 = true := by decide +kernel
theorem qX8_refundOn_8 : decB cX8_refundOn 8 [.aload_n 0] 9 = true := by decide +kernel
theorem qX8_refundOn_12 : decB cX8_refundOn 12 [.iload_n 1, .isub, .iconst 3] 15 = true := by decide +kernel
theorem qX8_refundOn_18 : decB cX8_refundOn 18 [.iconst 0] 19 = true := by decide +kernel
theorem qX8_refundOn_20 : decB cX8_refundOn 20 [.aload_n 0] 21 = true := by decide +kernel
theorem qX8_refundOn_24 : decB cX8_refundOn 24 [.iload_n 1, .isub, .bipush 14] 28 = true := by decide +kernel
theorem qX8_refundOn_31 : decB cX8_refundOn 31 [.aload_n 0] 32 = true := by decide +kernel
theorem qX8_refundOn_35 : decB cX8_refundOn 35 [.goto 10] 45 = true := by decide +kernel
theorem qX8_refundOn_38 : decB cX8_refundOn 38 [.aload_n 0] 39 = true := by decide +kernel
theorem dX8_refundOn_1 : decode cX8_refundOn 1 = .ok (.getfield 15, 3) := by decide +kernel
theorem dX8_refundOn_5 : decode cX8_refundOn 5 = .ok (.if_icmp .ne 13, 3) := by decide +kernel
theorem dX8_refundOn_9 : decode cX8_refundOn 9 = .ok (.getfield 28, 3) := by decide +kernel
theorem dX8_refundOn_15 : decode cX8_refundOn 15 = .ok (.if_icmp .ge 5, 3) := by decide +kernel
theorem dX8_refundOn_19 : decode cX8_refundOn 19 = .ok (.ireturn, 1) := by decide +kernel
theorem dX8_refundOn_21 : decode cX8_refundOn 21 = .ok (.getfield 28, 3) := by decide +kernel
theorem dX8_refundOn_28 : decode cX8_refundOn 28 = .ok (.if_icmp .lt 10, 3) := by decide +kernel
theorem dX8_refundOn_32 : decode cX8_refundOn 32 = .ok (.getfield 46, 3) := by decide +kernel
theorem dX8_refundOn_39 : decode cX8_refundOn 39 = .ok (.getfield 46, 3) := by decide +kernel
theorem dX8_refundOn_42 : decode cX8_refundOn 42 = .ok (.invokestatic 61, 3) := by decide +kernel
theorem dX8_refundOn_45 : decode cX8_refundOn 45 = .ok (.ireturn, 1) := by decide +kernel
theorem qX8_tell_0 : decB cX8_tell 0 [.iload_n 1] 1 = true := by decide +kernel
theorem qX8_tell_48 : decB cX8_tell 48 [.aload_n 0] 49 = true := by decide +kernel
theorem qX8_tell_53 : decB cX8_tell 53 [.aload_n 0] 54 = true := by decide +kernel
theorem qX8_tell_58 : decB cX8_tell 58 [.aload_n 0] 59 = true := by decide +kernel
theorem qX8_tell_66 : decB cX8_tell 66 [.aload_n 0] 67 = true := by decide +kernel
theorem qX8_tell_71 : decB cX8_tell 71 [.aload_n 0] 72 = true := by decide +kernel
theorem qX8_tell_76 : decB cX8_tell 76 [.aload_n 0] 77 = true := by decide +kernel
theorem qX8_tell_81 : decB cX8_tell 81 [.aload_n 0] 82 = true := by decide +kernel
theorem qX8_tell_86 : decB cX8_tell 86 [.aload_n 0] 87 = true := by decide +kernel
theorem qX8_tell_91 : decB cX8_tell 91 [.aload_n 0] 92 = true := by decide +kernel
theorem dX8_tell_1 : decode cX8_tell 1 = .ok (.tableswitch 90 0 7 #[47, 52, 57, 65, 70, 75, 80, 85], 47) := by decide +kernel
theorem dX8_tell_49 : decode cX8_tell 49 = .ok (.getfield 15, 3) := by decide +kernel
theorem dX8_tell_52 : decode cX8_tell 52 = .ok (.ireturn, 1) := by decide +kernel
theorem dX8_tell_54 : decode cX8_tell 54 = .ok (.getfield 24, 3) := by decide +kernel
theorem dX8_tell_57 : decode cX8_tell 57 = .ok (.ireturn, 1) := by decide +kernel
theorem dX8_tell_59 : decode cX8_tell 59 = .ok (.getfield 28, 3) := by decide +kernel
theorem dX8_tell_62 : decode cX8_tell 62 = .ok (.invokestatic 78, 3) := by decide +kernel
theorem dX8_tell_65 : decode cX8_tell 65 = .ok (.ireturn, 1) := by decide +kernel
theorem dX8_tell_67 : decode cX8_tell 67 = .ok (.getfield 29, 3) := by decide +kernel
theorem dX8_tell_70 : decode cX8_tell 70 = .ok (.ireturn, 1) := by decide +kernel
theorem dX8_tell_72 : decode cX8_tell 72 = .ok (.getfield 43, 3) := by decide +kernel
theorem dX8_tell_75 : decode cX8_tell 75 = .ok (.ireturn, 1) := by decide +kernel
theorem dX8_tell_77 : decode cX8_tell 77 = .ok (.getfield 46, 3) := by decide +kernel
theorem dX8_tell_80 : decode cX8_tell 80 = .ok (.ireturn, 1) := by decide +kernel
theorem dX8_tell_82 : decode cX8_tell 82 = .ok (.invokevirtual 83, 3) := by decide +kernel
theorem dX8_tell_85 : decode cX8_tell 85 = .ok (.ireturn, 1) := by decide +kernel
theorem dX8_tell_87 : decode cX8_tell 87 = .ok (.getfield 49, 3) := by decide +kernel
theorem dX8_tell_90 : decode cX8_tell 90 = .ok (.ireturn, 1) := by decide +kernel
theorem dX8_tell_92 : decode cX8_tell 92 = .ok (.getfield 52, 3) := by decide +kernel
theorem dX8_tell_95 : decode cX8_tell 95 = .ok (.invokestatic 78, 3) := by decide +kernel
theorem dX8_tell_98 : decode cX8_tell 98 = .ok (.ireturn, 1) := by decide +kernel
theorem qX9_init_0 : decB cX9_init 0 [.aload_n 0] 1 = true := by decide +kernel
theorem qX9_init_4 : decB cX9_init 4 [.aload_n 0, .bipush 60] 7 = true := by decide +kernel
theorem qX9_init_13 : decB cX9_init 13 [.iconst 0, .istore_n 1] 15 = true := by decide +kernel
theorem qX9_init_15 : decB cX9_init 15 [.iload_n 1, .bipush 60] 18 = true := by decide +kernel
theorem qX9_init_21 : decB cX9_init 21 [.aload_n 0] 22 = true := by decide +kernel
theorem qX9_init_25 : decB cX9_init 25 [.iload_n 1] 26 = true := by decide +kernel
theorem qX9_init_29 : decB cX9_init 29 [.dup] 30 = true := by decide +kernel
theorem qX9_init_34 : decB cX9_init 34 [.iinc 1 1, .goto (-22)] 15 = true := by decide +kernel
theorem dX9_init_1 : decode cX9_init 1 = .ok (.invokespecial 3, 3) := by decide +kernel
theorem dX9_init_7 : decode cX9_init 7 = .ok (.anewarray 9, 3) := by decide +kernel
theorem dX9_init_10 : decode cX9_init 10 = .ok (.putfield 11, 3) := by decide +kernel
theorem dX9_init_18 : decode cX9_init 18 = .ok (.if_icmp .ge 22, 3) := by decide +kernel
theorem dX9_init_22 : decode cX9_init 22 = .ok (.getfield 11, 3) := by decide +kernel
theorem dX9_init_26 : decode cX9_init 26 = .ok (.new 9, 3) := by decide +kernel
theorem dX9_init_30 : decode cX9_init 30 = .ok (.invokespecial 17, 3) := by decide +kernel
theorem dX9_init_33 : decode cX9_init 33 = .ok (.aastore, 1) := by decide +kernel
theorem dX9_init_40 : decode cX9_init 40 = .ok (.return_, 1) := by decide +kernel
theorem qX9_copyFrom_0 : decB cX9_copyFrom 0 [.aload_n 0, .aload_n 1] 2 = true := by decide +kernel
theorem qX9_copyFrom_8 : decB cX9_copyFrom 8 [.iconst 0, .istore_n 2] 10 = true := by decide +kernel
theorem qX9_copyFrom_10 : decB cX9_copyFrom 10 [.iload_n 2, .aload_n 0] 12 = true := by decide +kernel
theorem qX9_copyFrom_18 : decB cX9_copyFrom 18 [.aload_n 0] 19 = true := by decide +kernel
theorem qX9_copyFrom_22 : decB cX9_copyFrom 22 [.iload_n 2] 23 = true := by decide +kernel
theorem qX9_copyFrom_24 : decB cX9_copyFrom 24 [.aload_n 1] 25 = true := by decide +kernel
theorem qX9_copyFrom_28 : decB cX9_copyFrom 28 [.iload_n 2] 29 = true := by decide +kernel
theorem qX9_copyFrom_33 : decB cX9_copyFrom 33 [.iinc 2 1, .goto (-26)] 10 = true := by decide +kernel
theorem dX9_copyFrom_2 : decode cX9_copyFrom 2 = .ok (.getfield 18, 3) := by decide +kernel
theorem dX9_copyFrom_5 : decode cX9_copyFrom 5 = .ok (.putfield 18, 3) := by decide +kernel
theorem dX9_copyFrom_12 : decode cX9_copyFrom 12 = .ok (.getfield 18, 3) := by decide +kernel
theorem dX9_copyFrom_15 : decode cX9_copyFrom 15 = .ok (.if_icmp .ge 24, 3) := by decide +kernel
theorem dX9_copyFrom_19 : decode cX9_copyFrom 19 = .ok (.getfield 11, 3) := by decide +kernel
theorem dX9_copyFrom_23 : decode cX9_copyFrom 23 = .ok (.aaload, 1) := by decide +kernel
theorem dX9_copyFrom_25 : decode cX9_copyFrom 25 = .ok (.getfield 11, 3) := by decide +kernel
theorem dX9_copyFrom_29 : decode cX9_copyFrom 29 = .ok (.aaload, 1) := by decide +kernel
theorem dX9_copyFrom_30 : decode cX9_copyFrom 30 = .ok (.invokevirtual 22, 3) := by decide +kernel
theorem dX9_copyFrom_39 : decode cX9_copyFrom 39 = .ok (.return_, 1) := by decide +kernel
theorem qX9_countOn_0 : decB cX9_countOn 0 [.iconst 0, .istore_n 3, .iconst 0, .istore 4] 5 = true := by decide +kernel
theorem qX9_countOn_5 : decB cX9_countOn 5 [.iload 4, .aload_n 0] 8 = true := by decide +kernel
theorem qX9_countOn_14 : decB cX9_countOn 14 [.aload_n 0] 15 = true := by decide +kernel
theorem qX9_countOn_18 : decB cX9_countOn 18 [.iload 4] 20 = true := by decide +kernel
theorem qX9_countOn_21 : decB cX9_countOn 21 [.astore 5, .aload 5] 25 = true := by decide +kernel
theorem qX9_countOn_28 : decB cX9_countOn 28 [.iload_n 1] 29 = true := by decide +kernel
theorem qX9_countOn_32 : decB cX9_countOn 32 [.aload 5] 34 = true := by decide +kernel
theorem qX9_countOn_40 : decB cX9_countOn 40 [.aload 5, .iload_n 2] 43 = true := by decide +kernel
theorem qX9_countOn_49 : decB cX9_countOn 49 [.iinc 3 1] 52 = true := by decide +kernel
theorem qX9_countOn_52 : decB cX9_countOn 52 [.iinc 4 1, .goto (-50)] 5 = true := by decide +kernel
theorem qX9_countOn_58 : decB cX9_countOn 58 [.iload_n 3] 59 = true := by decide +kernel
theorem dX9_countOn_8 : decode cX9_countOn 8 = .ok (.getfield 18, 3) := by decide +kernel
theorem dX9_countOn_11 : decode cX9_countOn 11 = .ok (.if_icmp .ge 47, 3) := by decide +kernel
theorem dX9_countOn_15 : decode cX9_countOn 15 = .ok (.getfield 11, 3) := by decide +kernel
theorem dX9_countOn_20 : decode cX9_countOn 20 = .ok (.aaload, 1) := by decide +kernel
theorem dX9_countOn_25 : decode cX9_countOn 25 = .ok (.getfield 26, 3) := by decide +kernel
theorem dX9_countOn_29 : decode cX9_countOn 29 = .ok (.if_icmp .ne 23, 3) := by decide +kernel
theorem dX9_countOn_34 : decode cX9_countOn 34 = .ok (.invokevirtual 29, 3) := by decide +kernel
theorem dX9_countOn_37 : decode cX9_countOn 37 = .ok (.ifCond .eq 15, 3) := by decide +kernel
theorem dX9_countOn_43 : decode cX9_countOn 43 = .ok (.invokevirtual 33, 3) := by decide +kernel
theorem dX9_countOn_46 : decode cX9_countOn 46 = .ok (.ifCond .eq 6, 3) := by decide +kernel
theorem dX9_countOn_59 : decode cX9_countOn 59 = .ok (.ireturn, 1) := by decide +kernel
theorem qX9_mostOn_0 : decB cX9_mostOn 0 [.aload_n 0, .iload_n 1, .iload_n 2] 3 = true := by decide +kernel
theorem qX9_mostOn_6 : decB cX9_mostOn 6 [.istore 4, .iconst 0, .istore 5] 11 = true := by decide +kernel
theorem qX9_mostOn_11 : decB cX9_mostOn 11 [.iload 5, .aload_n 0] 14 = true := by decide +kernel
theorem qX9_mostOn_20 : decB cX9_mostOn 20 [.aload_n 0] 21 = true := by decide +kernel
theorem qX9_mostOn_24 : decB cX9_mostOn 24 [.iload 5] 26 = true := by decide +kernel
theorem qX9_mostOn_27 : decB cX9_mostOn 27 [.astore 6, .aload 6] 31 = true := by decide +kernel
theorem qX9_mostOn_34 : decB cX9_mostOn 34 [.iload_n 1] 35 = true := by decide +kernel
theorem qX9_mostOn_38 : decB cX9_mostOn 38 [.aload 6] 40 = true := by decide +kernel
theorem qX9_mostOn_46 : decB cX9_mostOn 46 [.iload_n 2, .aload 6] 49 = true := by decide +kernel
theorem qX9_mostOn_55 : decB cX9_mostOn 55 [.aload 6] 57 = true := by decide +kernel
theorem qX9_mostOn_60 : decB cX9_mostOn 60 [.iload_n 3] 61 = true := by decide +kernel
theorem qX9_mostOn_64 : decB cX9_mostOn 64 [.iload 4, .aload_n 0, .iload_n 1, .aload 6] 70 = true := by decide +kernel
theorem qX9_mostOn_79 : decB cX9_mostOn 79 [.istore 4] 81 = true := by decide +kernel
theorem qX9_mostOn_81 : decB cX9_mostOn 81 [.iinc 5 1, .goto (-73)] 11 = true := by decide +kernel
theorem qX9_mostOn_87 : decB cX9_mostOn 87 [.iload 4] 89 = true := by decide +kernel
theorem dX9_mostOn_3 : decode cX9_mostOn 3 = .ok (.invokevirtual 37, 3) := by decide +kernel
theorem dX9_mostOn_14 : decode cX9_mostOn 14 = .ok (.getfield 18, 3) := by decide +kernel
theorem dX9_mostOn_17 : decode cX9_mostOn 17 = .ok (.if_icmp .ge 70, 3) := by decide +kernel
theorem dX9_mostOn_21 : decode cX9_mostOn 21 = .ok (.getfield 11, 3) := by decide +kernel
theorem dX9_mostOn_26 : decode cX9_mostOn 26 = .ok (.aaload, 1) := by decide +kernel
theorem dX9_mostOn_31 : decode cX9_mostOn 31 = .ok (.getfield 26, 3) := by decide +kernel
theorem dX9_mostOn_35 : decode cX9_mostOn 35 = .ok (.if_icmp .ne 46, 3) := by decide +kernel
theorem dX9_mostOn_40 : decode cX9_mostOn 40 = .ok (.invokevirtual 29, 3) := by decide +kernel
theorem dX9_mostOn_43 : decode cX9_mostOn 43 = .ok (.ifCond .eq 38, 3) := by decide +kernel
theorem dX9_mostOn_49 : decode cX9_mostOn 49 = .ok (.getfield 41, 3) := by decide +kernel
theorem dX9_mostOn_52 : decode cX9_mostOn 52 = .ok (.if_icmp .ge 29, 3) := by decide +kernel
theorem dX9_mostOn_57 : decode cX9_mostOn 57 = .ok (.getfield 41, 3) := by decide +kernel
theorem dX9_mostOn_61 : decode cX9_mostOn 61 = .ok (.if_icmp .gt 20, 3) := by decide +kernel
theorem dX9_mostOn_70 : decode cX9_mostOn 70 = .ok (.getfield 41, 3) := by decide +kernel
theorem dX9_mostOn_73 : decode cX9_mostOn 73 = .ok (.invokevirtual 37, 3) := by decide +kernel
theorem dX9_mostOn_76 : decode cX9_mostOn 76 = .ok (.invokestatic 44, 3) := by decide +kernel
theorem dX9_mostOn_89 : decode cX9_mostOn 89 = .ok (.ireturn, 1) := by decide +kernel
theorem qX9_mostOnAnyNight_0 : decB cX9_mostOnAnyNight 0 [.aload_n 0, .iload_n 1, .iconst 0] 3 = true := by decide +kernel
theorem dX9_mostOnAnyNight_3 : decode cX9_mostOnAnyNight 3 = .ok (.ldc 51, 2) := by decide +kernel
theorem dX9_mostOnAnyNight_5 : decode cX9_mostOnAnyNight 5 = .ok (.invokevirtual 52, 3) := by decide +kernel
theorem dX9_mostOnAnyNight_8 : decode cX9_mostOnAnyNight 8 = .ok (.ireturn, 1) := by decide +kernel
theorem qX9_cancelHeldOf_0 : decB cX9_cancelHeldOf 0 [.iconst 0, .istore_n 2, .iconst 0, .istore_n 3] 4 = true := by decide +kernel
theorem qX9_cancelHeldOf_4 : decB cX9_cancelHeldOf 4 [.iload_n 3, .aload_n 0] 6 = true := by decide +kernel
theorem qX9_cancelHeldOf_12 : decB cX9_cancelHeldOf 12 [.aload_n 0] 13 = true := by decide +kernel
theorem qX9_cancelHeldOf_16 : decB cX9_cancelHeldOf 16 [.iload_n 3] 17 = true := by decide +kernel
theorem qX9_cancelHeldOf_21 : decB cX9_cancelHeldOf 21 [.iload_n 1] 22 = true := by decide +kernel
theorem qX9_cancelHeldOf_25 : decB cX9_cancelHeldOf 25 [.aload_n 0] 26 = true := by decide +kernel
theorem qX9_cancelHeldOf_29 : decB cX9_cancelHeldOf 29 [.iload_n 3] 30 = true := by decide +kernel
theorem qX9_cancelHeldOf_37 : decB cX9_cancelHeldOf 37 [.aload_n 0] 38 = true := by decide +kernel
theorem qX9_cancelHeldOf_41 : decB cX9_cancelHeldOf 41 [.iload_n 3] 42 = true := by decide +kernel
theorem qX9_cancelHeldOf_43 : decB cX9_cancelHeldOf 43 [.iconst 2] 44 = true := by decide +kernel
theorem qX9_cancelHeldOf_47 : decB cX9_cancelHeldOf 47 [.iinc 2 1] 50 = true := by decide +kernel
theorem qX9_cancelHeldOf_50 : decB cX9_cancelHeldOf 50 [.iinc 3 1, .goto (-49)] 4 = true := by decide +kernel
theorem qX9_cancelHeldOf_56 : decB cX9_cancelHeldOf 56 [.iload_n 2] 57 = true := by decide +kernel
theorem dX9_cancelHeldOf_6 : decode cX9_cancelHeldOf 6 = .ok (.getfield 18, 3) := by decide +kernel
theorem dX9_cancelHeldOf_9 : decode cX9_cancelHeldOf 9 = .ok (.if_icmp .ge 47, 3) := by decide +kernel
theorem dX9_cancelHeldOf_13 : decode cX9_cancelHeldOf 13 = .ok (.getfield 11, 3) := by decide +kernel
theorem dX9_cancelHeldOf_17 : decode cX9_cancelHeldOf 17 = .ok (.aaload, 1) := by decide +kernel
theorem dX9_cancelHeldOf_18 : decode cX9_cancelHeldOf 18 = .ok (.getfield 56, 3) := by decide +kernel
theorem dX9_cancelHeldOf_22 : decode cX9_cancelHeldOf 22 = .ok (.if_icmp .ne 28, 3) := by decide +kernel
theorem dX9_cancelHeldOf_26 : decode cX9_cancelHeldOf 26 = .ok (.getfield 11, 3) := by decide +kernel
theorem dX9_cancelHeldOf_30 : decode cX9_cancelHeldOf 30 = .ok (.aaload, 1) := by decide +kernel
theorem dX9_cancelHeldOf_31 : decode cX9_cancelHeldOf 31 = .ok (.getfield 59, 3) := by decide +kernel
theorem dX9_cancelHeldOf_34 : decode cX9_cancelHeldOf 34 = .ok (.ifCond .ne 16, 3) := by decide +kernel
theorem dX9_cancelHeldOf_38 : decode cX9_cancelHeldOf 38 = .ok (.getfield 11, 3) := by decide +kernel
theorem dX9_cancelHeldOf_42 : decode cX9_cancelHeldOf 42 = .ok (.aaload, 1) := by decide +kernel
theorem dX9_cancelHeldOf_44 : decode cX9_cancelHeldOf 44 = .ok (.putfield 59, 3) := by decide +kernel
theorem dX9_cancelHeldOf_57 : decode cX9_cancelHeldOf 57 = .ok (.ireturn, 1) := by decide +kernel
theorem qX9_cancelHeldLate_0 : decB cX9_cancelHeldLate 0 [.iconst 0, .istore_n 2] 2 = true := by decide +kernel
theorem qX9_cancelHeldLate_2 : decB cX9_cancelHeldLate 2 [.iload_n 2, .aload_n 0] 4 = true := by decide +kernel
theorem qX9_cancelHeldLate_10 : decB cX9_cancelHeldLate 10 [.aload_n 0] 11 = true := by decide +kernel
theorem qX9_cancelHeldLate_14 : decB cX9_cancelHeldLate 14 [.iload_n 2] 15 = true := by decide +kernel
theorem qX9_cancelHeldLate_16 : decB cX9_cancelHeldLate 16 [.astore_n 3, .aload_n 3] 18 = true := by decide +kernel
theorem qX9_cancelHeldLate_24 : decB cX9_cancelHeldLate 24 [.aload_n 3] 25 = true := by decide +kernel
theorem qX9_cancelHeldLate_28 : decB cX9_cancelHeldLate 28 [.iload_n 1] 29 = true := by decide +kernel
theorem qX9_cancelHeldLate_32 : decB cX9_cancelHeldLate 32 [.aload_n 3] 33 = true := by decide +kernel
theorem qX9_cancelHeldLate_36 : decB cX9_cancelHeldLate 36 [.iload_n 1] 37 = true := by decide +kernel
theorem qX9_cancelHeldLate_40 : decB cX9_cancelHeldLate 40 [.aload_n 3, .iconst 2] 42 = true := by decide +kernel
theorem qX9_cancelHeldLate_45 : decB cX9_cancelHeldLate 45 [.iinc 2 1, .goto (-46)] 2 = true := by decide +kernel
theorem dX9_cancelHeldLate_4 : decode cX9_cancelHeldLate 4 = .ok (.getfield 18, 3) := by decide +kernel
theorem dX9_cancelHeldLate_7 : decode cX9_cancelHeldLate 7 = .ok (.if_icmp .ge 44, 3) := by decide +kernel
theorem dX9_cancelHeldLate_11 : decode cX9_cancelHeldLate 11 = .ok (.getfield 11, 3) := by decide +kernel
theorem dX9_cancelHeldLate_15 : decode cX9_cancelHeldLate 15 = .ok (.aaload, 1) := by decide +kernel
theorem dX9_cancelHeldLate_18 : decode cX9_cancelHeldLate 18 = .ok (.getfield 59, 3) := by decide +kernel
theorem dX9_cancelHeldLate_21 : decode cX9_cancelHeldLate 21 = .ok (.ifCond .ne 24, 3) := by decide +kernel
theorem dX9_cancelHeldLate_25 : decode cX9_cancelHeldLate 25 = .ok (.getfield 62, 3) := by decide +kernel
theorem dX9_cancelHeldLate_29 : decode cX9_cancelHeldLate 29 = .ok (.if_icmp .lt 11, 3) := by decide +kernel
theorem dX9_cancelHeldLate_33 : decode cX9_cancelHeldLate 33 = .ok (.getfield 41, 3) := by decide +kernel
theorem dX9_cancelHeldLate_37 : decode cX9_cancelHeldLate 37 = .ok (.if_icmp .gt 8, 3) := by decide +kernel
theorem dX9_cancelHeldLate_42 : decode cX9_cancelHeldLate 42 = .ok (.putfield 59, 3) := by decide +kernel
theorem dX9_cancelHeldLate_51 : decode cX9_cancelHeldLate 51 = .ok (.return_, 1) := by decide +kernel
theorem qX9_latestComer_0 : decB cX9_latestComer 0 [.iconst (-1), .istore_n 3, .iconst 0, .istore 4] 5 = true := by decide +kernel
theorem qX9_latestComer_5 : decB cX9_latestComer 5 [.iload 4, .aload_n 0] 8 = true := by decide +kernel
theorem qX9_latestComer_14 : decB cX9_latestComer 14 [.aload_n 0] 15 = true := by decide +kernel
theorem qX9_latestComer_18 : decB cX9_latestComer 18 [.iload 4] 20 = true := by decide +kernel
theorem qX9_latestComer_21 : decB cX9_latestComer 21 [.astore 5, .aload 5] 25 = true := by decide +kernel
theorem qX9_latestComer_28 : decB cX9_latestComer 28 [.iload_n 1] 29 = true := by decide +kernel
theorem qX9_latestComer_32 : decB cX9_latestComer 32 [.aload 5] 34 = true := by decide +kernel
theorem qX9_latestComer_40 : decB cX9_latestComer 40 [.aload 5, .iload_n 2] 43 = true := by decide +kernel
theorem qX9_latestComer_49 : decB cX9_latestComer 49 [.iload_n 3, .iconst (-1)] 51 = true := by decide +kernel
theorem qX9_latestComer_54 : decB cX9_latestComer 54 [.aload 5] 56 = true := by decide +kernel
theorem qX9_latestComer_59 : decB cX9_latestComer 59 [.aload_n 0] 60 = true := by decide +kernel
theorem qX9_latestComer_63 : decB cX9_latestComer 63 [.iload_n 3] 64 = true := by decide +kernel
theorem qX9_latestComer_71 : decB cX9_latestComer 71 [.iload 4, .istore_n 3] 74 = true := by decide +kernel
theorem qX9_latestComer_74 : decB cX9_latestComer 74 [.iinc 4 1, .goto (-72)] 5 = true := by decide +kernel
theorem qX9_latestComer_80 : decB cX9_latestComer 80 [.iload_n 3] 81 = true := by decide +kernel
theorem dX9_latestComer_8 : decode cX9_latestComer 8 = .ok (.getfield 18, 3) := by decide +kernel
theorem dX9_latestComer_11 : decode cX9_latestComer 11 = .ok (.if_icmp .ge 69, 3) := by decide +kernel
theorem dX9_latestComer_15 : decode cX9_latestComer 15 = .ok (.getfield 11, 3) := by decide +kernel
theorem dX9_latestComer_20 : decode cX9_latestComer 20 = .ok (.aaload, 1) := by decide +kernel
theorem dX9_latestComer_25 : decode cX9_latestComer 25 = .ok (.getfield 26, 3) := by decide +kernel
theorem dX9_latestComer_29 : decode cX9_latestComer 29 = .ok (.if_icmp .ne 45, 3) := by decide +kernel
theorem dX9_latestComer_34 : decode cX9_latestComer 34 = .ok (.invokevirtual 29, 3) := by decide +kernel
theorem dX9_latestComer_37 : decode cX9_latestComer 37 = .ok (.ifCond .eq 37, 3) := by decide +kernel
theorem dX9_latestComer_43 : decode cX9_latestComer 43 = .ok (.invokevirtual 33, 3) := by decide +kernel
theorem dX9_latestComer_46 : decode cX9_latestComer 46 = .ok (.ifCond .eq 28, 3) := by decide +kernel
theorem dX9_latestComer_51 : decode cX9_latestComer 51 = .ok (.if_icmp .eq 20, 3) := by decide +kernel
theorem dX9_latestComer_56 : decode cX9_latestComer 56 = .ok (.getfield 41, 3) := by decide +kernel
theorem dX9_latestComer_60 : decode cX9_latestComer 60 = .ok (.getfield 11, 3) := by decide +kernel
theorem dX9_latestComer_64 : decode cX9_latestComer 64 = .ok (.aaload, 1) := by decide +kernel
theorem dX9_latestComer_65 : decode cX9_latestComer 65 = .ok (.getfield 41, 3) := by decide +kernel
theorem dX9_latestComer_68 : decode cX9_latestComer 68 = .ok (.if_icmp .lt 6, 3) := by decide +kernel
theorem dX9_latestComer_81 : decode cX9_latestComer 81 = .ok (.ireturn, 1) := by decide +kernel
theorem qX9_mixed_0 : decB cX9_mixed 0 [.iload_n 1, .istore_n 2, .iconst 0, .istore_n 3] 4 = true := by decide +kernel
theorem qX9_mixed_4 : decB cX9_mixed 4 [.iload_n 3, .aload_n 0] 6 = true := by decide +kernel
theorem qX9_mixed_12 : decB cX9_mixed 12 [.iload_n 2, .bipush 31, .imul, .aload_n 0] 17 = true := by decide +kernel
theorem qX9_mixed_20 : decB cX9_mixed 20 [.iload_n 3] 21 = true := by decide +kernel
theorem qX9_mixed_25 : decB cX9_mixed 25 [.iadd, .istore_n 2, .iload_n 2, .bipush 31, .imul, .aload_n 0] 32 = true := by decide +kernel
theorem qX9_mixed_35 : decB cX9_mixed 35 [.iload_n 3] 36 = true := by decide +kernel
theorem qX9_mixed_40 : decB cX9_mixed 40 [.iadd, .istore_n 2, .iload_n 2, .bipush 31, .imul, .aload_n 0] 47 = true := by decide +kernel
theorem qX9_mixed_50 : decB cX9_mixed 50 [.iload_n 3] 51 = true := by decide +kernel
theorem qX9_mixed_55 : decB cX9_mixed 55 [.iadd, .istore_n 2, .iinc 3 1, .goto (-56)] 4 = true := by decide +kernel
theorem qX9_mixed_63 : decB cX9_mixed 63 [.iload_n 2] 64 = true := by decide +kernel
theorem dX9_mixed_6 : decode cX9_mixed 6 = .ok (.getfield 18, 3) := by decide +kernel
theorem dX9_mixed_9 : decode cX9_mixed 9 = .ok (.if_icmp .ge 54, 3) := by decide +kernel
theorem dX9_mixed_17 : decode cX9_mixed 17 = .ok (.getfield 11, 3) := by decide +kernel
theorem dX9_mixed_21 : decode cX9_mixed 21 = .ok (.aaload, 1) := by decide +kernel
theorem dX9_mixed_22 : decode cX9_mixed 22 = .ok (.getfield 59, 3) := by decide +kernel
theorem dX9_mixed_32 : decode cX9_mixed 32 = .ok (.getfield 11, 3) := by decide +kernel
theorem dX9_mixed_36 : decode cX9_mixed 36 = .ok (.aaload, 1) := by decide +kernel
theorem dX9_mixed_37 : decode cX9_mixed 37 = .ok (.getfield 75, 3) := by decide +kernel
theorem dX9_mixed_47 : decode cX9_mixed 47 = .ok (.getfield 11, 3) := by decide +kernel
theorem dX9_mixed_51 : decode cX9_mixed 51 = .ok (.aaload, 1) := by decide +kernel
theorem dX9_mixed_52 : decode cX9_mixed 52 = .ok (.getfield 78, 3) := by decide +kernel
theorem dX9_mixed_64 : decode cX9_mixed 64 = .ok (.ireturn, 1) := by decide +kernel
theorem qX10_init_0 : decB cX10_init 0 [.aload_n 0] 1 = true := by decide +kernel
theorem qX10_init_4 : decB cX10_init 4 [.aload_n 0, .iload_n 1] 6 = true := by decide +kernel
theorem qX10_init_9 : decB cX10_init 9 [.aload_n 0, .iload_n 2] 11 = true := by decide +kernel
theorem qX10_init_14 : decB cX10_init 14 [.aload_n 0, .iload_n 3] 16 = true := by decide +kernel
theorem qX10_init_19 : decB cX10_init 19 [.aload_n 0, .iload 4] 22 = true := by decide +kernel
theorem qX10_init_25 : decB cX10_init 25 [.aload_n 0, .iload 5] 28 = true := by decide +kernel
theorem dX10_init_1 : decode cX10_init 1 = .ok (.invokespecial 1, 3) := by decide +kernel
theorem dX10_init_6 : decode cX10_init 6 = .ok (.putfield 7, 3) := by decide +kernel
theorem dX10_init_11 : decode cX10_init 11 = .ok (.putfield 13, 3) := by decide +kernel
theorem dX10_init_16 : decode cX10_init 16 = .ok (.putfield 16, 3) := by decide +kernel
theorem dX10_init_22 : decode cX10_init 22 = .ok (.putfield 19, 3) := by decide +kernel
theorem dX10_init_28 : decode cX10_init 28 = .ok (.putfield 22, 3) := by decide +kernel
theorem dX10_init_31 : decode cX10_init 31 = .ok (.return_, 1) := by decide +kernel
theorem qX10_copyFrom_0 : decB cX10_copyFrom 0 [.aload_n 0, .aload_n 1] 2 = true := by decide +kernel
theorem qX10_copyFrom_8 : decB cX10_copyFrom 8 [.aload_n 0, .aload_n 1] 10 = true := by decide +kernel
theorem qX10_copyFrom_16 : decB cX10_copyFrom 16 [.aload_n 0, .aload_n 1] 18 = true := by decide +kernel
theorem qX10_copyFrom_24 : decB cX10_copyFrom 24 [.aload_n 0, .aload_n 1] 26 = true := by decide +kernel
theorem qX10_copyFrom_32 : decB cX10_copyFrom 32 [.aload_n 0, .aload_n 1] 34 = true := by decide +kernel
theorem dX10_copyFrom_2 : decode cX10_copyFrom 2 = .ok (.getfield 7, 3) := by decide +kernel
theorem dX10_copyFrom_5 : decode cX10_copyFrom 5 = .ok (.putfield 7, 3) := by decide +kernel
theorem dX10_copyFrom_10 : decode cX10_copyFrom 10 = .ok (.getfield 13, 3) := by decide +kernel
theorem dX10_copyFrom_13 : decode cX10_copyFrom 13 = .ok (.putfield 13, 3) := by decide +kernel
theorem dX10_copyFrom_18 : decode cX10_copyFrom 18 = .ok (.getfield 16, 3) := by decide +kernel
theorem dX10_copyFrom_21 : decode cX10_copyFrom 21 = .ok (.putfield 16, 3) := by decide +kernel
theorem dX10_copyFrom_26 : decode cX10_copyFrom 26 = .ok (.getfield 19, 3) := by decide +kernel
theorem dX10_copyFrom_29 : decode cX10_copyFrom 29 = .ok (.putfield 19, 3) := by decide +kernel
theorem dX10_copyFrom_34 : decode cX10_copyFrom 34 = .ok (.getfield 22, 3) := by decide +kernel
theorem dX10_copyFrom_37 : decode cX10_copyFrom 37 = .ok (.putfield 22, 3) := by decide +kernel
theorem dX10_copyFrom_40 : decode cX10_copyFrom 40 = .ok (.return_, 1) := by decide +kernel
theorem qX11_init_0 : decB cX11_init 0 [.aload_n 0] 1 = true := by decide +kernel
theorem qX11_init_4 : decB cX11_init 4 [.aload_n 0] 5 = true := by decide +kernel
theorem qX11_init_8 : decB cX11_init 8 [.dup] 9 = true := by decide +kernel
theorem qX11_init_15 : decB cX11_init 15 [.aload_n 0] 16 = true := by decide +kernel
theorem qX11_init_19 : decB cX11_init 19 [.dup] 20 = true := by decide +kernel
theorem qX11_init_26 : decB cX11_init 26 [.aload_n 0] 27 = true := by decide +kernel
theorem qX11_init_30 : decB cX11_init 30 [.dup] 31 = true := by decide +kernel
theorem qX11_init_37 : decB cX11_init 37 [.aload_n 0] 38 = true := by decide +kernel
theorem qX11_init_41 : decB cX11_init 41 [.iconst 3, .sipush 10000] 45 = true := by decide +kernel
theorem qX11_init_48 : decB cX11_init 48 [.pop, .aload_n 0] 50 = true := by decide +kernel
theorem qX11_init_53 : decB cX11_init 53 [.iconst 1, .sipush 25000] 57 = true := by decide +kernel
theorem qX11_init_60 : decB cX11_init 60 [.pop] 61 = true := by decide +kernel
theorem dX11_init_1 : decode cX11_init 1 = .ok (.invokespecial 1, 3) := by decide +kernel
theorem dX11_init_5 : decode cX11_init 5 = .ok (.new 7, 3) := by decide +kernel
theorem dX11_init_9 : decode cX11_init 9 = .ok (.invokespecial 9, 3) := by decide +kernel
theorem dX11_init_12 : decode cX11_init 12 = .ok (.putfield 10, 3) := by decide +kernel
theorem dX11_init_16 : decode cX11_init 16 = .ok (.new 16, 3) := by decide +kernel
theorem dX11_init_20 : decode cX11_init 20 = .ok (.invokespecial 18, 3) := by decide +kernel
theorem dX11_init_23 : decode cX11_init 23 = .ok (.putfield 19, 3) := by decide +kernel
theorem dX11_init_27 : decode cX11_init 27 = .ok (.new 23, 3) := by decide +kernel
theorem dX11_init_31 : decode cX11_init 31 = .ok (.invokespecial 25, 3) := by decide +kernel
theorem dX11_init_34 : decode cX11_init 34 = .ok (.putfield 26, 3) := by decide +kernel
theorem dX11_init_38 : decode cX11_init 38 = .ok (.getfield 10, 3) := by decide +kernel
theorem dX11_init_45 : decode cX11_init 45 = .ok (.invokevirtual 30, 3) := by decide +kernel
theorem dX11_init_50 : decode cX11_init 50 = .ok (.getfield 10, 3) := by decide +kernel
theorem dX11_init_57 : decode cX11_init 57 = .ok (.invokevirtual 30, 3) := by decide +kernel
theorem dX11_init_61 : decode cX11_init 61 = .ok (.return_, 1) := by decide +kernel
theorem qX11_closeNight_0 : decB cX11_closeNight 0 [.iload_n 1, .aload_n 0] 2 = true := by decide +kernel
theorem qX11_closeNight_11 : decB cX11_closeNight 11 [.iload_n 2] 12 = true := by decide +kernel
theorem qX11_closeNight_15 : decB cX11_closeNight 15 [.istore 4, .aload_n 0] 18 = true := by decide +kernel
theorem qX11_closeNight_21 : decB cX11_closeNight 21 [.aload_n 0] 22 = true := by decide +kernel
theorem qX11_closeNight_28 : decB cX11_closeNight 28 [.aload_n 0] 29 = true := by decide +kernel
theorem qX11_closeNight_35 : decB cX11_closeNight 35 [.iload_n 1] 36 = true := by decide +kernel
theorem qX11_closeNight_37 : decB cX11_closeNight 37 [.iload 4, .iload_n 3] 40 = true := by decide +kernel
theorem qX11_closeNight_43 : decB cX11_closeNight 43 [.iload_n 3] 44 = true := by decide +kernel
theorem qX11_closeNight_47 : decB cX11_closeNight 47 [.iconst 0, .goto 10] 58 = true := by decide +kernel
theorem qX11_closeNight_51 : decB cX11_closeNight 51 [.aload_n 0] 52 = true := by decide +kernel
theorem dX11_closeNight_2 : decode cX11_closeNight 2 = .ok (.getfield 10, 3) := by decide +kernel
theorem dX11_closeNight_5 : decode cX11_closeNight 5 = .ok (.getfield 39, 3) := by decide +kernel
theorem dX11_closeNight_8 : decode cX11_closeNight 8 = .ok (.invokestatic 51, 3) := by decide +kernel
theorem dX11_closeNight_12 : decode cX11_closeNight 12 = .ok (.invokestatic 55, 3) := by decide +kernel
theorem dX11_closeNight_18 : decode cX11_closeNight 18 = .ok (.getfield 19, 3) := by decide +kernel
theorem dX11_closeNight_22 : decode cX11_closeNight 22 = .ok (.getfield 10, 3) := by decide +kernel
theorem dX11_closeNight_25 : decode cX11_closeNight 25 = .ok (.invokevirtual 47, 3) := by decide +kernel
theorem dX11_closeNight_29 : decode cX11_closeNight 29 = .ok (.getfield 10, 3) := by decide +kernel
theorem dX11_closeNight_32 : decode cX11_closeNight 32 = .ok (.getfield 59, 3) := by decide +kernel
theorem dX11_closeNight_36 : decode cX11_closeNight 36 = .ok (.aaload, 1) := by decide +kernel
theorem dX11_closeNight_40 : decode cX11_closeNight 40 = .ok (.invokevirtual 63, 3) := by decide +kernel
theorem dX11_closeNight_44 : decode cX11_closeNight 44 = .ok (.ifCond .eq 7, 3) := by decide +kernel
theorem dX11_closeNight_52 : decode cX11_closeNight 52 = .ok (.getfield 10, 3) := by decide +kernel
theorem dX11_closeNight_55 : decode cX11_closeNight 55 = .ok (.invokevirtual 69, 3) := by decide +kernel
theorem dX11_closeNight_58 : decode cX11_closeNight 58 = .ok (.ireturn, 1) := by decide +kernel
theorem qX11_setExtra_0 : decB cX11_setExtra 0 [.iload_n 1, .aload_n 0] 2 = true := by decide +kernel
theorem qX11_setExtra_11 : decB cX11_setExtra 11 [.iload_n 2, .iconst 0, .iconst 3] 14 = true := by decide +kernel
theorem qX11_setExtra_17 : decB cX11_setExtra 17 [.aload_n 0] 18 = true := by decide +kernel
theorem qX11_setExtra_21 : decB cX11_setExtra 21 [.aload_n 0] 22 = true := by decide +kernel
theorem qX11_setExtra_28 : decB cX11_setExtra 28 [.aload_n 0] 29 = true := by decide +kernel
theorem qX11_setExtra_35 : decB cX11_setExtra 35 [.iload_n 1] 36 = true := by decide +kernel
theorem qX11_setExtra_37 : decB cX11_setExtra 37 [.iload_n 2] 38 = true := by decide +kernel
theorem qX11_setExtra_41 : decB cX11_setExtra 41 [.aload_n 0] 42 = true := by decide +kernel
theorem dX11_setExtra_2 : decode cX11_setExtra 2 = .ok (.getfield 10, 3) := by decide +kernel
theorem dX11_setExtra_5 : decode cX11_setExtra 5 = .ok (.getfield 39, 3) := by decide +kernel
theorem dX11_setExtra_8 : decode cX11_setExtra 8 = .ok (.invokestatic 51, 3) := by decide +kernel
theorem dX11_setExtra_14 : decode cX11_setExtra 14 = .ok (.invokestatic 34, 3) := by decide +kernel
theorem dX11_setExtra_18 : decode cX11_setExtra 18 = .ok (.getfield 19, 3) := by decide +kernel
theorem dX11_setExtra_22 : decode cX11_setExtra 22 = .ok (.getfield 10, 3) := by decide +kernel
theorem dX11_setExtra_25 : decode cX11_setExtra 25 = .ok (.invokevirtual 47, 3) := by decide +kernel
theorem dX11_setExtra_29 : decode cX11_setExtra 29 = .ok (.getfield 10, 3) := by decide +kernel
theorem dX11_setExtra_32 : decode cX11_setExtra 32 = .ok (.getfield 59, 3) := by decide +kernel
theorem dX11_setExtra_36 : decode cX11_setExtra 36 = .ok (.aaload, 1) := by decide +kernel
theorem dX11_setExtra_38 : decode cX11_setExtra 38 = .ok (.putfield 73, 3) := by decide +kernel
theorem dX11_setExtra_42 : decode cX11_setExtra 42 = .ok (.getfield 10, 3) := by decide +kernel
theorem dX11_setExtra_45 : decode cX11_setExtra 45 = .ok (.invokevirtual 69, 3) := by decide +kernel
theorem dX11_setExtra_48 : decode cX11_setExtra 48 = .ok (.ireturn, 1) := by decide +kernel
theorem qX11_addSeason_0 : decB cX11_addSeason 0 [.iload_n 1] 1 = true := by decide +kernel
theorem qX11_addSeason_7 : decB cX11_addSeason 7 [.iload_n 2] 8 = true := by decide +kernel
theorem qX11_addSeason_14 : decB cX11_addSeason 14 [.iconst 1, .goto 4] 19 = true := by decide +kernel
theorem qX11_addSeason_18 : decB cX11_addSeason 18 [.iconst 0] 19 = true := by decide +kernel
theorem qX11_addSeason_22 : decB cX11_addSeason 22 [.iload_n 3, .bipush (-50), .bipush 100] 27 = true := by decide +kernel
theorem qX11_addSeason_30 : decB cX11_addSeason 30 [.iload 4, .iconst 1, .bipush 7] 35 = true := by decide +kernel
theorem qX11_addSeason_38 : decB cX11_addSeason 38 [.aload_n 0] 39 = true := by decide +kernel
theorem qX11_addSeason_45 : decB cX11_addSeason 45 [.iconst 4] 46 = true := by decide +kernel
theorem qX11_addSeason_49 : decB cX11_addSeason 49 [.iconst 1, .goto 4] 54 = true := by decide +kernel
theorem qX11_addSeason_53 : decB cX11_addSeason 53 [.iconst 0] 54 = true := by decide +kernel
theorem qX11_addSeason_57 : decB cX11_addSeason 57 [.aload_n 0] 58 = true := by decide +kernel
theorem qX11_addSeason_61 : decB cX11_addSeason 61 [.aload_n 0] 62 = true := by decide +kernel
theorem qX11_addSeason_68 : decB cX11_addSeason 68 [.aload_n 0] 69 = true := by decide +kernel
theorem qX11_addSeason_72 : decB cX11_addSeason 72 [.iload_n 1, .iload_n 2, .iload_n 3, .iload 4] 77 = true := by decide +kernel
theorem dX11_addSeason_1 : decode cX11_addSeason 1 = .ok (.invokestatic 76, 3) := by decide +kernel
theorem dX11_addSeason_4 : decode cX11_addSeason 4 = .ok (.ifCond .eq 14, 3) := by decide +kernel
theorem dX11_addSeason_8 : decode cX11_addSeason 8 = .ok (.invokestatic 76, 3) := by decide +kernel
theorem dX11_addSeason_11 : decode cX11_addSeason 11 = .ok (.ifCond .eq 7, 3) := by decide +kernel
theorem dX11_addSeason_19 : decode cX11_addSeason 19 = .ok (.invokestatic 82, 3) := by decide +kernel
theorem dX11_addSeason_27 : decode cX11_addSeason 27 = .ok (.invokestatic 34, 3) := by decide +kernel
theorem dX11_addSeason_35 : decode cX11_addSeason 35 = .ok (.invokestatic 34, 3) := by decide +kernel
theorem dX11_addSeason_39 : decode cX11_addSeason 39 = .ok (.getfield 10, 3) := by decide +kernel
theorem dX11_addSeason_42 : decode cX11_addSeason 42 = .ok (.getfield 85, 3) := by decide +kernel
theorem dX11_addSeason_46 : decode cX11_addSeason 46 = .ok (.if_icmp .ge 7, 3) := by decide +kernel
theorem dX11_addSeason_54 : decode cX11_addSeason 54 = .ok (.invokestatic 43, 3) := by decide +kernel
theorem dX11_addSeason_58 : decode cX11_addSeason 58 = .ok (.getfield 19, 3) := by decide +kernel
theorem dX11_addSeason_62 : decode cX11_addSeason 62 = .ok (.getfield 10, 3) := by decide +kernel
theorem dX11_addSeason_65 : decode cX11_addSeason 65 = .ok (.invokevirtual 47, 3) := by decide +kernel
theorem dX11_addSeason_69 : decode cX11_addSeason 69 = .ok (.getfield 10, 3) := by decide +kernel
theorem dX11_addSeason_77 : decode cX11_addSeason 77 = .ok (.invokevirtual 88, 3) := by decide +kernel
theorem dX11_addSeason_80 : decode cX11_addSeason 80 = .ok (.ireturn, 1) := by decide +kernel
theorem qX11_setWeekend_0 : decB cX11_setWeekend 0 [.iload_n 1, .iconst 0, .bipush 100] 4 = true := by decide +kernel
theorem qX11_setWeekend_7 : decB cX11_setWeekend 7 [.iload_n 2, .iconst 0, .sipush 1000] 12 = true := by decide +kernel
theorem qX11_setWeekend_15 : decB cX11_setWeekend 15 [.aload_n 0] 16 = true := by decide +kernel
theorem qX11_setWeekend_19 : decB cX11_setWeekend 19 [.aload_n 0] 20 = true := by decide +kernel
theorem qX11_setWeekend_26 : decB cX11_setWeekend 26 [.aload_n 0] 27 = true := by decide +kernel
theorem qX11_setWeekend_33 : decB cX11_setWeekend 33 [.istore_n 3, .aload_n 0] 35 = true := by decide +kernel
theorem qX11_setWeekend_38 : decB cX11_setWeekend 38 [.iload_n 1] 39 = true := by decide +kernel
theorem qX11_setWeekend_42 : decB cX11_setWeekend 42 [.aload_n 0] 43 = true := by decide +kernel
theorem qX11_setWeekend_46 : decB cX11_setWeekend 46 [.iload_n 2] 47 = true := by decide +kernel
theorem qX11_setWeekend_50 : decB cX11_setWeekend 50 [.iload_n 3] 51 = true := by decide +kernel
theorem dX11_setWeekend_4 : decode cX11_setWeekend 4 = .ok (.invokestatic 34, 3) := by decide +kernel
theorem dX11_setWeekend_12 : decode cX11_setWeekend 12 = .ok (.invokestatic 34, 3) := by decide +kernel
theorem dX11_setWeekend_16 : decode cX11_setWeekend 16 = .ok (.getfield 19, 3) := by decide +kernel
theorem dX11_setWeekend_20 : decode cX11_setWeekend 20 = .ok (.getfield 10, 3) := by decide +kernel
theorem dX11_setWeekend_23 : decode cX11_setWeekend 23 = .ok (.invokevirtual 47, 3) := by decide +kernel
theorem dX11_setWeekend_27 : decode cX11_setWeekend 27 = .ok (.getfield 10, 3) := by decide +kernel
theorem dX11_setWeekend_30 : decode cX11_setWeekend 30 = .ok (.getfield 92, 3) := by decide +kernel
theorem dX11_setWeekend_35 : decode cX11_setWeekend 35 = .ok (.getfield 10, 3) := by decide +kernel
theorem dX11_setWeekend_39 : decode cX11_setWeekend 39 = .ok (.putfield 95, 3) := by decide +kernel
theorem dX11_setWeekend_43 : decode cX11_setWeekend 43 = .ok (.getfield 10, 3) := by decide +kernel
theorem dX11_setWeekend_47 : decode cX11_setWeekend 47 = .ok (.putfield 92, 3) := by decide +kernel
theorem dX11_setWeekend_51 : decode cX11_setWeekend 51 = .ok (.ireturn, 1) := by decide +kernel
theorem qX11_ask_0 : decB cX11_ask 0 [.aload_n 0, .iload_n 1, .iload_n 2, .iload_n 3, .iload 4, .iload 5] 8 = true := by decide +kernel
theorem qX11_ask_11 : decB cX11_ask 11 [.astore 7, .aload_n 0, .iload 6, .aload 7] 18 = true := by decide +kernel
theorem qX11_ask_21 : decB cX11_ask 21 [.istore 8, .aload_n 0] 24 = true := by decide +kernel
theorem qX11_ask_33 : decB cX11_ask 33 [.bipush 60] 35 = true := by decide +kernel
theorem qX11_ask_38 : decB cX11_ask 38 [.iconst 1, .goto 4] 43 = true := by decide +kernel
theorem qX11_ask_42 : decB cX11_ask 42 [.iconst 0] 43 = true := by decide +kernel
theorem qX11_ask_46 : decB cX11_ask 46 [.aload_n 0] 47 = true := by decide +kernel
theorem qX11_ask_50 : decB cX11_ask 50 [.aload_n 0] 51 = true := by decide +kernel
theorem qX11_ask_57 : decB cX11_ask 57 [.aload_n 0] 58 = true := by decide +kernel
theorem qX11_ask_61 : decB cX11_ask 61 [.aload 7, .iload 8, .iconst (-1)] 66 = true := by decide +kernel
theorem dX11_ask_8 : decode cX11_ask 8 = .ok (.invokevirtual 98, 3) := by decide +kernel
theorem dX11_ask_18 : decode cX11_ask 18 = .ok (.invokevirtual 102, 3) := by decide +kernel
theorem dX11_ask_24 : decode cX11_ask 24 = .ok (.getfield 10, 3) := by decide +kernel
theorem dX11_ask_27 : decode cX11_ask 27 = .ok (.getfield 106, 3) := by decide +kernel
theorem dX11_ask_30 : decode cX11_ask 30 = .ok (.getfield 110, 3) := by decide +kernel
theorem dX11_ask_35 : decode cX11_ask 35 = .ok (.if_icmp .ge 7, 3) := by decide +kernel
theorem dX11_ask_43 : decode cX11_ask 43 = .ok (.invokestatic 43, 3) := by decide +kernel
theorem dX11_ask_47 : decode cX11_ask 47 = .ok (.getfield 19, 3) := by decide +kernel
theorem dX11_ask_51 : decode cX11_ask 51 = .ok (.getfield 10, 3) := by decide +kernel
theorem dX11_ask_54 : decode cX11_ask 54 = .ok (.invokevirtual 47, 3) := by decide +kernel
theorem dX11_ask_58 : decode cX11_ask 58 = .ok (.getfield 10, 3) := by decide +kernel
theorem dX11_ask_66 : decode cX11_ask 66 = .ok (.invokevirtual 115, 3) := by decide +kernel
theorem dX11_ask_69 : decode cX11_ask 69 = .ok (.ireturn, 1) := by decide +kernel
theorem qX11_group_0 : decB cX11_group 0 [.aload_n 0, .iload_n 1, .iload_n 3, .iload 4, .iconst 1, .iconst 0] 7 = true := by decide +kernel
theorem qX11_group_10 : decB cX11_group 10 [.astore 6, .aload_n 0, .iload 5, .aload 6] 17 = true := by decide +kernel
theorem qX11_group_20 : decB cX11_group 20 [.istore 7, .iload_n 2, .iconst 1, .bipush 6] 26 = true := by decide +kernel
theorem qX11_group_29 : decB cX11_group 29 [.aload_n 0] 30 = true := by decide +kernel
theorem qX11_group_36 : decB cX11_group 36 [.bipush 10] 38 = true := by decide +kernel
theorem qX11_group_41 : decB cX11_group 41 [.aload_n 0] 42 = true := by decide +kernel
theorem qX11_group_51 : decB cX11_group 51 [.iload_n 2, .iadd, .bipush 60] 55 = true := by decide +kernel
theorem qX11_group_58 : decB cX11_group 58 [.iconst 1, .goto 4] 63 = true := by decide +kernel
theorem qX11_group_62 : decB cX11_group 62 [.iconst 0] 63 = true := by decide +kernel
theorem qX11_group_66 : decB cX11_group 66 [.aload_n 0] 67 = true := by decide +kernel
theorem qX11_group_70 : decB cX11_group 70 [.aload_n 0] 71 = true := by decide +kernel
theorem qX11_group_77 : decB cX11_group 77 [.aload_n 0] 78 = true := by decide +kernel
theorem qX11_group_81 : decB cX11_group 81 [.aload 6, .iload_n 2, .iload 7] 86 = true := by decide +kernel
theorem dX11_group_7 : decode cX11_group 7 = .ok (.invokevirtual 98, 3) := by decide +kernel
theorem dX11_group_17 : decode cX11_group 17 = .ok (.invokevirtual 102, 3) := by decide +kernel
theorem dX11_group_26 : decode cX11_group 26 = .ok (.invokestatic 34, 3) := by decide +kernel
theorem dX11_group_30 : decode cX11_group 30 = .ok (.getfield 10, 3) := by decide +kernel
theorem dX11_group_33 : decode cX11_group 33 = .ok (.getfield 119, 3) := by decide +kernel
theorem dX11_group_38 : decode cX11_group 38 = .ok (.if_icmp .ge 24, 3) := by decide +kernel
theorem dX11_group_42 : decode cX11_group 42 = .ok (.getfield 10, 3) := by decide +kernel
theorem dX11_group_45 : decode cX11_group 45 = .ok (.getfield 106, 3) := by decide +kernel
theorem dX11_group_48 : decode cX11_group 48 = .ok (.getfield 110, 3) := by decide +kernel
theorem dX11_group_55 : decode cX11_group 55 = .ok (.if_icmp .gt 7, 3) := by decide +kernel
theorem dX11_group_63 : decode cX11_group 63 = .ok (.invokestatic 43, 3) := by decide +kernel
theorem dX11_group_67 : decode cX11_group 67 = .ok (.getfield 19, 3) := by decide +kernel
theorem dX11_group_71 : decode cX11_group 71 = .ok (.getfield 10, 3) := by decide +kernel
theorem dX11_group_74 : decode cX11_group 74 = .ok (.invokevirtual 47, 3) := by decide +kernel
theorem dX11_group_78 : decode cX11_group 78 = .ok (.getfield 10, 3) := by decide +kernel
theorem dX11_group_86 : decode cX11_group 86 = .ok (.invokevirtual 122, 3) := by decide +kernel
theorem dX11_group_89 : decode cX11_group 89 = .ok (.ireturn, 1) := by decide +kernel
theorem qX11_letGo_0 : decB cX11_letGo 0 [.iload_n 1, .aload_n 0] 2 = true := by decide +kernel
theorem qX11_letGo_11 : decB cX11_letGo 11 [.aload_n 0] 12 = true := by decide +kernel
theorem qX11_letGo_15 : decB cX11_letGo 15 [.aload_n 0] 16 = true := by decide +kernel
theorem qX11_letGo_22 : decB cX11_letGo 22 [.aload_n 0] 23 = true := by decide +kernel
theorem qX11_letGo_29 : decB cX11_letGo 29 [.iload_n 1] 30 = true := by decide +kernel
theorem qX11_letGo_33 : decB cX11_letGo 33 [.istore_n 2, .aload_n 0] 35 = true := by decide +kernel
theorem qX11_letGo_41 : decB cX11_letGo 41 [.pop, .iload_n 2] 43 = true := by decide +kernel
theorem dX11_letGo_2 : decode cX11_letGo 2 = .ok (.getfield 10, 3) := by decide +kernel
theorem dX11_letGo_5 : decode cX11_letGo 5 = .ok (.getfield 119, 3) := by decide +kernel
theorem dX11_letGo_8 : decode cX11_letGo 8 = .ok (.invokestatic 51, 3) := by decide +kernel
theorem dX11_letGo_12 : decode cX11_letGo 12 = .ok (.getfield 19, 3) := by decide +kernel
theorem dX11_letGo_16 : decode cX11_letGo 16 = .ok (.getfield 10, 3) := by decide +kernel
theorem dX11_letGo_19 : decode cX11_letGo 19 = .ok (.invokevirtual 47, 3) := by decide +kernel
theorem dX11_letGo_23 : decode cX11_letGo 23 = .ok (.getfield 10, 3) := by decide +kernel
theorem dX11_letGo_26 : decode cX11_letGo 26 = .ok (.getfield 106, 3) := by decide +kernel
theorem dX11_letGo_30 : decode cX11_letGo 30 = .ok (.invokevirtual 125, 3) := by decide +kernel
theorem dX11_letGo_35 : decode cX11_letGo 35 = .ok (.getfield 10, 3) := by decide +kernel
theorem dX11_letGo_38 : decode cX11_letGo 38 = .ok (.invokevirtual 69, 3) := by decide +kernel
theorem dX11_letGo_43 : decode cX11_letGo 43 = .ok (.ireturn, 1) := by decide +kernel
theorem qX11_waitFor_0 : decB cX11_waitFor 0 [.aload_n 0, .iload_n 1, .iload_n 2, .iload_n 3, .iload 4, .iload 5] 8 = true := by decide +kernel
theorem qX11_waitFor_11 : decB cX11_waitFor 11 [.astore 6, .aload_n 0] 14 = true := by decide +kernel
theorem qX11_waitFor_20 : decB cX11_waitFor 20 [.bipush 20] 22 = true := by decide +kernel
theorem qX11_waitFor_25 : decB cX11_waitFor 25 [.iconst 1, .goto 4] 30 = true := by decide +kernel
theorem qX11_waitFor_29 : decB cX11_waitFor 29 [.iconst 0] 30 = true := by decide +kernel
theorem qX11_waitFor_33 : decB cX11_waitFor 33 [.aload_n 0] 34 = true := by decide +kernel
theorem qX11_waitFor_37 : decB cX11_waitFor 37 [.aload_n 0] 38 = true := by decide +kernel
theorem qX11_waitFor_44 : decB cX11_waitFor 44 [.aload_n 0] 45 = true := by decide +kernel
theorem qX11_waitFor_48 : decB cX11_waitFor 48 [.aload 6] 50 = true := by decide +kernel
theorem dX11_waitFor_8 : decode cX11_waitFor 8 = .ok (.invokevirtual 98, 3) := by decide +kernel
theorem dX11_waitFor_14 : decode cX11_waitFor 14 = .ok (.getfield 10, 3) := by decide +kernel
theorem dX11_waitFor_17 : decode cX11_waitFor 17 = .ok (.getfield 128, 3) := by decide +kernel
theorem dX11_waitFor_22 : decode cX11_waitFor 22 = .ok (.if_icmp .ge 7, 3) := by decide +kernel
theorem dX11_waitFor_30 : decode cX11_waitFor 30 = .ok (.invokestatic 43, 3) := by decide +kernel
theorem dX11_waitFor_34 : decode cX11_waitFor 34 = .ok (.getfield 19, 3) := by decide +kernel
theorem dX11_waitFor_38 : decode cX11_waitFor 38 = .ok (.getfield 10, 3) := by decide +kernel
theorem dX11_waitFor_41 : decode cX11_waitFor 41 = .ok (.invokevirtual 47, 3) := by decide +kernel
theorem dX11_waitFor_45 : decode cX11_waitFor 45 = .ok (.getfield 10, 3) := by decide +kernel
theorem dX11_waitFor_50 : decode cX11_waitFor 50 = .ok (.invokevirtual 131, 3) := by decide +kernel
theorem dX11_waitFor_53 : decode cX11_waitFor 53 = .ok (.ireturn, 1) := by decide +kernel
theorem qX11_pay_0 : decB cX11_pay 0 [.aload_n 0, .iload_n 1] 2 = true := by decide +kernel
theorem qX11_pay_5 : decB cX11_pay 5 [.astore_n 2, .aload_n 2] 7 = true := by decide +kernel
theorem qX11_pay_13 : decB cX11_pay 13 [.iconst 1, .goto 4] 18 = true := by decide +kernel
theorem qX11_pay_17 : decB cX11_pay 17 [.iconst 0] 18 = true := by decide +kernel
theorem qX11_pay_21 : decB cX11_pay 21 [.aload_n 0] 22 = true := by decide +kernel
theorem qX11_pay_25 : decB cX11_pay 25 [.aload_n 0] 26 = true := by decide +kernel
theorem qX11_pay_32 : decB cX11_pay 32 [.aload_n 0] 33 = true := by decide +kernel
theorem qX11_pay_36 : decB cX11_pay 36 [.aload_n 2] 37 = true := by decide +kernel
theorem dX11_pay_2 : decode cX11_pay 2 = .ok (.invokevirtual 135, 3) := by decide +kernel
theorem dX11_pay_7 : decode cX11_pay 7 = .ok (.getfield 139, 3) := by decide +kernel
theorem dX11_pay_10 : decode cX11_pay 10 = .ok (.ifCond .ne 7, 3) := by decide +kernel
theorem dX11_pay_18 : decode cX11_pay 18 = .ok (.invokestatic 43, 3) := by decide +kernel
theorem dX11_pay_22 : decode cX11_pay 22 = .ok (.getfield 19, 3) := by decide +kernel
theorem dX11_pay_26 : decode cX11_pay 26 = .ok (.getfield 10, 3) := by decide +kernel
theorem dX11_pay_29 : decode cX11_pay 29 = .ok (.invokevirtual 47, 3) := by decide +kernel
theorem dX11_pay_33 : decode cX11_pay 33 = .ok (.getfield 10, 3) := by decide +kernel
theorem dX11_pay_37 : decode cX11_pay 37 = .ok (.invokevirtual 144, 3) := by decide +kernel
theorem dX11_pay_40 : decode cX11_pay 40 = .ok (.ireturn, 1) := by decide +kernel
theorem qX11_cancel_0 : decB cX11_cancel 0 [.aload_n 0, .iload_n 1] 2 = true := by decide +kernel
theorem qX11_cancel_5 : decB cX11_cancel 5 [.astore_n 2, .aload_n 2] 7 = true := by decide +kernel
theorem qX11_cancel_13 : decB cX11_cancel 13 [.aload_n 2] 14 = true := by decide +kernel
theorem qX11_cancel_17 : decB cX11_cancel 17 [.aload_n 0] 18 = true := by decide +kernel
theorem qX11_cancel_27 : decB cX11_cancel 27 [.iconst 1, .goto 4] 32 = true := by decide +kernel
theorem qX11_cancel_31 : decB cX11_cancel 31 [.iconst 0] 32 = true := by decide +kernel
theorem qX11_cancel_35 : decB cX11_cancel 35 [.aload_n 0] 36 = true := by decide +kernel
theorem qX11_cancel_39 : decB cX11_cancel 39 [.aload_n 0] 40 = true := by decide +kernel
theorem qX11_cancel_46 : decB cX11_cancel 46 [.aload_n 0] 47 = true := by decide +kernel
theorem qX11_cancel_50 : decB cX11_cancel 50 [.aload_n 2] 51 = true := by decide +kernel
theorem qX11_cancel_54 : decB cX11_cancel 54 [.istore_n 3, .aload_n 0] 56 = true := by decide +kernel
theorem qX11_cancel_62 : decB cX11_cancel 62 [.pop, .iload_n 3] 64 = true := by decide +kernel
theorem dX11_cancel_2 : decode cX11_cancel 2 = .ok (.invokevirtual 135, 3) := by decide +kernel
theorem dX11_cancel_7 : decode cX11_cancel 7 = .ok (.invokevirtual 148, 3) := by decide +kernel
theorem dX11_cancel_10 : decode cX11_cancel 10 = .ok (.ifCond .eq 21, 3) := by decide +kernel
theorem dX11_cancel_14 : decode cX11_cancel 14 = .ok (.getfield 152, 3) := by decide +kernel
theorem dX11_cancel_18 : decode cX11_cancel 18 = .ok (.getfield 10, 3) := by decide +kernel
theorem dX11_cancel_21 : decode cX11_cancel 21 = .ok (.getfield 155, 3) := by decide +kernel
theorem dX11_cancel_24 : decode cX11_cancel 24 = .ok (.if_icmp .le 7, 3) := by decide +kernel
theorem dX11_cancel_32 : decode cX11_cancel 32 = .ok (.invokestatic 43, 3) := by decide +kernel
theorem dX11_cancel_36 : decode cX11_cancel 36 = .ok (.getfield 19, 3) := by decide +kernel
theorem dX11_cancel_40 : decode cX11_cancel 40 = .ok (.getfield 10, 3) := by decide +kernel
theorem dX11_cancel_43 : decode cX11_cancel 43 = .ok (.invokevirtual 47, 3) := by decide +kernel
theorem dX11_cancel_47 : decode cX11_cancel 47 = .ok (.getfield 10, 3) := by decide +kernel
theorem dX11_cancel_51 : decode cX11_cancel 51 = .ok (.invokevirtual 158, 3) := by decide +kernel
theorem dX11_cancel_56 : decode cX11_cancel 56 = .ok (.getfield 10, 3) := by decide +kernel
theorem dX11_cancel_59 : decode cX11_cancel 59 = .ok (.invokevirtual 69, 3) := by decide +kernel
theorem dX11_cancel_64 : decode cX11_cancel 64 = .ok (.ireturn, 1) := by decide +kernel
theorem qX11_longer_0 : decB cX11_longer 0 [.aload_n 0, .iload_n 1] 2 = true := by decide +kernel
theorem qX11_longer_5 : decB cX11_longer 5 [.astore_n 3, .iload_n 2, .iconst 1, .bipush 13] 10 = true := by decide +kernel
theorem qX11_longer_13 : decB cX11_longer 13 [.aload_n 3] 14 = true := by decide +kernel
theorem qX11_longer_17 : decB cX11_longer 17 [.iload_n 2, .iadd, .iconst 1, .bipush 14] 22 = true := by decide +kernel
theorem qX11_longer_25 : decB cX11_longer 25 [.aload_n 0] 26 = true := by decide +kernel
theorem qX11_longer_29 : decB cX11_longer 29 [.aload_n 3] 30 = true := by decide +kernel
theorem qX11_longer_33 : decB cX11_longer 33 [.iload_n 2, .iadd] 35 = true := by decide +kernel
theorem qX11_longer_41 : decB cX11_longer 41 [.aload_n 3] 42 = true := by decide +kernel
theorem qX11_longer_48 : decB cX11_longer 48 [.aload_n 0] 49 = true := by decide +kernel
theorem qX11_longer_52 : decB cX11_longer 52 [.aload_n 0] 53 = true := by decide +kernel
theorem qX11_longer_59 : decB cX11_longer 59 [.aload_n 0] 60 = true := by decide +kernel
theorem qX11_longer_63 : decB cX11_longer 63 [.aload_n 3, .iload_n 2] 65 = true := by decide +kernel
theorem dX11_longer_2 : decode cX11_longer 2 = .ok (.invokevirtual 135, 3) := by decide +kernel
theorem dX11_longer_10 : decode cX11_longer 10 = .ok (.invokestatic 34, 3) := by decide +kernel
theorem dX11_longer_14 : decode cX11_longer 14 = .ok (.getfield 161, 3) := by decide +kernel
theorem dX11_longer_22 : decode cX11_longer 22 = .ok (.invokestatic 34, 3) := by decide +kernel
theorem dX11_longer_26 : decode cX11_longer 26 = .ok (.getfield 10, 3) := by decide +kernel
theorem dX11_longer_30 : decode cX11_longer 30 = .ok (.invokevirtual 164, 3) := by decide +kernel
theorem dX11_longer_35 : decode cX11_longer 35 = .ok (.invokevirtual 167, 3) := by decide +kernel
theorem dX11_longer_38 : decode cX11_longer 38 = .ok (.invokestatic 82, 3) := by decide +kernel
theorem dX11_longer_42 : decode cX11_longer 42 = .ok (.invokevirtual 148, 3) := by decide +kernel
theorem dX11_longer_45 : decode cX11_longer 45 = .ok (.invokestatic 43, 3) := by decide +kernel
theorem dX11_longer_49 : decode cX11_longer 49 = .ok (.getfield 19, 3) := by decide +kernel
theorem dX11_longer_53 : decode cX11_longer 53 = .ok (.getfield 10, 3) := by decide +kernel
theorem dX11_longer_56 : decode cX11_longer 56 = .ok (.invokevirtual 47, 3) := by decide +kernel
theorem dX11_longer_60 : decode cX11_longer 60 = .ok (.getfield 10, 3) := by decide +kernel
theorem dX11_longer_65 : decode cX11_longer 65 = .ok (.invokevirtual 170, 3) := by decide +kernel
theorem dX11_longer_68 : decode cX11_longer 68 = .ok (.ireturn, 1) := by decide +kernel
theorem qX11_shorter_0 : decB cX11_shorter 0 [.aload_n 0, .iload_n 1] 2 = true := by decide +kernel
theorem qX11_shorter_5 : decB cX11_shorter 5 [.astore_n 3, .iload_n 2, .iconst 1, .bipush 13] 10 = true := by decide +kernel
theorem qX11_shorter_13 : decB cX11_shorter 13 [.iload_n 2, .aload_n 3] 15 = true := by decide +kernel
theorem qX11_shorter_21 : decB cX11_shorter 21 [.iconst 1, .goto 4] 26 = true := by decide +kernel
theorem qX11_shorter_25 : decB cX11_shorter 25 [.iconst 0] 26 = true := by decide +kernel
theorem qX11_shorter_29 : decB cX11_shorter 29 [.aload_n 3] 30 = true := by decide +kernel
theorem qX11_shorter_33 : decB cX11_shorter 33 [.iload_n 2, .isub, .iconst 1, .iadd, .aload_n 0] 38 = true := by decide +kernel
theorem qX11_shorter_47 : decB cX11_shorter 47 [.iconst 1, .goto 4] 52 = true := by decide +kernel
theorem qX11_shorter_51 : decB cX11_shorter 51 [.iconst 0] 52 = true := by decide +kernel
theorem qX11_shorter_55 : decB cX11_shorter 55 [.aload_n 3] 56 = true := by decide +kernel
theorem qX11_shorter_62 : decB cX11_shorter 62 [.aload_n 0] 63 = true := by decide +kernel
theorem qX11_shorter_66 : decB cX11_shorter 66 [.aload_n 0] 67 = true := by decide +kernel
theorem qX11_shorter_73 : decB cX11_shorter 73 [.aload_n 3, .iload_n 2] 75 = true := by decide +kernel
theorem qX11_shorter_78 : decB cX11_shorter 78 [.istore 4, .aload_n 0] 81 = true := by decide +kernel
theorem qX11_shorter_87 : decB cX11_shorter 87 [.pop, .iload 4] 90 = true := by decide +kernel
theorem dX11_shorter_2 : decode cX11_shorter 2 = .ok (.invokevirtual 135, 3) := by decide +kernel
theorem dX11_shorter_10 : decode cX11_shorter 10 = .ok (.invokestatic 34, 3) := by decide +kernel
theorem dX11_shorter_15 : decode cX11_shorter 15 = .ok (.getfield 161, 3) := by decide +kernel
theorem dX11_shorter_18 : decode cX11_shorter 18 = .ok (.if_icmp .ge 7, 3) := by decide +kernel
theorem dX11_shorter_26 : decode cX11_shorter 26 = .ok (.invokestatic 82, 3) := by decide +kernel
theorem dX11_shorter_30 : decode cX11_shorter 30 = .ok (.invokevirtual 164, 3) := by decide +kernel
theorem dX11_shorter_38 : decode cX11_shorter 38 = .ok (.getfield 10, 3) := by decide +kernel
theorem dX11_shorter_41 : decode cX11_shorter 41 = .ok (.getfield 155, 3) := by decide +kernel
theorem dX11_shorter_44 : decode cX11_shorter 44 = .ok (.if_icmp .lt 7, 3) := by decide +kernel
theorem dX11_shorter_52 : decode cX11_shorter 52 = .ok (.invokestatic 82, 3) := by decide +kernel
theorem dX11_shorter_56 : decode cX11_shorter 56 = .ok (.invokevirtual 148, 3) := by decide +kernel
theorem dX11_shorter_59 : decode cX11_shorter 59 = .ok (.invokestatic 43, 3) := by decide +kernel
theorem dX11_shorter_63 : decode cX11_shorter 63 = .ok (.getfield 19, 3) := by decide +kernel
theorem dX11_shorter_67 : decode cX11_shorter 67 = .ok (.getfield 10, 3) := by decide +kernel
theorem dX11_shorter_70 : decode cX11_shorter 70 = .ok (.invokevirtual 47, 3) := by decide +kernel
theorem dX11_shorter_75 : decode cX11_shorter 75 = .ok (.invokevirtual 174, 3) := by decide +kernel
theorem dX11_shorter_81 : decode cX11_shorter 81 = .ok (.getfield 10, 3) := by decide +kernel
theorem dX11_shorter_84 : decode cX11_shorter 84 = .ok (.invokevirtual 69, 3) := by decide +kernel
theorem dX11_shorter_90 : decode cX11_shorter 90 = .ok (.ireturn, 1) := by decide +kernel
theorem qX11_passes_0 : decB cX11_passes 0 [.iload_n 1, .iconst 1, .bipush 31] 4 = true := by decide +kernel
theorem qX11_passes_7 : decB cX11_passes 7 [.aload_n 0] 8 = true := by decide +kernel
theorem qX11_passes_14 : decB cX11_passes 14 [.iload_n 1, .iadd] 16 = true := by decide +kernel
theorem qX11_passes_21 : decB cX11_passes 21 [.iconst 1, .goto 4] 26 = true := by decide +kernel
theorem qX11_passes_25 : decB cX11_passes 25 [.iconst 0] 26 = true := by decide +kernel
theorem qX11_passes_29 : decB cX11_passes 29 [.aload_n 0] 30 = true := by decide +kernel
theorem qX11_passes_33 : decB cX11_passes 33 [.aload_n 0] 34 = true := by decide +kernel
theorem qX11_passes_40 : decB cX11_passes 40 [.iconst 0, .istore_n 2] 42 = true := by decide +kernel
theorem qX11_passes_42 : decB cX11_passes 42 [.iload_n 2, .iload_n 1] 44 = true := by decide +kernel
theorem qX11_passes_47 : decB cX11_passes 47 [.aload_n 0] 48 = true := by decide +kernel
theorem qX11_passes_54 : decB cX11_passes 54 [.aload_n 0] 55 = true := by decide +kernel
theorem qX11_passes_61 : decB cX11_passes 61 [.pop, .iinc 2 1, .goto (-23)] 42 = true := by decide +kernel
theorem qX11_passes_68 : decB cX11_passes 68 [.aload_n 0] 69 = true := by decide +kernel
theorem dX11_passes_4 : decode cX11_passes 4 = .ok (.invokestatic 34, 3) := by decide +kernel
theorem dX11_passes_8 : decode cX11_passes 8 = .ok (.getfield 10, 3) := by decide +kernel
theorem dX11_passes_11 : decode cX11_passes 11 = .ok (.getfield 155, 3) := by decide +kernel
theorem dX11_passes_16 : decode cX11_passes 16 = .ok (.ldc 177, 2) := by decide +kernel
theorem dX11_passes_18 : decode cX11_passes 18 = .ok (.if_icmp .ge 7, 3) := by decide +kernel
theorem dX11_passes_26 : decode cX11_passes 26 = .ok (.invokestatic 82, 3) := by decide +kernel
theorem dX11_passes_30 : decode cX11_passes 30 = .ok (.getfield 19, 3) := by decide +kernel
theorem dX11_passes_34 : decode cX11_passes 34 = .ok (.getfield 10, 3) := by decide +kernel
theorem dX11_passes_37 : decode cX11_passes 37 = .ok (.invokevirtual 47, 3) := by decide +kernel
theorem dX11_passes_44 : decode cX11_passes 44 = .ok (.if_icmp .ge 24, 3) := by decide +kernel
theorem dX11_passes_48 : decode cX11_passes 48 = .ok (.getfield 10, 3) := by decide +kernel
theorem dX11_passes_51 : decode cX11_passes 51 = .ok (.invokevirtual 178, 3) := by decide +kernel
theorem dX11_passes_55 : decode cX11_passes 55 = .ok (.getfield 10, 3) := by decide +kernel
theorem dX11_passes_58 : decode cX11_passes 58 = .ok (.invokevirtual 69, 3) := by decide +kernel
theorem dX11_passes_69 : decode cX11_passes 69 = .ok (.getfield 10, 3) := by decide +kernel
theorem dX11_passes_72 : decode cX11_passes 72 = .ok (.getfield 155, 3) := by decide +kernel
theorem dX11_passes_75 : decode cX11_passes 75 = .ok (.invokestatic 181, 3) := by decide +kernel
theorem dX11_passes_78 : decode cX11_passes 78 = .ok (.ireturn, 1) := by decide +kernel
theorem qX11_setOdds_0 : decB cX11_setOdds 0 [.iload_n 1, .iconst 4] 2 = true := by decide +kernel
theorem qX11_setOdds_5 : decB cX11_setOdds 5 [.iload_n 2, .iconst 0] 7 = true := by decide +kernel
theorem qX11_setOdds_12 : decB cX11_setOdds 12 [.iload_n 3, .iconst 0, .sipush 1000] 17 = true := by decide +kernel
theorem qX11_setOdds_20 : decB cX11_setOdds 20 [.aload_n 0] 21 = true := by decide +kernel
theorem qX11_setOdds_30 : decB cX11_setOdds 30 [.aload_n 0] 31 = true := by decide +kernel
theorem qX11_setOdds_40 : decB cX11_setOdds 40 [.iload_n 1] 41 = true := by decide +kernel
theorem qX11_setOdds_42 : decB cX11_setOdds 42 [.isub, .iload_n 3, .iadd, .istore 4, .iload 4, .iconst 0, .sipush 1000] 53 = true := by decide +kernel
theorem qX11_setOdds_56 : decB cX11_setOdds 56 [.aload_n 0] 57 = true := by decide +kernel
theorem qX11_setOdds_60 : decB cX11_setOdds 60 [.aload_n 0] 61 = true := by decide +kernel
theorem qX11_setOdds_67 : decB cX11_setOdds 67 [.aload_n 0] 68 = true := by decide +kernel
theorem qX11_setOdds_77 : decB cX11_setOdds 77 [.iload_n 1, .iload_n 2] 79 = true := by decide +kernel
theorem qX11_setOdds_80 : decB cX11_setOdds 80 [.aload_n 0] 81 = true := by decide +kernel
theorem qX11_setOdds_90 : decB cX11_setOdds 90 [.iload_n 1, .iload_n 3] 92 = true := by decide +kernel
theorem qX11_setOdds_93 : decB cX11_setOdds 93 [.iload 4] 95 = true := by decide +kernel
theorem dX11_setOdds_2 : decode cX11_setOdds 2 = .ok (.invokestatic 51, 3) := by decide +kernel
theorem dX11_setOdds_7 : decode cX11_setOdds 7 = .ok (.ldc 38, 2) := by decide +kernel
theorem dX11_setOdds_9 : decode cX11_setOdds 9 = .ok (.invokestatic 34, 3) := by decide +kernel
theorem dX11_setOdds_17 : decode cX11_setOdds 17 = .ok (.invokestatic 34, 3) := by decide +kernel
theorem dX11_setOdds_21 : decode cX11_setOdds 21 = .ok (.getfield 10, 3) := by decide +kernel
theorem dX11_setOdds_24 : decode cX11_setOdds 24 = .ok (.getfield 184, 3) := by decide +kernel
theorem dX11_setOdds_27 : decode cX11_setOdds 27 = .ok (.invokevirtual 188, 3) := by decide +kernel
theorem dX11_setOdds_31 : decode cX11_setOdds 31 = .ok (.getfield 10, 3) := by decide +kernel
theorem dX11_setOdds_34 : decode cX11_setOdds 34 = .ok (.getfield 184, 3) := by decide +kernel
theorem dX11_setOdds_37 : decode cX11_setOdds 37 = .ok (.getfield 193, 3) := by decide +kernel
theorem dX11_setOdds_41 : decode cX11_setOdds 41 = .ok (.iaload, 1) := by decide +kernel
theorem dX11_setOdds_53 : decode cX11_setOdds 53 = .ok (.invokestatic 34, 3) := by decide +kernel
theorem dX11_setOdds_57 : decode cX11_setOdds 57 = .ok (.getfield 19, 3) := by decide +kernel
theorem dX11_setOdds_61 : decode cX11_setOdds 61 = .ok (.getfield 10, 3) := by decide +kernel
theorem dX11_setOdds_64 : decode cX11_setOdds 64 = .ok (.invokevirtual 47, 3) := by decide +kernel
theorem dX11_setOdds_68 : decode cX11_setOdds 68 = .ok (.getfield 10, 3) := by decide +kernel
theorem dX11_setOdds_71 : decode cX11_setOdds 71 = .ok (.getfield 184, 3) := by decide +kernel
theorem dX11_setOdds_74 : decode cX11_setOdds 74 = .ok (.getfield 197, 3) := by decide +kernel
theorem dX11_setOdds_79 : decode cX11_setOdds 79 = .ok (.iastore, 1) := by decide +kernel
theorem dX11_setOdds_81 : decode cX11_setOdds 81 = .ok (.getfield 10, 3) := by decide +kernel
theorem dX11_setOdds_84 : decode cX11_setOdds 84 = .ok (.getfield 184, 3) := by decide +kernel
theorem dX11_setOdds_87 : decode cX11_setOdds 87 = .ok (.getfield 193, 3) := by decide +kernel
theorem dX11_setOdds_92 : decode cX11_setOdds 92 = .ok (.iastore, 1) := by decide +kernel
theorem dX11_setOdds_95 : decode cX11_setOdds 95 = .ok (.ireturn, 1) := by decide +kernel
theorem qX11_sell_0 : decB cX11_sell 0 [.iload_n 1, .iconst 1, .iconst 4] 3 = true := by decide +kernel
theorem qX11_sell_6 : decB cX11_sell 6 [.iload_n 2, .iconst 1, .iconst 4] 9 = true := by decide +kernel
theorem qX11_sell_12 : decB cX11_sell 12 [.aload_n 0] 13 = true := by decide +kernel
theorem qX11_sell_16 : decB cX11_sell 16 [.aload_n 0] 17 = true := by decide +kernel
theorem qX11_sell_23 : decB cX11_sell 23 [.aload_n 0] 24 = true := by decide +kernel
theorem qX11_sell_30 : decB cX11_sell 30 [.iload_n 1, .iload_n 2] 32 = true := by decide +kernel
theorem qX11_sell_35 : decB cX11_sell 35 [.aload_n 0] 36 = true := by decide +kernel
theorem qX11_sell_42 : decB cX11_sell 42 [.iload_n 1, .iload_n 2] 44 = true := by decide +kernel
theorem dX11_sell_3 : decode cX11_sell 3 = .ok (.invokestatic 34, 3) := by decide +kernel
theorem dX11_sell_9 : decode cX11_sell 9 = .ok (.invokestatic 34, 3) := by decide +kernel
theorem dX11_sell_13 : decode cX11_sell 13 = .ok (.getfield 19, 3) := by decide +kernel
theorem dX11_sell_17 : decode cX11_sell 17 = .ok (.getfield 10, 3) := by decide +kernel
theorem dX11_sell_20 : decode cX11_sell 20 = .ok (.invokevirtual 47, 3) := by decide +kernel
theorem dX11_sell_24 : decode cX11_sell 24 = .ok (.getfield 10, 3) := by decide +kernel
theorem dX11_sell_27 : decode cX11_sell 27 = .ok (.getfield 200, 3) := by decide +kernel
theorem dX11_sell_32 : decode cX11_sell 32 = .ok (.invokevirtual 204, 3) := by decide +kernel
theorem dX11_sell_36 : decode cX11_sell 36 = .ok (.getfield 10, 3) := by decide +kernel
theorem dX11_sell_39 : decode cX11_sell 39 = .ok (.getfield 184, 3) := by decide +kernel
theorem dX11_sell_44 : decode cX11_sell 44 = .ok (.invokevirtual 209, 3) := by decide +kernel
theorem dX11_sell_47 : decode cX11_sell 47 = .ok (.ireturn, 1) := by decide +kernel
theorem qX11_offer_0 : decB cX11_offer 0 [.iload_n 1, .iconst 0] 2 = true := by decide +kernel
theorem qX11_offer_7 : decB cX11_offer 7 [.aload_n 0] 8 = true := by decide +kernel
theorem qX11_offer_20 : decB cX11_offer 20 [.aload_n 0] 21 = true := by decide +kernel
theorem qX11_offer_33 : decB cX11_offer 33 [.iconst 1, .goto 4] 38 = true := by decide +kernel
theorem qX11_offer_37 : decB cX11_offer 37 [.iconst 0] 38 = true := by decide +kernel
theorem qX11_offer_41 : decB cX11_offer 41 [.aload_n 0] 42 = true := by decide +kernel
theorem qX11_offer_45 : decB cX11_offer 45 [.aload_n 0] 46 = true := by decide +kernel
theorem qX11_offer_52 : decB cX11_offer 52 [.aload_n 0] 53 = true := by decide +kernel
theorem qX11_offer_59 : decB cX11_offer 59 [.iload_n 1, .aload_n 0] 61 = true := by decide +kernel
theorem dX11_offer_2 : decode cX11_offer 2 = .ok (.ldc 38, 2) := by decide +kernel
theorem dX11_offer_4 : decode cX11_offer 4 = .ok (.invokestatic 34, 3) := by decide +kernel
theorem dX11_offer_8 : decode cX11_offer 8 = .ok (.getfield 10, 3) := by decide +kernel
theorem dX11_offer_11 : decode cX11_offer 11 = .ok (.getfield 200, 3) := by decide +kernel
theorem dX11_offer_14 : decode cX11_offer 14 = .ok (.getfield 212, 3) := by decide +kernel
theorem dX11_offer_17 : decode cX11_offer 17 = .ok (.ifCond .eq 20, 3) := by decide +kernel
theorem dX11_offer_21 : decode cX11_offer 21 = .ok (.getfield 10, 3) := by decide +kernel
theorem dX11_offer_24 : decode cX11_offer 24 = .ok (.getfield 200, 3) := by decide +kernel
theorem dX11_offer_27 : decode cX11_offer 27 = .ok (.getfield 216, 3) := by decide +kernel
theorem dX11_offer_30 : decode cX11_offer 30 = .ok (.ifCond .le 7, 3) := by decide +kernel
theorem dX11_offer_38 : decode cX11_offer 38 = .ok (.invokestatic 43, 3) := by decide +kernel
theorem dX11_offer_42 : decode cX11_offer 42 = .ok (.getfield 19, 3) := by decide +kernel
theorem dX11_offer_46 : decode cX11_offer 46 = .ok (.getfield 10, 3) := by decide +kernel
theorem dX11_offer_49 : decode cX11_offer 49 = .ok (.invokevirtual 47, 3) := by decide +kernel
theorem dX11_offer_53 : decode cX11_offer 53 = .ok (.getfield 10, 3) := by decide +kernel
theorem dX11_offer_56 : decode cX11_offer 56 = .ok (.getfield 200, 3) := by decide +kernel
theorem dX11_offer_61 : decode cX11_offer 61 = .ok (.getfield 10, 3) := by decide +kernel
theorem dX11_offer_64 : decode cX11_offer 64 = .ok (.getfield 184, 3) := by decide +kernel
theorem dX11_offer_67 : decode cX11_offer 67 = .ok (.invokevirtual 219, 3) := by decide +kernel
theorem dX11_offer_70 : decode cX11_offer 70 = .ok (.ireturn, 1) := by decide +kernel
theorem qX11_undo_0 : decB cX11_undo 0 [.aload_n 0] 1 = true := by decide +kernel
theorem qX11_undo_4 : decB cX11_undo 4 [.aload_n 0] 5 = true := by decide +kernel
theorem dX11_undo_1 : decode cX11_undo 1 = .ok (.getfield 19, 3) := by decide +kernel
theorem dX11_undo_5 : decode cX11_undo 5 = .ok (.getfield 10, 3) := by decide +kernel
theorem dX11_undo_8 : decode cX11_undo 8 = .ok (.invokevirtual 223, 3) := by decide +kernel
theorem dX11_undo_11 : decode cX11_undo 11 = .ok (.ireturn, 1) := by decide +kernel
theorem qX11_today_0 : decB cX11_today 0 [.aload_n 0] 1 = true := by decide +kernel
theorem dX11_today_1 : decode cX11_today 1 = .ok (.getfield 10, 3) := by decide +kernel
theorem dX11_today_4 : decode cX11_today 4 = .ok (.getfield 155, 3) := by decide +kernel
theorem dX11_today_7 : decode cX11_today 7 = .ok (.invokestatic 181, 3) := by decide +kernel
theorem dX11_today_10 : decode cX11_today 10 = .ok (.ireturn, 1) := by decide +kernel
theorem qX11_dayOfWeek_0 : decB cX11_dayOfWeek 0 [.iload_n 1] 1 = true := by decide +kernel
theorem dX11_dayOfWeek_1 : decode cX11_dayOfWeek 1 = .ok (.invokestatic 55, 3) := by decide +kernel
theorem dX11_dayOfWeek_4 : decode cX11_dayOfWeek 4 = .ok (.invokestatic 227, 3) := by decide +kernel
theorem dX11_dayOfWeek_7 : decode cX11_dayOfWeek 7 = .ok (.ireturn, 1) := by decide +kernel
theorem qX11_addDays_0 : decB cX11_addDays 0 [.iload_n 1] 1 = true := by decide +kernel
theorem qX11_addDays_4 : decB cX11_addDays 4 [.istore_n 3, .iload_n 2, .sipush (-1000), .sipush 1000] 12 = true := by decide +kernel
theorem qX11_addDays_15 : decB cX11_addDays 15 [.iload_n 3, .iload_n 2, .iadd, .iconst 0] 19 = true := by decide +kernel
theorem qX11_addDays_24 : decB cX11_addDays 24 [.iload_n 3, .iload_n 2, .iadd] 27 = true := by decide +kernel
theorem dX11_addDays_1 : decode cX11_addDays 1 = .ok (.invokestatic 55, 3) := by decide +kernel
theorem dX11_addDays_12 : decode cX11_addDays 12 = .ok (.invokestatic 34, 3) := by decide +kernel
theorem dX11_addDays_19 : decode cX11_addDays 19 = .ok (.ldc 230, 2) := by decide +kernel
theorem dX11_addDays_21 : decode cX11_addDays 21 = .ok (.invokestatic 34, 3) := by decide +kernel
theorem dX11_addDays_27 : decode cX11_addDays 27 = .ok (.invokestatic 181, 3) := by decide +kernel
theorem dX11_addDays_30 : decode cX11_addDays 30 = .ok (.ireturn, 1) := by decide +kernel
theorem qX11_count_0 : decB cX11_count 0 [.iload_n 1, .aload_n 0] 2 = true := by decide +kernel
theorem qX11_count_11 : decB cX11_count 11 [.aload_n 0] 12 = true := by decide +kernel
theorem qX11_count_18 : decB cX11_count 18 [.iload_n 1, .iload_n 2] 20 = true := by decide +kernel
theorem dX11_count_2 : decode cX11_count 2 = .ok (.getfield 10, 3) := by decide +kernel
theorem dX11_count_5 : decode cX11_count 5 = .ok (.getfield 39, 3) := by decide +kernel
theorem dX11_count_8 : decode cX11_count 8 = .ok (.invokestatic 51, 3) := by decide +kernel
theorem dX11_count_12 : decode cX11_count 12 = .ok (.getfield 10, 3) := by decide +kernel
theorem dX11_count_15 : decode cX11_count 15 = .ok (.getfield 106, 3) := by decide +kernel
theorem dX11_count_20 : decode cX11_count 20 = .ok (.invokestatic 55, 3) := by decide +kernel
theorem dX11_count_23 : decode cX11_count 23 = .ok (.invokevirtual 231, 3) := by decide +kernel
theorem dX11_count_26 : decode cX11_count 26 = .ok (.ireturn, 1) := by decide +kernel
theorem qX11_needed_0 : decB cX11_needed 0 [.iload_n 1, .aload_n 0] 2 = true := by decide +kernel
theorem qX11_needed_11 : decB cX11_needed 11 [.aload_n 0] 12 = true := by decide +kernel
theorem qX11_needed_18 : decB cX11_needed 18 [.iload_n 1] 19 = true := by decide +kernel
theorem dX11_needed_2 : decode cX11_needed 2 = .ok (.getfield 10, 3) := by decide +kernel
theorem dX11_needed_5 : decode cX11_needed 5 = .ok (.getfield 39, 3) := by decide +kernel
theorem dX11_needed_8 : decode cX11_needed 8 = .ok (.invokestatic 51, 3) := by decide +kernel
theorem dX11_needed_12 : decode cX11_needed 12 = .ok (.getfield 10, 3) := by decide +kernel
theorem dX11_needed_15 : decode cX11_needed 15 = .ok (.getfield 106, 3) := by decide +kernel
theorem dX11_needed_19 : decode cX11_needed 19 = .ok (.invokevirtual 238, 3) := by decide +kernel
theorem dX11_needed_22 : decode cX11_needed 22 = .ok (.ireturn, 1) := by decide +kernel
theorem qX11_refusedNight_0 : decB cX11_refusedNight 0 [.aload_n 0] 1 = true := by decide +kernel
theorem qX11_refusedNight_7 : decB cX11_refusedNight 7 [.iconst (-1)] 8 = true := by decide +kernel
theorem qX11_refusedNight_11 : decB cX11_refusedNight 11 [.iconst 0, .goto 13] 25 = true := by decide +kernel
theorem qX11_refusedNight_15 : decB cX11_refusedNight 15 [.aload_n 0] 16 = true := by decide +kernel
theorem dX11_refusedNight_1 : decode cX11_refusedNight 1 = .ok (.getfield 10, 3) := by decide +kernel
theorem dX11_refusedNight_4 : decode cX11_refusedNight 4 = .ok (.getfield 241, 3) := by decide +kernel
theorem dX11_refusedNight_8 : decode cX11_refusedNight 8 = .ok (.if_icmp .ne 7, 3) := by decide +kernel
theorem dX11_refusedNight_16 : decode cX11_refusedNight 16 = .ok (.getfield 10, 3) := by decide +kernel
theorem dX11_refusedNight_19 : decode cX11_refusedNight 19 = .ok (.getfield 241, 3) := by decide +kernel
theorem dX11_refusedNight_22 : decode cX11_refusedNight 22 = .ok (.invokestatic 181, 3) := by decide +kernel
theorem dX11_refusedNight_25 : decode cX11_refusedNight 25 = .ok (.ireturn, 1) := by decide +kernel
theorem qX11_stayAt_0 : decB cX11_stayAt 0 [.aload_n 0, .iload_n 1] 2 = true := by decide +kernel
theorem qX11_stayAt_5 : decB cX11_stayAt 5 [.astore_n 3, .iload_n 2, .iconst 0, .bipush 8] 10 = true := by decide +kernel
theorem qX11_stayAt_13 : decB cX11_stayAt 13 [.aload_n 3, .iload_n 2] 15 = true := by decide +kernel
theorem dX11_stayAt_2 : decode cX11_stayAt 2 = .ok (.invokevirtual 135, 3) := by decide +kernel
theorem dX11_stayAt_10 : decode cX11_stayAt 10 = .ok (.invokestatic 34, 3) := by decide +kernel
theorem dX11_stayAt_15 : decode cX11_stayAt 15 = .ok (.invokevirtual 244, 3) := by decide +kernel
theorem dX11_stayAt_18 : decode cX11_stayAt 18 = .ok (.ireturn, 1) := by decide +kernel
theorem qX11_roomOf_0 : decB cX11_roomOf 0 [.aload_n 0, .iload_n 1] 2 = true := by decide +kernel
theorem qX11_roomOf_5 : decB cX11_roomOf 5 [.astore_n 2, .aload_n 2] 7 = true := by decide +kernel
theorem qX11_roomOf_13 : decB cX11_roomOf 13 [.aload_n 0] 14 = true := by decide +kernel
theorem qX11_roomOf_17 : decB cX11_roomOf 17 [.aload_n 0] 18 = true := by decide +kernel
theorem qX11_roomOf_21 : decB cX11_roomOf 21 [.aload_n 2] 22 = true := by decide +kernel
theorem qX11_roomOf_28 : decB cX11_roomOf 28 [.aload_n 0] 29 = true := by decide +kernel
theorem qX11_roomOf_35 : decB cX11_roomOf 35 [.iload_n 1] 36 = true := by decide +kernel
theorem dX11_roomOf_2 : decode cX11_roomOf 2 = .ok (.invokevirtual 135, 3) := by decide +kernel
theorem dX11_roomOf_7 : decode cX11_roomOf 7 = .ok (.invokevirtual 148, 3) := by decide +kernel
theorem dX11_roomOf_10 : decode cX11_roomOf 10 = .ok (.invokestatic 43, 3) := by decide +kernel
theorem dX11_roomOf_14 : decode cX11_roomOf 14 = .ok (.getfield 26, 3) := by decide +kernel
theorem dX11_roomOf_18 : decode cX11_roomOf 18 = .ok (.getfield 10, 3) := by decide +kernel
theorem dX11_roomOf_22 : decode cX11_roomOf 22 = .ok (.getfield 247, 3) := by decide +kernel
theorem dX11_roomOf_25 : decode cX11_roomOf 25 = .ok (.invokevirtual 250, 3) := by decide +kernel
theorem dX11_roomOf_29 : decode cX11_roomOf 29 = .ok (.getfield 26, 3) := by decide +kernel
theorem dX11_roomOf_32 : decode cX11_roomOf 32 = .ok (.getfield 254, 3) := by decide +kernel
theorem dX11_roomOf_36 : decode cX11_roomOf 36 = .ok (.iaload, 1) := by decide +kernel
theorem dX11_roomOf_37 : decode cX11_roomOf 37 = .ok (.ireturn, 1) := by decide +kernel
theorem qX11_priceOf_0 : decB cX11_priceOf 0 [.iload_n 1, .aload_n 0] 2 = true := by decide +kernel
theorem qX11_priceOf_11 : decB cX11_priceOf 11 [.aload_n 0] 12 = true := by decide +kernel
theorem qX11_priceOf_15 : decB cX11_priceOf 15 [.iload_n 1, .iload_n 2] 17 = true := by decide +kernel
theorem dX11_priceOf_2 : decode cX11_priceOf 2 = .ok (.getfield 10, 3) := by decide +kernel
theorem dX11_priceOf_5 : decode cX11_priceOf 5 = .ok (.getfield 39, 3) := by decide +kernel
theorem dX11_priceOf_8 : decode cX11_priceOf 8 = .ok (.invokestatic 51, 3) := by decide +kernel
theorem dX11_priceOf_12 : decode cX11_priceOf 12 = .ok (.getfield 10, 3) := by decide +kernel
theorem dX11_priceOf_17 : decode cX11_priceOf 17 = .ok (.invokestatic 55, 3) := by decide +kernel
theorem dX11_priceOf_20 : decode cX11_priceOf 20 = .ok (.invokevirtual 257, 3) := by decide +kernel
theorem dX11_priceOf_23 : decode cX11_priceOf 23 = .ok (.ireturn, 1) := by decide +kernel
theorem qX11_refund_0 : decB cX11_refund 0 [.aload_n 0, .iload_n 1] 2 = true := by decide +kernel
theorem qX11_refund_5 : decB cX11_refund 5 [.aload_n 0] 6 = true := by decide +kernel
theorem dX11_refund_2 : decode cX11_refund 2 = .ok (.invokevirtual 135, 3) := by decide +kernel
theorem dX11_refund_6 : decode cX11_refund 6 = .ok (.getfield 10, 3) := by decide +kernel
theorem dX11_refund_9 : decode cX11_refund 9 = .ok (.getfield 155, 3) := by decide +kernel
theorem dX11_refund_12 : decode cX11_refund 12 = .ok (.invokevirtual 260, 3) := by decide +kernel
theorem dX11_refund_15 : decode cX11_refund 15 = .ok (.ireturn, 1) := by decide +kernel
theorem qX11_book_0 : decB cX11_book 0 [.iload_n 1, .iconst 4] 2 = true := by decide +kernel
theorem qX11_book_5 : decB cX11_book 5 [.aload_n 0] 6 = true := by decide +kernel
theorem qX11_book_12 : decB cX11_book 12 [.iload_n 1] 13 = true := by decide +kernel
theorem dX11_book_2 : decode cX11_book 2 = .ok (.invokestatic 51, 3) := by decide +kernel
theorem dX11_book_6 : decode cX11_book 6 = .ok (.getfield 10, 3) := by decide +kernel
theorem dX11_book_9 : decode cX11_book 9 = .ok (.getfield 263, 3) := by decide +kernel
theorem dX11_book_13 : decode cX11_book 13 = .ok (.laload, 1) := by decide +kernel
theorem dX11_book_14 : decode cX11_book 14 = .ok (.lreturn, 1) := by decide +kernel
theorem qX11_waiting_0 : decB cX11_waiting 0 [.aload_n 0] 1 = true := by decide +kernel
theorem dX11_waiting_1 : decode cX11_waiting 1 = .ok (.getfield 10, 3) := by decide +kernel
theorem dX11_waiting_4 : decode cX11_waiting 4 = .ok (.getfield 128, 3) := by decide +kernel
theorem dX11_waiting_7 : decode cX11_waiting 7 = .ok (.ireturn, 1) := by decide +kernel
theorem qX11_awaited_0 : decB cX11_awaited 0 [.iload_n 1, .iconst 0, .iconst 4] 3 = true := by decide +kernel
theorem qX11_awaited_6 : decB cX11_awaited 6 [.iload_n 2, .iconst 0, .iconst 5] 9 = true := by decide +kernel
theorem qX11_awaited_12 : decB cX11_awaited 12 [.aload_n 0] 13 = true := by decide +kernel
theorem qX11_awaited_19 : decB cX11_awaited 19 [.iload_n 1] 20 = true := by decide +kernel
theorem qX11_awaited_23 : decB cX11_awaited 23 [.iload_n 2] 24 = true := by decide +kernel
theorem dX11_awaited_3 : decode cX11_awaited 3 = .ok (.invokestatic 34, 3) := by decide +kernel
theorem dX11_awaited_9 : decode cX11_awaited 9 = .ok (.invokestatic 34, 3) := by decide +kernel
theorem dX11_awaited_13 : decode cX11_awaited 13 = .ok (.getfield 10, 3) := by decide +kernel
theorem dX11_awaited_16 : decode cX11_awaited 16 = .ok (.getfield 184, 3) := by decide +kernel
theorem dX11_awaited_20 : decode cX11_awaited 20 = .ok (.invokevirtual 267, 3) := by decide +kernel
theorem dX11_awaited_24 : decode cX11_awaited 24 = .ok (.laload, 1) := by decide +kernel
theorem dX11_awaited_25 : decode cX11_awaited 25 = .ok (.lreturn, 1) := by decide +kernel
theorem qX11_saleAt_0 : decB cX11_saleAt 0 [.iload_n 1, .iconst 0, .iconst 3] 3 = true := by decide +kernel
theorem qX11_saleAt_6 : decB cX11_saleAt 6 [.aload_n 0] 7 = true := by decide +kernel
theorem qX11_saleAt_19 : decB cX11_saleAt 19 [.aload_n 0] 20 = true := by decide +kernel
theorem qX11_saleAt_26 : decB cX11_saleAt 26 [.iload_n 1] 27 = true := by decide +kernel
theorem dX11_saleAt_3 : decode cX11_saleAt 3 = .ok (.invokestatic 34, 3) := by decide +kernel
theorem dX11_saleAt_7 : decode cX11_saleAt 7 = .ok (.getfield 10, 3) := by decide +kernel
theorem dX11_saleAt_10 : decode cX11_saleAt 10 = .ok (.getfield 200, 3) := by decide +kernel
theorem dX11_saleAt_13 : decode cX11_saleAt 13 = .ok (.getfield 212, 3) := by decide +kernel
theorem dX11_saleAt_16 : decode cX11_saleAt 16 = .ok (.invokestatic 43, 3) := by decide +kernel
theorem dX11_saleAt_20 : decode cX11_saleAt 20 = .ok (.getfield 10, 3) := by decide +kernel
theorem dX11_saleAt_23 : decode cX11_saleAt 23 = .ok (.getfield 200, 3) := by decide +kernel
theorem dX11_saleAt_27 : decode cX11_saleAt 27 = .ok (.invokevirtual 271, 3) := by decide +kernel
theorem dX11_saleAt_30 : decode cX11_saleAt 30 = .ok (.ireturn, 1) := by decide +kernel
theorem qX11_moreToSell_0 : decB cX11_moreToSell 0 [.iload_n 1, .aload_n 0] 2 = true := by decide +kernel
theorem qX11_moreToSell_11 : decB cX11_moreToSell 11 [.iload_n 2, .iconst 0, .sipush 1000] 16 = true := by decide +kernel
theorem qX11_moreToSell_19 : decB cX11_moreToSell 19 [.iload_n 3, .iconst 0, .sipush 1000] 24 = true := by decide +kernel
theorem qX11_moreToSell_27 : decB cX11_moreToSell 27 [.aload_n 0] 28 = true := by decide +kernel
theorem qX11_moreToSell_34 : decB cX11_moreToSell 34 [.iload_n 1] 35 = true := by decide +kernel
theorem qX11_moreToSell_39 : decB cX11_moreToSell 39 [.istore 4, .iconst 3, .istore 5] 44 = true := by decide +kernel
theorem qX11_moreToSell_44 : decB cX11_moreToSell 44 [.iload 5] 46 = true := by decide +kernel
theorem qX11_moreToSell_49 : decB cX11_moreToSell 49 [.iload 4, .iload 5, .iload_n 2, .iload_n 3] 55 = true := by decide +kernel
theorem qX11_moreToSell_61 : decB cX11_moreToSell 61 [.iinc 5 (-1), .goto (-20)] 44 = true := by decide +kernel
theorem qX11_moreToSell_67 : decB cX11_moreToSell 67 [.iload 5] 69 = true := by decide +kernel
theorem dX11_moreToSell_2 : decode cX11_moreToSell 2 = .ok (.getfield 10, 3) := by decide +kernel
theorem dX11_moreToSell_5 : decode cX11_moreToSell 5 = .ok (.getfield 39, 3) := by decide +kernel
theorem dX11_moreToSell_8 : decode cX11_moreToSell 8 = .ok (.invokestatic 51, 3) := by decide +kernel
theorem dX11_moreToSell_16 : decode cX11_moreToSell 16 = .ok (.invokestatic 34, 3) := by decide +kernel
theorem dX11_moreToSell_24 : decode cX11_moreToSell 24 = .ok (.invokestatic 34, 3) := by decide +kernel
theorem dX11_moreToSell_28 : decode cX11_moreToSell 28 = .ok (.getfield 10, 3) := by decide +kernel
theorem dX11_moreToSell_31 : decode cX11_moreToSell 31 = .ok (.getfield 59, 3) := by decide +kernel
theorem dX11_moreToSell_35 : decode cX11_moreToSell 35 = .ok (.aaload, 1) := by decide +kernel
theorem dX11_moreToSell_36 : decode cX11_moreToSell 36 = .ok (.getfield 272, 3) := by decide +kernel
theorem dX11_moreToSell_46 : decode cX11_moreToSell 46 = .ok (.ifCond .le 21, 3) := by decide +kernel
theorem dX11_moreToSell_55 : decode cX11_moreToSell 55 = .ok (.invokestatic 274, 3) := by decide +kernel
theorem dX11_moreToSell_58 : decode cX11_moreToSell 58 = .ok (.ifCond .ne 9, 3) := by decide +kernel
theorem dX11_moreToSell_69 : decode cX11_moreToSell 69 = .ok (.ireturn, 1) := by decide +kernel
theorem qX11_checksum_0 : decB cX11_checksum 0 [.aload_n 0] 1 = true := by decide +kernel
theorem qX11_checksum_7 : decB cX11_checksum 7 [.bipush 17] 9 = true := by decide +kernel
theorem qX11_checksum_12 : decB cX11_checksum 12 [.bipush 31, .imul, .aload_n 0] 16 = true := by decide +kernel
theorem qX11_checksum_25 : decB cX11_checksum 25 [.iadd] 26 = true := by decide +kernel
theorem dX11_checksum_1 : decode cX11_checksum 1 = .ok (.getfield 10, 3) := by decide +kernel
theorem dX11_checksum_4 : decode cX11_checksum 4 = .ok (.getfield 106, 3) := by decide +kernel
theorem dX11_checksum_9 : decode cX11_checksum 9 = .ok (.invokevirtual 302, 3) := by decide +kernel
theorem dX11_checksum_16 : decode cX11_checksum 16 = .ok (.getfield 10, 3) := by decide +kernel
theorem dX11_checksum_19 : decode cX11_checksum 19 = .ok (.getfield 155, 3) := by decide +kernel
theorem dX11_checksum_22 : decode cX11_checksum 22 = .ok (.invokestatic 181, 3) := by decide +kernel
theorem dX11_checksum_26 : decode cX11_checksum 26 = .ok (.ireturn, 1) := by decide +kernel
theorem qX11_errors_0 : decB cX11_errors 0 [.iconst 0, .istore_n 1, .iconst 0, .istore_n 2] 4 = true := by decide +kernel
theorem qX11_errors_4 : decB cX11_errors 4 [.iload_n 2, .aload_n 0] 6 = true := by decide +kernel
theorem qX11_errors_15 : decB cX11_errors 15 [.aload_n 0] 16 = true := by decide +kernel
theorem qX11_errors_19 : decB cX11_errors 19 [.aload_n 0] 20 = true := by decide +kernel
theorem qX11_errors_23 : decB cX11_errors 23 [.iload_n 2] 24 = true := by decide +kernel
theorem qX11_errors_27 : decB cX11_errors 27 [.aload_n 0] 28 = true := by decide +kernel
theorem qX11_errors_34 : decB cX11_errors 34 [.iload_n 2] 35 = true := by decide +kernel
theorem qX11_errors_38 : decB cX11_errors 38 [.aload_n 0] 39 = true := by decide +kernel
theorem qX11_errors_45 : decB cX11_errors 45 [.iload_n 2] 46 = true := by decide +kernel
theorem qX11_errors_53 : decB cX11_errors 53 [.iconst 1, .goto 4] 58 = true := by decide +kernel
theorem qX11_errors_57 : decB cX11_errors 57 [.iconst 0] 58 = true := by decide +kernel
theorem qX11_errors_58 : decB cX11_errors 58 [.istore_n 3, .iload_n 3, .aload_n 0] 61 = true := by decide +kernel
theorem qX11_errors_70 : decB cX11_errors 70 [.iinc 1 1] 73 = true := by decide +kernel
theorem qX11_errors_73 : decB cX11_errors 73 [.iinc 2 1, .goto (-72)] 4 = true := by decide +kernel
theorem qX11_errors_79 : decB cX11_errors 79 [.lconst 0, .lstore_n 2, .iconst 0, .istore 4] 84 = true := by decide +kernel
theorem qX11_errors_84 : decB cX11_errors 84 [.iload 4, .iconst 4] 87 = true := by decide +kernel
theorem qX11_errors_90 : decB cX11_errors 90 [.lload_n 2, .aload_n 0] 92 = true := by decide +kernel
theorem qX11_errors_98 : decB cX11_errors 98 [.iload 4] 100 = true := by decide +kernel
theorem qX11_errors_101 : decB cX11_errors 101 [.ladd, .lstore_n 2, .iinc 4 1, .goto (-22)] 84 = true := by decide +kernel
theorem qX11_errors_109 : decB cX11_errors 109 [.lload_n 2, .lconst 0] 111 = true := by decide +kernel
theorem qX11_errors_115 : decB cX11_errors 115 [.iload_n 1, .goto 6] 122 = true := by decide +kernel
theorem qX11_errors_119 : decB cX11_errors 119 [.iload_n 1, .iconst 1, .iadd] 122 = true := by decide +kernel
theorem dX11_errors_6 : decode cX11_errors 6 = .ok (.getfield 10, 3) := by decide +kernel
theorem dX11_errors_9 : decode cX11_errors 9 = .ok (.getfield 39, 3) := by decide +kernel
theorem dX11_errors_12 : decode cX11_errors 12 = .ok (.if_icmp .ge 67, 3) := by decide +kernel
theorem dX11_errors_16 : decode cX11_errors 16 = .ok (.getfield 26, 3) := by decide +kernel
theorem dX11_errors_20 : decode cX11_errors 20 = .ok (.getfield 10, 3) := by decide +kernel
theorem dX11_errors_24 : decode cX11_errors 24 = .ok (.invokevirtual 250, 3) := by decide +kernel
theorem dX11_errors_28 : decode cX11_errors 28 = .ok (.getfield 10, 3) := by decide +kernel
theorem dX11_errors_31 : decode cX11_errors 31 = .ok (.getfield 106, 3) := by decide +kernel
theorem dX11_errors_35 : decode cX11_errors 35 = .ok (.invokevirtual 238, 3) := by decide +kernel
theorem dX11_errors_39 : decode cX11_errors 39 = .ok (.getfield 10, 3) := by decide +kernel
theorem dX11_errors_42 : decode cX11_errors 42 = .ok (.getfield 59, 3) := by decide +kernel
theorem dX11_errors_46 : decode cX11_errors 46 = .ok (.aaload, 1) := by decide +kernel
theorem dX11_errors_47 : decode cX11_errors 47 = .ok (.getfield 272, 3) := by decide +kernel
theorem dX11_errors_50 : decode cX11_errors 50 = .ok (.if_icmp .le 7, 3) := by decide +kernel
theorem dX11_errors_61 : decode cX11_errors 61 = .ok (.getfield 26, 3) := by decide +kernel
theorem dX11_errors_64 : decode cX11_errors 64 = .ok (.getfield 305, 3) := by decide +kernel
theorem dX11_errors_67 : decode cX11_errors 67 = .ok (.if_icmp .eq 6, 3) := by decide +kernel
theorem dX11_errors_87 : decode cX11_errors 87 = .ok (.if_icmp .ge 22, 3) := by decide +kernel
theorem dX11_errors_92 : decode cX11_errors 92 = .ok (.getfield 10, 3) := by decide +kernel
theorem dX11_errors_95 : decode cX11_errors 95 = .ok (.getfield 263, 3) := by decide +kernel
theorem dX11_errors_100 : decode cX11_errors 100 = .ok (.laload, 1) := by decide +kernel
theorem dX11_errors_111 : decode cX11_errors 111 = .ok (.lcmp, 1) := by decide +kernel
theorem dX11_errors_112 : decode cX11_errors 112 = .ok (.ifCond .ne 7, 3) := by decide +kernel
theorem dX11_errors_122 : decode cX11_errors 122 = .ok (.ireturn, 1) := by decide +kernel
theorem qX11_checkIndex_0 : decB cX11_checkIndex 0 [.iload_n 0] 1 = true := by decide +kernel
theorem qX11_checkIndex_4 : decB cX11_checkIndex 4 [.iload_n 0, .iload_n 1] 6 = true := by decide +kernel
theorem qX11_checkIndex_12 : decB cX11_checkIndex 12 [.dup] 13 = true := by decide +kernel
theorem dX11_checkIndex_1 : decode cX11_checkIndex 1 = .ok (.ifCond .lt 8, 3) := by decide +kernel
theorem dX11_checkIndex_6 : decode cX11_checkIndex 6 = .ok (.if_icmp .lt 14, 3) := by decide +kernel
theorem dX11_checkIndex_9 : decode cX11_checkIndex 9 = .ok (.new 308, 3) := by decide +kernel
theorem dX11_checkIndex_13 : decode cX11_checkIndex 13 = .ok (.ldc_w 310, 3) := by decide +kernel
theorem dX11_checkIndex_16 : decode cX11_checkIndex 16 = .ok (.invokespecial 312, 3) := by decide +kernel
theorem dX11_checkIndex_19 : decode cX11_checkIndex 19 = .ok (.athrow, 1) := by decide +kernel
theorem dX11_checkIndex_20 : decode cX11_checkIndex 20 = .ok (.return_, 1) := by decide +kernel
theorem qX11_checkArgument_0 : decB cX11_checkArgument 0 [.iload_n 0] 1 = true := by decide +kernel
theorem qX11_checkArgument_7 : decB cX11_checkArgument 7 [.dup] 8 = true := by decide +kernel
theorem dX11_checkArgument_1 : decode cX11_checkArgument 1 = .ok (.ifCond .ne 14, 3) := by decide +kernel
theorem dX11_checkArgument_4 : decode cX11_checkArgument 4 = .ok (.new 315, 3) := by decide +kernel
theorem dX11_checkArgument_8 : decode cX11_checkArgument 8 = .ok (.ldc_w 317, 3) := by decide +kernel
theorem dX11_checkArgument_11 : decode cX11_checkArgument 11 = .ok (.invokespecial 319, 3) := by decide +kernel
theorem dX11_checkArgument_14 : decode cX11_checkArgument 14 = .ok (.athrow, 1) := by decide +kernel
theorem dX11_checkArgument_15 : decode cX11_checkArgument 15 = .ok (.return_, 1) := by decide +kernel
theorem qX11_checkWithin_0 : decB cX11_checkWithin 0 [.iload_n 1, .iload_n 0] 2 = true := by decide +kernel
theorem qX11_checkWithin_5 : decB cX11_checkWithin 5 [.iload_n 0, .iload_n 2] 7 = true := by decide +kernel
theorem qX11_checkWithin_10 : decB cX11_checkWithin 10 [.iconst 1, .goto 4] 15 = true := by decide +kernel
theorem qX11_checkWithin_14 : decB cX11_checkWithin 14 [.iconst 0] 15 = true := by decide +kernel
theorem dX11_checkWithin_2 : decode cX11_checkWithin 2 = .ok (.if_icmp .gt 12, 3) := by decide +kernel
theorem dX11_checkWithin_7 : decode cX11_checkWithin 7 = .ok (.if_icmp .gt 7, 3) := by decide +kernel
theorem dX11_checkWithin_15 : decode cX11_checkWithin 15 = .ok (.invokestatic 82, 3) := by decide +kernel
theorem dX11_checkWithin_18 : decode cX11_checkWithin 18 = .ok (.return_, 1) := by decide +kernel
theorem qX11_checkState_0 : decB cX11_checkState 0 [.iload_n 0] 1 = true := by decide +kernel
theorem qX11_checkState_7 : decB cX11_checkState 7 [.dup] 8 = true := by decide +kernel
theorem dX11_checkState_1 : decode cX11_checkState 1 = .ok (.ifCond .ne 14, 3) := by decide +kernel
theorem dX11_checkState_4 : decode cX11_checkState 4 = .ok (.new 320, 3) := by decide +kernel
theorem dX11_checkState_8 : decode cX11_checkState 8 = .ok (.ldc_w 322, 3) := by decide +kernel
theorem dX11_checkState_11 : decode cX11_checkState 11 = .ok (.invokespecial 324, 3) := by decide +kernel
theorem dX11_checkState_14 : decode cX11_checkState 14 = .ok (.athrow, 1) := by decide +kernel
theorem dX11_checkState_15 : decode cX11_checkState 15 = .ok (.return_, 1) := by decide +kernel
theorem qX11_checkedDay_0 : decB cX11_checkedDay 0 [.iload_n 0] 1 = true := by decide +kernel
theorem qX11_checkedDay_4 : decB cX11_checkedDay 4 [.istore_n 1, .iload_n 1, .iconst (-1)] 7 = true := by decide +kernel
theorem qX11_checkedDay_10 : decB cX11_checkedDay 10 [.iconst 1, .goto 4] 15 = true := by decide +kernel
theorem qX11_checkedDay_14 : decB cX11_checkedDay 14 [.iconst 0] 15 = true := by decide +kernel
theorem qX11_checkedDay_18 : decB cX11_checkedDay 18 [.iload_n 1] 19 = true := by decide +kernel
theorem dX11_checkedDay_1 : decode cX11_checkedDay 1 = .ok (.invokestatic 325, 3) := by decide +kernel
theorem dX11_checkedDay_7 : decode cX11_checkedDay 7 = .ok (.if_icmp .eq 7, 3) := by decide +kernel
theorem dX11_checkedDay_15 : decode cX11_checkedDay 15 = .ok (.invokestatic 82, 3) := by decide +kernel
theorem dX11_checkedDay_19 : decode cX11_checkedDay 19 = .ok (.ireturn, 1) := by decide +kernel
theorem qX11_checkedStay_0 : decB cX11_checkedStay 0 [.iload_n 1, .aload_n 0] 2 = true := by decide +kernel
theorem qX11_checkedStay_14 : decB cX11_checkedStay 14 [.aload_n 0] 15 = true := by decide +kernel
theorem qX11_checkedStay_24 : decB cX11_checkedStay 24 [.iload_n 1] 25 = true := by decide +kernel
theorem dX11_checkedStay_2 : decode cX11_checkedStay 2 = .ok (.getfield 10, 3) := by decide +kernel
theorem dX11_checkedStay_5 : decode cX11_checkedStay 5 = .ok (.getfield 106, 3) := by decide +kernel
theorem dX11_checkedStay_8 : decode cX11_checkedStay 8 = .ok (.getfield 110, 3) := by decide +kernel
theorem dX11_checkedStay_11 : decode cX11_checkedStay 11 = .ok (.invokestatic 51, 3) := by decide +kernel
theorem dX11_checkedStay_15 : decode cX11_checkedStay 15 = .ok (.getfield 10, 3) := by decide +kernel
theorem dX11_checkedStay_18 : decode cX11_checkedStay 18 = .ok (.getfield 106, 3) := by decide +kernel
theorem dX11_checkedStay_21 : decode cX11_checkedStay 21 = .ok (.getfield 328, 3) := by decide +kernel
theorem dX11_checkedStay_25 : decode cX11_checkedStay 25 = .ok (.aaload, 1) := by decide +kernel
theorem dX11_checkedStay_26 : decode cX11_checkedStay 26 = .ok (.areturn, 1) := by decide +kernel
theorem qX11_checkedWish_0 : decB cX11_checkedWish 0 [.iload_n 1, .aload_n 0] 2 = true := by decide +kernel
theorem qX11_checkedWish_11 : decB cX11_checkedWish 11 [.iload_n 2] 12 = true := by decide +kernel
theorem qX11_checkedWish_15 : decB cX11_checkedWish 15 [.istore 6, .iload_n 3, .iconst 1, .bipush 14] 21 = true := by decide +kernel
theorem qX11_checkedWish_24 : decB cX11_checkedWish 24 [.iload 4, .iconst 1, .iconst 4] 28 = true := by decide +kernel
theorem qX11_checkedWish_31 : decB cX11_checkedWish 31 [.iload 5, .iconst 0, .iconst 4] 35 = true := by decide +kernel
theorem qX11_checkedWish_38 : decB cX11_checkedWish 38 [.iload 6, .aload_n 0] 41 = true := by decide +kernel
theorem qX11_checkedWish_50 : decB cX11_checkedWish 50 [.aload_n 0] 51 = true := by decide +kernel
theorem qX11_checkedWish_54 : decB cX11_checkedWish 54 [.iload 6, .iload_n 3, .iadd, .iconst 1, .isub] 60 = true := by decide +kernel
theorem qX11_checkedWish_66 : decB cX11_checkedWish 66 [.iconst 1, .goto 4] 71 = true := by decide +kernel
theorem qX11_checkedWish_70 : decB cX11_checkedWish 70 [.iconst 0] 71 = true := by decide +kernel
theorem qX11_checkedWish_77 : decB cX11_checkedWish 77 [.dup, .iload_n 1, .iload 6, .iload_n 3, .iload 4, .iload 5] 86 = true := by decide +kernel
theorem dX11_checkedWish_2 : decode cX11_checkedWish 2 = .ok (.getfield 10, 3) := by decide +kernel
theorem dX11_checkedWish_5 : decode cX11_checkedWish 5 = .ok (.getfield 39, 3) := by decide +kernel
theorem dX11_checkedWish_8 : decode cX11_checkedWish 8 = .ok (.invokestatic 51, 3) := by decide +kernel
theorem dX11_checkedWish_12 : decode cX11_checkedWish 12 = .ok (.invokestatic 55, 3) := by decide +kernel
theorem dX11_checkedWish_21 : decode cX11_checkedWish 21 = .ok (.invokestatic 34, 3) := by decide +kernel
theorem dX11_checkedWish_28 : decode cX11_checkedWish 28 = .ok (.invokestatic 34, 3) := by decide +kernel
theorem dX11_checkedWish_35 : decode cX11_checkedWish 35 = .ok (.invokestatic 34, 3) := by decide +kernel
theorem dX11_checkedWish_41 : decode cX11_checkedWish 41 = .ok (.getfield 10, 3) := by decide +kernel
theorem dX11_checkedWish_44 : decode cX11_checkedWish 44 = .ok (.getfield 155, 3) := by decide +kernel
theorem dX11_checkedWish_47 : decode cX11_checkedWish 47 = .ok (.if_icmp .lt 23, 3) := by decide +kernel
theorem dX11_checkedWish_51 : decode cX11_checkedWish 51 = .ok (.getfield 10, 3) := by decide +kernel
theorem dX11_checkedWish_60 : decode cX11_checkedWish 60 = .ok (.invokevirtual 167, 3) := by decide +kernel
theorem dX11_checkedWish_63 : decode cX11_checkedWish 63 = .ok (.ifCond .eq 7, 3) := by decide +kernel
theorem dX11_checkedWish_71 : decode cX11_checkedWish 71 = .ok (.invokestatic 82, 3) := by decide +kernel
theorem dX11_checkedWish_74 : decode cX11_checkedWish 74 = .ok (.new 332, 3) := by decide +kernel
theorem dX11_checkedWish_86 : decode cX11_checkedWish 86 = .ok (.invokespecial 334, 3) := by decide +kernel
theorem dX11_checkedWish_89 : decode cX11_checkedWish 89 = .ok (.areturn, 1) := by decide +kernel
theorem qX11_checkedTill_0 : decB cX11_checkedTill 0 [.iload_n 1] 1 = true := by decide +kernel
theorem qX11_checkedTill_4 : decB cX11_checkedTill 4 [.istore_n 3, .iload_n 3, .aload_n 0] 7 = true := by decide +kernel
theorem qX11_checkedTill_13 : decB cX11_checkedTill 13 [.aload_n 2] 14 = true := by decide +kernel
theorem qX11_checkedTill_20 : decB cX11_checkedTill 20 [.iload_n 3] 21 = true := by decide +kernel
theorem dX11_checkedTill_1 : decode cX11_checkedTill 1 = .ok (.invokestatic 55, 3) := by decide +kernel
theorem dX11_checkedTill_7 : decode cX11_checkedTill 7 = .ok (.getfield 10, 3) := by decide +kernel
theorem dX11_checkedTill_10 : decode cX11_checkedTill 10 = .ok (.getfield 155, 3) := by decide +kernel
theorem dX11_checkedTill_14 : decode cX11_checkedTill 14 = .ok (.getfield 337, 3) := by decide +kernel
theorem dX11_checkedTill_17 : decode cX11_checkedTill 17 = .ok (.invokestatic 34, 3) := by decide +kernel
theorem dX11_checkedTill_21 : decode cX11_checkedTill 21 = .ok (.ireturn, 1) := by decide +kernel
theorem qX11_isWithinRisk_0 : decB cX11_isWithinRisk 0 [.iload_n 0, .iload_n 1, .iadd, .istore 4, .lconst 0, .lstore 5, .lconst 1, .lstore 7, .iconst 0, .istore 9] 14 = true := by decide +kernel
theorem qX11_isWithinRisk_14 : decB cX11_isWithinRisk 14 [.iload 9, .iload_n 1] 17 = true := by decide +kernel
theorem qX11_isWithinRisk_20 : decB cX11_isWithinRisk 20 [.lload 5, .lload 7, .iload_n 2] 25 = true := by decide +kernel
theorem qX11_isWithinRisk_26 : decB cX11_isWithinRisk 26 [.iload_n 1, .iconst 1, .isub, .iload 9, .isub] 32 = true := by decide +kernel
theorem qX11_isWithinRisk_35 : decB cX11_isWithinRisk 35 [.lmul, .sipush 1000, .iload_n 2, .isub] 41 = true := by decide +kernel
theorem qX11_isWithinRisk_42 : decB cX11_isWithinRisk 42 [.iload 9] 44 = true := by decide +kernel
theorem qX11_isWithinRisk_47 : decB cX11_isWithinRisk 47 [.lmul, .ladd, .lstore 5, .lload 7, .iload 4, .iload 9, .isub] 58 = true := by decide +kernel
theorem qX11_isWithinRisk_59 : decB cX11_isWithinRisk 59 [.lmul, .iload 9, .iconst 1, .iadd] 64 = true := by decide +kernel
theorem qX11_isWithinRisk_66 : decB cX11_isWithinRisk 66 [.lstore 7, .iinc 9 1, .goto (-57)] 14 = true := by decide +kernel
theorem qX11_isWithinRisk_74 : decB cX11_isWithinRisk 74 [.iconst 2] 75 = true := by decide +kernel
theorem qX11_isWithinRisk_77 : decB cX11_isWithinRisk 77 [.dup, .iconst 0, .lconst 0] 80 = true := by decide +kernel
theorem qX11_isWithinRisk_81 : decB cX11_isWithinRisk 81 [.dup, .iconst 1, .lload 5] 85 = true := by decide +kernel
theorem qX11_isWithinRisk_86 : decB cX11_isWithinRisk 86 [.astore 9, .aload 9, .iload_n 2, .iload_n 0, .iconst 1, .iadd] 94 = true := by decide +kernel
theorem qX11_isWithinRisk_97 : decB cX11_isWithinRisk 97 [.iconst 2] 98 = true := by decide +kernel
theorem qX11_isWithinRisk_100 : decB cX11_isWithinRisk 100 [.dup, .iconst 0, .lconst 0] 103 = true := by decide +kernel
theorem qX11_isWithinRisk_104 : decB cX11_isWithinRisk 104 [.dup, .iconst 1, .iload_n 3] 107 = true := by decide +kernel
theorem qX11_isWithinRisk_109 : decB cX11_isWithinRisk 109 [.astore 10, .aload 10, .sipush 1000, .iload 4, .iconst 1, .isub] 120 = true := by decide +kernel
theorem qX11_isWithinRisk_123 : decB cX11_isWithinRisk 123 [.aload 9, .iconst 0] 126 = true := by decide +kernel
theorem qX11_isWithinRisk_127 : decB cX11_isWithinRisk 127 [.aload 10, .iconst 0] 130 = true := by decide +kernel
theorem qX11_isWithinRisk_135 : decB cX11_isWithinRisk 135 [.aload 9, .iconst 0] 138 = true := by decide +kernel
theorem qX11_isWithinRisk_139 : decB cX11_isWithinRisk 139 [.aload 10, .iconst 0] 142 = true := by decide +kernel
theorem qX11_isWithinRisk_147 : decB cX11_isWithinRisk 147 [.aload 9, .iconst 1] 150 = true := by decide +kernel
theorem qX11_isWithinRisk_151 : decB cX11_isWithinRisk 151 [.aload 10, .iconst 1] 154 = true := by decide +kernel
theorem qX11_isWithinRisk_159 : decB cX11_isWithinRisk 159 [.iconst 1, .goto 4] 164 = true := by decide +kernel
theorem qX11_isWithinRisk_163 : decB cX11_isWithinRisk 163 [.iconst 0] 164 = true := by decide +kernel
theorem dX11_isWithinRisk_17 : decode cX11_isWithinRisk 17 = .ok (.if_icmp .ge 57, 3) := by decide +kernel
theorem dX11_isWithinRisk_25 : decode cX11_isWithinRisk 25 = .ok (.i2l, 1) := by decide +kernel
theorem dX11_isWithinRisk_32 : decode cX11_isWithinRisk 32 = .ok (.invokestatic 352, 3) := by decide +kernel
theorem dX11_isWithinRisk_41 : decode cX11_isWithinRisk 41 = .ok (.i2l, 1) := by decide +kernel
theorem dX11_isWithinRisk_44 : decode cX11_isWithinRisk 44 = .ok (.invokestatic 352, 3) := by decide +kernel
theorem dX11_isWithinRisk_58 : decode cX11_isWithinRisk 58 = .ok (.i2l, 1) := by decide +kernel
theorem dX11_isWithinRisk_64 : decode cX11_isWithinRisk 64 = .ok (.i2l, 1) := by decide +kernel
theorem dX11_isWithinRisk_65 : decode cX11_isWithinRisk 65 = .ok (.ldiv, 1) := by decide +kernel
theorem dX11_isWithinRisk_75 : decode cX11_isWithinRisk 75 = .ok (.newarray .long, 2) := by decide +kernel
theorem dX11_isWithinRisk_80 : decode cX11_isWithinRisk 80 = .ok (.lastore, 1) := by decide +kernel
theorem dX11_isWithinRisk_85 : decode cX11_isWithinRisk 85 = .ok (.lastore, 1) := by decide +kernel
theorem dX11_isWithinRisk_94 : decode cX11_isWithinRisk 94 = .ok (.invokestatic 356, 3) := by decide +kernel
theorem dX11_isWithinRisk_98 : decode cX11_isWithinRisk 98 = .ok (.newarray .long, 2) := by decide +kernel
theorem dX11_isWithinRisk_103 : decode cX11_isWithinRisk 103 = .ok (.lastore, 1) := by decide +kernel
theorem dX11_isWithinRisk_107 : decode cX11_isWithinRisk 107 = .ok (.i2l, 1) := by decide +kernel
theorem dX11_isWithinRisk_108 : decode cX11_isWithinRisk 108 = .ok (.lastore, 1) := by decide +kernel
theorem dX11_isWithinRisk_120 : decode cX11_isWithinRisk 120 = .ok (.invokestatic 356, 3) := by decide +kernel
theorem dX11_isWithinRisk_126 : decode cX11_isWithinRisk 126 = .ok (.laload, 1) := by decide +kernel
theorem dX11_isWithinRisk_130 : decode cX11_isWithinRisk 130 = .ok (.laload, 1) := by decide +kernel
theorem dX11_isWithinRisk_131 : decode cX11_isWithinRisk 131 = .ok (.lcmp, 1) := by decide +kernel
theorem dX11_isWithinRisk_132 : decode cX11_isWithinRisk 132 = .ok (.ifCond .lt 27, 3) := by decide +kernel
theorem dX11_isWithinRisk_138 : decode cX11_isWithinRisk 138 = .ok (.laload, 1) := by decide +kernel
theorem dX11_isWithinRisk_142 : decode cX11_isWithinRisk 142 = .ok (.laload, 1) := by decide +kernel
theorem dX11_isWithinRisk_143 : decode cX11_isWithinRisk 143 = .ok (.lcmp, 1) := by decide +kernel
theorem dX11_isWithinRisk_144 : decode cX11_isWithinRisk 144 = .ok (.ifCond .ne 19, 3) := by decide +kernel
theorem dX11_isWithinRisk_150 : decode cX11_isWithinRisk 150 = .ok (.laload, 1) := by decide +kernel
theorem dX11_isWithinRisk_154 : decode cX11_isWithinRisk 154 = .ok (.laload, 1) := by decide +kernel
theorem dX11_isWithinRisk_155 : decode cX11_isWithinRisk 155 = .ok (.lcmp, 1) := by decide +kernel
theorem dX11_isWithinRisk_156 : decode cX11_isWithinRisk 156 = .ok (.ifCond .gt 7, 3) := by decide +kernel
theorem dX11_isWithinRisk_164 : decode cX11_isWithinRisk 164 = .ok (.ireturn, 1) := by decide +kernel
theorem qX11_power_0 : decB cX11_power 0 [.lconst 1, .lstore_n 3, .iconst 0, .istore 5] 5 = true := by decide +kernel
theorem qX11_power_5 : decB cX11_power 5 [.iload 5, .iload_n 2] 8 = true := by decide +kernel
theorem qX11_power_11 : decB cX11_power 11 [.lload_n 3, .lload_n 0, .lmul, .lstore_n 3, .iinc 5 1, .goto (-13)] 5 = true := by decide +kernel
theorem qX11_power_21 : decB cX11_power 21 [.lload_n 3] 22 = true := by decide +kernel
theorem dX11_power_8 : decode cX11_power 8 = .ok (.if_icmp .ge 13, 3) := by decide +kernel
theorem dX11_power_22 : decode cX11_power 22 = .ok (.lreturn, 1) := by decide +kernel
theorem qX11_multiply_0 : decB cX11_multiply 0 [.iconst 0, .istore_n 3] 2 = true := by decide +kernel
theorem qX11_multiply_2 : decB cX11_multiply 2 [.iload_n 3, .iload_n 2] 4 = true := by decide +kernel
theorem qX11_multiply_7 : decB cX11_multiply 7 [.aload_n 0] 8 = true := by decide +kernel
theorem qX11_multiply_9 : decB cX11_multiply 9 [.iconst 2] 10 = true := by decide +kernel
theorem qX11_multiply_13 : decB cX11_multiply 13 [.aload_n 0, .iconst 1] 15 = true := by decide +kernel
theorem qX11_multiply_16 : decB cX11_multiply 16 [.iload_n 1] 17 = true := by decide +kernel
theorem qX11_multiply_18 : decB cX11_multiply 18 [.lmul, .lstore 4, .aload_n 0, .iconst 1, .lload 4] 25 = true := by decide +kernel
theorem qX11_multiply_30 : decB cX11_multiply 30 [.aload_n 0, .iconst 0, .aload_n 0, .iconst 0] 34 = true := by decide +kernel
theorem qX11_multiply_35 : decB cX11_multiply 35 [.iload_n 1] 36 = true := by decide +kernel
theorem qX11_multiply_37 : decB cX11_multiply 37 [.lmul, .lload 4] 40 = true := by decide +kernel
theorem qX11_multiply_44 : decB cX11_multiply 44 [.ladd] 45 = true := by decide +kernel
theorem qX11_multiply_46 : decB cX11_multiply 46 [.iinc 3 1, .goto (-47)] 2 = true := by decide +kernel
theorem dX11_multiply_4 : decode cX11_multiply 4 = .ok (.if_icmp .ge 48, 3) := by decide +kernel
theorem dX11_multiply_8 : decode cX11_multiply 8 = .ok (.arraylength, 1) := by decide +kernel
theorem dX11_multiply_10 : decode cX11_multiply 10 = .ok (.if_icmp .ne 42, 3) := by decide +kernel
theorem dX11_multiply_15 : decode cX11_multiply 15 = .ok (.laload, 1) := by decide +kernel
theorem dX11_multiply_17 : decode cX11_multiply 17 = .ok (.i2l, 1) := by decide +kernel
theorem dX11_multiply_25 : decode cX11_multiply 25 = .ok (.ldc2_w 360, 3) := by decide +kernel
theorem dX11_multiply_28 : decode cX11_multiply 28 = .ok (.lrem, 1) := by decide +kernel
theorem dX11_multiply_29 : decode cX11_multiply 29 = .ok (.lastore, 1) := by decide +kernel
theorem dX11_multiply_34 : decode cX11_multiply 34 = .ok (.laload, 1) := by decide +kernel
theorem dX11_multiply_36 : decode cX11_multiply 36 = .ok (.i2l, 1) := by decide +kernel
theorem dX11_multiply_40 : decode cX11_multiply 40 = .ok (.ldc2_w 360, 3) := by decide +kernel
theorem dX11_multiply_43 : decode cX11_multiply 43 = .ok (.ldiv, 1) := by decide +kernel
theorem dX11_multiply_45 : decode cX11_multiply 45 = .ok (.lastore, 1) := by decide +kernel
theorem dX11_multiply_52 : decode cX11_multiply 52 = .ok (.return_, 1) := by decide +kernel
theorem qX11_percentOf_0 : decB cX11_percentOf 0 [.iload_n 0] 1 = true := by decide +kernel
theorem qX11_percentOf_2 : decB cX11_percentOf 2 [.iload_n 1] 3 = true := by decide +kernel
theorem qX11_percentOf_4 : decB cX11_percentOf 4 [.lmul] 5 = true := by decide +kernel
theorem qX11_percentOf_8 : decB cX11_percentOf 8 [.ladd] 9 = true := by decide +kernel
theorem qX11_percentOf_13 : decB cX11_percentOf 13 [.l2i] 14 = true := by decide +kernel
theorem dX11_percentOf_1 : decode cX11_percentOf 1 = .ok (.i2l, 1) := by decide +kernel
theorem dX11_percentOf_3 : decode cX11_percentOf 3 = .ok (.i2l, 1) := by decide +kernel
theorem dX11_percentOf_5 : decode cX11_percentOf 5 = .ok (.ldc2_w 362, 3) := by decide +kernel
theorem dX11_percentOf_9 : decode cX11_percentOf 9 = .ok (.ldc2_w 364, 3) := by decide +kernel
theorem dX11_percentOf_12 : decode cX11_percentOf 12 = .ok (.ldiv, 1) := by decide +kernel
theorem dX11_percentOf_14 : decode cX11_percentOf 14 = .ok (.ireturn, 1) := by decide +kernel
theorem qX11_halfOf_0 : decB cX11_halfOf 0 [.iload_n 0, .iconst 1, .iadd, .iconst 2] 4 = true := by decide +kernel
theorem dX11_halfOf_4 : decode cX11_halfOf 4 = .ok (.idiv, 1) := by decide +kernel
theorem dX11_halfOf_5 : decode cX11_halfOf 5 = .ok (.ireturn, 1) := by decide +kernel
theorem qJ6_bitCount_0f7a4_0 : decB cJ6_bitCount_0f7a4 0 [.iload_n 0, .iload_n 0, .iconst 1] 3 = true := by decide +kernel
theorem qJ6_bitCount_0f7a4_8 : decB cJ6_bitCount_0f7a4 8 [.isub, .istore_n 0, .iload_n 0] 11 = true := by decide +kernel
theorem qJ6_bitCount_0f7a4_15 : decB cJ6_bitCount_0f7a4 15 [.iload_n 0, .iconst 2] 17 = true := by decide +kernel
theorem qJ6_bitCount_0f7a4_22 : decB cJ6_bitCount_0f7a4 22 [.iadd, .istore_n 0, .iload_n 0, .iload_n 0, .iconst 4] 27 = true := by decide +kernel
theorem qJ6_bitCount_0f7a4_28 : decB cJ6_bitCount_0f7a4 28 [.iadd] 29 = true := by decide +kernel
theorem qJ6_bitCount_0f7a4_33 : decB cJ6_bitCount_0f7a4 33 [.istore_n 0, .iload_n 0, .iload_n 0, .bipush 8] 38 = true := by decide +kernel
theorem qJ6_bitCount_0f7a4_39 : decB cJ6_bitCount_0f7a4 39 [.iadd, .istore_n 0, .iload_n 0, .iload_n 0, .bipush 16] 45 = true := by decide +kernel
theorem qJ6_bitCount_0f7a4_46 : decB cJ6_bitCount_0f7a4 46 [.iadd, .istore_n 0, .iload_n 0, .bipush 63] 51 = true := by decide +kernel
theorem dJ6_bitCount_0f7a4_3 : decode cJ6_bitCount_0f7a4 3 = .ok (.iushr, 1) := by decide +kernel
theorem dJ6_bitCount_0f7a4_4 : decode cJ6_bitCount_0f7a4 4 = .ok (.ldc_w 265, 3) := by decide +kernel
theorem dJ6_bitCount_0f7a4_7 : decode cJ6_bitCount_0f7a4 7 = .ok (.iand, 1) := by decide +kernel
theorem dJ6_bitCount_0f7a4_11 : decode cJ6_bitCount_0f7a4 11 = .ok (.ldc_w 266, 3) := by decide +kernel
theorem dJ6_bitCount_0f7a4_14 : decode cJ6_bitCount_0f7a4 14 = .ok (.iand, 1) := by decide +kernel
theorem dJ6_bitCount_0f7a4_17 : decode cJ6_bitCount_0f7a4 17 = .ok (.iushr, 1) := by decide +kernel
theorem dJ6_bitCount_0f7a4_18 : decode cJ6_bitCount_0f7a4 18 = .ok (.ldc_w 266, 3) := by decide +kernel
theorem dJ6_bitCount_0f7a4_21 : decode cJ6_bitCount_0f7a4 21 = .ok (.iand, 1) := by decide +kernel
theorem dJ6_bitCount_0f7a4_27 : decode cJ6_bitCount_0f7a4 27 = .ok (.iushr, 1) := by decide +kernel
theorem dJ6_bitCount_0f7a4_29 : decode cJ6_bitCount_0f7a4 29 = .ok (.ldc_w 267, 3) := by decide +kernel
theorem dJ6_bitCount_0f7a4_32 : decode cJ6_bitCount_0f7a4 32 = .ok (.iand, 1) := by decide +kernel
theorem dJ6_bitCount_0f7a4_38 : decode cJ6_bitCount_0f7a4 38 = .ok (.iushr, 1) := by decide +kernel
theorem dJ6_bitCount_0f7a4_45 : decode cJ6_bitCount_0f7a4 45 = .ok (.iushr, 1) := by decide +kernel
theorem dJ6_bitCount_0f7a4_51 : decode cJ6_bitCount_0f7a4 51 = .ok (.iand, 1) := by decide +kernel
theorem dJ6_bitCount_0f7a4_52 : decode cJ6_bitCount_0f7a4 52 = .ok (.ireturn, 1) := by decide +kernel
theorem qJ9_max_7cf53_0 : decB cJ9_max_7cf53 0 [.iload_n 0, .iload_n 1] 2 = true := by decide +kernel
theorem qJ9_max_7cf53_5 : decB cJ9_max_7cf53 5 [.iload_n 0, .goto 4] 10 = true := by decide +kernel
theorem qJ9_max_7cf53_9 : decB cJ9_max_7cf53 9 [.iload_n 1] 10 = true := by decide +kernel
theorem dJ9_max_7cf53_2 : decode cJ9_max_7cf53 2 = .ok (.if_icmp .lt 7, 3) := by decide +kernel
theorem dJ9_max_7cf53_10 : decode cJ9_max_7cf53 10 = .ok (.ireturn, 1) := by decide +kernel
theorem qJ9_max_f86c9_0 : decB cJ9_max_f86c9 0 [.lload_n 0, .lload_n 2] 2 = true := by decide +kernel
theorem qJ9_max_f86c9_6 : decB cJ9_max_f86c9 6 [.lload_n 0, .goto 4] 11 = true := by decide +kernel
theorem qJ9_max_f86c9_10 : decB cJ9_max_f86c9 10 [.lload_n 2] 11 = true := by decide +kernel
theorem dJ9_max_f86c9_2 : decode cJ9_max_f86c9 2 = .ok (.lcmp, 1) := by decide +kernel
theorem dJ9_max_f86c9_3 : decode cJ9_max_f86c9 3 = .ok (.ifCond .lt 7, 3) := by decide +kernel
theorem dJ9_max_f86c9_11 : decode cJ9_max_f86c9 11 = .ok (.lreturn, 1) := by decide +kernel
theorem qJ9_min_7cf53_0 : decB cJ9_min_7cf53 0 [.iload_n 0, .iload_n 1] 2 = true := by decide +kernel
theorem qJ9_min_7cf53_5 : decB cJ9_min_7cf53 5 [.iload_n 0, .goto 4] 10 = true := by decide +kernel
theorem qJ9_min_7cf53_9 : decB cJ9_min_7cf53 9 [.iload_n 1] 10 = true := by decide +kernel
theorem dJ9_min_7cf53_2 : decode cJ9_min_7cf53 2 = .ok (.if_icmp .gt 7, 3) := by decide +kernel
theorem dJ9_min_7cf53_10 : decode cJ9_min_7cf53 10 = .ok (.ireturn, 1) := by decide +kernel
theorem qJ7_fill_d0a16_0 : decB cJ7_fill_d0a16 0 [.iconst 0, .istore_n 3, .aload_n 0] 3 = true := by decide +kernel
theorem qJ7_fill_d0a16_4 : decB cJ7_fill_d0a16 4 [.istore 4] 6 = true := by decide +kernel
theorem qJ7_fill_d0a16_6 : decB cJ7_fill_d0a16 6 [.iload_n 3, .iload 4] 9 = true := by decide +kernel
theorem qJ7_fill_d0a16_12 : decB cJ7_fill_d0a16 12 [.aload_n 0, .iload_n 3, .lload_n 1] 15 = true := by decide +kernel
theorem qJ7_fill_d0a16_16 : decB cJ7_fill_d0a16 16 [.iinc 3 1, .goto (-13)] 6 = true := by decide +kernel
theorem dJ7_fill_d0a16_3 : decode cJ7_fill_d0a16 3 = .ok (.arraylength, 1) := by decide +kernel
theorem dJ7_fill_d0a16_9 : decode cJ7_fill_d0a16 9 = .ok (.if_icmp .ge 13, 3) := by decide +kernel
theorem dJ7_fill_d0a16_15 : decode cJ7_fill_d0a16 15 = .ok (.lastore, 1) := by decide +kernel
theorem dJ7_fill_d0a16_22 : decode cJ7_fill_d0a16 22 = .ok (.return_, 1) := by decide +kernel
theorem qJ7_fill_53178_0 : decB cJ7_fill_53178 0 [.iconst 0, .istore_n 2, .aload_n 0] 3 = true := by decide +kernel
theorem qJ7_fill_53178_4 : decB cJ7_fill_53178 4 [.istore_n 3] 5 = true := by decide +kernel
theorem qJ7_fill_53178_5 : decB cJ7_fill_53178 5 [.iload_n 2, .iload_n 3] 7 = true := by decide +kernel
theorem qJ7_fill_53178_10 : decB cJ7_fill_53178 10 [.aload_n 0, .iload_n 2, .iload_n 1] 13 = true := by decide +kernel
theorem qJ7_fill_53178_14 : decB cJ7_fill_53178 14 [.iinc 2 1, .goto (-12)] 5 = true := by decide +kernel
theorem dJ7_fill_53178_3 : decode cJ7_fill_53178 3 = .ok (.arraylength, 1) := by decide +kernel
theorem dJ7_fill_53178_7 : decode cJ7_fill_53178 7 = .ok (.if_icmp .ge 13, 3) := by decide +kernel
theorem dJ7_fill_53178_13 : decode cJ7_fill_53178 13 = .ok (.iastore, 1) := by decide +kernel
theorem dJ7_fill_53178_20 : decode cJ7_fill_53178 20 = .ok (.return_, 1) := by decide +kernel
