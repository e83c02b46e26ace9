/-! decoded code (printed by wip/p47/gen13.py) -/
theorem qX12_init_0 : decB cX12_init 0 [.aload_n 0] 1 = true := by decide +kernel
theorem qX12_init_4 : decB cX12_init 4 [.aload_n 0] 5 = true := by decide +kernel
theorem qX12_init_11 : decB cX12_init 11 [.aload_n 1, .astore_n 2, .aload_n 2] 14 = true := by decide +kernel
theorem qX12_init_15 : decB cX12_init 15 [.istore_n 3, .iconst 0, .istore 4] 19 = true := by decide +kernel
theorem qX12_init_19 : decB cX12_init 19 [.iload 4, .iload_n 3] 22 = true := by decide +kernel
theorem qX12_init_25 : decB cX12_init 25 [.aload_n 2, .iload 4] 28 = true := by decide +kernel
theorem qX12_init_29 : decB cX12_init 29 [.istore 5, .aload_n 0, .aload_n 0] 33 = true := by decide +kernel
theorem qX12_init_36 : decB cX12_init 36 [.iload 5] 38 = true := by decide +kernel
theorem qX12_init_43 : decB cX12_init 43 [.lmul, .lconst 1, .ladd] 46 = true := by decide +kernel
theorem qX12_init_49 : decB cX12_init 49 [.iinc 4 1, .goto (-33)] 19 = true := by decide +kernel
theorem dX12_init_1 : decode cX12_init 1 = .ok (.invokespecial 1, 3) := by decide +kernel
theorem dX12_init_5 : decode cX12_init 5 = .ok (.ldc2_w 7, 3) := by decide +kernel
theorem dX12_init_8 : decode cX12_init 8 = .ok (.putfield 9, 3) := by decide +kernel
theorem dX12_init_14 : decode cX12_init 14 = .ok (.arraylength, 1) := by decide +kernel
theorem dX12_init_22 : decode cX12_init 22 = .ok (.if_icmp .ge 33, 3) := by decide +kernel
theorem dX12_init_28 : decode cX12_init 28 = .ok (.iaload, 1) := by decide +kernel
theorem dX12_init_33 : decode cX12_init 33 = .ok (.getfield 9, 3) := by decide +kernel
theorem dX12_init_38 : decode cX12_init 38 = .ok (.i2l, 1) := by decide +kernel
theorem dX12_init_39 : decode cX12_init 39 = .ok (.lxor, 1) := by decide +kernel
theorem dX12_init_40 : decode cX12_init 40 = .ok (.ldc2_w 15, 3) := by decide +kernel
theorem dX12_init_46 : decode cX12_init 46 = .ok (.putfield 9, 3) := by decide +kernel
theorem dX12_init_55 : decode cX12_init 55 = .ok (.return_, 1) := by decide +kernel
theorem qX12_next_0 : decB cX12_next 0 [.aload_n 0, .aload_n 0] 2 = true := by decide +kernel
theorem qX12_next_8 : decB cX12_next 8 [.lmul] 9 = true := by decide +kernel
theorem qX12_next_12 : decB cX12_next 12 [.ladd] 13 = true := by decide +kernel
theorem qX12_next_16 : decB cX12_next 16 [.aload_n 0] 17 = true := by decide +kernel
theorem qX12_next_20 : decB cX12_next 20 [.bipush 33] 22 = true := by decide +kernel
theorem qX12_next_23 : decB cX12_next 23 [.iload_n 1] 24 = true := by decide +kernel
theorem qX12_next_26 : decB cX12_next 26 [.l2i] 27 = true := by decide +kernel
theorem dX12_next_2 : decode cX12_next 2 = .ok (.getfield 9, 3) := by decide +kernel
theorem dX12_next_5 : decode cX12_next 5 = .ok (.ldc2_w 17, 3) := by decide +kernel
theorem dX12_next_9 : decode cX12_next 9 = .ok (.ldc2_w 19, 3) := by decide +kernel
theorem dX12_next_13 : decode cX12_next 13 = .ok (.putfield 9, 3) := by decide +kernel
theorem dX12_next_17 : decode cX12_next 17 = .ok (.getfield 9, 3) := by decide +kernel
theorem dX12_next_22 : decode cX12_next 22 = .ok (.lushr, 1) := by decide +kernel
theorem dX12_next_24 : decode cX12_next 24 = .ok (.i2l, 1) := by decide +kernel
theorem dX12_next_25 : decode cX12_next 25 = .ok (.lrem, 1) := by decide +kernel
theorem dX12_next_27 : decode cX12_next 27 = .ok (.ireturn, 1) := by decide +kernel
theorem qL_init_0 : decB cL_init 0 [.aload_n 0] 1 = true := by decide +kernel
theorem qL_init_4 : decB cL_init 4 [.aload_n 0] 5 = true := by decide +kernel
theorem qL_init_8 : decB cL_init 8 [.dup] 9 = true := by decide +kernel
theorem qL_init_15 : decB cL_init 15 [.aload_n 0, .bipush 100] 18 = true := by decide +kernel
theorem qL_init_23 : decB cL_init 23 [.aload_n 0, .bipush 100] 26 = true := by decide +kernel
theorem qL_init_31 : decB cL_init 31 [.aload_n 0, .iconst 2] 33 = true := by decide +kernel
theorem qL_init_35 : decB cL_init 35 [.dup, .iconst 0, .iconst 3] 38 = true := by decide +kernel
theorem qL_init_39 : decB cL_init 39 [.dup, .iconst 1, .iconst 1] 42 = true := by decide +kernel
theorem qL_init_46 : decB cL_init 46 [.aload_n 0, .iconst 2] 48 = true := by decide +kernel
theorem qL_init_50 : decB cL_init 50 [.dup, .iconst 0, .sipush 10000] 55 = true := by decide +kernel
theorem qL_init_56 : decB cL_init 56 [.dup, .iconst 1, .sipush 25000] 61 = true := by decide +kernel
theorem qL_init_65 : decB cL_init 65 [.aload_n 0, .iconst 2] 67 = true := by decide +kernel
theorem qL_init_72 : decB cL_init 72 [.aload_n 0, .iconst 2, .bipush 100] 76 = true := by decide +kernel
theorem qL_init_83 : decB cL_init 83 [.aload_n 0, .bipush 60, .bipush 10] 88 = true := by decide +kernel
theorem qL_init_95 : decB cL_init 95 [.aload_n 0, .bipush 60, .bipush 14] 100 = true := by decide +kernel
theorem qL_init_107 : decB cL_init 107 [.aload_n 0, .bipush 20, .iconst 5] 111 = true := by decide +kernel
theorem qL_init_118 : decB cL_init 118 [.aload_n 0, .iconst 4] 120 = true := by decide +kernel
theorem qL_init_125 : decB cL_init 125 [.aload_n 0, .aload_n 1] 127 = true := by decide +kernel
theorem dL_init_1 : decode cL_init 1 = .ok (.invokespecial 1, 3) := by decide +kernel
theorem dL_init_5 : decode cL_init 5 = .ok (.new 7, 3) := by decide +kernel
theorem dL_init_9 : decode cL_init 9 = .ok (.invokespecial 9, 3) := by decide +kernel
theorem dL_init_12 : decode cL_init 12 = .ok (.putfield 10, 3) := by decide +kernel
theorem dL_init_18 : decode cL_init 18 = .ok (.newarray .int, 2) := by decide +kernel
theorem dL_init_20 : decode cL_init 20 = .ok (.putfield 16, 3) := by decide +kernel
theorem dL_init_26 : decode cL_init 26 = .ok (.newarray .int, 2) := by decide +kernel
theorem dL_init_28 : decode cL_init 28 = .ok (.putfield 20, 3) := by decide +kernel
theorem dL_init_33 : decode cL_init 33 = .ok (.newarray .int, 2) := by decide +kernel
theorem dL_init_38 : decode cL_init 38 = .ok (.iastore, 1) := by decide +kernel
theorem dL_init_42 : decode cL_init 42 = .ok (.iastore, 1) := by decide +kernel
theorem dL_init_43 : decode cL_init 43 = .ok (.putfield 23, 3) := by decide +kernel
theorem dL_init_48 : decode cL_init 48 = .ok (.newarray .int, 2) := by decide +kernel
theorem dL_init_55 : decode cL_init 55 = .ok (.iastore, 1) := by decide +kernel
theorem dL_init_61 : decode cL_init 61 = .ok (.iastore, 1) := by decide +kernel
theorem dL_init_62 : decode cL_init 62 = .ok (.putfield 26, 3) := by decide +kernel
theorem dL_init_67 : decode cL_init 67 = .ok (.newarray .int, 2) := by decide +kernel
theorem dL_init_69 : decode cL_init 69 = .ok (.putfield 29, 3) := by decide +kernel
theorem dL_init_76 : decode cL_init 76 = .ok (.multianewarray 32 2, 4) := by decide +kernel
theorem dL_init_80 : decode cL_init 80 = .ok (.putfield 34, 3) := by decide +kernel
theorem dL_init_88 : decode cL_init 88 = .ok (.multianewarray 37 2, 4) := by decide +kernel
theorem dL_init_92 : decode cL_init 92 = .ok (.putfield 39, 3) := by decide +kernel
theorem dL_init_100 : decode cL_init 100 = .ok (.multianewarray 37 2, 4) := by decide +kernel
theorem dL_init_104 : decode cL_init 104 = .ok (.putfield 42, 3) := by decide +kernel
theorem dL_init_111 : decode cL_init 111 = .ok (.multianewarray 37 2, 4) := by decide +kernel
theorem dL_init_115 : decode cL_init 115 = .ok (.putfield 45, 3) := by decide +kernel
theorem dL_init_120 : decode cL_init 120 = .ok (.newarray .long, 2) := by decide +kernel
theorem dL_init_122 : decode cL_init 122 = .ok (.putfield 48, 3) := by decide +kernel
theorem dL_init_127 : decode cL_init 127 = .ok (.putfield 52, 3) := by decide +kernel
theorem dL_init_130 : decode cL_init 130 = .ok (.return_, 1) := by decide +kernel
theorem qL_isAlive_0 : decB cL_isAlive 0 [.aload_n 0] 1 = true := by decide +kernel
theorem qL_isAlive_4 : decB cL_isAlive 4 [.iload_n 1] 5 = true := by decide +kernel
theorem qL_isAlive_6 : decB cL_isAlive 6 [.iconst 0] 7 = true := by decide +kernel
theorem qL_isAlive_11 : decB cL_isAlive 11 [.aload_n 0] 12 = true := by decide +kernel
theorem qL_isAlive_15 : decB cL_isAlive 15 [.iload_n 1] 16 = true := by decide +kernel
theorem qL_isAlive_17 : decB cL_isAlive 17 [.iconst 0] 18 = true := by decide +kernel
theorem qL_isAlive_19 : decB cL_isAlive 19 [.iconst 1] 20 = true := by decide +kernel
theorem qL_isAlive_23 : decB cL_isAlive 23 [.iconst 1, .goto 4] 28 = true := by decide +kernel
theorem qL_isAlive_27 : decB cL_isAlive 27 [.iconst 0] 28 = true := by decide +kernel
theorem dL_isAlive_1 : decode cL_isAlive 1 = .ok (.getfield 39, 3) := by decide +kernel
theorem dL_isAlive_5 : decode cL_isAlive 5 = .ok (.aaload, 1) := by decide +kernel
theorem dL_isAlive_7 : decode cL_isAlive 7 = .ok (.iaload, 1) := by decide +kernel
theorem dL_isAlive_8 : decode cL_isAlive 8 = .ok (.ifCond .eq 15, 3) := by decide +kernel
theorem dL_isAlive_12 : decode cL_isAlive 12 = .ok (.getfield 39, 3) := by decide +kernel
theorem dL_isAlive_16 : decode cL_isAlive 16 = .ok (.aaload, 1) := by decide +kernel
theorem dL_isAlive_18 : decode cL_isAlive 18 = .ok (.iaload, 1) := by decide +kernel
theorem dL_isAlive_20 : decode cL_isAlive 20 = .ok (.if_icmp .ne 7, 3) := by decide +kernel
theorem dL_isAlive_28 : decode cL_isAlive 28 = .ok (.ireturn, 1) := by decide +kernel
theorem qL_last_0 : decB cL_last 0 [.aload_n 0] 1 = true := by decide +kernel
theorem qL_last_4 : decB cL_last 4 [.iload_n 1] 5 = true := by decide +kernel
theorem qL_last_6 : decB cL_last 6 [.iconst 2] 7 = true := by decide +kernel
theorem qL_last_8 : decB cL_last 8 [.aload_n 0] 9 = true := by decide +kernel
theorem qL_last_12 : decB cL_last 12 [.iload_n 1] 13 = true := by decide +kernel
theorem qL_last_14 : decB cL_last 14 [.iconst 3] 15 = true := by decide +kernel
theorem qL_last_16 : decB cL_last 16 [.iadd, .iconst 1, .isub] 19 = true := by decide +kernel
theorem dL_last_1 : decode cL_last 1 = .ok (.getfield 39, 3) := by decide +kernel
theorem dL_last_5 : decode cL_last 5 = .ok (.aaload, 1) := by decide +kernel
theorem dL_last_7 : decode cL_last 7 = .ok (.iaload, 1) := by decide +kernel
theorem dL_last_9 : decode cL_last 9 = .ok (.getfield 39, 3) := by decide +kernel
theorem dL_last_13 : decode cL_last 13 = .ok (.aaload, 1) := by decide +kernel
theorem dL_last_15 : decode cL_last 15 = .ok (.iaload, 1) := by decide +kernel
theorem dL_last_19 : decode cL_last 19 = .ok (.ireturn, 1) := by decide +kernel
theorem qL_count_0 : decB cL_count 0 [.iconst 0, .istore_n 3, .iconst 0, .istore 4] 5 = true := by decide +kernel
theorem qL_count_5 : decB cL_count 5 [.iload 4, .aload_n 0] 8 = true := by decide +kernel
theorem qL_count_14 : decB cL_count 14 [.iload_n 3, .aload_n 0, .iload 4] 18 = true := by decide +kernel
theorem qL_count_24 : decB cL_count 24 [.aload_n 0] 25 = true := by decide +kernel
theorem qL_count_28 : decB cL_count 28 [.iload 4] 30 = true := by decide +kernel
theorem qL_count_31 : decB cL_count 31 [.iconst 1] 32 = true := by decide +kernel
theorem qL_count_33 : decB cL_count 33 [.iload_n 1] 34 = true := by decide +kernel
theorem qL_count_37 : decB cL_count 37 [.aload_n 0] 38 = true := by decide +kernel
theorem qL_count_41 : decB cL_count 41 [.iload 4] 43 = true := by decide +kernel
theorem qL_count_44 : decB cL_count 44 [.iconst 2] 45 = true := by decide +kernel
theorem qL_count_46 : decB cL_count 46 [.iload_n 2] 47 = true := by decide +kernel
theorem qL_count_50 : decB cL_count 50 [.iload_n 2, .aload_n 0, .iload 4] 54 = true := by decide +kernel
theorem qL_count_60 : decB cL_count 60 [.iconst 1, .goto 4] 65 = true := by decide +kernel
theorem qL_count_64 : decB cL_count 64 [.iconst 0] 65 = true := by decide +kernel
theorem qL_count_65 : decB cL_count 65 [.iadd, .istore_n 3, .iinc 4 1, .goto (-65)] 5 = true := by decide +kernel
theorem qL_count_73 : decB cL_count 73 [.iload_n 3] 74 = true := by decide +kernel
theorem dL_count_8 : decode cL_count 8 = .ok (.getfield 56, 3) := by decide +kernel
theorem dL_count_11 : decode cL_count 11 = .ok (.if_icmp .ge 62, 3) := by decide +kernel
theorem dL_count_18 : decode cL_count 18 = .ok (.invokevirtual 60, 3) := by decide +kernel
theorem dL_count_21 : decode cL_count 21 = .ok (.ifCond .eq 43, 3) := by decide +kernel
theorem dL_count_25 : decode cL_count 25 = .ok (.getfield 39, 3) := by decide +kernel
theorem dL_count_30 : decode cL_count 30 = .ok (.aaload, 1) := by decide +kernel
theorem dL_count_32 : decode cL_count 32 = .ok (.iaload, 1) := by decide +kernel
theorem dL_count_34 : decode cL_count 34 = .ok (.if_icmp .ne 30, 3) := by decide +kernel
theorem dL_count_38 : decode cL_count 38 = .ok (.getfield 39, 3) := by decide +kernel
theorem dL_count_43 : decode cL_count 43 = .ok (.aaload, 1) := by decide +kernel
theorem dL_count_45 : decode cL_count 45 = .ok (.iaload, 1) := by decide +kernel
theorem dL_count_47 : decode cL_count 47 = .ok (.if_icmp .gt 17, 3) := by decide +kernel
theorem dL_count_54 : decode cL_count 54 = .ok (.invokevirtual 64, 3) := by decide +kernel
theorem dL_count_57 : decode cL_count 57 = .ok (.if_icmp .gt 7, 3) := by decide +kernel
theorem dL_count_74 : decode cL_count 74 = .ok (.ireturn, 1) := by decide +kernel
theorem qL_isInSeason_0 : decB cL_isInSeason 0 [.aload_n 0] 1 = true := by decide +kernel
theorem qL_isInSeason_4 : decB cL_isInSeason 4 [.iload_n 1] 5 = true := by decide +kernel
theorem qL_isInSeason_6 : decB cL_isInSeason 6 [.sipush 10000] 9 = true := by decide +kernel
theorem qL_isInSeason_10 : decB cL_isInSeason 10 [.istore_n 2, .aload_n 0] 12 = true := by decide +kernel
theorem qL_isInSeason_18 : decB cL_isInSeason 18 [.aload_n 0] 19 = true := by decide +kernel
theorem qL_isInSeason_22 : decB cL_isInSeason 22 [.aload_n 0] 23 = true := by decide +kernel
theorem qL_isInSeason_29 : decB cL_isInSeason 29 [.aload_n 0] 30 = true := by decide +kernel
theorem qL_isInSeason_33 : decB cL_isInSeason 33 [.iload_n 2] 34 = true := by decide +kernel
theorem qL_isInSeason_37 : decB cL_isInSeason 37 [.iload_n 2, .aload_n 0] 39 = true := by decide +kernel
theorem qL_isInSeason_45 : decB cL_isInSeason 45 [.goto 19] 64 = true := by decide +kernel
theorem qL_isInSeason_48 : decB cL_isInSeason 48 [.iload_n 2, .aload_n 0] 50 = true := by decide +kernel
theorem qL_isInSeason_56 : decB cL_isInSeason 56 [.iload_n 2, .aload_n 0] 58 = true := by decide +kernel
theorem qL_isInSeason_64 : decB cL_isInSeason 64 [.iconst 1, .goto 4] 69 = true := by decide +kernel
theorem qL_isInSeason_68 : decB cL_isInSeason 68 [.iconst 0] 69 = true := by decide +kernel
theorem dL_isInSeason_1 : decode cL_isInSeason 1 = .ok (.getfield 16, 3) := by decide +kernel
theorem dL_isInSeason_5 : decode cL_isInSeason 5 = .ok (.iaload, 1) := by decide +kernel
theorem dL_isInSeason_9 : decode cL_isInSeason 9 = .ok (.irem, 1) := by decide +kernel
theorem dL_isInSeason_12 : decode cL_isInSeason 12 = .ok (.getfield 68, 3) := by decide +kernel
theorem dL_isInSeason_15 : decode cL_isInSeason 15 = .ok (.ifCond .le 53, 3) := by decide +kernel
theorem dL_isInSeason_19 : decode cL_isInSeason 19 = .ok (.getfield 71, 3) := by decide +kernel
theorem dL_isInSeason_23 : decode cL_isInSeason 23 = .ok (.getfield 74, 3) := by decide +kernel
theorem dL_isInSeason_26 : decode cL_isInSeason 26 = .ok (.if_icmp .gt 22, 3) := by decide +kernel
theorem dL_isInSeason_30 : decode cL_isInSeason 30 = .ok (.getfield 71, 3) := by decide +kernel
theorem dL_isInSeason_34 : decode cL_isInSeason 34 = .ok (.if_icmp .gt 34, 3) := by decide +kernel
theorem dL_isInSeason_39 : decode cL_isInSeason 39 = .ok (.getfield 74, 3) := by decide +kernel
theorem dL_isInSeason_42 : decode cL_isInSeason 42 = .ok (.if_icmp .gt 26, 3) := by decide +kernel
theorem dL_isInSeason_50 : decode cL_isInSeason 50 = .ok (.getfield 71, 3) := by decide +kernel
theorem dL_isInSeason_53 : decode cL_isInSeason 53 = .ok (.if_icmp .ge 11, 3) := by decide +kernel
theorem dL_isInSeason_58 : decode cL_isInSeason 58 = .ok (.getfield 74, 3) := by decide +kernel
theorem dL_isInSeason_61 : decode cL_isInSeason 61 = .ok (.if_icmp .gt 7, 3) := by decide +kernel
theorem dL_isInSeason_69 : decode cL_isInSeason 69 = .ok (.ireturn, 1) := by decide +kernel
theorem qL_full_0 : decB cL_full 0 [.iload_n 2, .istore 4] 3 = true := by decide +kernel
theorem qL_full_3 : decB cL_full 3 [.iload 4, .iload_n 2, .iload_n 3, .iadd] 8 = true := by decide +kernel
theorem qL_full_11 : decB cL_full 11 [.aload_n 0] 12 = true := by decide +kernel
theorem qL_full_15 : decB cL_full 15 [.iload_n 1] 16 = true := by decide +kernel
theorem qL_full_17 : decB cL_full 17 [.iload 4] 19 = true := by decide +kernel
theorem qL_full_23 : decB cL_full 23 [.aload_n 0, .iload_n 1, .iload 4] 27 = true := by decide +kernel
theorem qL_full_30 : decB cL_full 30 [.aload_n 0] 31 = true := by decide +kernel
theorem qL_full_34 : decB cL_full 34 [.iload_n 1] 35 = true := by decide +kernel
theorem qL_full_36 : decB cL_full 36 [.aload_n 0] 37 = true := by decide +kernel
theorem qL_full_40 : decB cL_full 40 [.iload_n 1] 41 = true := by decide +kernel
theorem qL_full_42 : decB cL_full 42 [.iadd] 43 = true := by decide +kernel
theorem qL_full_46 : decB cL_full 46 [.iload 4] 48 = true := by decide +kernel
theorem qL_full_49 : decB cL_full 49 [.iinc 4 1, .goto (-49)] 3 = true := by decide +kernel
theorem qL_full_55 : decB cL_full 55 [.iconst (-1)] 56 = true := by decide +kernel
theorem dL_full_8 : decode cL_full 8 = .ok (.if_icmp .ge 47, 3) := by decide +kernel
theorem dL_full_12 : decode cL_full 12 = .ok (.getfield 34, 3) := by decide +kernel
theorem dL_full_16 : decode cL_full 16 = .ok (.aaload, 1) := by decide +kernel
theorem dL_full_19 : decode cL_full 19 = .ok (.baload, 1) := by decide +kernel
theorem dL_full_20 : decode cL_full 20 = .ok (.ifCond .ne 26, 3) := by decide +kernel
theorem dL_full_27 : decode cL_full 27 = .ok (.invokevirtual 77, 3) := by decide +kernel
theorem dL_full_31 : decode cL_full 31 = .ok (.getfield 23, 3) := by decide +kernel
theorem dL_full_35 : decode cL_full 35 = .ok (.iaload, 1) := by decide +kernel
theorem dL_full_37 : decode cL_full 37 = .ok (.getfield 29, 3) := by decide +kernel
theorem dL_full_41 : decode cL_full 41 = .ok (.iaload, 1) := by decide +kernel
theorem dL_full_43 : decode cL_full 43 = .ok (.if_icmp .lt 6, 3) := by decide +kernel
theorem dL_full_48 : decode cL_full 48 = .ok (.ireturn, 1) := by decide +kernel
theorem dL_full_56 : decode cL_full 56 = .ok (.ireturn, 1) := by decide +kernel
theorem qL_refusing_0 : decB cL_refusing 0 [.aload_n 0, .iload_n 1, .iload_n 2, .iload_n 3] 4 = true := by decide +kernel
theorem qL_refusing_7 : decB cL_refusing 7 [.istore 4, .iload 4] 11 = true := by decide +kernel
theorem qL_refusing_14 : decB cL_refusing 14 [.iload 4, .goto 24] 40 = true := by decide +kernel
theorem qL_refusing_19 : decB cL_refusing 19 [.aload_n 0, .iload_n 2] 21 = true := by decide +kernel
theorem qL_refusing_27 : decB cL_refusing 27 [.iload_n 3, .aload_n 0] 29 = true := by decide +kernel
theorem qL_refusing_35 : decB cL_refusing 35 [.iload_n 2, .goto 4] 40 = true := by decide +kernel
theorem qL_refusing_39 : decB cL_refusing 39 [.iconst (-1)] 40 = true := by decide +kernel
theorem dL_refusing_4 : decode cL_refusing 4 = .ok (.invokevirtual 81, 3) := by decide +kernel
theorem dL_refusing_11 : decode cL_refusing 11 = .ok (.ifCond .lt 8, 3) := by decide +kernel
theorem dL_refusing_21 : decode cL_refusing 21 = .ok (.invokevirtual 85, 3) := by decide +kernel
theorem dL_refusing_24 : decode cL_refusing 24 = .ok (.ifCond .eq 15, 3) := by decide +kernel
theorem dL_refusing_29 : decode cL_refusing 29 = .ok (.getfield 68, 3) := by decide +kernel
theorem dL_refusing_32 : decode cL_refusing 32 = .ok (.if_icmp .ge 7, 3) := by decide +kernel
theorem dL_refusing_40 : decode cL_refusing 40 = .ok (.ireturn, 1) := by decide +kernel
theorem qL_price_0 : decB cL_price 0 [.bipush 100, .aload_n 0, .iload_n 1, .iload_n 2] 5 = true := by decide +kernel
theorem qL_price_8 : decB cL_price 8 [.iconst 4, .imul, .aload_n 0] 11 = true := by decide +kernel
theorem qL_price_14 : decB cL_price 14 [.iload_n 1] 15 = true := by decide +kernel
theorem qL_price_17 : decB cL_price 17 [.bipush 10, .imul, .iadd, .aload_n 0, .iload_n 2] 23 = true := by decide +kernel
theorem qL_price_29 : decB cL_price 29 [.aload_n 0] 30 = true := by decide +kernel
theorem qL_price_33 : decB cL_price 33 [.goto 4] 37 = true := by decide +kernel
theorem qL_price_36 : decB cL_price 36 [.iconst 0] 37 = true := by decide +kernel
theorem qL_price_37 : decB cL_price 37 [.iadd, .aload_n 0] 39 = true := by decide +kernel
theorem qL_price_42 : decB cL_price 42 [.iload_n 2] 43 = true := by decide +kernel
theorem qL_price_44 : decB cL_price 44 [.iconst 5] 45 = true := by decide +kernel
theorem qL_price_48 : decB cL_price 48 [.aload_n 0] 49 = true := by decide +kernel
theorem qL_price_52 : decB cL_price 52 [.iload_n 2] 53 = true := by decide +kernel
theorem qL_price_54 : decB cL_price 54 [.bipush 6] 56 = true := by decide +kernel
theorem qL_price_59 : decB cL_price 59 [.aload_n 0] 60 = true := by decide +kernel
theorem qL_price_63 : decB cL_price 63 [.goto 4] 67 = true := by decide +kernel
theorem qL_price_66 : decB cL_price 66 [.iconst 0] 67 = true := by decide +kernel
theorem qL_price_67 : decB cL_price 67 [.iadd, .istore_n 3, .aload_n 0] 70 = true := by decide +kernel
theorem qL_price_73 : decB cL_price 73 [.iload_n 1] 74 = true := by decide +kernel
theorem qL_price_75 : decB cL_price 75 [.iload_n 3, .iconst 0] 77 = true := by decide +kernel
theorem qL_price_80 : decB cL_price 80 [.imul, .bipush 50, .iadd, .bipush 100] 86 = true := by decide +kernel
theorem dL_price_5 : decode cL_price 5 = .ok (.invokevirtual 77, 3) := by decide +kernel
theorem dL_price_11 : decode cL_price 11 = .ok (.getfield 23, 3) := by decide +kernel
theorem dL_price_15 : decode cL_price 15 = .ok (.iaload, 1) := by decide +kernel
theorem dL_price_16 : decode cL_price 16 = .ok (.idiv, 1) := by decide +kernel
theorem dL_price_23 : decode cL_price 23 = .ok (.invokevirtual 85, 3) := by decide +kernel
theorem dL_price_26 : decode cL_price 26 = .ok (.ifCond .eq 10, 3) := by decide +kernel
theorem dL_price_30 : decode cL_price 30 = .ok (.getfield 88, 3) := by decide +kernel
theorem dL_price_39 : decode cL_price 39 = .ok (.getfield 20, 3) := by decide +kernel
theorem dL_price_43 : decode cL_price 43 = .ok (.iaload, 1) := by decide +kernel
theorem dL_price_45 : decode cL_price 45 = .ok (.if_icmp .eq 14, 3) := by decide +kernel
theorem dL_price_49 : decode cL_price 49 = .ok (.getfield 20, 3) := by decide +kernel
theorem dL_price_53 : decode cL_price 53 = .ok (.iaload, 1) := by decide +kernel
theorem dL_price_56 : decode cL_price 56 = .ok (.if_icmp .ne 10, 3) := by decide +kernel
theorem dL_price_60 : decode cL_price 60 = .ok (.getfield 91, 3) := by decide +kernel
theorem dL_price_70 : decode cL_price 70 = .ok (.getfield 26, 3) := by decide +kernel
theorem dL_price_74 : decode cL_price 74 = .ok (.iaload, 1) := by decide +kernel
theorem dL_price_77 : decode cL_price 77 = .ok (.invokestatic 94, 3) := by decide +kernel
theorem dL_price_86 : decode cL_price 86 = .ok (.idiv, 1) := by decide +kernel
theorem dL_price_87 : decode cL_price 87 = .ok (.ireturn, 1) := by decide +kernel
theorem qL_makes_0 : decB cL_makes 0 [.aload_n 0] 1 = true := by decide +kernel
theorem qL_makes_4 : decB cL_makes 4 [.istore 8, .iconst 0, .istore 9] 9 = true := by decide +kernel
theorem qL_makes_9 : decB cL_makes 9 [.iload 9, .iload_n 3] 12 = true := by decide +kernel
theorem qL_makes_15 : decB cL_makes 15 [.aload_n 0] 16 = true := by decide +kernel
theorem qL_makes_19 : decB cL_makes 19 [.iload 8] 21 = true := by decide +kernel
theorem qL_makes_22 : decB cL_makes 22 [.iload 9, .aload_n 0, .iload_n 1, .iload_n 2, .iload 9, .iadd] 30 = true := by decide +kernel
theorem qL_makes_34 : decB cL_makes 34 [.iinc 9 1, .goto (-28)] 9 = true := by decide +kernel
theorem qL_makes_40 : decB cL_makes 40 [.iload 4, .aload_n 0] 43 = true := by decide +kernel
theorem qL_makes_46 : decB cL_makes 46 [.imul, .iload 5, .aload_n 0] 50 = true := by decide +kernel
theorem qL_makes_53 : decB cL_makes 53 [.iconst 1, .iadd, .iconst 2] 56 = true := by decide +kernel
theorem qL_makes_57 : decB cL_makes 57 [.imul, .iadd, .istore 9, .bipush 10] 63 = true := by decide +kernel
theorem qL_makes_65 : decB cL_makes 65 [.dup, .iconst 0, .iconst 0] 68 = true := by decide +kernel
theorem qL_makes_69 : decB cL_makes 69 [.dup, .iconst 1, .iload_n 1] 72 = true := by decide +kernel
theorem qL_makes_73 : decB cL_makes 73 [.dup, .iconst 2, .iload_n 2] 76 = true := by decide +kernel
theorem qL_makes_77 : decB cL_makes 77 [.dup, .iconst 3, .iload_n 3] 80 = true := by decide +kernel
theorem qL_makes_81 : decB cL_makes 81 [.dup, .iconst 4, .iload 4] 85 = true := by decide +kernel
theorem qL_makes_86 : decB cL_makes 86 [.dup, .iconst 5, .iload 5] 90 = true := by decide +kernel
theorem qL_makes_91 : decB cL_makes 91 [.dup, .bipush 6, .iconst 0] 95 = true := by decide +kernel
theorem qL_makes_96 : decB cL_makes 96 [.dup, .bipush 7, .iload 9] 101 = true := by decide +kernel
theorem qL_makes_102 : decB cL_makes 102 [.dup, .bipush 8, .iload 7] 107 = true := by decide +kernel
theorem qL_makes_108 : decB cL_makes 108 [.dup, .bipush 9, .iload 6] 113 = true := by decide +kernel
theorem qL_makes_114 : decB cL_makes 114 [.astore 10, .aload 10, .iconst 0, .aload_n 0] 120 = true := by decide +kernel
theorem qL_makes_123 : decB cL_makes 123 [.iload 8] 125 = true := by decide +kernel
theorem qL_makes_126 : decB cL_makes 126 [.iconst 0, .bipush 10] 129 = true := by decide +kernel
theorem qL_makes_132 : decB cL_makes 132 [.aload_n 0, .dup] 134 = true := by decide +kernel
theorem qL_makes_137 : decB cL_makes 137 [.iconst 1, .iadd] 139 = true := by decide +kernel
theorem qL_makes_142 : decB cL_makes 142 [.iload 8] 144 = true := by decide +kernel
theorem dL_makes_1 : decode cL_makes 1 = .ok (.getfield 56, 3) := by decide +kernel
theorem dL_makes_12 : decode cL_makes 12 = .ok (.if_icmp .ge 28, 3) := by decide +kernel
theorem dL_makes_16 : decode cL_makes 16 = .ok (.getfield 42, 3) := by decide +kernel
theorem dL_makes_21 : decode cL_makes 21 = .ok (.aaload, 1) := by decide +kernel
theorem dL_makes_30 : decode cL_makes 30 = .ok (.invokevirtual 99, 3) := by decide +kernel
theorem dL_makes_33 : decode cL_makes 33 = .ok (.iastore, 1) := by decide +kernel
theorem dL_makes_43 : decode cL_makes 43 = .ok (.getfield 102, 3) := by decide +kernel
theorem dL_makes_50 : decode cL_makes 50 = .ok (.getfield 102, 3) := by decide +kernel
theorem dL_makes_56 : decode cL_makes 56 = .ok (.idiv, 1) := by decide +kernel
theorem dL_makes_63 : decode cL_makes 63 = .ok (.newarray .int, 2) := by decide +kernel
theorem dL_makes_68 : decode cL_makes 68 = .ok (.iastore, 1) := by decide +kernel
theorem dL_makes_72 : decode cL_makes 72 = .ok (.iastore, 1) := by decide +kernel
theorem dL_makes_76 : decode cL_makes 76 = .ok (.iastore, 1) := by decide +kernel
theorem dL_makes_80 : decode cL_makes 80 = .ok (.iastore, 1) := by decide +kernel
theorem dL_makes_85 : decode cL_makes 85 = .ok (.iastore, 1) := by decide +kernel
theorem dL_makes_90 : decode cL_makes 90 = .ok (.iastore, 1) := by decide +kernel
theorem dL_makes_95 : decode cL_makes 95 = .ok (.iastore, 1) := by decide +kernel
theorem dL_makes_101 : decode cL_makes 101 = .ok (.iastore, 1) := by decide +kernel
theorem dL_makes_107 : decode cL_makes 107 = .ok (.iastore, 1) := by decide +kernel
theorem dL_makes_113 : decode cL_makes 113 = .ok (.iastore, 1) := by decide +kernel
theorem dL_makes_120 : decode cL_makes 120 = .ok (.getfield 39, 3) := by decide +kernel
theorem dL_makes_125 : decode cL_makes 125 = .ok (.aaload, 1) := by decide +kernel
theorem dL_makes_129 : decode cL_makes 129 = .ok (.invokestatic 105, 3) := by decide +kernel
theorem dL_makes_134 : decode cL_makes 134 = .ok (.getfield 56, 3) := by decide +kernel
theorem dL_makes_139 : decode cL_makes 139 = .ok (.putfield 56, 3) := by decide +kernel
theorem dL_makes_144 : decode cL_makes 144 = .ok (.ireturn, 1) := by decide +kernel
theorem qL_price__0 : decB cL_price_ 0 [.iconst 0, .istore_n 2, .iconst 0, .istore_n 3] 4 = true := by decide +kernel
theorem qL_price__4 : decB cL_price_ 4 [.iload_n 3, .aload_n 0] 6 = true := by decide +kernel
theorem qL_price__9 : decB cL_price_ 9 [.iload_n 1] 10 = true := by decide +kernel
theorem qL_price__11 : decB cL_price_ 11 [.iconst 3] 12 = true := by decide +kernel
theorem qL_price__16 : decB cL_price_ 16 [.iload_n 2, .aload_n 0] 18 = true := by decide +kernel
theorem qL_price__21 : decB cL_price_ 21 [.iload_n 1] 22 = true := by decide +kernel
theorem qL_price__23 : decB cL_price_ 23 [.iload_n 3] 24 = true := by decide +kernel
theorem qL_price__25 : decB cL_price_ 25 [.iadd, .istore_n 2, .iinc 3 1, .goto (-26)] 4 = true := by decide +kernel
theorem qL_price__33 : decB cL_price_ 33 [.iload_n 2] 34 = true := by decide +kernel
theorem dL_price__6 : decode cL_price_ 6 = .ok (.getfield 39, 3) := by decide +kernel
theorem dL_price__10 : decode cL_price_ 10 = .ok (.aaload, 1) := by decide +kernel
theorem dL_price__12 : decode cL_price_ 12 = .ok (.iaload, 1) := by decide +kernel
theorem dL_price__13 : decode cL_price_ 13 = .ok (.if_icmp .ge 20, 3) := by decide +kernel
theorem dL_price__18 : decode cL_price_ 18 = .ok (.getfield 42, 3) := by decide +kernel
theorem dL_price__22 : decode cL_price_ 22 = .ok (.aaload, 1) := by decide +kernel
theorem dL_price__24 : decode cL_price_ 24 = .ok (.iaload, 1) := by decide +kernel
theorem dL_price__34 : decode cL_price_ 34 = .ok (.ireturn, 1) := by decide +kernel
theorem qL_looks_0 : decB cL_looks 0 [.iconst 0, .istore_n 1, .iconst 0, .istore_n 2, .aload_n 0] 5 = true := by decide +kernel
theorem qL_looks_8 : decB cL_looks 8 [.istore_n 3, .iconst 0, .istore 4] 12 = true := by decide +kernel
theorem qL_looks_12 : decB cL_looks 12 [.iload 4, .iload_n 3] 15 = true := by decide +kernel
theorem qL_looks_18 : decB cL_looks 18 [.aload_n 0] 19 = true := by decide +kernel
theorem qL_looks_22 : decB cL_looks 22 [.iload 4] 24 = true := by decide +kernel
theorem qL_looks_25 : decB cL_looks 25 [.astore 5, .aload 5, .iconst 1] 30 = true := by decide +kernel
theorem qL_looks_31 : decB cL_looks 31 [.aload_n 0] 32 = true := by decide +kernel
theorem qL_looks_38 : decB cL_looks 38 [.iconst 1, .goto 4] 43 = true := by decide +kernel
theorem qL_looks_42 : decB cL_looks 42 [.iconst 0] 43 = true := by decide +kernel
theorem qL_looks_43 : decB cL_looks 43 [.istore 6, .iload 6] 47 = true := by decide +kernel
theorem qL_looks_50 : decB cL_looks 50 [.aload_n 0] 51 = true := by decide +kernel
theorem qL_looks_54 : decB cL_looks 54 [.bipush 60] 56 = true := by decide +kernel
theorem qL_looks_59 : decB cL_looks 59 [.aload_n 0, .aload 5, .iconst 0] 63 = true := by decide +kernel
theorem qL_looks_64 : decB cL_looks 64 [.aload 5, .iconst 1] 67 = true := by decide +kernel
theorem qL_looks_68 : decB cL_looks 68 [.aload 5, .iconst 2] 71 = true := by decide +kernel
theorem qL_looks_78 : decB cL_looks 78 [.iconst 1, .goto 4] 83 = true := by decide +kernel
theorem qL_looks_82 : decB cL_looks 82 [.iconst 0] 83 = true := by decide +kernel
theorem qL_looks_83 : decB cL_looks 83 [.istore 7, .iload 7] 87 = true := by decide +kernel
theorem qL_looks_90 : decB cL_looks 90 [.aload_n 0, .aload 5, .iconst 0] 94 = true := by decide +kernel
theorem qL_looks_95 : decB cL_looks 95 [.aload 5, .iconst 1] 98 = true := by decide +kernel
theorem qL_looks_99 : decB cL_looks 99 [.aload 5, .iconst 2] 102 = true := by decide +kernel
theorem qL_looks_103 : decB cL_looks 103 [.aload 5, .iconst 3] 106 = true := by decide +kernel
theorem qL_looks_107 : decB cL_looks 107 [.aload 5, .iconst 4] 110 = true := by decide +kernel
theorem qL_looks_111 : decB cL_looks 111 [.aload 5, .iconst 1] 114 = true := by decide +kernel
theorem qL_looks_115 : decB cL_looks 115 [.iconst (-1)] 116 = true := by decide +kernel
theorem qL_looks_119 : decB cL_looks 119 [.istore 8, .iinc 1 1] 124 = true := by decide +kernel
theorem qL_looks_124 : decB cL_looks 124 [.iload 6] 126 = true := by decide +kernel
theorem qL_looks_129 : decB cL_looks 129 [.iload 7] 131 = true := by decide +kernel
theorem qL_looks_134 : decB cL_looks 134 [.goto 31] 165 = true := by decide +kernel
theorem qL_looks_137 : decB cL_looks 137 [.aload_n 0] 138 = true := by decide +kernel
theorem qL_looks_141 : decB cL_looks 141 [.iload_n 2] 142 = true := by decide +kernel
theorem qL_looks_143 : decB cL_looks 143 [.astore 8, .aload_n 0] 146 = true := by decide +kernel
theorem qL_looks_149 : decB cL_looks 149 [.iload_n 2, .aload 5] 152 = true := by decide +kernel
theorem qL_looks_153 : decB cL_looks 153 [.aload_n 0] 154 = true := by decide +kernel
theorem qL_looks_157 : decB cL_looks 157 [.iload 4, .aload 8] 161 = true := by decide +kernel
theorem qL_looks_162 : decB cL_looks 162 [.iinc 2 1] 165 = true := by decide +kernel
theorem qL_looks_165 : decB cL_looks 165 [.iinc 4 1, .goto (-156)] 12 = true := by decide +kernel
theorem qL_looks_171 : decB cL_looks 171 [.aload_n 0, .iload_n 2] 173 = true := by decide +kernel
theorem qL_looks_176 : decB cL_looks 176 [.iload_n 1] 177 = true := by decide +kernel
theorem dL_looks_5 : decode cL_looks 5 = .ok (.getfield 111, 3) := by decide +kernel
theorem dL_looks_15 : decode cL_looks 15 = .ok (.if_icmp .ge 156, 3) := by decide +kernel
theorem dL_looks_19 : decode cL_looks 19 = .ok (.getfield 45, 3) := by decide +kernel
theorem dL_looks_24 : decode cL_looks 24 = .ok (.aaload, 1) := by decide +kernel
theorem dL_looks_30 : decode cL_looks 30 = .ok (.iaload, 1) := by decide +kernel
theorem dL_looks_32 : decode cL_looks 32 = .ok (.getfield 114, 3) := by decide +kernel
theorem dL_looks_35 : decode cL_looks 35 = .ok (.if_icmp .ge 7, 3) := by decide +kernel
theorem dL_looks_47 : decode cL_looks 47 = .ok (.ifCond .ne 35, 3) := by decide +kernel
theorem dL_looks_51 : decode cL_looks 51 = .ok (.getfield 56, 3) := by decide +kernel
theorem dL_looks_56 : decode cL_looks 56 = .ok (.if_icmp .ge 26, 3) := by decide +kernel
theorem dL_looks_63 : decode cL_looks 63 = .ok (.iaload, 1) := by decide +kernel
theorem dL_looks_67 : decode cL_looks 67 = .ok (.iaload, 1) := by decide +kernel
theorem dL_looks_71 : decode cL_looks 71 = .ok (.iaload, 1) := by decide +kernel
theorem dL_looks_72 : decode cL_looks 72 = .ok (.invokevirtual 117, 3) := by decide +kernel
theorem dL_looks_75 : decode cL_looks 75 = .ok (.ifCond .ge 7, 3) := by decide +kernel
theorem dL_looks_87 : decode cL_looks 87 = .ok (.ifCond .eq 37, 3) := by decide +kernel
theorem dL_looks_94 : decode cL_looks 94 = .ok (.iaload, 1) := by decide +kernel
theorem dL_looks_98 : decode cL_looks 98 = .ok (.iaload, 1) := by decide +kernel
theorem dL_looks_102 : decode cL_looks 102 = .ok (.iaload, 1) := by decide +kernel
theorem dL_looks_106 : decode cL_looks 106 = .ok (.iaload, 1) := by decide +kernel
theorem dL_looks_110 : decode cL_looks 110 = .ok (.iaload, 1) := by decide +kernel
theorem dL_looks_114 : decode cL_looks 114 = .ok (.iaload, 1) := by decide +kernel
theorem dL_looks_116 : decode cL_looks 116 = .ok (.invokevirtual 120, 3) := by decide +kernel
theorem dL_looks_126 : decode cL_looks 126 = .ok (.ifCond .ne 39, 3) := by decide +kernel
theorem dL_looks_131 : decode cL_looks 131 = .ok (.ifCond .eq 6, 3) := by decide +kernel
theorem dL_looks_138 : decode cL_looks 138 = .ok (.getfield 45, 3) := by decide +kernel
theorem dL_looks_142 : decode cL_looks 142 = .ok (.aaload, 1) := by decide +kernel
theorem dL_looks_146 : decode cL_looks 146 = .ok (.getfield 45, 3) := by decide +kernel
theorem dL_looks_152 : decode cL_looks 152 = .ok (.aastore, 1) := by decide +kernel
theorem dL_looks_154 : decode cL_looks 154 = .ok (.getfield 45, 3) := by decide +kernel
theorem dL_looks_161 : decode cL_looks 161 = .ok (.aastore, 1) := by decide +kernel
theorem dL_looks_173 : decode cL_looks 173 = .ok (.putfield 111, 3) := by decide +kernel
theorem dL_looks_177 : decode cL_looks 177 = .ok (.ireturn, 1) := by decide +kernel
theorem qL_isSame_0 : decB cL_isSame 0 [.iconst 0, .istore_n 1] 2 = true := by decide +kernel
theorem qL_isSame_2 : decB cL_isSame 2 [.iload_n 1, .aload_n 0] 4 = true := by decide +kernel
theorem qL_isSame_10 : decB cL_isSame 10 [.aload_n 0] 11 = true := by decide +kernel
theorem qL_isSame_14 : decB cL_isSame 14 [.iload_n 1] 15 = true := by decide +kernel
theorem qL_isSame_16 : decB cL_isSame 16 [.astore_n 2, .aload_n 0] 18 = true := by decide +kernel
theorem qL_isSame_21 : decB cL_isSame 21 [.iload_n 1, .iconst 0] 23 = true := by decide +kernel
theorem qL_isSame_26 : decB cL_isSame 26 [.aload_n 2, .iconst 0] 28 = true := by decide +kernel
theorem qL_isSame_32 : decB cL_isSame 32 [.aload_n 0] 33 = true := by decide +kernel
theorem qL_isSame_36 : decB cL_isSame 36 [.iload_n 1, .iconst 3] 38 = true := by decide +kernel
theorem qL_isSame_41 : decB cL_isSame 41 [.aload_n 2, .iconst 3] 43 = true := by decide +kernel
theorem qL_isSame_47 : decB cL_isSame 47 [.aload_n 0] 48 = true := by decide +kernel
theorem qL_isSame_51 : decB cL_isSame 51 [.iload_n 1, .iconst 4] 53 = true := by decide +kernel
theorem qL_isSame_56 : decB cL_isSame 56 [.aload_n 0, .iload_n 1] 58 = true := by decide +kernel
theorem qL_isSame_64 : decB cL_isSame 64 [.aload_n 2, .iconst 0] 66 = true := by decide +kernel
theorem qL_isSame_67 : decB cL_isSame 67 [.iconst 2] 68 = true := by decide +kernel
theorem qL_isSame_71 : decB cL_isSame 71 [.aload_n 0] 72 = true := by decide +kernel
theorem qL_isSame_75 : decB cL_isSame 75 [.iload_n 1, .iconst 5] 77 = true := by decide +kernel
theorem qL_isSame_80 : decB cL_isSame 80 [.aload_n 2, .bipush 6] 83 = true := by decide +kernel
theorem qL_isSame_87 : decB cL_isSame 87 [.aload_n 0] 88 = true := by decide +kernel
theorem qL_isSame_91 : decB cL_isSame 91 [.iload_n 1, .bipush 6] 94 = true := by decide +kernel
theorem qL_isSame_97 : decB cL_isSame 97 [.aload_n 2, .bipush 7] 100 = true := by decide +kernel
theorem qL_isSame_101 : decB cL_isSame 101 [.aload_n 2, .iconst 3] 103 = true := by decide +kernel
theorem qL_isSame_104 : decB cL_isSame 104 [.imul] 105 = true := by decide +kernel
theorem qL_isSame_108 : decB cL_isSame 108 [.iconst 0] 109 = true := by decide +kernel
theorem qL_isSame_110 : decB cL_isSame 110 [.iinc 1 1, .goto (-111)] 2 = true := by decide +kernel
theorem qL_isSame_116 : decB cL_isSame 116 [.lconst 0, .lstore_n 1, .iconst 0, .istore_n 3] 120 = true := by decide +kernel
theorem qL_isSame_120 : decB cL_isSame 120 [.iload_n 3, .iconst 4] 122 = true := by decide +kernel
theorem qL_isSame_125 : decB cL_isSame 125 [.lload_n 1, .aload_n 0] 127 = true := by decide +kernel
theorem qL_isSame_130 : decB cL_isSame 130 [.iload_n 3] 131 = true := by decide +kernel
theorem qL_isSame_134 : decB cL_isSame 134 [.ladd, .lstore_n 1, .aload_n 0] 137 = true := by decide +kernel
theorem qL_isSame_140 : decB cL_isSame 140 [.iload_n 3] 141 = true := by decide +kernel
theorem qL_isSame_144 : decB cL_isSame 144 [.aload_n 0] 145 = true := by decide +kernel
theorem qL_isSame_148 : decB cL_isSame 148 [.iload_n 3] 149 = true := by decide +kernel
theorem qL_isSame_154 : decB cL_isSame 154 [.iconst 0] 155 = true := by decide +kernel
theorem qL_isSame_156 : decB cL_isSame 156 [.iinc 3 1, .goto (-39)] 120 = true := by decide +kernel
theorem qL_isSame_162 : decB cL_isSame 162 [.lload_n 1, .lconst 0] 164 = true := by decide +kernel
theorem qL_isSame_168 : decB cL_isSame 168 [.aload_n 0] 169 = true := by decide +kernel
theorem qL_isSame_175 : decB cL_isSame 175 [.aload_n 0] 176 = true := by decide +kernel
theorem qL_isSame_182 : decB cL_isSame 182 [.aload_n 0] 183 = true := by decide +kernel
theorem qL_isSame_189 : decB cL_isSame 189 [.aload_n 0] 190 = true := by decide +kernel
theorem qL_isSame_196 : decB cL_isSame 196 [.aload_n 0] 197 = true := by decide +kernel
theorem qL_isSame_203 : decB cL_isSame 203 [.aload_n 0] 204 = true := by decide +kernel
theorem qL_isSame_207 : decB cL_isSame 207 [.aload_n 0] 208 = true := by decide +kernel
theorem qL_isSame_215 : decB cL_isSame 215 [.iconst 1, .goto 4] 220 = true := by decide +kernel
theorem qL_isSame_219 : decB cL_isSame 219 [.iconst 0] 220 = true := by decide +kernel
theorem dL_isSame_4 : decode cL_isSame 4 = .ok (.getfield 56, 3) := by decide +kernel
theorem dL_isSame_7 : decode cL_isSame 7 = .ok (.if_icmp .ge 109, 3) := by decide +kernel
theorem dL_isSame_11 : decode cL_isSame 11 = .ok (.getfield 39, 3) := by decide +kernel
theorem dL_isSame_15 : decode cL_isSame 15 = .ok (.aaload, 1) := by decide +kernel
theorem dL_isSame_18 : decode cL_isSame 18 = .ok (.getfield 10, 3) := by decide +kernel
theorem dL_isSame_23 : decode cL_isSame 23 = .ok (.invokevirtual 124, 3) := by decide +kernel
theorem dL_isSame_28 : decode cL_isSame 28 = .ok (.iaload, 1) := by decide +kernel
theorem dL_isSame_29 : decode cL_isSame 29 = .ok (.if_icmp .ne 79, 3) := by decide +kernel
theorem dL_isSame_33 : decode cL_isSame 33 = .ok (.getfield 10, 3) := by decide +kernel
theorem dL_isSame_38 : decode cL_isSame 38 = .ok (.invokevirtual 124, 3) := by decide +kernel
theorem dL_isSame_43 : decode cL_isSame 43 = .ok (.iaload, 1) := by decide +kernel
theorem dL_isSame_44 : decode cL_isSame 44 = .ok (.if_icmp .ne 64, 3) := by decide +kernel
theorem dL_isSame_48 : decode cL_isSame 48 = .ok (.getfield 10, 3) := by decide +kernel
theorem dL_isSame_53 : decode cL_isSame 53 = .ok (.invokevirtual 124, 3) := by decide +kernel
theorem dL_isSame_58 : decode cL_isSame 58 = .ok (.invokevirtual 127, 3) := by decide +kernel
theorem dL_isSame_61 : decode cL_isSame 61 = .ok (.if_icmp .ne 47, 3) := by decide +kernel
theorem dL_isSame_66 : decode cL_isSame 66 = .ok (.iaload, 1) := by decide +kernel
theorem dL_isSame_68 : decode cL_isSame 68 = .ok (.if_icmp .ge 19, 3) := by decide +kernel
theorem dL_isSame_72 : decode cL_isSame 72 = .ok (.getfield 10, 3) := by decide +kernel
theorem dL_isSame_77 : decode cL_isSame 77 = .ok (.invokevirtual 124, 3) := by decide +kernel
theorem dL_isSame_83 : decode cL_isSame 83 = .ok (.iaload, 1) := by decide +kernel
theorem dL_isSame_84 : decode cL_isSame 84 = .ok (.if_icmp .ne 24, 3) := by decide +kernel
theorem dL_isSame_88 : decode cL_isSame 88 = .ok (.getfield 10, 3) := by decide +kernel
theorem dL_isSame_94 : decode cL_isSame 94 = .ok (.invokevirtual 124, 3) := by decide +kernel
theorem dL_isSame_100 : decode cL_isSame 100 = .ok (.iaload, 1) := by decide +kernel
theorem dL_isSame_103 : decode cL_isSame 103 = .ok (.iaload, 1) := by decide +kernel
theorem dL_isSame_105 : decode cL_isSame 105 = .ok (.if_icmp .eq 5, 3) := by decide +kernel
theorem dL_isSame_109 : decode cL_isSame 109 = .ok (.ireturn, 1) := by decide +kernel
theorem dL_isSame_122 : decode cL_isSame 122 = .ok (.if_icmp .ge 40, 3) := by decide +kernel
theorem dL_isSame_127 : decode cL_isSame 127 = .ok (.getfield 10, 3) := by decide +kernel
theorem dL_isSame_131 : decode cL_isSame 131 = .ok (.invokevirtual 129, 3) := by decide +kernel
theorem dL_isSame_137 : decode cL_isSame 137 = .ok (.getfield 10, 3) := by decide +kernel
theorem dL_isSame_141 : decode cL_isSame 141 = .ok (.invokevirtual 129, 3) := by decide +kernel
theorem dL_isSame_145 : decode cL_isSame 145 = .ok (.getfield 48, 3) := by decide +kernel
theorem dL_isSame_149 : decode cL_isSame 149 = .ok (.laload, 1) := by decide +kernel
theorem dL_isSame_150 : decode cL_isSame 150 = .ok (.lcmp, 1) := by decide +kernel
theorem dL_isSame_151 : decode cL_isSame 151 = .ok (.ifCond .eq 5, 3) := by decide +kernel
theorem dL_isSame_155 : decode cL_isSame 155 = .ok (.ireturn, 1) := by decide +kernel
theorem dL_isSame_164 : decode cL_isSame 164 = .ok (.lcmp, 1) := by decide +kernel
theorem dL_isSame_165 : decode cL_isSame 165 = .ok (.ifCond .ne 54, 3) := by decide +kernel
theorem dL_isSame_169 : decode cL_isSame 169 = .ok (.getfield 10, 3) := by decide +kernel
theorem dL_isSame_172 : decode cL_isSame 172 = .ok (.invokevirtual 133, 3) := by decide +kernel
theorem dL_isSame_176 : decode cL_isSame 176 = .ok (.getfield 111, 3) := by decide +kernel
theorem dL_isSame_179 : decode cL_isSame 179 = .ok (.if_icmp .ne 40, 3) := by decide +kernel
theorem dL_isSame_183 : decode cL_isSame 183 = .ok (.getfield 10, 3) := by decide +kernel
theorem dL_isSame_186 : decode cL_isSame 186 = .ok (.invokevirtual 136, 3) := by decide +kernel
theorem dL_isSame_190 : decode cL_isSame 190 = .ok (.getfield 139, 3) := by decide +kernel
theorem dL_isSame_193 : decode cL_isSame 193 = .ok (.if_icmp .ne 26, 3) := by decide +kernel
theorem dL_isSame_197 : decode cL_isSame 197 = .ok (.getfield 10, 3) := by decide +kernel
theorem dL_isSame_200 : decode cL_isSame 200 = .ok (.invokevirtual 142, 3) := by decide +kernel
theorem dL_isSame_204 : decode cL_isSame 204 = .ok (.getfield 16, 3) := by decide +kernel
theorem dL_isSame_208 : decode cL_isSame 208 = .ok (.getfield 114, 3) := by decide +kernel
theorem dL_isSame_211 : decode cL_isSame 211 = .ok (.iaload, 1) := by decide +kernel
theorem dL_isSame_212 : decode cL_isSame 212 = .ok (.if_icmp .ne 7, 3) := by decide +kernel
theorem dL_isSame_220 : decode cL_isSame 220 = .ok (.ireturn, 1) := by decide +kernel
theorem qL_areRooms_0 : decB cL_areRooms 0 [.iconst 0, .istore_n 2, .iconst 0, .istore_n 3, .iconst 0, .istore 4] 7 = true := by decide +kernel
theorem qL_areRooms_7 : decB cL_areRooms 7 [.iload 4, .aload_n 0] 10 = true := by decide +kernel
theorem qL_areRooms_16 : decB cL_areRooms 16 [.aload_n 0, .iload 4] 19 = true := by decide +kernel
theorem qL_areRooms_25 : decB cL_areRooms 25 [.aload_n 0] 26 = true := by decide +kernel
theorem qL_areRooms_29 : decB cL_areRooms 29 [.iload 4] 31 = true := by decide +kernel
theorem qL_areRooms_32 : decB cL_areRooms 32 [.iconst 1] 33 = true := by decide +kernel
theorem qL_areRooms_34 : decB cL_areRooms 34 [.iload_n 1] 35 = true := by decide +kernel
theorem qL_areRooms_38 : decB cL_areRooms 38 [.goto 168] 206 = true := by decide +kernel
theorem qL_areRooms_41 : decB cL_areRooms 41 [.iload_n 2, .aload_n 0, .iload_n 1, .aload_n 0] 45 = true := by decide +kernel
theorem qL_areRooms_48 : decB cL_areRooms 48 [.iload 4] 50 = true := by decide +kernel
theorem qL_areRooms_51 : decB cL_areRooms 51 [.iconst 2] 52 = true := by decide +kernel
theorem qL_areRooms_59 : decB cL_areRooms 59 [.istore_n 2, .aload_n 0] 61 = true := by decide +kernel
theorem qL_areRooms_64 : decB cL_areRooms 64 [.iload 4] 66 = true := by decide +kernel
theorem qL_areRooms_69 : decB cL_areRooms 69 [.istore 5, .iload_n 3] 72 = true := by decide +kernel
theorem qL_areRooms_75 : decB cL_areRooms 75 [.iload 5] 77 = true := by decide +kernel
theorem qL_areRooms_80 : decB cL_areRooms 80 [.iconst 1, .goto 4] 85 = true := by decide +kernel
theorem qL_areRooms_84 : decB cL_areRooms 84 [.iconst 0] 85 = true := by decide +kernel
theorem qL_areRooms_85 : decB cL_areRooms 85 [.istore_n 3, .iload 5, .aload_n 0] 89 = true := by decide +kernel
theorem qL_areRooms_92 : decB cL_areRooms 92 [.iload_n 1] 93 = true := by decide +kernel
theorem qL_areRooms_97 : decB cL_areRooms 97 [.iconst 0] 98 = true := by decide +kernel
theorem qL_areRooms_99 : decB cL_areRooms 99 [.iconst 0, .istore 6] 102 = true := by decide +kernel
theorem qL_areRooms_102 : decB cL_areRooms 102 [.iload 6, .iload 4] 106 = true := by decide +kernel
theorem qL_areRooms_109 : decB cL_areRooms 109 [.aload_n 0, .iload 6] 112 = true := by decide +kernel
theorem qL_areRooms_118 : decB cL_areRooms 118 [.aload_n 0] 119 = true := by decide +kernel
theorem qL_areRooms_122 : decB cL_areRooms 122 [.iload 6] 124 = true := by decide +kernel
theorem qL_areRooms_125 : decB cL_areRooms 125 [.iconst 1] 126 = true := by decide +kernel
theorem qL_areRooms_127 : decB cL_areRooms 127 [.iload_n 1] 128 = true := by decide +kernel
theorem qL_areRooms_131 : decB cL_areRooms 131 [.aload_n 0] 132 = true := by decide +kernel
theorem qL_areRooms_135 : decB cL_areRooms 135 [.iload 6] 137 = true := by decide +kernel
theorem qL_areRooms_138 : decB cL_areRooms 138 [.iconst 2] 139 = true := by decide +kernel
theorem qL_areRooms_140 : decB cL_areRooms 140 [.aload_n 0, .iload 4] 143 = true := by decide +kernel
theorem qL_areRooms_149 : decB cL_areRooms 149 [.aload_n 0] 150 = true := by decide +kernel
theorem qL_areRooms_153 : decB cL_areRooms 153 [.iload 4] 155 = true := by decide +kernel
theorem qL_areRooms_156 : decB cL_areRooms 156 [.iconst 2] 157 = true := by decide +kernel
theorem qL_areRooms_158 : decB cL_areRooms 158 [.aload_n 0, .iload 6] 161 = true := by decide +kernel
theorem qL_areRooms_167 : decB cL_areRooms 167 [.iconst 1, .goto 4] 172 = true := by decide +kernel
theorem qL_areRooms_171 : decB cL_areRooms 171 [.iconst 0] 172 = true := by decide +kernel
theorem qL_areRooms_172 : decB cL_areRooms 172 [.istore 7, .iload 7] 176 = true := by decide +kernel
theorem qL_areRooms_179 : decB cL_areRooms 179 [.iload 5] 181 = true := by decide +kernel
theorem qL_areRooms_184 : decB cL_areRooms 184 [.aload_n 0] 185 = true := by decide +kernel
theorem qL_areRooms_188 : decB cL_areRooms 188 [.iload 6] 190 = true := by decide +kernel
theorem qL_areRooms_193 : decB cL_areRooms 193 [.iload 5] 195 = true := by decide +kernel
theorem qL_areRooms_198 : decB cL_areRooms 198 [.iconst 0] 199 = true := by decide +kernel
theorem qL_areRooms_200 : decB cL_areRooms 200 [.iinc 6 1, .goto (-101)] 102 = true := by decide +kernel
theorem qL_areRooms_206 : decB cL_areRooms 206 [.iinc 4 1, .goto (-202)] 7 = true := by decide +kernel
theorem qL_areRooms_212 : decB cL_areRooms 212 [.aload_n 0] 213 = true := by decide +kernel
theorem qL_areRooms_216 : decB cL_areRooms 216 [.aload_n 0] 217 = true := by decide +kernel
theorem qL_areRooms_220 : decB cL_areRooms 220 [.bipush 12] 222 = true := by decide +kernel
theorem qL_areRooms_225 : decB cL_areRooms 225 [.iadd, .istore 4, .aload_n 0] 229 = true := by decide +kernel
theorem qL_areRooms_232 : decB cL_areRooms 232 [.iload_n 1] 233 = true := by decide +kernel
theorem qL_areRooms_236 : decB cL_areRooms 236 [.iload_n 2] 237 = true := by decide +kernel
theorem qL_areRooms_240 : decB cL_areRooms 240 [.iload_n 3, .iload_n 2, .aload_n 0] 243 = true := by decide +kernel
theorem qL_areRooms_246 : decB cL_areRooms 246 [.iload_n 1] 247 = true := by decide +kernel
theorem qL_areRooms_251 : decB cL_areRooms 251 [.iconst 1, .goto 4] 256 = true := by decide +kernel
theorem qL_areRooms_255 : decB cL_areRooms 255 [.iconst 0] 256 = true := by decide +kernel
theorem qL_areRooms_259 : decB cL_areRooms 259 [.aload_n 0] 260 = true := by decide +kernel
theorem qL_areRooms_263 : decB cL_areRooms 263 [.iload_n 1, .aload_n 0] 265 = true := by decide +kernel
theorem qL_areRooms_268 : decB cL_areRooms 268 [.iload 4] 270 = true := by decide +kernel
theorem qL_areRooms_274 : decB cL_areRooms 274 [.aload_n 0, .iload_n 1, .iload 4] 278 = true := by decide +kernel
theorem qL_areRooms_284 : decB cL_areRooms 284 [.aload_n 0] 285 = true := by decide +kernel
theorem qL_areRooms_288 : decB cL_areRooms 288 [.iload_n 1, .aload_n 0] 290 = true := by decide +kernel
theorem qL_areRooms_293 : decB cL_areRooms 293 [.iload 4] 295 = true := by decide +kernel
theorem qL_areRooms_299 : decB cL_areRooms 299 [.aload_n 0, .iload_n 1, .iload 4] 303 = true := by decide +kernel
theorem qL_areRooms_309 : decB cL_areRooms 309 [.iconst 1, .goto 4] 314 = true := by decide +kernel
theorem qL_areRooms_313 : decB cL_areRooms 313 [.iconst 0] 314 = true := by decide +kernel
theorem dL_areRooms_10 : decode cL_areRooms 10 = .ok (.getfield 56, 3) := by decide +kernel
theorem dL_areRooms_13 : decode cL_areRooms 13 = .ok (.if_icmp .ge 199, 3) := by decide +kernel
theorem dL_areRooms_19 : decode cL_areRooms 19 = .ok (.invokevirtual 60, 3) := by decide +kernel
theorem dL_areRooms_22 : decode cL_areRooms 22 = .ok (.ifCond .eq 184, 3) := by decide +kernel
theorem dL_areRooms_26 : decode cL_areRooms 26 = .ok (.getfield 39, 3) := by decide +kernel
theorem dL_areRooms_31 : decode cL_areRooms 31 = .ok (.aaload, 1) := by decide +kernel
theorem dL_areRooms_33 : decode cL_areRooms 33 = .ok (.iaload, 1) := by decide +kernel
theorem dL_areRooms_35 : decode cL_areRooms 35 = .ok (.if_icmp .eq 6, 3) := by decide +kernel
theorem dL_areRooms_45 : decode cL_areRooms 45 = .ok (.getfield 39, 3) := by decide +kernel
theorem dL_areRooms_50 : decode cL_areRooms 50 = .ok (.aaload, 1) := by decide +kernel
theorem dL_areRooms_52 : decode cL_areRooms 52 = .ok (.iaload, 1) := by decide +kernel
theorem dL_areRooms_53 : decode cL_areRooms 53 = .ok (.invokevirtual 77, 3) := by decide +kernel
theorem dL_areRooms_56 : decode cL_areRooms 56 = .ok (.invokestatic 94, 3) := by decide +kernel
theorem dL_areRooms_61 : decode cL_areRooms 61 = .ok (.getfield 10, 3) := by decide +kernel
theorem dL_areRooms_66 : decode cL_areRooms 66 = .ok (.invokevirtual 144, 3) := by decide +kernel
theorem dL_areRooms_72 : decode cL_areRooms 72 = .ok (.ifCond .ne 8, 3) := by decide +kernel
theorem dL_areRooms_77 : decode cL_areRooms 77 = .ok (.ifCond .ge 7, 3) := by decide +kernel
theorem dL_areRooms_89 : decode cL_areRooms 89 = .ok (.getfield 23, 3) := by decide +kernel
theorem dL_areRooms_93 : decode cL_areRooms 93 = .ok (.iaload, 1) := by decide +kernel
theorem dL_areRooms_94 : decode cL_areRooms 94 = .ok (.if_icmp .lt 5, 3) := by decide +kernel
theorem dL_areRooms_98 : decode cL_areRooms 98 = .ok (.ireturn, 1) := by decide +kernel
theorem dL_areRooms_106 : decode cL_areRooms 106 = .ok (.if_icmp .ge 100, 3) := by decide +kernel
theorem dL_areRooms_112 : decode cL_areRooms 112 = .ok (.invokevirtual 60, 3) := by decide +kernel
theorem dL_areRooms_115 : decode cL_areRooms 115 = .ok (.ifCond .eq 56, 3) := by decide +kernel
theorem dL_areRooms_119 : decode cL_areRooms 119 = .ok (.getfield 39, 3) := by decide +kernel
theorem dL_areRooms_124 : decode cL_areRooms 124 = .ok (.aaload, 1) := by decide +kernel
theorem dL_areRooms_126 : decode cL_areRooms 126 = .ok (.iaload, 1) := by decide +kernel
theorem dL_areRooms_128 : decode cL_areRooms 128 = .ok (.if_icmp .ne 43, 3) := by decide +kernel
theorem dL_areRooms_132 : decode cL_areRooms 132 = .ok (.getfield 39, 3) := by decide +kernel
theorem dL_areRooms_137 : decode cL_areRooms 137 = .ok (.aaload, 1) := by decide +kernel
theorem dL_areRooms_139 : decode cL_areRooms 139 = .ok (.iaload, 1) := by decide +kernel
theorem dL_areRooms_143 : decode cL_areRooms 143 = .ok (.invokevirtual 64, 3) := by decide +kernel
theorem dL_areRooms_146 : decode cL_areRooms 146 = .ok (.if_icmp .gt 25, 3) := by decide +kernel
theorem dL_areRooms_150 : decode cL_areRooms 150 = .ok (.getfield 39, 3) := by decide +kernel
theorem dL_areRooms_155 : decode cL_areRooms 155 = .ok (.aaload, 1) := by decide +kernel
theorem dL_areRooms_157 : decode cL_areRooms 157 = .ok (.iaload, 1) := by decide +kernel
theorem dL_areRooms_161 : decode cL_areRooms 161 = .ok (.invokevirtual 64, 3) := by decide +kernel
theorem dL_areRooms_164 : decode cL_areRooms 164 = .ok (.if_icmp .gt 7, 3) := by decide +kernel
theorem dL_areRooms_176 : decode cL_areRooms 176 = .ok (.ifCond .eq 24, 3) := by decide +kernel
theorem dL_areRooms_181 : decode cL_areRooms 181 = .ok (.ifCond .lt 19, 3) := by decide +kernel
theorem dL_areRooms_185 : decode cL_areRooms 185 = .ok (.getfield 10, 3) := by decide +kernel
theorem dL_areRooms_190 : decode cL_areRooms 190 = .ok (.invokevirtual 144, 3) := by decide +kernel
theorem dL_areRooms_195 : decode cL_areRooms 195 = .ok (.if_icmp .ne 5, 3) := by decide +kernel
theorem dL_areRooms_199 : decode cL_areRooms 199 = .ok (.ireturn, 1) := by decide +kernel
theorem dL_areRooms_213 : decode cL_areRooms 213 = .ok (.getfield 114, 3) := by decide +kernel
theorem dL_areRooms_217 : decode cL_areRooms 217 = .ok (.getfield 52, 3) := by decide +kernel
theorem dL_areRooms_222 : decode cL_areRooms 222 = .ok (.invokevirtual 147, 3) := by decide +kernel
theorem dL_areRooms_229 : decode cL_areRooms 229 = .ok (.getfield 10, 3) := by decide +kernel
theorem dL_areRooms_233 : decode cL_areRooms 233 = .ok (.invokevirtual 152, 3) := by decide +kernel
theorem dL_areRooms_237 : decode cL_areRooms 237 = .ok (.if_icmp .ne 76, 3) := by decide +kernel
theorem dL_areRooms_243 : decode cL_areRooms 243 = .ok (.getfield 23, 3) := by decide +kernel
theorem dL_areRooms_247 : decode cL_areRooms 247 = .ok (.iaload, 1) := by decide +kernel
theorem dL_areRooms_248 : decode cL_areRooms 248 = .ok (.if_icmp .le 7, 3) := by decide +kernel
theorem dL_areRooms_256 : decode cL_areRooms 256 = .ok (.if_icmp .ne 57, 3) := by decide +kernel
theorem dL_areRooms_260 : decode cL_areRooms 260 = .ok (.getfield 10, 3) := by decide +kernel
theorem dL_areRooms_265 : decode cL_areRooms 265 = .ok (.getfield 16, 3) := by decide +kernel
theorem dL_areRooms_270 : decode cL_areRooms 270 = .ok (.iaload, 1) := by decide +kernel
theorem dL_areRooms_271 : decode cL_areRooms 271 = .ok (.invokevirtual 155, 3) := by decide +kernel
theorem dL_areRooms_278 : decode cL_areRooms 278 = .ok (.invokevirtual 77, 3) := by decide +kernel
theorem dL_areRooms_281 : decode cL_areRooms 281 = .ok (.if_icmp .ne 32, 3) := by decide +kernel
theorem dL_areRooms_285 : decode cL_areRooms 285 = .ok (.getfield 10, 3) := by decide +kernel
theorem dL_areRooms_290 : decode cL_areRooms 290 = .ok (.getfield 16, 3) := by decide +kernel
theorem dL_areRooms_295 : decode cL_areRooms 295 = .ok (.iaload, 1) := by decide +kernel
theorem dL_areRooms_296 : decode cL_areRooms 296 = .ok (.invokevirtual 156, 3) := by decide +kernel
theorem dL_areRooms_303 : decode cL_areRooms 303 = .ok (.invokevirtual 99, 3) := by decide +kernel
theorem dL_areRooms_306 : decode cL_areRooms 306 = .ok (.if_icmp .ne 7, 3) := by decide +kernel
theorem dL_areRooms_314 : decode cL_areRooms 314 = .ok (.ireturn, 1) := by decide +kernel
theorem qL_asks_0 : decB cL_asks 0 [.aload_n 0] 1 = true := by decide +kernel
theorem qL_asks_4 : decB cL_asks 4 [.iconst 2] 5 = true := by decide +kernel
theorem qL_asks_8 : decB cL_asks 8 [.istore_n 1, .aload_n 0] 10 = true := by decide +kernel
theorem qL_asks_13 : decB cL_asks 13 [.aload_n 0] 14 = true := by decide +kernel
theorem qL_asks_17 : decB cL_asks 17 [.bipush 8] 19 = true := by decide +kernel
theorem qL_asks_22 : decB cL_asks 22 [.iadd, .istore_n 2, .iconst 1, .aload_n 0] 26 = true := by decide +kernel
theorem qL_asks_29 : decB cL_asks 29 [.iconst 4] 30 = true := by decide +kernel
theorem qL_asks_33 : decB cL_asks 33 [.iadd, .istore_n 3, .iconst 1, .aload_n 0] 37 = true := by decide +kernel
theorem qL_asks_40 : decB cL_asks 40 [.iconst 3] 41 = true := by decide +kernel
theorem qL_asks_44 : decB cL_asks 44 [.iadd, .istore 4, .aload_n 0] 48 = true := by decide +kernel
theorem qL_asks_51 : decB cL_asks 51 [.iconst 3] 52 = true := by decide +kernel
theorem qL_asks_55 : decB cL_asks 55 [.istore 5, .aload_n 0] 58 = true := by decide +kernel
theorem qL_asks_61 : decB cL_asks 61 [.aload_n 0] 62 = true := by decide +kernel
theorem qL_asks_65 : decB cL_asks 65 [.iload_n 2, .aload_n 0] 67 = true := by decide +kernel
theorem qL_asks_70 : decB cL_asks 70 [.isub, .iconst 1, .iadd] 73 = true := by decide +kernel
theorem qL_asks_76 : decB cL_asks 76 [.iadd, .istore 6, .aload_n 0, .iload_n 1, .iload_n 2, .iload_n 3] 83 = true := by decide +kernel
theorem qL_asks_86 : decB cL_asks 86 [.istore 7, .aload_n 0] 89 = true := by decide +kernel
theorem qL_asks_92 : decB cL_asks 92 [.bipush 50] 94 = true := by decide +kernel
theorem qL_asks_97 : decB cL_asks 97 [.iconst 1] 98 = true := by decide +kernel
theorem qL_asks_99 : decB cL_asks 99 [.aload_n 0] 100 = true := by decide +kernel
theorem qL_asks_103 : decB cL_asks 103 [.iload_n 1, .aload_n 0] 105 = true := by decide +kernel
theorem qL_asks_108 : decB cL_asks 108 [.iload_n 2] 109 = true := by decide +kernel
theorem qL_asks_110 : decB cL_asks 110 [.iload_n 3, .iload 4, .iload 5, .aload_n 0] 116 = true := by decide +kernel
theorem qL_asks_119 : decB cL_asks 119 [.iload 6] 121 = true := by decide +kernel
theorem qL_asks_125 : decB cL_asks 125 [.istore 8, .iload 7] 129 = true := by decide +kernel
theorem qL_asks_132 : decB cL_asks 132 [.iload 8, .aload_n 0, .iload_n 1, .iload_n 2, .iload_n 3, .iload 4, .iload 5, .iload 6, .iconst (-1)] 145 = true := by decide +kernel
theorem qL_asks_151 : decB cL_asks 151 [.iconst 1, .goto 4] 156 = true := by decide +kernel
theorem qL_asks_155 : decB cL_asks 155 [.iconst 0] 156 = true := by decide +kernel
theorem qL_asks_157 : decB cL_asks 157 [.aload_n 0, .aload_n 0] 159 = true := by decide +kernel
theorem qL_asks_162 : decB cL_asks 162 [.iload 7] 164 = true := by decide +kernel
theorem qL_asks_168 : decB cL_asks 168 [.iload 8, .iconst (-1)] 171 = true := by decide +kernel
theorem qL_asks_174 : decB cL_asks 174 [.iconst 1, .goto 4] 179 = true := by decide +kernel
theorem qL_asks_178 : decB cL_asks 178 [.iconst 0] 179 = true := by decide +kernel
theorem dL_asks_1 : decode cL_asks 1 = .ok (.getfield 52, 3) := by decide +kernel
theorem dL_asks_5 : decode cL_asks 5 = .ok (.invokevirtual 147, 3) := by decide +kernel
theorem dL_asks_10 : decode cL_asks 10 = .ok (.getfield 114, 3) := by decide +kernel
theorem dL_asks_14 : decode cL_asks 14 = .ok (.getfield 52, 3) := by decide +kernel
theorem dL_asks_19 : decode cL_asks 19 = .ok (.invokevirtual 147, 3) := by decide +kernel
theorem dL_asks_26 : decode cL_asks 26 = .ok (.getfield 52, 3) := by decide +kernel
theorem dL_asks_30 : decode cL_asks 30 = .ok (.invokevirtual 147, 3) := by decide +kernel
theorem dL_asks_37 : decode cL_asks 37 = .ok (.getfield 52, 3) := by decide +kernel
theorem dL_asks_41 : decode cL_asks 41 = .ok (.invokevirtual 147, 3) := by decide +kernel
theorem dL_asks_48 : decode cL_asks 48 = .ok (.getfield 52, 3) := by decide +kernel
theorem dL_asks_52 : decode cL_asks 52 = .ok (.invokevirtual 147, 3) := by decide +kernel
theorem dL_asks_58 : decode cL_asks 58 = .ok (.getfield 114, 3) := by decide +kernel
theorem dL_asks_62 : decode cL_asks 62 = .ok (.getfield 52, 3) := by decide +kernel
theorem dL_asks_67 : decode cL_asks 67 = .ok (.getfield 114, 3) := by decide +kernel
theorem dL_asks_73 : decode cL_asks 73 = .ok (.invokevirtual 147, 3) := by decide +kernel
theorem dL_asks_83 : decode cL_asks 83 = .ok (.invokevirtual 117, 3) := by decide +kernel
theorem dL_asks_89 : decode cL_asks 89 = .ok (.getfield 56, 3) := by decide +kernel
theorem dL_asks_94 : decode cL_asks 94 = .ok (.if_icmp .lt 5, 3) := by decide +kernel
theorem dL_asks_98 : decode cL_asks 98 = .ok (.ireturn, 1) := by decide +kernel
theorem dL_asks_100 : decode cL_asks 100 = .ok (.getfield 10, 3) := by decide +kernel
theorem dL_asks_105 : decode cL_asks 105 = .ok (.getfield 16, 3) := by decide +kernel
theorem dL_asks_109 : decode cL_asks 109 = .ok (.iaload, 1) := by decide +kernel
theorem dL_asks_116 : decode cL_asks 116 = .ok (.getfield 16, 3) := by decide +kernel
theorem dL_asks_121 : decode cL_asks 121 = .ok (.iaload, 1) := by decide +kernel
theorem dL_asks_122 : decode cL_asks 122 = .ok (.invokevirtual 159, 3) := by decide +kernel
theorem dL_asks_129 : decode cL_asks 129 = .ok (.ifCond .ge 28, 3) := by decide +kernel
theorem dL_asks_145 : decode cL_asks 145 = .ok (.invokevirtual 120, 3) := by decide +kernel
theorem dL_asks_148 : decode cL_asks 148 = .ok (.if_icmp .ne 7, 3) := by decide +kernel
theorem dL_asks_156 : decode cL_asks 156 = .ok (.ireturn, 1) := by decide +kernel
theorem dL_asks_159 : decode cL_asks 159 = .ok (.getfield 16, 3) := by decide +kernel
theorem dL_asks_164 : decode cL_asks 164 = .ok (.iaload, 1) := by decide +kernel
theorem dL_asks_165 : decode cL_asks 165 = .ok (.putfield 139, 3) := by decide +kernel
theorem dL_asks_171 : decode cL_asks 171 = .ok (.if_icmp .ne 7, 3) := by decide +kernel
theorem dL_asks_179 : decode cL_asks 179 = .ok (.ireturn, 1) := by decide +kernel
theorem qL_asksGroup_0 : decB cL_asksGroup 0 [.aload_n 0] 1 = true := by decide +kernel
theorem qL_asksGroup_4 : decB cL_asksGroup 4 [.bipush 10] 6 = true := by decide +kernel
theorem qL_asksGroup_9 : decB cL_asksGroup 9 [.aload_n 0] 10 = true := by decide +kernel
theorem qL_asksGroup_13 : decB cL_asksGroup 13 [.bipush 44] 15 = true := by decide +kernel
theorem qL_asksGroup_18 : decB cL_asksGroup 18 [.iconst 1] 19 = true := by decide +kernel
theorem qL_asksGroup_20 : decB cL_asksGroup 20 [.aload_n 0] 21 = true := by decide +kernel
theorem qL_asksGroup_24 : decB cL_asksGroup 24 [.iconst 2] 25 = true := by decide +kernel
theorem qL_asksGroup_28 : decB cL_asksGroup 28 [.istore_n 1, .iconst 1, .aload_n 0] 31 = true := by decide +kernel
theorem qL_asksGroup_34 : decB cL_asksGroup 34 [.iconst 4] 35 = true := by decide +kernel
theorem qL_asksGroup_38 : decB cL_asksGroup 38 [.iadd, .istore_n 2, .aload_n 0] 41 = true := by decide +kernel
theorem qL_asksGroup_44 : decB cL_asksGroup 44 [.aload_n 0] 45 = true := by decide +kernel
theorem qL_asksGroup_48 : decB cL_asksGroup 48 [.bipush 8] 50 = true := by decide +kernel
theorem qL_asksGroup_53 : decB cL_asksGroup 53 [.iadd, .istore_n 3, .iconst 1, .aload_n 0] 57 = true := by decide +kernel
theorem qL_asksGroup_60 : decB cL_asksGroup 60 [.iconst 3] 61 = true := by decide +kernel
theorem qL_asksGroup_64 : decB cL_asksGroup 64 [.iadd, .istore 4, .aload_n 0] 68 = true := by decide +kernel
theorem qL_asksGroup_71 : decB cL_asksGroup 71 [.istore 5, .aload_n 0] 74 = true := by decide +kernel
theorem qL_asksGroup_77 : decB cL_asksGroup 77 [.iload_n 1, .iload_n 2, .aload_n 0] 80 = true := by decide +kernel
theorem qL_asksGroup_83 : decB cL_asksGroup 83 [.iload_n 3] 84 = true := by decide +kernel
theorem qL_asksGroup_85 : decB cL_asksGroup 85 [.iload 4, .aload_n 0] 88 = true := by decide +kernel
theorem qL_asksGroup_91 : decB cL_asksGroup 91 [.iload_n 3] 92 = true := by decide +kernel
theorem qL_asksGroup_96 : decB cL_asksGroup 96 [.istore 6, .iconst 0, .istore 7] 101 = true := by decide +kernel
theorem qL_asksGroup_101 : decB cL_asksGroup 101 [.iload 7, .iload_n 2] 104 = true := by decide +kernel
theorem qL_asksGroup_107 : decB cL_asksGroup 107 [.aload_n 0, .iload_n 1, .iload_n 3, .iload 4] 112 = true := by decide +kernel
theorem qL_asksGroup_115 : decB cL_asksGroup 115 [.istore 8, .iload 8] 119 = true := by decide +kernel
theorem qL_asksGroup_122 : decB cL_asksGroup 122 [.aload_n 0, .iload_n 1, .iload_n 3, .iload 4, .iconst 1, .iconst 0, .iload_n 3, .aload_n 0] 131 = true := by decide +kernel
theorem qL_asksGroup_137 : decB cL_asksGroup 137 [.istore 9, .goto 32] 171 = true := by decide +kernel
theorem qL_asksGroup_142 : decB cL_asksGroup 142 [.aload_n 0, .iload 5] 145 = true := by decide +kernel
theorem qL_asksGroup_148 : decB cL_asksGroup 148 [.aload_n 0, .aload_n 0] 150 = true := by decide +kernel
theorem qL_asksGroup_153 : decB cL_asksGroup 153 [.iload 8] 155 = true := by decide +kernel
theorem qL_asksGroup_159 : decB cL_asksGroup 159 [.iload 6, .iconst (-1)] 162 = true := by decide +kernel
theorem qL_asksGroup_165 : decB cL_asksGroup 165 [.iconst 1, .goto 4] 170 = true := by decide +kernel
theorem qL_asksGroup_169 : decB cL_asksGroup 169 [.iconst 0] 170 = true := by decide +kernel
theorem qL_asksGroup_171 : decB cL_asksGroup 171 [.iinc 7 1, .goto (-73)] 101 = true := by decide +kernel
theorem qL_asksGroup_177 : decB cL_asksGroup 177 [.aload_n 0, .dup] 179 = true := by decide +kernel
theorem qL_asksGroup_182 : decB cL_asksGroup 182 [.iconst 1, .iadd] 184 = true := by decide +kernel
theorem qL_asksGroup_187 : decB cL_asksGroup 187 [.iload 6, .aload_n 0] 190 = true := by decide +kernel
theorem qL_asksGroup_193 : decB cL_asksGroup 193 [.iconst 1, .isub] 195 = true := by decide +kernel
theorem qL_asksGroup_198 : decB cL_asksGroup 198 [.iconst 1, .goto 4] 203 = true := by decide +kernel
theorem qL_asksGroup_202 : decB cL_asksGroup 202 [.iconst 0] 203 = true := by decide +kernel
theorem dL_asksGroup_1 : decode cL_asksGroup 1 = .ok (.getfield 163, 3) := by decide +kernel
theorem dL_asksGroup_6 : decode cL_asksGroup 6 = .ok (.if_icmp .eq 12, 3) := by decide +kernel
theorem dL_asksGroup_10 : decode cL_asksGroup 10 = .ok (.getfield 56, 3) := by decide +kernel
theorem dL_asksGroup_15 : decode cL_asksGroup 15 = .ok (.if_icmp .lt 5, 3) := by decide +kernel
theorem dL_asksGroup_19 : decode cL_asksGroup 19 = .ok (.ireturn, 1) := by decide +kernel
theorem dL_asksGroup_21 : decode cL_asksGroup 21 = .ok (.getfield 52, 3) := by decide +kernel
theorem dL_asksGroup_25 : decode cL_asksGroup 25 = .ok (.invokevirtual 147, 3) := by decide +kernel
theorem dL_asksGroup_31 : decode cL_asksGroup 31 = .ok (.getfield 52, 3) := by decide +kernel
theorem dL_asksGroup_35 : decode cL_asksGroup 35 = .ok (.invokevirtual 147, 3) := by decide +kernel
theorem dL_asksGroup_41 : decode cL_asksGroup 41 = .ok (.getfield 114, 3) := by decide +kernel
theorem dL_asksGroup_45 : decode cL_asksGroup 45 = .ok (.getfield 52, 3) := by decide +kernel
theorem dL_asksGroup_50 : decode cL_asksGroup 50 = .ok (.invokevirtual 147, 3) := by decide +kernel
theorem dL_asksGroup_57 : decode cL_asksGroup 57 = .ok (.getfield 52, 3) := by decide +kernel
theorem dL_asksGroup_61 : decode cL_asksGroup 61 = .ok (.invokevirtual 147, 3) := by decide +kernel
theorem dL_asksGroup_68 : decode cL_asksGroup 68 = .ok (.getfield 56, 3) := by decide +kernel
theorem dL_asksGroup_74 : decode cL_asksGroup 74 = .ok (.getfield 10, 3) := by decide +kernel
theorem dL_asksGroup_80 : decode cL_asksGroup 80 = .ok (.getfield 16, 3) := by decide +kernel
theorem dL_asksGroup_84 : decode cL_asksGroup 84 = .ok (.iaload, 1) := by decide +kernel
theorem dL_asksGroup_88 : decode cL_asksGroup 88 = .ok (.getfield 16, 3) := by decide +kernel
theorem dL_asksGroup_92 : decode cL_asksGroup 92 = .ok (.iaload, 1) := by decide +kernel
theorem dL_asksGroup_93 : decode cL_asksGroup 93 = .ok (.invokevirtual 166, 3) := by decide +kernel
theorem dL_asksGroup_104 : decode cL_asksGroup 104 = .ok (.if_icmp .ge 73, 3) := by decide +kernel
theorem dL_asksGroup_112 : decode cL_asksGroup 112 = .ok (.invokevirtual 117, 3) := by decide +kernel
theorem dL_asksGroup_119 : decode cL_asksGroup 119 = .ok (.ifCond .ge 23, 3) := by decide +kernel
theorem dL_asksGroup_131 : decode cL_asksGroup 131 = .ok (.getfield 163, 3) := by decide +kernel
theorem dL_asksGroup_134 : decode cL_asksGroup 134 = .ok (.invokevirtual 120, 3) := by decide +kernel
theorem dL_asksGroup_145 : decode cL_asksGroup 145 = .ok (.putfield 56, 3) := by decide +kernel
theorem dL_asksGroup_150 : decode cL_asksGroup 150 = .ok (.getfield 16, 3) := by decide +kernel
theorem dL_asksGroup_155 : decode cL_asksGroup 155 = .ok (.iaload, 1) := by decide +kernel
theorem dL_asksGroup_156 : decode cL_asksGroup 156 = .ok (.putfield 139, 3) := by decide +kernel
theorem dL_asksGroup_162 : decode cL_asksGroup 162 = .ok (.if_icmp .ne 7, 3) := by decide +kernel
theorem dL_asksGroup_170 : decode cL_asksGroup 170 = .ok (.ireturn, 1) := by decide +kernel
theorem dL_asksGroup_179 : decode cL_asksGroup 179 = .ok (.getfield 163, 3) := by decide +kernel
theorem dL_asksGroup_184 : decode cL_asksGroup 184 = .ok (.putfield 163, 3) := by decide +kernel
theorem dL_asksGroup_190 : decode cL_asksGroup 190 = .ok (.getfield 163, 3) := by decide +kernel
theorem dL_asksGroup_195 : decode cL_asksGroup 195 = .ok (.if_icmp .ne 7, 3) := by decide +kernel
theorem dL_asksGroup_203 : decode cL_asksGroup 203 = .ok (.ireturn, 1) := by decide +kernel
theorem qL_letsGo_0 : decB cL_letsGo 0 [.aload_n 0] 1 = true := by decide +kernel
theorem qL_letsGo_7 : decB cL_letsGo 7 [.iconst 1] 8 = true := by decide +kernel
theorem qL_letsGo_9 : decB cL_letsGo 9 [.aload_n 0] 10 = true := by decide +kernel
theorem qL_letsGo_13 : decB cL_letsGo 13 [.aload_n 0] 14 = true := by decide +kernel
theorem qL_letsGo_20 : decB cL_letsGo 20 [.istore_n 1, .iconst 0, .istore_n 2, .iconst 0, .istore_n 3] 25 = true := by decide +kernel
theorem qL_letsGo_25 : decB cL_letsGo 25 [.iload_n 3, .aload_n 0] 27 = true := by decide +kernel
theorem qL_letsGo_33 : decB cL_letsGo 33 [.aload_n 0] 34 = true := by decide +kernel
theorem qL_letsGo_37 : decB cL_letsGo 37 [.iload_n 3] 38 = true := by decide +kernel
theorem qL_letsGo_39 : decB cL_letsGo 39 [.bipush 8] 41 = true := by decide +kernel
theorem qL_letsGo_42 : decB cL_letsGo 42 [.iload_n 1] 43 = true := by decide +kernel
theorem qL_letsGo_46 : decB cL_letsGo 46 [.aload_n 0] 47 = true := by decide +kernel
theorem qL_letsGo_50 : decB cL_letsGo 50 [.iload_n 3] 51 = true := by decide +kernel
theorem qL_letsGo_52 : decB cL_letsGo 52 [.iconst 0] 53 = true := by decide +kernel
theorem qL_letsGo_57 : decB cL_letsGo 57 [.goto 15] 72 = true := by decide +kernel
theorem qL_letsGo_60 : decB cL_letsGo 60 [.aload_n 0] 61 = true := by decide +kernel
theorem qL_letsGo_64 : decB cL_letsGo 64 [.iload_n 3] 65 = true := by decide +kernel
theorem qL_letsGo_66 : decB cL_letsGo 66 [.iconst 0, .iconst 2] 68 = true := by decide +kernel
theorem qL_letsGo_69 : decB cL_letsGo 69 [.iinc 2 1] 72 = true := by decide +kernel
theorem qL_letsGo_72 : decB cL_letsGo 72 [.iinc 3 1, .goto (-50)] 25 = true := by decide +kernel
theorem qL_letsGo_78 : decB cL_letsGo 78 [.aload_n 0] 79 = true := by decide +kernel
theorem qL_letsGo_82 : decB cL_letsGo 82 [.istore_n 3, .aload_n 0] 84 = true := by decide +kernel
theorem qL_letsGo_87 : decB cL_letsGo 87 [.iload_n 1] 88 = true := by decide +kernel
theorem qL_letsGo_91 : decB cL_letsGo 91 [.iload_n 2] 92 = true := by decide +kernel
theorem qL_letsGo_95 : decB cL_letsGo 95 [.iconst 1, .goto 4] 100 = true := by decide +kernel
theorem qL_letsGo_99 : decB cL_letsGo 99 [.iconst 0] 100 = true := by decide +kernel
theorem dL_letsGo_1 : decode cL_letsGo 1 = .ok (.getfield 163, 3) := by decide +kernel
theorem dL_letsGo_4 : decode cL_letsGo 4 = .ok (.ifCond .ne 5, 3) := by decide +kernel
theorem dL_letsGo_8 : decode cL_letsGo 8 = .ok (.ireturn, 1) := by decide +kernel
theorem dL_letsGo_10 : decode cL_letsGo 10 = .ok (.getfield 52, 3) := by decide +kernel
theorem dL_letsGo_14 : decode cL_letsGo 14 = .ok (.getfield 163, 3) := by decide +kernel
theorem dL_letsGo_17 : decode cL_letsGo 17 = .ok (.invokevirtual 147, 3) := by decide +kernel
theorem dL_letsGo_27 : decode cL_letsGo 27 = .ok (.getfield 56, 3) := by decide +kernel
theorem dL_letsGo_30 : decode cL_letsGo 30 = .ok (.if_icmp .ge 48, 3) := by decide +kernel
theorem dL_letsGo_34 : decode cL_letsGo 34 = .ok (.getfield 39, 3) := by decide +kernel
theorem dL_letsGo_38 : decode cL_letsGo 38 = .ok (.aaload, 1) := by decide +kernel
theorem dL_letsGo_41 : decode cL_letsGo 41 = .ok (.iaload, 1) := by decide +kernel
theorem dL_letsGo_43 : decode cL_letsGo 43 = .ok (.if_icmp .ne 29, 3) := by decide +kernel
theorem dL_letsGo_47 : decode cL_letsGo 47 = .ok (.getfield 39, 3) := by decide +kernel
theorem dL_letsGo_51 : decode cL_letsGo 51 = .ok (.aaload, 1) := by decide +kernel
theorem dL_letsGo_53 : decode cL_letsGo 53 = .ok (.iaload, 1) := by decide +kernel
theorem dL_letsGo_54 : decode cL_letsGo 54 = .ok (.ifCond .eq 6, 3) := by decide +kernel
theorem dL_letsGo_61 : decode cL_letsGo 61 = .ok (.getfield 39, 3) := by decide +kernel
theorem dL_letsGo_65 : decode cL_letsGo 65 = .ok (.aaload, 1) := by decide +kernel
theorem dL_letsGo_68 : decode cL_letsGo 68 = .ok (.iastore, 1) := by decide +kernel
theorem dL_letsGo_79 : decode cL_letsGo 79 = .ok (.invokevirtual 170, 3) := by decide +kernel
theorem dL_letsGo_84 : decode cL_letsGo 84 = .ok (.getfield 10, 3) := by decide +kernel
theorem dL_letsGo_88 : decode cL_letsGo 88 = .ok (.invokevirtual 173, 3) := by decide +kernel
theorem dL_letsGo_92 : decode cL_letsGo 92 = .ok (.if_icmp .ne 7, 3) := by decide +kernel
theorem dL_letsGo_100 : decode cL_letsGo 100 = .ok (.ireturn, 1) := by decide +kernel
theorem qL_waits_0 : decB cL_waits 0 [.aload_n 0] 1 = true := by decide +kernel
theorem qL_waits_4 : decB cL_waits 4 [.bipush 20] 6 = true := by decide +kernel
theorem qL_waits_9 : decB cL_waits 9 [.iconst 1] 10 = true := by decide +kernel
theorem qL_waits_11 : decB cL_waits 11 [.aload_n 0] 12 = true := by decide +kernel
theorem qL_waits_15 : decB cL_waits 15 [.aload_n 0] 16 = true := by decide +kernel
theorem qL_waits_19 : decB cL_waits 19 [.bipush 6] 21 = true := by decide +kernel
theorem qL_waits_24 : decB cL_waits 24 [.iadd, .istore_n 1, .iconst 5] 27 = true := by decide +kernel
theorem qL_waits_29 : decB cL_waits 29 [.dup, .iconst 0, .aload_n 0] 32 = true := by decide +kernel
theorem qL_waits_35 : decB cL_waits 35 [.iconst 2] 36 = true := by decide +kernel
theorem qL_waits_40 : decB cL_waits 40 [.dup, .iconst 1, .iload_n 1] 43 = true := by decide +kernel
theorem qL_waits_44 : decB cL_waits 44 [.dup, .iconst 2, .iconst 1, .aload_n 0] 48 = true := by decide +kernel
theorem qL_waits_51 : decB cL_waits 51 [.iconst 3] 52 = true := by decide +kernel
theorem qL_waits_55 : decB cL_waits 55 [.iadd] 56 = true := by decide +kernel
theorem qL_waits_57 : decB cL_waits 57 [.dup, .iconst 3, .iconst 1, .aload_n 0] 61 = true := by decide +kernel
theorem qL_waits_64 : decB cL_waits 64 [.iconst 2] 65 = true := by decide +kernel
theorem qL_waits_68 : decB cL_waits 68 [.iadd] 69 = true := by decide +kernel
theorem qL_waits_70 : decB cL_waits 70 [.dup, .iconst 4, .aload_n 0] 73 = true := by decide +kernel
theorem qL_waits_76 : decB cL_waits 76 [.iconst 2] 77 = true := by decide +kernel
theorem qL_waits_81 : decB cL_waits 81 [.astore_n 2, .aload_n 0] 83 = true := by decide +kernel
theorem qL_waits_86 : decB cL_waits 86 [.aload_n 0] 87 = true := by decide +kernel
theorem qL_waits_90 : decB cL_waits 90 [.aload_n 2] 91 = true := by decide +kernel
theorem qL_waits_92 : decB cL_waits 92 [.aload_n 0, .dup] 94 = true := by decide +kernel
theorem qL_waits_97 : decB cL_waits 97 [.iconst 1, .iadd] 99 = true := by decide +kernel
theorem qL_waits_102 : decB cL_waits 102 [.aload_n 0] 103 = true := by decide +kernel
theorem qL_waits_106 : decB cL_waits 106 [.aload_n 2, .iconst 0] 108 = true := by decide +kernel
theorem qL_waits_109 : decB cL_waits 109 [.aload_n 0] 110 = true := by decide +kernel
theorem qL_waits_113 : decB cL_waits 113 [.iload_n 1] 114 = true := by decide +kernel
theorem qL_waits_115 : decB cL_waits 115 [.aload_n 2, .iconst 2] 117 = true := by decide +kernel
theorem qL_waits_118 : decB cL_waits 118 [.aload_n 2, .iconst 3] 120 = true := by decide +kernel
theorem qL_waits_121 : decB cL_waits 121 [.aload_n 2, .iconst 4] 123 = true := by decide +kernel
theorem qL_waits_127 : decB cL_waits 127 [.aload_n 0] 128 = true := by decide +kernel
theorem qL_waits_134 : decB cL_waits 134 [.iconst 1, .goto 4] 139 = true := by decide +kernel
theorem qL_waits_138 : decB cL_waits 138 [.iconst 0] 139 = true := by decide +kernel
theorem dL_waits_1 : decode cL_waits 1 = .ok (.getfield 111, 3) := by decide +kernel
theorem dL_waits_6 : decode cL_waits 6 = .ok (.if_icmp .ne 5, 3) := by decide +kernel
theorem dL_waits_10 : decode cL_waits 10 = .ok (.ireturn, 1) := by decide +kernel
theorem dL_waits_12 : decode cL_waits 12 = .ok (.getfield 114, 3) := by decide +kernel
theorem dL_waits_16 : decode cL_waits 16 = .ok (.getfield 52, 3) := by decide +kernel
theorem dL_waits_21 : decode cL_waits 21 = .ok (.invokevirtual 147, 3) := by decide +kernel
theorem dL_waits_27 : decode cL_waits 27 = .ok (.newarray .int, 2) := by decide +kernel
theorem dL_waits_32 : decode cL_waits 32 = .ok (.getfield 52, 3) := by decide +kernel
theorem dL_waits_36 : decode cL_waits 36 = .ok (.invokevirtual 147, 3) := by decide +kernel
theorem dL_waits_39 : decode cL_waits 39 = .ok (.iastore, 1) := by decide +kernel
theorem dL_waits_43 : decode cL_waits 43 = .ok (.iastore, 1) := by decide +kernel
theorem dL_waits_48 : decode cL_waits 48 = .ok (.getfield 52, 3) := by decide +kernel
theorem dL_waits_52 : decode cL_waits 52 = .ok (.invokevirtual 147, 3) := by decide +kernel
theorem dL_waits_56 : decode cL_waits 56 = .ok (.iastore, 1) := by decide +kernel
theorem dL_waits_61 : decode cL_waits 61 = .ok (.getfield 52, 3) := by decide +kernel
theorem dL_waits_65 : decode cL_waits 65 = .ok (.invokevirtual 147, 3) := by decide +kernel
theorem dL_waits_69 : decode cL_waits 69 = .ok (.iastore, 1) := by decide +kernel
theorem dL_waits_73 : decode cL_waits 73 = .ok (.getfield 52, 3) := by decide +kernel
theorem dL_waits_77 : decode cL_waits 77 = .ok (.invokevirtual 147, 3) := by decide +kernel
theorem dL_waits_80 : decode cL_waits 80 = .ok (.iastore, 1) := by decide +kernel
theorem dL_waits_83 : decode cL_waits 83 = .ok (.getfield 45, 3) := by decide +kernel
theorem dL_waits_87 : decode cL_waits 87 = .ok (.getfield 111, 3) := by decide +kernel
theorem dL_waits_91 : decode cL_waits 91 = .ok (.aastore, 1) := by decide +kernel
theorem dL_waits_94 : decode cL_waits 94 = .ok (.getfield 111, 3) := by decide +kernel
theorem dL_waits_99 : decode cL_waits 99 = .ok (.putfield 111, 3) := by decide +kernel
theorem dL_waits_103 : decode cL_waits 103 = .ok (.getfield 10, 3) := by decide +kernel
theorem dL_waits_108 : decode cL_waits 108 = .ok (.iaload, 1) := by decide +kernel
theorem dL_waits_110 : decode cL_waits 110 = .ok (.getfield 16, 3) := by decide +kernel
theorem dL_waits_114 : decode cL_waits 114 = .ok (.iaload, 1) := by decide +kernel
theorem dL_waits_117 : decode cL_waits 117 = .ok (.iaload, 1) := by decide +kernel
theorem dL_waits_120 : decode cL_waits 120 = .ok (.iaload, 1) := by decide +kernel
theorem dL_waits_123 : decode cL_waits 123 = .ok (.iaload, 1) := by decide +kernel
theorem dL_waits_124 : decode cL_waits 124 = .ok (.invokevirtual 176, 3) := by decide +kernel
theorem dL_waits_128 : decode cL_waits 128 = .ok (.getfield 111, 3) := by decide +kernel
theorem dL_waits_131 : decode cL_waits 131 = .ok (.if_icmp .ne 7, 3) := by decide +kernel
theorem dL_waits_139 : decode cL_waits 139 = .ok (.ireturn, 1) := by decide +kernel
theorem qL_treats_0 : decB cL_treats 0 [.aload_n 0] 1 = true := by decide +kernel
theorem qL_treats_7 : decB cL_treats 7 [.iconst 1] 8 = true := by decide +kernel
theorem qL_treats_9 : decB cL_treats 9 [.aload_n 0] 10 = true := by decide +kernel
theorem qL_treats_13 : decB cL_treats 13 [.aload_n 0] 14 = true := by decide +kernel
theorem qL_treats_20 : decB cL_treats 20 [.istore_n 2, .aload_n 0] 22 = true := by decide +kernel
theorem qL_treats_25 : decB cL_treats 25 [.iload_n 2] 26 = true := by decide +kernel
theorem qL_treats_27 : decB cL_treats 27 [.astore_n 3, .iload_n 1] 29 = true := by decide +kernel
theorem qL_treats_32 : decB cL_treats 32 [.aload_n 3, .iconst 0] 34 = true := by decide +kernel
theorem qL_treats_38 : decB cL_treats 38 [.aload_n 3, .bipush 6, .aload_n 0, .iload_n 2] 43 = true := by decide +kernel
theorem qL_treats_46 : decB cL_treats 46 [.bipush 20, .imul, .bipush 50, .iadd, .bipush 100] 54 = true := by decide +kernel
theorem qL_treats_56 : decB cL_treats 56 [.aload_n 3, .iconst 0, .iconst 1] 59 = true := by decide +kernel
theorem qL_treats_60 : decB cL_treats 60 [.aload_n 0] 61 = true := by decide +kernel
theorem qL_treats_64 : decB cL_treats 64 [.iconst 0, .dup2] 66 = true := by decide +kernel
theorem qL_treats_67 : decB cL_treats 67 [.aload_n 3, .bipush 6] 70 = true := by decide +kernel
theorem qL_treats_72 : decB cL_treats 72 [.lsub] 73 = true := by decide +kernel
theorem qL_treats_74 : decB cL_treats 74 [.aload_n 0] 75 = true := by decide +kernel
theorem qL_treats_78 : decB cL_treats 78 [.iconst 1, .dup2] 80 = true := by decide +kernel
theorem qL_treats_81 : decB cL_treats 81 [.aload_n 3, .bipush 6] 84 = true := by decide +kernel
theorem qL_treats_86 : decB cL_treats 86 [.ladd] 87 = true := by decide +kernel
theorem qL_treats_88 : decB cL_treats 88 [.aload_n 0] 89 = true := by decide +kernel
theorem qL_treats_92 : decB cL_treats 92 [.iload_n 2] 93 = true := by decide +kernel
theorem qL_treats_96 : decB cL_treats 96 [.aload_n 3, .bipush 6] 99 = true := by decide +kernel
theorem qL_treats_103 : decB cL_treats 103 [.iconst 1, .goto 4] 108 = true := by decide +kernel
theorem qL_treats_107 : decB cL_treats 107 [.iconst 0] 108 = true := by decide +kernel
theorem qL_treats_109 : decB cL_treats 109 [.iload_n 1, .iconst 1] 111 = true := by decide +kernel
theorem qL_treats_114 : decB cL_treats 114 [.aload_n 0, .iload_n 2] 116 = true := by decide +kernel
theorem qL_treats_122 : decB cL_treats 122 [.aload_n 3, .iconst 2] 124 = true := by decide +kernel
theorem qL_treats_125 : decB cL_treats 125 [.aload_n 0] 126 = true := by decide +kernel
theorem qL_treats_132 : decB cL_treats 132 [.aload_n 3, .iconst 2] 134 = true := by decide +kernel
theorem qL_treats_135 : decB cL_treats 135 [.aload_n 0] 136 = true := by decide +kernel
theorem qL_treats_139 : decB cL_treats 139 [.isub, .istore 4, .aload_n 3, .iconst 0] 144 = true := by decide +kernel
theorem qL_treats_148 : decB cL_treats 148 [.iload 4, .iconst 3] 151 = true := by decide +kernel
theorem qL_treats_154 : decB cL_treats 154 [.iconst 0, .goto 25] 180 = true := by decide +kernel
theorem qL_treats_158 : decB cL_treats 158 [.iload 4, .bipush 14] 162 = true := by decide +kernel
theorem qL_treats_165 : decB cL_treats 165 [.aload_n 3, .bipush 6] 168 = true := by decide +kernel
theorem qL_treats_169 : decB cL_treats 169 [.goto 11] 180 = true := by decide +kernel
theorem qL_treats_172 : decB cL_treats 172 [.aload_n 3, .bipush 6] 175 = true := by decide +kernel
theorem qL_treats_176 : decB cL_treats 176 [.iconst 1, .iadd, .iconst 2] 179 = true := by decide +kernel
theorem qL_treats_180 : decB cL_treats 180 [.istore 5, .aload_n 0] 183 = true := by decide +kernel
theorem qL_treats_186 : decB cL_treats 186 [.iload_n 2] 187 = true := by decide +kernel
theorem qL_treats_190 : decB cL_treats 190 [.iload 5] 192 = true := by decide +kernel
theorem qL_treats_195 : decB cL_treats 195 [.iconst 0] 196 = true := by decide +kernel
theorem qL_treats_197 : decB cL_treats 197 [.aload_n 0] 198 = true := by decide +kernel
theorem qL_treats_201 : decB cL_treats 201 [.iconst 1, .dup2] 203 = true := by decide +kernel
theorem qL_treats_204 : decB cL_treats 204 [.aload_n 3, .bipush 6] 207 = true := by decide +kernel
theorem qL_treats_209 : decB cL_treats 209 [.lsub] 210 = true := by decide +kernel
theorem qL_treats_211 : decB cL_treats 211 [.aload_n 0] 212 = true := by decide +kernel
theorem qL_treats_215 : decB cL_treats 215 [.iconst 0, .dup2] 217 = true := by decide +kernel
theorem qL_treats_218 : decB cL_treats 218 [.iload 5] 220 = true := by decide +kernel
theorem qL_treats_221 : decB cL_treats 221 [.ladd] 222 = true := by decide +kernel
theorem qL_treats_223 : decB cL_treats 223 [.aload_n 0] 224 = true := by decide +kernel
theorem qL_treats_227 : decB cL_treats 227 [.iconst 2, .dup2] 229 = true := by decide +kernel
theorem qL_treats_230 : decB cL_treats 230 [.aload_n 3, .bipush 6] 233 = true := by decide +kernel
theorem qL_treats_234 : decB cL_treats 234 [.iload 5, .isub] 237 = true := by decide +kernel
theorem qL_treats_238 : decB cL_treats 238 [.ladd] 239 = true := by decide +kernel
theorem qL_treats_240 : decB cL_treats 240 [.aload_n 3, .iconst 0, .iconst 2] 243 = true := by decide +kernel
theorem qL_treats_244 : decB cL_treats 244 [.aload_n 0] 245 = true := by decide +kernel
theorem qL_treats_248 : decB cL_treats 248 [.istore 6, .aload_n 0] 251 = true := by decide +kernel
theorem qL_treats_254 : decB cL_treats 254 [.iload_n 2] 255 = true := by decide +kernel
theorem qL_treats_258 : decB cL_treats 258 [.iload 5] 260 = true := by decide +kernel
theorem qL_treats_263 : decB cL_treats 263 [.iconst 1, .goto 4] 268 = true := by decide +kernel
theorem qL_treats_267 : decB cL_treats 267 [.iconst 0] 268 = true := by decide +kernel
theorem qL_treats_269 : decB cL_treats 269 [.iconst 1, .aload_n 0] 271 = true := by decide +kernel
theorem qL_treats_274 : decB cL_treats 274 [.iconst 3] 275 = true := by decide +kernel
theorem qL_treats_278 : decB cL_treats 278 [.iadd, .istore 4, .iload_n 1, .iconst 2] 283 = true := by decide +kernel
theorem qL_treats_286 : decB cL_treats 286 [.aload_n 0, .iload_n 2] 288 = true := by decide +kernel
theorem qL_treats_294 : decB cL_treats 294 [.aload_n 3, .iconst 3] 296 = true := by decide +kernel
theorem qL_treats_297 : decB cL_treats 297 [.iload 4, .iadd, .bipush 14] 302 = true := by decide +kernel
theorem qL_treats_305 : decB cL_treats 305 [.aload_n 0, .aload_n 3, .iconst 1] 308 = true := by decide +kernel
theorem qL_treats_309 : decB cL_treats 309 [.aload_n 0, .iload_n 2] 311 = true := by decide +kernel
theorem qL_treats_314 : decB cL_treats 314 [.iconst 1, .iadd, .iload 4] 318 = true := by decide +kernel
theorem qL_treats_321 : decB cL_treats 321 [.istore 5, .aload_n 0] 324 = true := by decide +kernel
theorem qL_treats_327 : decB cL_treats 327 [.iload_n 2, .iload 4] 330 = true := by decide +kernel
theorem qL_treats_333 : decB cL_treats 333 [.istore 6, .iload 5] 337 = true := by decide +kernel
theorem qL_treats_340 : decB cL_treats 340 [.aload_n 0, .aload_n 0] 342 = true := by decide +kernel
theorem qL_treats_345 : decB cL_treats 345 [.iload 5] 347 = true := by decide +kernel
theorem qL_treats_351 : decB cL_treats 351 [.iload 6, .iconst (-1)] 354 = true := by decide +kernel
theorem qL_treats_357 : decB cL_treats 357 [.iconst 1, .goto 4] 362 = true := by decide +kernel
theorem qL_treats_361 : decB cL_treats 361 [.iconst 0] 362 = true := by decide +kernel
theorem qL_treats_363 : decB cL_treats 363 [.iconst 0, .istore 7, .iconst 0, .istore 8] 369 = true := by decide +kernel
theorem qL_treats_369 : decB cL_treats 369 [.iload 8, .iload 4] 373 = true := by decide +kernel
theorem qL_treats_376 : decB cL_treats 376 [.aload_n 0] 377 = true := by decide +kernel
theorem qL_treats_380 : decB cL_treats 380 [.iload_n 2] 381 = true := by decide +kernel
theorem qL_treats_382 : decB cL_treats 382 [.aload_n 3, .iconst 3] 384 = true := by decide +kernel
theorem qL_treats_385 : decB cL_treats 385 [.iload 8, .iadd, .aload_n 0, .aload_n 3, .iconst 1] 391 = true := by decide +kernel
theorem qL_treats_392 : decB cL_treats 392 [.aload_n 0, .iload_n 2] 394 = true := by decide +kernel
theorem qL_treats_397 : decB cL_treats 397 [.iconst 1, .iadd, .iload 8, .iadd] 402 = true := by decide +kernel
theorem qL_treats_406 : decB cL_treats 406 [.iload 7, .aload_n 0] 409 = true := by decide +kernel
theorem qL_treats_412 : decB cL_treats 412 [.iload_n 2] 413 = true := by decide +kernel
theorem qL_treats_414 : decB cL_treats 414 [.aload_n 3, .iconst 3] 416 = true := by decide +kernel
theorem qL_treats_417 : decB cL_treats 417 [.iload 8, .iadd] 420 = true := by decide +kernel
theorem qL_treats_421 : decB cL_treats 421 [.iadd, .istore 7, .iinc 8 1, .goto (-58)] 369 = true := by decide +kernel
theorem qL_treats_430 : decB cL_treats 430 [.aload_n 3, .iconst 3, .dup2] 433 = true := by decide +kernel
theorem qL_treats_434 : decB cL_treats 434 [.iload 4, .iadd] 437 = true := by decide +kernel
theorem qL_treats_438 : decB cL_treats 438 [.iload 6, .iload 7] 442 = true := by decide +kernel
theorem qL_treats_445 : decB cL_treats 445 [.iconst 1, .goto 4] 450 = true := by decide +kernel
theorem qL_treats_449 : decB cL_treats 449 [.iconst 0] 450 = true := by decide +kernel
theorem qL_treats_451 : decB cL_treats 451 [.iload_n 1, .iconst 3] 453 = true := by decide +kernel
theorem qL_treats_456 : decB cL_treats 456 [.aload_n 0, .iload_n 2] 458 = true := by decide +kernel
theorem qL_treats_464 : decB cL_treats 464 [.aload_n 3, .iconst 3] 466 = true := by decide +kernel
theorem qL_treats_467 : decB cL_treats 467 [.iload 4] 469 = true := by decide +kernel
theorem qL_treats_472 : decB cL_treats 472 [.aload_n 0, .iload_n 2] 474 = true := by decide +kernel
theorem qL_treats_477 : decB cL_treats 477 [.iload 4, .isub, .iconst 1, .iadd, .aload_n 0] 483 = true := by decide +kernel
theorem qL_treats_489 : decB cL_treats 489 [.aload_n 0, .iload_n 2] 491 = true := by decide +kernel
theorem qL_treats_494 : decB cL_treats 494 [.istore 5, .aload_n 3, .iconst 3, .dup2] 499 = true := by decide +kernel
theorem qL_treats_500 : decB cL_treats 500 [.iload 4, .isub] 503 = true := by decide +kernel
theorem qL_treats_504 : decB cL_treats 504 [.iload 5, .aload_n 0, .iload_n 2] 508 = true := by decide +kernel
theorem qL_treats_511 : decB cL_treats 511 [.isub, .istore 6, .aload_n 0] 515 = true := by decide +kernel
theorem qL_treats_518 : decB cL_treats 518 [.istore 7, .aload_n 0] 521 = true := by decide +kernel
theorem qL_treats_524 : decB cL_treats 524 [.iload_n 2, .iload 4] 527 = true := by decide +kernel
theorem qL_treats_530 : decB cL_treats 530 [.iload 6] 532 = true := by decide +kernel
theorem qL_treats_535 : decB cL_treats 535 [.iconst 1, .goto 4] 540 = true := by decide +kernel
theorem qL_treats_539 : decB cL_treats 539 [.iconst 0] 540 = true := by decide +kernel
theorem qL_treats_541 : decB cL_treats 541 [.iconst 1] 542 = true := by decide +kernel
theorem dL_treats_1 : decode cL_treats 1 = .ok (.getfield 56, 3) := by decide +kernel
theorem dL_treats_4 : decode cL_treats 4 = .ok (.ifCond .ne 5, 3) := by decide +kernel
theorem dL_treats_8 : decode cL_treats 8 = .ok (.ireturn, 1) := by decide +kernel
theorem dL_treats_10 : decode cL_treats 10 = .ok (.getfield 52, 3) := by decide +kernel
theorem dL_treats_14 : decode cL_treats 14 = .ok (.getfield 56, 3) := by decide +kernel
theorem dL_treats_17 : decode cL_treats 17 = .ok (.invokevirtual 147, 3) := by decide +kernel
theorem dL_treats_22 : decode cL_treats 22 = .ok (.getfield 39, 3) := by decide +kernel
theorem dL_treats_26 : decode cL_treats 26 = .ok (.aaload, 1) := by decide +kernel
theorem dL_treats_29 : decode cL_treats 29 = .ok (.ifCond .ne 80, 3) := by decide +kernel
theorem dL_treats_34 : decode cL_treats 34 = .ok (.iaload, 1) := by decide +kernel
theorem dL_treats_35 : decode cL_treats 35 = .ok (.ifCond .ne 74, 3) := by decide +kernel
theorem dL_treats_43 : decode cL_treats 43 = .ok (.invokevirtual 127, 3) := by decide +kernel
theorem dL_treats_54 : decode cL_treats 54 = .ok (.idiv, 1) := by decide +kernel
theorem dL_treats_55 : decode cL_treats 55 = .ok (.iastore, 1) := by decide +kernel
theorem dL_treats_59 : decode cL_treats 59 = .ok (.iastore, 1) := by decide +kernel
theorem dL_treats_61 : decode cL_treats 61 = .ok (.getfield 48, 3) := by decide +kernel
theorem dL_treats_66 : decode cL_treats 66 = .ok (.laload, 1) := by decide +kernel
theorem dL_treats_70 : decode cL_treats 70 = .ok (.iaload, 1) := by decide +kernel
theorem dL_treats_71 : decode cL_treats 71 = .ok (.i2l, 1) := by decide +kernel
theorem dL_treats_73 : decode cL_treats 73 = .ok (.lastore, 1) := by decide +kernel
theorem dL_treats_75 : decode cL_treats 75 = .ok (.getfield 48, 3) := by decide +kernel
theorem dL_treats_80 : decode cL_treats 80 = .ok (.laload, 1) := by decide +kernel
theorem dL_treats_84 : decode cL_treats 84 = .ok (.iaload, 1) := by decide +kernel
theorem dL_treats_85 : decode cL_treats 85 = .ok (.i2l, 1) := by decide +kernel
theorem dL_treats_87 : decode cL_treats 87 = .ok (.lastore, 1) := by decide +kernel
theorem dL_treats_89 : decode cL_treats 89 = .ok (.getfield 10, 3) := by decide +kernel
theorem dL_treats_93 : decode cL_treats 93 = .ok (.invokevirtual 179, 3) := by decide +kernel
theorem dL_treats_99 : decode cL_treats 99 = .ok (.iaload, 1) := by decide +kernel
theorem dL_treats_100 : decode cL_treats 100 = .ok (.if_icmp .ne 7, 3) := by decide +kernel
theorem dL_treats_108 : decode cL_treats 108 = .ok (.ireturn, 1) := by decide +kernel
theorem dL_treats_111 : decode cL_treats 111 = .ok (.if_icmp .ne 158, 3) := by decide +kernel
theorem dL_treats_116 : decode cL_treats 116 = .ok (.invokevirtual 60, 3) := by decide +kernel
theorem dL_treats_119 : decode cL_treats 119 = .ok (.ifCond .eq 150, 3) := by decide +kernel
theorem dL_treats_124 : decode cL_treats 124 = .ok (.iaload, 1) := by decide +kernel
theorem dL_treats_126 : decode cL_treats 126 = .ok (.getfield 114, 3) := by decide +kernel
theorem dL_treats_129 : decode cL_treats 129 = .ok (.if_icmp .le 140, 3) := by decide +kernel
theorem dL_treats_134 : decode cL_treats 134 = .ok (.iaload, 1) := by decide +kernel
theorem dL_treats_136 : decode cL_treats 136 = .ok (.getfield 114, 3) := by decide +kernel
theorem dL_treats_144 : decode cL_treats 144 = .ok (.iaload, 1) := by decide +kernel
theorem dL_treats_145 : decode cL_treats 145 = .ok (.ifCond .eq 9, 3) := by decide +kernel
theorem dL_treats_151 : decode cL_treats 151 = .ok (.if_icmp .ge 7, 3) := by decide +kernel
theorem dL_treats_162 : decode cL_treats 162 = .ok (.if_icmp .lt 10, 3) := by decide +kernel
theorem dL_treats_168 : decode cL_treats 168 = .ok (.iaload, 1) := by decide +kernel
theorem dL_treats_175 : decode cL_treats 175 = .ok (.iaload, 1) := by decide +kernel
theorem dL_treats_179 : decode cL_treats 179 = .ok (.idiv, 1) := by decide +kernel
theorem dL_treats_183 : decode cL_treats 183 = .ok (.getfield 10, 3) := by decide +kernel
theorem dL_treats_187 : decode cL_treats 187 = .ok (.invokevirtual 182, 3) := by decide +kernel
theorem dL_treats_192 : decode cL_treats 192 = .ok (.if_icmp .eq 5, 3) := by decide +kernel
theorem dL_treats_196 : decode cL_treats 196 = .ok (.ireturn, 1) := by decide +kernel
theorem dL_treats_198 : decode cL_treats 198 = .ok (.getfield 48, 3) := by decide +kernel
theorem dL_treats_203 : decode cL_treats 203 = .ok (.laload, 1) := by decide +kernel
theorem dL_treats_207 : decode cL_treats 207 = .ok (.iaload, 1) := by decide +kernel
theorem dL_treats_208 : decode cL_treats 208 = .ok (.i2l, 1) := by decide +kernel
theorem dL_treats_210 : decode cL_treats 210 = .ok (.lastore, 1) := by decide +kernel
theorem dL_treats_212 : decode cL_treats 212 = .ok (.getfield 48, 3) := by decide +kernel
theorem dL_treats_217 : decode cL_treats 217 = .ok (.laload, 1) := by decide +kernel
theorem dL_treats_220 : decode cL_treats 220 = .ok (.i2l, 1) := by decide +kernel
theorem dL_treats_222 : decode cL_treats 222 = .ok (.lastore, 1) := by decide +kernel
theorem dL_treats_224 : decode cL_treats 224 = .ok (.getfield 48, 3) := by decide +kernel
theorem dL_treats_229 : decode cL_treats 229 = .ok (.laload, 1) := by decide +kernel
theorem dL_treats_233 : decode cL_treats 233 = .ok (.iaload, 1) := by decide +kernel
theorem dL_treats_237 : decode cL_treats 237 = .ok (.i2l, 1) := by decide +kernel
theorem dL_treats_239 : decode cL_treats 239 = .ok (.lastore, 1) := by decide +kernel
theorem dL_treats_243 : decode cL_treats 243 = .ok (.iastore, 1) := by decide +kernel
theorem dL_treats_245 : decode cL_treats 245 = .ok (.invokevirtual 170, 3) := by decide +kernel
theorem dL_treats_251 : decode cL_treats 251 = .ok (.getfield 10, 3) := by decide +kernel
theorem dL_treats_255 : decode cL_treats 255 = .ok (.invokevirtual 185, 3) := by decide +kernel
theorem dL_treats_260 : decode cL_treats 260 = .ok (.if_icmp .ne 7, 3) := by decide +kernel
theorem dL_treats_268 : decode cL_treats 268 = .ok (.ireturn, 1) := by decide +kernel
theorem dL_treats_271 : decode cL_treats 271 = .ok (.getfield 52, 3) := by decide +kernel
theorem dL_treats_275 : decode cL_treats 275 = .ok (.invokevirtual 147, 3) := by decide +kernel
theorem dL_treats_283 : decode cL_treats 283 = .ok (.if_icmp .ne 168, 3) := by decide +kernel
theorem dL_treats_288 : decode cL_treats 288 = .ok (.invokevirtual 60, 3) := by decide +kernel
theorem dL_treats_291 : decode cL_treats 291 = .ok (.ifCond .eq 160, 3) := by decide +kernel
theorem dL_treats_296 : decode cL_treats 296 = .ok (.iaload, 1) := by decide +kernel
theorem dL_treats_302 : decode cL_treats 302 = .ok (.if_icmp .gt 149, 3) := by decide +kernel
theorem dL_treats_308 : decode cL_treats 308 = .ok (.iaload, 1) := by decide +kernel
theorem dL_treats_311 : decode cL_treats 311 = .ok (.invokevirtual 64, 3) := by decide +kernel
theorem dL_treats_318 : decode cL_treats 318 = .ok (.invokevirtual 81, 3) := by decide +kernel
theorem dL_treats_324 : decode cL_treats 324 = .ok (.getfield 10, 3) := by decide +kernel
theorem dL_treats_330 : decode cL_treats 330 = .ok (.invokevirtual 188, 3) := by decide +kernel
theorem dL_treats_337 : decode cL_treats 337 = .ok (.ifCond .lt 26, 3) := by decide +kernel
theorem dL_treats_342 : decode cL_treats 342 = .ok (.getfield 16, 3) := by decide +kernel
theorem dL_treats_347 : decode cL_treats 347 = .ok (.iaload, 1) := by decide +kernel
theorem dL_treats_348 : decode cL_treats 348 = .ok (.putfield 139, 3) := by decide +kernel
theorem dL_treats_354 : decode cL_treats 354 = .ok (.if_icmp .ne 7, 3) := by decide +kernel
theorem dL_treats_362 : decode cL_treats 362 = .ok (.ireturn, 1) := by decide +kernel
theorem dL_treats_373 : decode cL_treats 373 = .ok (.if_icmp .ge 57, 3) := by decide +kernel
theorem dL_treats_377 : decode cL_treats 377 = .ok (.getfield 42, 3) := by decide +kernel
theorem dL_treats_381 : decode cL_treats 381 = .ok (.aaload, 1) := by decide +kernel
theorem dL_treats_384 : decode cL_treats 384 = .ok (.iaload, 1) := by decide +kernel
theorem dL_treats_391 : decode cL_treats 391 = .ok (.iaload, 1) := by decide +kernel
theorem dL_treats_394 : decode cL_treats 394 = .ok (.invokevirtual 64, 3) := by decide +kernel
theorem dL_treats_402 : decode cL_treats 402 = .ok (.invokevirtual 99, 3) := by decide +kernel
theorem dL_treats_405 : decode cL_treats 405 = .ok (.iastore, 1) := by decide +kernel
theorem dL_treats_409 : decode cL_treats 409 = .ok (.getfield 42, 3) := by decide +kernel
theorem dL_treats_413 : decode cL_treats 413 = .ok (.aaload, 1) := by decide +kernel
theorem dL_treats_416 : decode cL_treats 416 = .ok (.iaload, 1) := by decide +kernel
theorem dL_treats_420 : decode cL_treats 420 = .ok (.iaload, 1) := by decide +kernel
theorem dL_treats_433 : decode cL_treats 433 = .ok (.iaload, 1) := by decide +kernel
theorem dL_treats_437 : decode cL_treats 437 = .ok (.iastore, 1) := by decide +kernel
theorem dL_treats_442 : decode cL_treats 442 = .ok (.if_icmp .ne 7, 3) := by decide +kernel
theorem dL_treats_450 : decode cL_treats 450 = .ok (.ireturn, 1) := by decide +kernel
theorem dL_treats_453 : decode cL_treats 453 = .ok (.if_icmp .ne 88, 3) := by decide +kernel
theorem dL_treats_458 : decode cL_treats 458 = .ok (.invokevirtual 60, 3) := by decide +kernel
theorem dL_treats_461 : decode cL_treats 461 = .ok (.ifCond .eq 80, 3) := by decide +kernel
theorem dL_treats_466 : decode cL_treats 466 = .ok (.iaload, 1) := by decide +kernel
theorem dL_treats_469 : decode cL_treats 469 = .ok (.if_icmp .le 72, 3) := by decide +kernel
theorem dL_treats_474 : decode cL_treats 474 = .ok (.invokevirtual 64, 3) := by decide +kernel
theorem dL_treats_483 : decode cL_treats 483 = .ok (.getfield 114, 3) := by decide +kernel
theorem dL_treats_486 : decode cL_treats 486 = .ok (.if_icmp .lt 55, 3) := by decide +kernel
theorem dL_treats_491 : decode cL_treats 491 = .ok (.invokevirtual 127, 3) := by decide +kernel
theorem dL_treats_499 : decode cL_treats 499 = .ok (.iaload, 1) := by decide +kernel
theorem dL_treats_503 : decode cL_treats 503 = .ok (.iastore, 1) := by decide +kernel
theorem dL_treats_508 : decode cL_treats 508 = .ok (.invokevirtual 127, 3) := by decide +kernel
theorem dL_treats_515 : decode cL_treats 515 = .ok (.invokevirtual 170, 3) := by decide +kernel
theorem dL_treats_521 : decode cL_treats 521 = .ok (.getfield 10, 3) := by decide +kernel
theorem dL_treats_527 : decode cL_treats 527 = .ok (.invokevirtual 191, 3) := by decide +kernel
theorem dL_treats_532 : decode cL_treats 532 = .ok (.if_icmp .ne 7, 3) := by decide +kernel
theorem dL_treats_540 : decode cL_treats 540 = .ok (.ireturn, 1) := by decide +kernel
theorem dL_treats_542 : decode cL_treats 542 = .ok (.ireturn, 1) := by decide +kernel
theorem qL_opens_0 : decB cL_opens 0 [.aload_n 0] 1 = true := by decide +kernel
theorem qL_opens_4 : decB cL_opens 4 [.iconst 2] 5 = true := by decide +kernel
theorem qL_opens_8 : decB cL_opens 8 [.istore_n 1, .aload_n 0] 10 = true := by decide +kernel
theorem qL_opens_13 : decB cL_opens 13 [.aload_n 0] 14 = true := by decide +kernel
theorem qL_opens_17 : decB cL_opens 17 [.bipush 10] 19 = true := by decide +kernel
theorem qL_opens_22 : decB cL_opens 22 [.iadd, .istore_n 2, .aload_n 0] 25 = true := by decide +kernel
theorem qL_opens_28 : decB cL_opens 28 [.iconst 2] 29 = true := by decide +kernel
theorem qL_opens_35 : decB cL_opens 35 [.aload_n 0] 36 = true := by decide +kernel
theorem qL_opens_39 : decB cL_opens 39 [.iload_n 1, .aload_n 0] 41 = true := by decide +kernel
theorem qL_opens_44 : decB cL_opens 44 [.iconst 4] 45 = true := by decide +kernel
theorem qL_opens_49 : decB cL_opens 49 [.aload_n 0] 50 = true := by decide +kernel
theorem qL_opens_53 : decB cL_opens 53 [.iload_n 1, .aload_n 0] 55 = true := by decide +kernel
theorem qL_opens_58 : decB cL_opens 58 [.iload_n 1] 59 = true := by decide +kernel
theorem qL_opens_63 : decB cL_opens 63 [.aload_n 0] 64 = true := by decide +kernel
theorem qL_opens_70 : decB cL_opens 70 [.iconst 1, .goto 4] 75 = true := by decide +kernel
theorem qL_opens_74 : decB cL_opens 74 [.iconst 0] 75 = true := by decide +kernel
theorem qL_opens_76 : decB cL_opens 76 [.aload_n 0] 77 = true := by decide +kernel
theorem qL_opens_80 : decB cL_opens 80 [.iload_n 1] 81 = true := by decide +kernel
theorem qL_opens_82 : decB cL_opens 82 [.iload_n 2, .aload_n 0] 84 = true := by decide +kernel
theorem qL_opens_87 : decB cL_opens 87 [.iconst 2] 88 = true := by decide +kernel
theorem qL_opens_94 : decB cL_opens 94 [.iconst 1, .goto 4] 99 = true := by decide +kernel
theorem qL_opens_98 : decB cL_opens 98 [.iconst 0] 99 = true := by decide +kernel
theorem qL_opens_100 : decB cL_opens 100 [.aload_n 0] 101 = true := by decide +kernel
theorem qL_opens_104 : decB cL_opens 104 [.iload_n 1, .aload_n 0] 106 = true := by decide +kernel
theorem qL_opens_109 : decB cL_opens 109 [.iload_n 2] 110 = true := by decide +kernel
theorem qL_opens_111 : decB cL_opens 111 [.aload_n 0] 112 = true := by decide +kernel
theorem qL_opens_115 : decB cL_opens 115 [.iload_n 1] 116 = true := by decide +kernel
theorem qL_opens_117 : decB cL_opens 117 [.iload_n 2] 118 = true := by decide +kernel
theorem qL_opens_122 : decB cL_opens 122 [.aload_n 0] 123 = true := by decide +kernel
theorem qL_opens_126 : decB cL_opens 126 [.iload_n 1] 127 = true := by decide +kernel
theorem qL_opens_128 : decB cL_opens 128 [.iload_n 2] 129 = true := by decide +kernel
theorem qL_opens_133 : decB cL_opens 133 [.iconst 0, .goto 7] 141 = true := by decide +kernel
theorem qL_opens_137 : decB cL_opens 137 [.aload_n 0] 138 = true := by decide +kernel
theorem qL_opens_144 : decB cL_opens 144 [.iconst 1, .goto 4] 149 = true := by decide +kernel
theorem qL_opens_148 : decB cL_opens 148 [.iconst 0] 149 = true := by decide +kernel
theorem dL_opens_1 : decode cL_opens 1 = .ok (.getfield 52, 3) := by decide +kernel
theorem dL_opens_5 : decode cL_opens 5 = .ok (.invokevirtual 147, 3) := by decide +kernel
theorem dL_opens_10 : decode cL_opens 10 = .ok (.getfield 114, 3) := by decide +kernel
theorem dL_opens_14 : decode cL_opens 14 = .ok (.getfield 52, 3) := by decide +kernel
theorem dL_opens_19 : decode cL_opens 19 = .ok (.invokevirtual 147, 3) := by decide +kernel
theorem dL_opens_25 : decode cL_opens 25 = .ok (.getfield 52, 3) := by decide +kernel
theorem dL_opens_29 : decode cL_opens 29 = .ok (.invokevirtual 147, 3) := by decide +kernel
theorem dL_opens_32 : decode cL_opens 32 = .ok (.ifCond .ne 44, 3) := by decide +kernel
theorem dL_opens_36 : decode cL_opens 36 = .ok (.getfield 29, 3) := by decide +kernel
theorem dL_opens_41 : decode cL_opens 41 = .ok (.getfield 52, 3) := by decide +kernel
theorem dL_opens_45 : decode cL_opens 45 = .ok (.invokevirtual 147, 3) := by decide +kernel
theorem dL_opens_48 : decode cL_opens 48 = .ok (.iastore, 1) := by decide +kernel
theorem dL_opens_50 : decode cL_opens 50 = .ok (.getfield 10, 3) := by decide +kernel
theorem dL_opens_55 : decode cL_opens 55 = .ok (.getfield 29, 3) := by decide +kernel
theorem dL_opens_59 : decode cL_opens 59 = .ok (.iaload, 1) := by decide +kernel
theorem dL_opens_60 : decode cL_opens 60 = .ok (.invokevirtual 194, 3) := by decide +kernel
theorem dL_opens_64 : decode cL_opens 64 = .ok (.invokevirtual 170, 3) := by decide +kernel
theorem dL_opens_67 : decode cL_opens 67 = .ok (.if_icmp .ne 7, 3) := by decide +kernel
theorem dL_opens_75 : decode cL_opens 75 = .ok (.ireturn, 1) := by decide +kernel
theorem dL_opens_77 : decode cL_opens 77 = .ok (.getfield 34, 3) := by decide +kernel
theorem dL_opens_81 : decode cL_opens 81 = .ok (.aaload, 1) := by decide +kernel
theorem dL_opens_84 : decode cL_opens 84 = .ok (.getfield 52, 3) := by decide +kernel
theorem dL_opens_88 : decode cL_opens 88 = .ok (.invokevirtual 147, 3) := by decide +kernel
theorem dL_opens_91 : decode cL_opens 91 = .ok (.ifCond .ne 7, 3) := by decide +kernel
theorem dL_opens_99 : decode cL_opens 99 = .ok (.bastore, 1) := by decide +kernel
theorem dL_opens_101 : decode cL_opens 101 = .ok (.getfield 10, 3) := by decide +kernel
theorem dL_opens_106 : decode cL_opens 106 = .ok (.getfield 16, 3) := by decide +kernel
theorem dL_opens_110 : decode cL_opens 110 = .ok (.iaload, 1) := by decide +kernel
theorem dL_opens_112 : decode cL_opens 112 = .ok (.getfield 34, 3) := by decide +kernel
theorem dL_opens_116 : decode cL_opens 116 = .ok (.aaload, 1) := by decide +kernel
theorem dL_opens_118 : decode cL_opens 118 = .ok (.baload, 1) := by decide +kernel
theorem dL_opens_119 : decode cL_opens 119 = .ok (.invokevirtual 197, 3) := by decide +kernel
theorem dL_opens_123 : decode cL_opens 123 = .ok (.getfield 34, 3) := by decide +kernel
theorem dL_opens_127 : decode cL_opens 127 = .ok (.aaload, 1) := by decide +kernel
theorem dL_opens_129 : decode cL_opens 129 = .ok (.baload, 1) := by decide +kernel
theorem dL_opens_130 : decode cL_opens 130 = .ok (.ifCond .eq 7, 3) := by decide +kernel
theorem dL_opens_138 : decode cL_opens 138 = .ok (.invokevirtual 170, 3) := by decide +kernel
theorem dL_opens_141 : decode cL_opens 141 = .ok (.if_icmp .ne 7, 3) := by decide +kernel
theorem dL_opens_149 : decode cL_opens 149 = .ok (.ireturn, 1) := by decide +kernel
theorem qL_passes_0 : decB cL_passes 0 [.aload_n 0, .dup] 2 = true := by decide +kernel
theorem qL_passes_5 : decB cL_passes 5 [.iconst 1, .iadd] 7 = true := by decide +kernel
theorem qL_passes_10 : decB cL_passes 10 [.iconst 0, .istore_n 1] 12 = true := by decide +kernel
theorem qL_passes_12 : decB cL_passes 12 [.iload_n 1, .aload_n 0] 14 = true := by decide +kernel
theorem qL_passes_20 : decB cL_passes 20 [.aload_n 0] 21 = true := by decide +kernel
theorem qL_passes_24 : decB cL_passes 24 [.iload_n 1] 25 = true := by decide +kernel
theorem qL_passes_26 : decB cL_passes 26 [.astore_n 2, .aload_n 2, .iconst 0] 29 = true := by decide +kernel
theorem qL_passes_30 : decB cL_passes 30 [.iconst 1] 31 = true := by decide +kernel
theorem qL_passes_34 : decB cL_passes 34 [.aload_n 0, .iload_n 1] 36 = true := by decide +kernel
theorem qL_passes_39 : decB cL_passes 39 [.aload_n 0] 40 = true := by decide +kernel
theorem qL_passes_46 : decB cL_passes 46 [.aload_n 2, .iconst 0, .iconst 4] 49 = true := by decide +kernel
theorem qL_passes_50 : decB cL_passes 50 [.aload_n 0] 51 = true := by decide +kernel
theorem qL_passes_54 : decB cL_passes 54 [.iconst 1, .dup2] 56 = true := by decide +kernel
theorem qL_passes_57 : decB cL_passes 57 [.aload_n 2, .bipush 6] 60 = true := by decide +kernel
theorem qL_passes_62 : decB cL_passes 62 [.lsub] 63 = true := by decide +kernel
theorem qL_passes_64 : decB cL_passes 64 [.aload_n 0] 65 = true := by decide +kernel
theorem qL_passes_68 : decB cL_passes 68 [.iconst 0, .dup2] 70 = true := by decide +kernel
theorem qL_passes_71 : decB cL_passes 71 [.aload_n 0, .iload_n 1] 73 = true := by decide +kernel
theorem qL_passes_76 : decB cL_passes 76 [.aload_n 2, .bipush 7] 79 = true := by decide +kernel
theorem qL_passes_80 : decB cL_passes 80 [.aload_n 2, .iconst 3] 82 = true := by decide +kernel
theorem qL_passes_83 : decB cL_passes 83 [.imul, .iadd, .aload_n 2, .bipush 6] 88 = true := by decide +kernel
theorem qL_passes_89 : decB cL_passes 89 [.isub] 90 = true := by decide +kernel
theorem qL_passes_91 : decB cL_passes 91 [.lsub] 92 = true := by decide +kernel
theorem qL_passes_93 : decB cL_passes 93 [.aload_n 0] 94 = true := by decide +kernel
theorem qL_passes_97 : decB cL_passes 97 [.iconst 2, .dup2] 99 = true := by decide +kernel
theorem qL_passes_100 : decB cL_passes 100 [.aload_n 0, .iload_n 1] 102 = true := by decide +kernel
theorem qL_passes_106 : decB cL_passes 106 [.ladd] 107 = true := by decide +kernel
theorem qL_passes_108 : decB cL_passes 108 [.aload_n 0] 109 = true := by decide +kernel
theorem qL_passes_112 : decB cL_passes 112 [.iconst 3, .dup2] 114 = true := by decide +kernel
theorem qL_passes_115 : decB cL_passes 115 [.aload_n 2, .bipush 7] 118 = true := by decide +kernel
theorem qL_passes_119 : decB cL_passes 119 [.aload_n 2, .iconst 3] 121 = true := by decide +kernel
theorem qL_passes_122 : decB cL_passes 122 [.imul] 123 = true := by decide +kernel
theorem qL_passes_124 : decB cL_passes 124 [.ladd] 125 = true := by decide +kernel
theorem qL_passes_126 : decB cL_passes 126 [.aload_n 2, .iconst 0] 128 = true := by decide +kernel
theorem qL_passes_132 : decB cL_passes 132 [.aload_n 2, .bipush 9] 135 = true := by decide +kernel
theorem qL_passes_136 : decB cL_passes 136 [.aload_n 0] 137 = true := by decide +kernel
theorem qL_passes_143 : decB cL_passes 143 [.aload_n 2, .iconst 2] 145 = true := by decide +kernel
theorem qL_passes_146 : decB cL_passes 146 [.aload_n 0] 147 = true := by decide +kernel
theorem qL_passes_153 : decB cL_passes 153 [.aload_n 2, .iconst 0, .iconst 2] 156 = true := by decide +kernel
theorem qL_passes_157 : decB cL_passes 157 [.iinc 1 1, .goto (-148)] 12 = true := by decide +kernel
theorem qL_passes_163 : decB cL_passes 163 [.iconst 0, .istore_n 1] 165 = true := by decide +kernel
theorem qL_passes_165 : decB cL_passes 165 [.iload_n 1, .iconst 2] 167 = true := by decide +kernel
theorem qL_passes_170 : decB cL_passes 170 [.aload_n 0, .iload_n 1, .aload_n 0] 173 = true := by decide +kernel
theorem qL_passes_179 : decB cL_passes 179 [.aload_n 0] 180 = true := by decide +kernel
theorem qL_passes_183 : decB cL_passes 183 [.iload_n 1] 184 = true := by decide +kernel
theorem qL_passes_188 : decB cL_passes 188 [.iconst (-1), .istore_n 2, .iconst 0, .istore_n 3] 192 = true := by decide +kernel
theorem qL_passes_192 : decB cL_passes 192 [.iload_n 3, .aload_n 0] 194 = true := by decide +kernel
theorem qL_passes_200 : decB cL_passes 200 [.aload_n 0, .iload_n 3] 202 = true := by decide +kernel
theorem qL_passes_208 : decB cL_passes 208 [.aload_n 0] 209 = true := by decide +kernel
theorem qL_passes_212 : decB cL_passes 212 [.iload_n 3] 213 = true := by decide +kernel
theorem qL_passes_214 : decB cL_passes 214 [.iconst 1] 215 = true := by decide +kernel
theorem qL_passes_216 : decB cL_passes 216 [.iload_n 1] 217 = true := by decide +kernel
theorem qL_passes_220 : decB cL_passes 220 [.aload_n 0] 221 = true := by decide +kernel
theorem qL_passes_224 : decB cL_passes 224 [.iload_n 3] 225 = true := by decide +kernel
theorem qL_passes_226 : decB cL_passes 226 [.iconst 2] 227 = true := by decide +kernel
theorem qL_passes_228 : decB cL_passes 228 [.aload_n 0] 229 = true := by decide +kernel
theorem qL_passes_235 : decB cL_passes 235 [.aload_n 0] 236 = true := by decide +kernel
theorem qL_passes_239 : decB cL_passes 239 [.aload_n 0, .iload_n 3] 241 = true := by decide +kernel
theorem qL_passes_247 : decB cL_passes 247 [.iload_n 2] 248 = true := by decide +kernel
theorem qL_passes_251 : decB cL_passes 251 [.aload_n 0] 252 = true := by decide +kernel
theorem qL_passes_255 : decB cL_passes 255 [.iload_n 3] 256 = true := by decide +kernel
theorem qL_passes_257 : decB cL_passes 257 [.iconst 2] 258 = true := by decide +kernel
theorem qL_passes_259 : decB cL_passes 259 [.aload_n 0] 260 = true := by decide +kernel
theorem qL_passes_263 : decB cL_passes 263 [.iload_n 2] 264 = true := by decide +kernel
theorem qL_passes_265 : decB cL_passes 265 [.iconst 2] 266 = true := by decide +kernel
theorem qL_passes_270 : decB cL_passes 270 [.iload_n 3, .istore_n 2] 272 = true := by decide +kernel
theorem qL_passes_272 : decB cL_passes 272 [.iinc 3 1, .goto (-83)] 192 = true := by decide +kernel
theorem qL_passes_278 : decB cL_passes 278 [.aload_n 0] 279 = true := by decide +kernel
theorem qL_passes_282 : decB cL_passes 282 [.iload_n 2] 283 = true := by decide +kernel
theorem qL_passes_284 : decB cL_passes 284 [.iconst 0, .iconst 3] 286 = true := by decide +kernel
theorem qL_passes_287 : decB cL_passes 287 [.aload_n 0] 288 = true := by decide +kernel
theorem qL_passes_291 : decB cL_passes 291 [.iconst 1, .dup2] 293 = true := by decide +kernel
theorem qL_passes_294 : decB cL_passes 294 [.aload_n 0] 295 = true := by decide +kernel
theorem qL_passes_298 : decB cL_passes 298 [.iload_n 2] 299 = true := by decide +kernel
theorem qL_passes_300 : decB cL_passes 300 [.bipush 6] 302 = true := by decide +kernel
theorem qL_passes_304 : decB cL_passes 304 [.lsub] 305 = true := by decide +kernel
theorem qL_passes_306 : decB cL_passes 306 [.aload_n 0] 307 = true := by decide +kernel
theorem qL_passes_310 : decB cL_passes 310 [.iconst 0, .dup2] 312 = true := by decide +kernel
theorem qL_passes_313 : decB cL_passes 313 [.aload_n 0] 314 = true := by decide +kernel
theorem qL_passes_317 : decB cL_passes 317 [.iload_n 2] 318 = true := by decide +kernel
theorem qL_passes_319 : decB cL_passes 319 [.bipush 6] 321 = true := by decide +kernel
theorem qL_passes_323 : decB cL_passes 323 [.ladd] 324 = true := by decide +kernel
theorem qL_passes_325 : decB cL_passes 325 [.goto (-155)] 170 = true := by decide +kernel
theorem qL_passes_328 : decB cL_passes 328 [.iinc 1 1, .goto (-166)] 165 = true := by decide +kernel
theorem qL_passes_334 : decB cL_passes 334 [.aload_n 0] 335 = true := by decide +kernel
theorem qL_passes_338 : decB cL_passes 338 [.istore_n 1, .aload_n 0] 340 = true := by decide +kernel
theorem qL_passes_343 : decB cL_passes 343 [.iconst 1] 344 = true := by decide +kernel
theorem qL_passes_347 : decB cL_passes 347 [.aload_n 0] 348 = true := by decide +kernel
theorem qL_passes_351 : decB cL_passes 351 [.aload_n 0] 352 = true := by decide +kernel
theorem qL_passes_359 : decB cL_passes 359 [.iconst 1, .goto 4] 364 = true := by decide +kernel
theorem qL_passes_363 : decB cL_passes 363 [.iconst 0] 364 = true := by decide +kernel
theorem dL_passes_2 : decode cL_passes 2 = .ok (.getfield 114, 3) := by decide +kernel
theorem dL_passes_7 : decode cL_passes 7 = .ok (.putfield 114, 3) := by decide +kernel
theorem dL_passes_14 : decode cL_passes 14 = .ok (.getfield 56, 3) := by decide +kernel
theorem dL_passes_17 : decode cL_passes 17 = .ok (.if_icmp .ge 146, 3) := by decide +kernel
theorem dL_passes_21 : decode cL_passes 21 = .ok (.getfield 39, 3) := by decide +kernel
theorem dL_passes_25 : decode cL_passes 25 = .ok (.aaload, 1) := by decide +kernel
theorem dL_passes_29 : decode cL_passes 29 = .ok (.iaload, 1) := by decide +kernel
theorem dL_passes_31 : decode cL_passes 31 = .ok (.if_icmp .ne 95, 3) := by decide +kernel
theorem dL_passes_36 : decode cL_passes 36 = .ok (.invokevirtual 64, 3) := by decide +kernel
theorem dL_passes_40 : decode cL_passes 40 = .ok (.getfield 114, 3) := by decide +kernel
theorem dL_passes_43 : decode cL_passes 43 = .ok (.if_icmp .ge 83, 3) := by decide +kernel
theorem dL_passes_49 : decode cL_passes 49 = .ok (.iastore, 1) := by decide +kernel
theorem dL_passes_51 : decode cL_passes 51 = .ok (.getfield 48, 3) := by decide +kernel
theorem dL_passes_56 : decode cL_passes 56 = .ok (.laload, 1) := by decide +kernel
theorem dL_passes_60 : decode cL_passes 60 = .ok (.iaload, 1) := by decide +kernel
theorem dL_passes_61 : decode cL_passes 61 = .ok (.i2l, 1) := by decide +kernel
theorem dL_passes_63 : decode cL_passes 63 = .ok (.lastore, 1) := by decide +kernel
theorem dL_passes_65 : decode cL_passes 65 = .ok (.getfield 48, 3) := by decide +kernel
theorem dL_passes_70 : decode cL_passes 70 = .ok (.laload, 1) := by decide +kernel
theorem dL_passes_73 : decode cL_passes 73 = .ok (.invokevirtual 127, 3) := by decide +kernel
theorem dL_passes_79 : decode cL_passes 79 = .ok (.iaload, 1) := by decide +kernel
theorem dL_passes_82 : decode cL_passes 82 = .ok (.iaload, 1) := by decide +kernel
theorem dL_passes_88 : decode cL_passes 88 = .ok (.iaload, 1) := by decide +kernel
theorem dL_passes_90 : decode cL_passes 90 = .ok (.i2l, 1) := by decide +kernel
theorem dL_passes_92 : decode cL_passes 92 = .ok (.lastore, 1) := by decide +kernel
theorem dL_passes_94 : decode cL_passes 94 = .ok (.getfield 48, 3) := by decide +kernel
theorem dL_passes_99 : decode cL_passes 99 = .ok (.laload, 1) := by decide +kernel
theorem dL_passes_102 : decode cL_passes 102 = .ok (.invokevirtual 127, 3) := by decide +kernel
theorem dL_passes_105 : decode cL_passes 105 = .ok (.i2l, 1) := by decide +kernel
theorem dL_passes_107 : decode cL_passes 107 = .ok (.lastore, 1) := by decide +kernel
theorem dL_passes_109 : decode cL_passes 109 = .ok (.getfield 48, 3) := by decide +kernel
theorem dL_passes_114 : decode cL_passes 114 = .ok (.laload, 1) := by decide +kernel
theorem dL_passes_118 : decode cL_passes 118 = .ok (.iaload, 1) := by decide +kernel
theorem dL_passes_121 : decode cL_passes 121 = .ok (.iaload, 1) := by decide +kernel
theorem dL_passes_123 : decode cL_passes 123 = .ok (.i2l, 1) := by decide +kernel
theorem dL_passes_125 : decode cL_passes 125 = .ok (.lastore, 1) := by decide +kernel
theorem dL_passes_128 : decode cL_passes 128 = .ok (.iaload, 1) := by decide +kernel
theorem dL_passes_129 : decode cL_passes 129 = .ok (.ifCond .ne 28, 3) := by decide +kernel
theorem dL_passes_135 : decode cL_passes 135 = .ok (.iaload, 1) := by decide +kernel
theorem dL_passes_137 : decode cL_passes 137 = .ok (.getfield 114, 3) := by decide +kernel
theorem dL_passes_140 : decode cL_passes 140 = .ok (.if_icmp .lt 13, 3) := by decide +kernel
theorem dL_passes_145 : decode cL_passes 145 = .ok (.iaload, 1) := by decide +kernel
theorem dL_passes_147 : decode cL_passes 147 = .ok (.getfield 114, 3) := by decide +kernel
theorem dL_passes_150 : decode cL_passes 150 = .ok (.if_icmp .gt 7, 3) := by decide +kernel
theorem dL_passes_156 : decode cL_passes 156 = .ok (.iastore, 1) := by decide +kernel
theorem dL_passes_167 : decode cL_passes 167 = .ok (.if_icmp .ge 167, 3) := by decide +kernel
theorem dL_passes_173 : decode cL_passes 173 = .ok (.getfield 114, 3) := by decide +kernel
theorem dL_passes_176 : decode cL_passes 176 = .ok (.invokevirtual 77, 3) := by decide +kernel
theorem dL_passes_180 : decode cL_passes 180 = .ok (.getfield 23, 3) := by decide +kernel
theorem dL_passes_184 : decode cL_passes 184 = .ok (.iaload, 1) := by decide +kernel
theorem dL_passes_185 : decode cL_passes 185 = .ok (.if_icmp .le 143, 3) := by decide +kernel
theorem dL_passes_194 : decode cL_passes 194 = .ok (.getfield 56, 3) := by decide +kernel
theorem dL_passes_197 : decode cL_passes 197 = .ok (.if_icmp .ge 81, 3) := by decide +kernel
theorem dL_passes_202 : decode cL_passes 202 = .ok (.invokevirtual 60, 3) := by decide +kernel
theorem dL_passes_205 : decode cL_passes 205 = .ok (.ifCond .eq 67, 3) := by decide +kernel
theorem dL_passes_209 : decode cL_passes 209 = .ok (.getfield 39, 3) := by decide +kernel
theorem dL_passes_213 : decode cL_passes 213 = .ok (.aaload, 1) := by decide +kernel
theorem dL_passes_215 : decode cL_passes 215 = .ok (.iaload, 1) := by decide +kernel
theorem dL_passes_217 : decode cL_passes 217 = .ok (.if_icmp .ne 55, 3) := by decide +kernel
theorem dL_passes_221 : decode cL_passes 221 = .ok (.getfield 39, 3) := by decide +kernel
theorem dL_passes_225 : decode cL_passes 225 = .ok (.aaload, 1) := by decide +kernel
theorem dL_passes_227 : decode cL_passes 227 = .ok (.iaload, 1) := by decide +kernel
theorem dL_passes_229 : decode cL_passes 229 = .ok (.getfield 114, 3) := by decide +kernel
theorem dL_passes_232 : decode cL_passes 232 = .ok (.if_icmp .gt 40, 3) := by decide +kernel
theorem dL_passes_236 : decode cL_passes 236 = .ok (.getfield 114, 3) := by decide +kernel
theorem dL_passes_241 : decode cL_passes 241 = .ok (.invokevirtual 64, 3) := by decide +kernel
theorem dL_passes_244 : decode cL_passes 244 = .ok (.if_icmp .gt 28, 3) := by decide +kernel
theorem dL_passes_248 : decode cL_passes 248 = .ok (.ifCond .lt 22, 3) := by decide +kernel
theorem dL_passes_252 : decode cL_passes 252 = .ok (.getfield 39, 3) := by decide +kernel
theorem dL_passes_256 : decode cL_passes 256 = .ok (.aaload, 1) := by decide +kernel
theorem dL_passes_258 : decode cL_passes 258 = .ok (.iaload, 1) := by decide +kernel
theorem dL_passes_260 : decode cL_passes 260 = .ok (.getfield 39, 3) := by decide +kernel
theorem dL_passes_264 : decode cL_passes 264 = .ok (.aaload, 1) := by decide +kernel
theorem dL_passes_266 : decode cL_passes 266 = .ok (.iaload, 1) := by decide +kernel
theorem dL_passes_267 : decode cL_passes 267 = .ok (.if_icmp .lt 5, 3) := by decide +kernel
theorem dL_passes_279 : decode cL_passes 279 = .ok (.getfield 39, 3) := by decide +kernel
theorem dL_passes_283 : decode cL_passes 283 = .ok (.aaload, 1) := by decide +kernel
theorem dL_passes_286 : decode cL_passes 286 = .ok (.iastore, 1) := by decide +kernel
theorem dL_passes_288 : decode cL_passes 288 = .ok (.getfield 48, 3) := by decide +kernel
theorem dL_passes_293 : decode cL_passes 293 = .ok (.laload, 1) := by decide +kernel
theorem dL_passes_295 : decode cL_passes 295 = .ok (.getfield 39, 3) := by decide +kernel
theorem dL_passes_299 : decode cL_passes 299 = .ok (.aaload, 1) := by decide +kernel
theorem dL_passes_302 : decode cL_passes 302 = .ok (.iaload, 1) := by decide +kernel
theorem dL_passes_303 : decode cL_passes 303 = .ok (.i2l, 1) := by decide +kernel
theorem dL_passes_305 : decode cL_passes 305 = .ok (.lastore, 1) := by decide +kernel
theorem dL_passes_307 : decode cL_passes 307 = .ok (.getfield 48, 3) := by decide +kernel
theorem dL_passes_312 : decode cL_passes 312 = .ok (.laload, 1) := by decide +kernel
theorem dL_passes_314 : decode cL_passes 314 = .ok (.getfield 39, 3) := by decide +kernel
theorem dL_passes_318 : decode cL_passes 318 = .ok (.aaload, 1) := by decide +kernel
theorem dL_passes_321 : decode cL_passes 321 = .ok (.iaload, 1) := by decide +kernel
theorem dL_passes_322 : decode cL_passes 322 = .ok (.i2l, 1) := by decide +kernel
theorem dL_passes_324 : decode cL_passes 324 = .ok (.lastore, 1) := by decide +kernel
theorem dL_passes_335 : decode cL_passes 335 = .ok (.invokevirtual 170, 3) := by decide +kernel
theorem dL_passes_340 : decode cL_passes 340 = .ok (.getfield 10, 3) := by decide +kernel
theorem dL_passes_344 : decode cL_passes 344 = .ok (.invokevirtual 201, 3) := by decide +kernel
theorem dL_passes_348 : decode cL_passes 348 = .ok (.getfield 16, 3) := by decide +kernel
theorem dL_passes_352 : decode cL_passes 352 = .ok (.getfield 114, 3) := by decide +kernel
theorem dL_passes_355 : decode cL_passes 355 = .ok (.iaload, 1) := by decide +kernel
theorem dL_passes_356 : decode cL_passes 356 = .ok (.if_icmp .ne 7, 3) := by decide +kernel
theorem dL_passes_364 : decode cL_passes 364 = .ok (.ireturn, 1) := by decide +kernel
theorem qL_begins_0 : decB cL_begins 0 [.iconst 0, .istore_n 1] 2 = true := by decide +kernel
theorem qL_begins_2 : decB cL_begins 2 [.iload_n 1, .aload_n 0] 4 = true := by decide +kernel
theorem qL_begins_11 : decB cL_begins 11 [.aload_n 0] 12 = true := by decide +kernel
theorem qL_begins_15 : decB cL_begins 15 [.iload_n 1, .aload_n 0] 17 = true := by decide +kernel
theorem qL_begins_22 : decB cL_begins 22 [.iload_n 1] 23 = true := by decide +kernel
theorem qL_begins_27 : decB cL_begins 27 [.aload_n 0] 28 = true := by decide +kernel
theorem qL_begins_31 : decB cL_begins 31 [.iload_n 1, .aload_n 0] 33 = true := by decide +kernel
theorem qL_begins_36 : decB cL_begins 36 [.aload_n 0] 37 = true := by decide +kernel
theorem qL_begins_40 : decB cL_begins 40 [.iload_n 1] 41 = true := by decide +kernel
theorem qL_begins_46 : decB cL_begins 46 [.iload_n 1] 47 = true := by decide +kernel
theorem qL_begins_50 : decB cL_begins 50 [.aload_n 0] 51 = true := by decide +kernel
theorem qL_begins_54 : decB cL_begins 54 [.iload_n 1] 55 = true := by decide +kernel
theorem qL_begins_56 : decB cL_begins 56 [.aload_n 0] 57 = true := by decide +kernel
theorem qL_begins_60 : decB cL_begins 60 [.iload_n 1, .iconst 1, .isub] 63 = true := by decide +kernel
theorem qL_begins_64 : decB cL_begins 64 [.bipush 7] 66 = true := by decide +kernel
theorem qL_begins_67 : decB cL_begins 67 [.iconst 1, .iadd] 69 = true := by decide +kernel
theorem qL_begins_72 : decB cL_begins 72 [.aload_n 0] 73 = true := by decide +kernel
theorem qL_begins_76 : decB cL_begins 76 [.iload_n 1] 77 = true := by decide +kernel
theorem qL_begins_78 : decB cL_begins 78 [.aload_n 0] 79 = true := by decide +kernel
theorem qL_begins_82 : decB cL_begins 82 [.iload_n 1, .iconst 1, .isub] 85 = true := by decide +kernel
theorem qL_begins_89 : decB cL_begins 89 [.aload_n 0] 90 = true := by decide +kernel
theorem qL_begins_93 : decB cL_begins 93 [.aload_n 0] 94 = true := by decide +kernel
theorem qL_begins_97 : decB cL_begins 97 [.iload_n 1] 98 = true := by decide +kernel
theorem qL_begins_99 : decB cL_begins 99 [.iload_n 1] 100 = true := by decide +kernel
theorem qL_begins_109 : decB cL_begins 109 [.iconst 0] 110 = true := by decide +kernel
theorem qL_begins_111 : decB cL_begins 111 [.iinc 1 1, .goto (-112)] 2 = true := by decide +kernel
theorem qL_begins_117 : decB cL_begins 117 [.aload_n 0, .aload_n 0] 119 = true := by decide +kernel
theorem qL_begins_122 : decB cL_begins 122 [.bipush 50] 124 = true := by decide +kernel
theorem qL_begins_130 : decB cL_begins 130 [.aload_n 0, .aload_n 0] 132 = true := by decide +kernel
theorem qL_begins_135 : decB cL_begins 135 [.sipush 300] 138 = true := by decide +kernel
theorem qL_begins_144 : decB cL_begins 144 [.aload_n 0] 145 = true := by decide +kernel
theorem qL_begins_148 : decB cL_begins 148 [.aload_n 0] 149 = true := by decide +kernel
theorem qL_begins_152 : decB cL_begins 152 [.aload_n 0] 153 = true := by decide +kernel
theorem qL_begins_162 : decB cL_begins 162 [.iconst 0] 163 = true := by decide +kernel
theorem qL_begins_164 : decB cL_begins 164 [.aload_n 0] 165 = true := by decide +kernel
theorem qL_begins_168 : decB cL_begins 168 [.iconst 2] 169 = true := by decide +kernel
theorem qL_begins_175 : decB cL_begins 175 [.iconst 1] 176 = true := by decide +kernel
theorem qL_begins_177 : decB cL_begins 177 [.aload_n 0, .aload_n 0] 179 = true := by decide +kernel
theorem qL_begins_182 : decB cL_begins 182 [.aload_n 0] 183 = true := by decide +kernel
theorem qL_begins_186 : decB cL_begins 186 [.bipush 20] 188 = true := by decide +kernel
theorem qL_begins_192 : decB cL_begins 192 [.sipush 10000] 195 = true := by decide +kernel
theorem qL_begins_199 : decB cL_begins 199 [.aload_n 0, .aload_n 0] 201 = true := by decide +kernel
theorem qL_begins_204 : decB cL_begins 204 [.iconst 4] 205 = true := by decide +kernel
theorem qL_begins_211 : decB cL_begins 211 [.bipush 110, .goto 21] 234 = true := by decide +kernel
theorem qL_begins_216 : decB cL_begins 216 [.aload_n 0] 217 = true := by decide +kernel
theorem qL_begins_220 : decB cL_begins 220 [.aload_n 0] 221 = true := by decide +kernel
theorem qL_begins_224 : decB cL_begins 224 [.bipush 20] 226 = true := by decide +kernel
theorem qL_begins_230 : decB cL_begins 230 [.sipush 10000] 233 = true := by decide +kernel
theorem qL_begins_237 : decB cL_begins 237 [.aload_n 0, .aload_n 0] 239 = true := by decide +kernel
theorem qL_begins_242 : decB cL_begins 242 [.sipush 151] 245 = true := by decide +kernel
theorem qL_begins_248 : decB cL_begins 248 [.bipush 50, .isub] 251 = true := by decide +kernel
theorem qL_begins_254 : decB cL_begins 254 [.aload_n 0, .iconst 1, .aload_n 0] 257 = true := by decide +kernel
theorem qL_begins_260 : decB cL_begins 260 [.iconst 3] 261 = true := by decide +kernel
theorem qL_begins_264 : decB cL_begins 264 [.iadd] 265 = true := by decide +kernel
theorem qL_begins_268 : decB cL_begins 268 [.aload_n 0] 269 = true := by decide +kernel
theorem qL_begins_272 : decB cL_begins 272 [.aload_n 0] 273 = true := by decide +kernel
theorem qL_begins_276 : decB cL_begins 276 [.aload_n 0] 277 = true := by decide +kernel
theorem qL_begins_280 : decB cL_begins 280 [.aload_n 0] 281 = true := by decide +kernel
theorem qL_begins_284 : decB cL_begins 284 [.aload_n 0] 285 = true := by decide +kernel
theorem qL_begins_294 : decB cL_begins 294 [.iconst 1, .goto 4] 299 = true := by decide +kernel
theorem qL_begins_298 : decB cL_begins 298 [.iconst 0] 299 = true := by decide +kernel
theorem dL_begins_4 : decode cL_begins 4 = .ok (.getfield 16, 3) := by decide +kernel
theorem dL_begins_7 : decode cL_begins 7 = .ok (.arraylength, 1) := by decide +kernel
theorem dL_begins_8 : decode cL_begins 8 = .ok (.if_icmp .ge 109, 3) := by decide +kernel
theorem dL_begins_12 : decode cL_begins 12 = .ok (.getfield 16, 3) := by decide +kernel
theorem dL_begins_17 : decode cL_begins 17 = .ok (.getfield 10, 3) := by decide +kernel
theorem dL_begins_20 : decode cL_begins 20 = .ok (.ldc 204, 2) := by decide +kernel
theorem dL_begins_23 : decode cL_begins 23 = .ok (.invokevirtual 205, 3) := by decide +kernel
theorem dL_begins_26 : decode cL_begins 26 = .ok (.iastore, 1) := by decide +kernel
theorem dL_begins_28 : decode cL_begins 28 = .ok (.getfield 20, 3) := by decide +kernel
theorem dL_begins_33 : decode cL_begins 33 = .ok (.getfield 10, 3) := by decide +kernel
theorem dL_begins_37 : decode cL_begins 37 = .ok (.getfield 16, 3) := by decide +kernel
theorem dL_begins_41 : decode cL_begins 41 = .ok (.iaload, 1) := by decide +kernel
theorem dL_begins_42 : decode cL_begins 42 = .ok (.invokevirtual 208, 3) := by decide +kernel
theorem dL_begins_45 : decode cL_begins 45 = .ok (.iastore, 1) := by decide +kernel
theorem dL_begins_47 : decode cL_begins 47 = .ok (.ifCond .le 64, 3) := by decide +kernel
theorem dL_begins_51 : decode cL_begins 51 = .ok (.getfield 20, 3) := by decide +kernel
theorem dL_begins_55 : decode cL_begins 55 = .ok (.iaload, 1) := by decide +kernel
theorem dL_begins_57 : decode cL_begins 57 = .ok (.getfield 20, 3) := by decide +kernel
theorem dL_begins_63 : decode cL_begins 63 = .ok (.iaload, 1) := by decide +kernel
theorem dL_begins_66 : decode cL_begins 66 = .ok (.irem, 1) := by decide +kernel
theorem dL_begins_69 : decode cL_begins 69 = .ok (.if_icmp .ne 40, 3) := by decide +kernel
theorem dL_begins_73 : decode cL_begins 73 = .ok (.getfield 16, 3) := by decide +kernel
theorem dL_begins_77 : decode cL_begins 77 = .ok (.iaload, 1) := by decide +kernel
theorem dL_begins_79 : decode cL_begins 79 = .ok (.getfield 16, 3) := by decide +kernel
theorem dL_begins_85 : decode cL_begins 85 = .ok (.iaload, 1) := by decide +kernel
theorem dL_begins_86 : decode cL_begins 86 = .ok (.if_icmp .le 23, 3) := by decide +kernel
theorem dL_begins_90 : decode cL_begins 90 = .ok (.getfield 10, 3) := by decide +kernel
theorem dL_begins_94 : decode cL_begins 94 = .ok (.getfield 16, 3) := by decide +kernel
theorem dL_begins_98 : decode cL_begins 98 = .ok (.iaload, 1) := by decide +kernel
theorem dL_begins_100 : decode cL_begins 100 = .ok (.ineg, 1) := by decide +kernel
theorem dL_begins_101 : decode cL_begins 101 = .ok (.invokevirtual 205, 3) := by decide +kernel
theorem dL_begins_104 : decode cL_begins 104 = .ok (.ldc 204, 2) := by decide +kernel
theorem dL_begins_106 : decode cL_begins 106 = .ok (.if_icmp .eq 5, 3) := by decide +kernel
theorem dL_begins_110 : decode cL_begins 110 = .ok (.ireturn, 1) := by decide +kernel
theorem dL_begins_119 : decode cL_begins 119 = .ok (.getfield 52, 3) := by decide +kernel
theorem dL_begins_124 : decode cL_begins 124 = .ok (.invokevirtual 147, 3) := by decide +kernel
theorem dL_begins_127 : decode cL_begins 127 = .ok (.putfield 91, 3) := by decide +kernel
theorem dL_begins_132 : decode cL_begins 132 = .ok (.getfield 52, 3) := by decide +kernel
theorem dL_begins_138 : decode cL_begins 138 = .ok (.invokevirtual 147, 3) := by decide +kernel
theorem dL_begins_141 : decode cL_begins 141 = .ok (.putfield 102, 3) := by decide +kernel
theorem dL_begins_145 : decode cL_begins 145 = .ok (.getfield 10, 3) := by decide +kernel
theorem dL_begins_149 : decode cL_begins 149 = .ok (.getfield 91, 3) := by decide +kernel
theorem dL_begins_153 : decode cL_begins 153 = .ok (.getfield 102, 3) := by decide +kernel
theorem dL_begins_156 : decode cL_begins 156 = .ok (.invokevirtual 211, 3) := by decide +kernel
theorem dL_begins_159 : decode cL_begins 159 = .ok (.ifCond .eq 5, 3) := by decide +kernel
theorem dL_begins_163 : decode cL_begins 163 = .ok (.ireturn, 1) := by decide +kernel
theorem dL_begins_165 : decode cL_begins 165 = .ok (.getfield 52, 3) := by decide +kernel
theorem dL_begins_169 : decode cL_begins 169 = .ok (.invokevirtual 147, 3) := by decide +kernel
theorem dL_begins_172 : decode cL_begins 172 = .ok (.ifCond .ne 5, 3) := by decide +kernel
theorem dL_begins_176 : decode cL_begins 176 = .ok (.ireturn, 1) := by decide +kernel
theorem dL_begins_179 : decode cL_begins 179 = .ok (.getfield 16, 3) := by decide +kernel
theorem dL_begins_183 : decode cL_begins 183 = .ok (.getfield 52, 3) := by decide +kernel
theorem dL_begins_188 : decode cL_begins 188 = .ok (.invokevirtual 147, 3) := by decide +kernel
theorem dL_begins_191 : decode cL_begins 191 = .ok (.iaload, 1) := by decide +kernel
theorem dL_begins_195 : decode cL_begins 195 = .ok (.irem, 1) := by decide +kernel
theorem dL_begins_196 : decode cL_begins 196 = .ok (.putfield 71, 3) := by decide +kernel
theorem dL_begins_201 : decode cL_begins 201 = .ok (.getfield 52, 3) := by decide +kernel
theorem dL_begins_205 : decode cL_begins 205 = .ok (.invokevirtual 147, 3) := by decide +kernel
theorem dL_begins_208 : decode cL_begins 208 = .ok (.ifCond .ne 8, 3) := by decide +kernel
theorem dL_begins_217 : decode cL_begins 217 = .ok (.getfield 16, 3) := by decide +kernel
theorem dL_begins_221 : decode cL_begins 221 = .ok (.getfield 52, 3) := by decide +kernel
theorem dL_begins_226 : decode cL_begins 226 = .ok (.invokevirtual 147, 3) := by decide +kernel
theorem dL_begins_229 : decode cL_begins 229 = .ok (.iaload, 1) := by decide +kernel
theorem dL_begins_233 : decode cL_begins 233 = .ok (.irem, 1) := by decide +kernel
theorem dL_begins_234 : decode cL_begins 234 = .ok (.putfield 74, 3) := by decide +kernel
theorem dL_begins_239 : decode cL_begins 239 = .ok (.getfield 52, 3) := by decide +kernel
theorem dL_begins_245 : decode cL_begins 245 = .ok (.invokevirtual 147, 3) := by decide +kernel
theorem dL_begins_251 : decode cL_begins 251 = .ok (.putfield 88, 3) := by decide +kernel
theorem dL_begins_257 : decode cL_begins 257 = .ok (.getfield 52, 3) := by decide +kernel
theorem dL_begins_261 : decode cL_begins 261 = .ok (.invokevirtual 147, 3) := by decide +kernel
theorem dL_begins_265 : decode cL_begins 265 = .ok (.putfield 68, 3) := by decide +kernel
theorem dL_begins_269 : decode cL_begins 269 = .ok (.getfield 10, 3) := by decide +kernel
theorem dL_begins_273 : decode cL_begins 273 = .ok (.getfield 71, 3) := by decide +kernel
theorem dL_begins_277 : decode cL_begins 277 = .ok (.getfield 74, 3) := by decide +kernel
theorem dL_begins_281 : decode cL_begins 281 = .ok (.getfield 88, 3) := by decide +kernel
theorem dL_begins_285 : decode cL_begins 285 = .ok (.getfield 68, 3) := by decide +kernel
theorem dL_begins_288 : decode cL_begins 288 = .ok (.invokevirtual 214, 3) := by decide +kernel
theorem dL_begins_291 : decode cL_begins 291 = .ok (.ifCond .ne 7, 3) := by decide +kernel
theorem dL_begins_299 : decode cL_begins 299 = .ok (.ireturn, 1) := by decide +kernel
theorem qL_goesOn_0 : decB cL_goesOn 0 [.iconst 0, .istore_n 1] 2 = true := by decide +kernel
theorem qL_goesOn_2 : decB cL_goesOn 2 [.iload_n 1, .bipush 40] 5 = true := by decide +kernel
theorem qL_goesOn_8 : decB cL_goesOn 8 [.aload_n 0] 9 = true := by decide +kernel
theorem qL_goesOn_12 : decB cL_goesOn 12 [.bipush 14] 14 = true := by decide +kernel
theorem qL_goesOn_17 : decB cL_goesOn 17 [.istore_n 2, .iload_n 2, .iconst 4] 20 = true := by decide +kernel
theorem qL_goesOn_23 : decB cL_goesOn 23 [.aload_n 0] 24 = true := by decide +kernel
theorem qL_goesOn_27 : decB cL_goesOn 27 [.goto 88] 115 = true := by decide +kernel
theorem qL_goesOn_30 : decB cL_goesOn 30 [.iload_n 2, .iconst 4] 32 = true := by decide +kernel
theorem qL_goesOn_35 : decB cL_goesOn 35 [.aload_n 0] 36 = true := by decide +kernel
theorem qL_goesOn_39 : decB cL_goesOn 39 [.goto 76] 115 = true := by decide +kernel
theorem qL_goesOn_42 : decB cL_goesOn 42 [.iload_n 2, .iconst 5] 44 = true := by decide +kernel
theorem qL_goesOn_47 : decB cL_goesOn 47 [.aload_n 0] 48 = true := by decide +kernel
theorem qL_goesOn_51 : decB cL_goesOn 51 [.goto 64] 115 = true := by decide +kernel
theorem qL_goesOn_54 : decB cL_goesOn 54 [.iload_n 2, .bipush 6] 57 = true := by decide +kernel
theorem qL_goesOn_60 : decB cL_goesOn 60 [.aload_n 0] 61 = true := by decide +kernel
theorem qL_goesOn_64 : decB cL_goesOn 64 [.goto 51] 115 = true := by decide +kernel
theorem qL_goesOn_67 : decB cL_goesOn 67 [.iload_n 2, .bipush 11] 70 = true := by decide +kernel
theorem qL_goesOn_73 : decB cL_goesOn 73 [.aload_n 0, .iload_n 2, .bipush 7, .isub] 78 = true := by decide +kernel
theorem qL_goesOn_81 : decB cL_goesOn 81 [.goto 34] 115 = true := by decide +kernel
theorem qL_goesOn_84 : decB cL_goesOn 84 [.iload_n 2, .bipush 11] 87 = true := by decide +kernel
theorem qL_goesOn_90 : decB cL_goesOn 90 [.aload_n 0, .iconst 0] 92 = true := by decide +kernel
theorem qL_goesOn_95 : decB cL_goesOn 95 [.goto 20] 115 = true := by decide +kernel
theorem qL_goesOn_98 : decB cL_goesOn 98 [.iload_n 2, .bipush 12] 101 = true := by decide +kernel
theorem qL_goesOn_104 : decB cL_goesOn 104 [.aload_n 0] 105 = true := by decide +kernel
theorem qL_goesOn_108 : decB cL_goesOn 108 [.goto 7] 115 = true := by decide +kernel
theorem qL_goesOn_111 : decB cL_goesOn 111 [.aload_n 0] 112 = true := by decide +kernel
theorem qL_goesOn_115 : decB cL_goesOn 115 [.istore_n 3, .iload_n 3] 117 = true := by decide +kernel
theorem qL_goesOn_120 : decB cL_goesOn 120 [.iload_n 1, .iconst 4] 122 = true := by decide +kernel
theorem qL_goesOn_123 : decB cL_goesOn 123 [.iconst 3] 124 = true := by decide +kernel
theorem qL_goesOn_127 : decB cL_goesOn 127 [.aload_n 0] 128 = true := by decide +kernel
theorem qL_goesOn_134 : decB cL_goesOn 134 [.aload_n 0, .aload_n 0] 136 = true := by decide +kernel
theorem qL_goesOn_139 : decB cL_goesOn 139 [.iconst 2] 140 = true := by decide +kernel
theorem qL_goesOn_149 : decB cL_goesOn 149 [.iconst 0] 150 = true := by decide +kernel
theorem qL_goesOn_151 : decB cL_goesOn 151 [.iinc 1 1, .goto (-152)] 2 = true := by decide +kernel
theorem qL_goesOn_157 : decB cL_goesOn 157 [.aload_n 0] 158 = true := by decide +kernel
theorem qL_goesOn_164 : decB cL_goesOn 164 [.aload_n 0, .iconst 0] 166 = true := by decide +kernel
theorem qL_goesOn_172 : decB cL_goesOn 172 [.aload_n 0, .iconst 1] 174 = true := by decide +kernel
theorem qL_goesOn_180 : decB cL_goesOn 180 [.aload_n 0] 181 = true := by decide +kernel
theorem qL_goesOn_187 : decB cL_goesOn 187 [.aload_n 0] 188 = true := by decide +kernel
theorem qL_goesOn_197 : decB cL_goesOn 197 [.iconst 1, .goto 4] 202 = true := by decide +kernel
theorem qL_goesOn_201 : decB cL_goesOn 201 [.iconst 0] 202 = true := by decide +kernel
theorem dL_goesOn_5 : decode cL_goesOn 5 = .ok (.if_icmp .ge 152, 3) := by decide +kernel
theorem dL_goesOn_9 : decode cL_goesOn 9 = .ok (.getfield 52, 3) := by decide +kernel
theorem dL_goesOn_14 : decode cL_goesOn 14 = .ok (.invokevirtual 147, 3) := by decide +kernel
theorem dL_goesOn_20 : decode cL_goesOn 20 = .ok (.if_icmp .ge 10, 3) := by decide +kernel
theorem dL_goesOn_24 : decode cL_goesOn 24 = .ok (.invokevirtual 218, 3) := by decide +kernel
theorem dL_goesOn_32 : decode cL_goesOn 32 = .ok (.if_icmp .ne 10, 3) := by decide +kernel
theorem dL_goesOn_36 : decode cL_goesOn 36 = .ok (.invokevirtual 222, 3) := by decide +kernel
theorem dL_goesOn_44 : decode cL_goesOn 44 = .ok (.if_icmp .ne 10, 3) := by decide +kernel
theorem dL_goesOn_48 : decode cL_goesOn 48 = .ok (.invokevirtual 225, 3) := by decide +kernel
theorem dL_goesOn_57 : decode cL_goesOn 57 = .ok (.if_icmp .ne 10, 3) := by decide +kernel
theorem dL_goesOn_61 : decode cL_goesOn 61 = .ok (.invokevirtual 228, 3) := by decide +kernel
theorem dL_goesOn_70 : decode cL_goesOn 70 = .ok (.if_icmp .ge 14, 3) := by decide +kernel
theorem dL_goesOn_78 : decode cL_goesOn 78 = .ok (.invokevirtual 231, 3) := by decide +kernel
theorem dL_goesOn_87 : decode cL_goesOn 87 = .ok (.if_icmp .ne 11, 3) := by decide +kernel
theorem dL_goesOn_92 : decode cL_goesOn 92 = .ok (.invokevirtual 231, 3) := by decide +kernel
theorem dL_goesOn_101 : decode cL_goesOn 101 = .ok (.if_icmp .ne 10, 3) := by decide +kernel
theorem dL_goesOn_105 : decode cL_goesOn 105 = .ok (.invokevirtual 234, 3) := by decide +kernel
theorem dL_goesOn_112 : decode cL_goesOn 112 = .ok (.invokevirtual 237, 3) := by decide +kernel
theorem dL_goesOn_117 : decode cL_goesOn 117 = .ok (.ifCond .eq 32, 3) := by decide +kernel
theorem dL_goesOn_122 : decode cL_goesOn 122 = .ok (.irem, 1) := by decide +kernel
theorem dL_goesOn_124 : decode cL_goesOn 124 = .ok (.if_icmp .ne 27, 3) := by decide +kernel
theorem dL_goesOn_128 : decode cL_goesOn 128 = .ok (.invokevirtual 239, 3) := by decide +kernel
theorem dL_goesOn_131 : decode cL_goesOn 131 = .ok (.ifCond .eq 18, 3) := by decide +kernel
theorem dL_goesOn_136 : decode cL_goesOn 136 = .ok (.getfield 52, 3) := by decide +kernel
theorem dL_goesOn_140 : decode cL_goesOn 140 = .ok (.invokevirtual 147, 3) := by decide +kernel
theorem dL_goesOn_143 : decode cL_goesOn 143 = .ok (.invokevirtual 242, 3) := by decide +kernel
theorem dL_goesOn_146 : decode cL_goesOn 146 = .ok (.ifCond .ne 5, 3) := by decide +kernel
theorem dL_goesOn_150 : decode cL_goesOn 150 = .ok (.ireturn, 1) := by decide +kernel
theorem dL_goesOn_158 : decode cL_goesOn 158 = .ok (.invokevirtual 239, 3) := by decide +kernel
theorem dL_goesOn_161 : decode cL_goesOn 161 = .ok (.ifCond .eq 40, 3) := by decide +kernel
theorem dL_goesOn_166 : decode cL_goesOn 166 = .ok (.invokevirtual 242, 3) := by decide +kernel
theorem dL_goesOn_169 : decode cL_goesOn 169 = .ok (.ifCond .eq 32, 3) := by decide +kernel
theorem dL_goesOn_174 : decode cL_goesOn 174 = .ok (.invokevirtual 242, 3) := by decide +kernel
theorem dL_goesOn_177 : decode cL_goesOn 177 = .ok (.ifCond .eq 24, 3) := by decide +kernel
theorem dL_goesOn_181 : decode cL_goesOn 181 = .ok (.invokevirtual 245, 3) := by decide +kernel
theorem dL_goesOn_184 : decode cL_goesOn 184 = .ok (.ifCond .eq 17, 3) := by decide +kernel
theorem dL_goesOn_188 : decode cL_goesOn 188 = .ok (.getfield 10, 3) := by decide +kernel
theorem dL_goesOn_191 : decode cL_goesOn 191 = .ok (.invokevirtual 248, 3) := by decide +kernel
theorem dL_goesOn_194 : decode cL_goesOn 194 = .ok (.ifCond .ne 7, 3) := by decide +kernel
theorem dL_goesOn_202 : decode cL_goesOn 202 = .ok (.ireturn, 1) := by decide +kernel
theorem qL_isUndone_0 : decB cL_isUndone 0 [.aload_n 0] 1 = true := by decide +kernel
theorem qL_isUndone_7 : decB cL_isUndone 7 [.istore_n 1, .aload_n 0] 9 = true := by decide +kernel
theorem qL_isUndone_12 : decB cL_isUndone 12 [.iconst 0, .iconst 3] 14 = true := by decide +kernel
theorem qL_isUndone_20 : decB cL_isUndone 20 [.aload_n 0] 21 = true := by decide +kernel
theorem qL_isUndone_30 : decB cL_isUndone 30 [.aload_n 0] 31 = true := by decide +kernel
theorem qL_isUndone_37 : decB cL_isUndone 37 [.iload_n 1] 38 = true := by decide +kernel
theorem qL_isUndone_41 : decB cL_isUndone 41 [.aload_n 0] 42 = true := by decide +kernel
theorem qL_isUndone_48 : decB cL_isUndone 48 [.iconst 1, .goto 4] 53 = true := by decide +kernel
theorem qL_isUndone_52 : decB cL_isUndone 52 [.iconst 0] 53 = true := by decide +kernel
theorem dL_isUndone_1 : decode cL_isUndone 1 = .ok (.getfield 10, 3) := by decide +kernel
theorem dL_isUndone_4 : decode cL_isUndone 4 = .ok (.invokevirtual 251, 3) := by decide +kernel
theorem dL_isUndone_9 : decode cL_isUndone 9 = .ok (.getfield 10, 3) := by decide +kernel
theorem dL_isUndone_14 : decode cL_isUndone 14 = .ok (.invokevirtual 194, 3) := by decide +kernel
theorem dL_isUndone_17 : decode cL_isUndone 17 = .ok (.ifCond .lt 35, 3) := by decide +kernel
theorem dL_isUndone_21 : decode cL_isUndone 21 = .ok (.getfield 10, 3) := by decide +kernel
theorem dL_isUndone_24 : decode cL_isUndone 24 = .ok (.invokevirtual 254, 3) := by decide +kernel
theorem dL_isUndone_27 : decode cL_isUndone 27 = .ok (.ifCond .lt 25, 3) := by decide +kernel
theorem dL_isUndone_31 : decode cL_isUndone 31 = .ok (.getfield 10, 3) := by decide +kernel
theorem dL_isUndone_34 : decode cL_isUndone 34 = .ok (.invokevirtual 251, 3) := by decide +kernel
theorem dL_isUndone_38 : decode cL_isUndone 38 = .ok (.if_icmp .ne 14, 3) := by decide +kernel
theorem dL_isUndone_42 : decode cL_isUndone 42 = .ok (.invokevirtual 239, 3) := by decide +kernel
theorem dL_isUndone_45 : decode cL_isUndone 45 = .ok (.ifCond .eq 7, 3) := by decide +kernel
theorem dL_isUndone_53 : decode cL_isUndone 53 = .ok (.ireturn, 1) := by decide +kernel
theorem qL_brings_0 : decB cL_brings 0 [.iload 6, .iload_n 3] 3 = true := by decide +kernel
theorem qL_brings_6 : decB cL_brings 6 [.lconst 0, .lstore 7, .iconst 0, .istore 9] 12 = true := by decide +kernel
theorem qL_brings_12 : decB cL_brings 12 [.iload 9, .iconst 3] 15 = true := by decide +kernel
theorem qL_brings_18 : decB cL_brings 18 [.aload 5, .iload 6, .aload_n 1, .iload 9] 25 = true := by decide +kernel
theorem qL_brings_27 : decB cL_brings 27 [.aload_n 2, .iload 9] 30 = true := by decide +kernel
theorem qL_brings_34 : decB cL_brings 34 [.lload 7, .aload_n 2, .iload 9] 39 = true := by decide +kernel
theorem qL_brings_41 : decB cL_brings 41 [.aload_n 0, .aload_n 1, .aload_n 2, .iload_n 3, .iload 4, .aload 5, .iload 6, .iconst 1, .iadd] 53 = true := by decide +kernel
theorem qL_brings_56 : decB cL_brings 56 [.lmul, .ladd, .lstore 7] 60 = true := by decide +kernel
theorem qL_brings_60 : decB cL_brings 60 [.iinc 9 1, .goto (-51)] 12 = true := by decide +kernel
theorem qL_brings_66 : decB cL_brings 66 [.lload 7] 68 = true := by decide +kernel
theorem qL_brings_69 : decB cL_brings 69 [.aload_n 0] 70 = true := by decide +kernel
theorem qL_brings_73 : decB cL_brings 73 [.iload_n 3, .iload 4] 76 = true := by decide +kernel
theorem qL_brings_79 : decB cL_brings 79 [.istore 7, .iconst 0, .istore 8] 84 = true := by decide +kernel
theorem qL_brings_84 : decB cL_brings 84 [.iload 8, .iload_n 3] 87 = true := by decide +kernel
theorem qL_brings_90 : decB cL_brings 90 [.aload_n 0] 91 = true := by decide +kernel
theorem qL_brings_94 : decB cL_brings 94 [.aload 5, .iload 8] 98 = true := by decide +kernel
theorem qL_brings_102 : decB cL_brings 102 [.istore 9, .iload 8] 106 = true := by decide +kernel
theorem qL_brings_109 : decB cL_brings 109 [.iload 9] 111 = true := by decide +kernel
theorem qL_brings_114 : decB cL_brings 114 [.iconst 1, .goto 4] 119 = true := by decide +kernel
theorem qL_brings_118 : decB cL_brings 118 [.iconst 0] 119 = true := by decide +kernel
theorem qL_brings_119 : decB cL_brings 119 [.aload 5, .iload 8] 123 = true := by decide +kernel
theorem qL_brings_124 : decB cL_brings 124 [.iload 7] 126 = true := by decide +kernel
theorem qL_brings_129 : decB cL_brings 129 [.iconst 1, .goto 4] 134 = true := by decide +kernel
theorem qL_brings_133 : decB cL_brings 133 [.iconst 0] 134 = true := by decide +kernel
theorem qL_brings_141 : decB cL_brings 141 [.iinc 8 1, .goto (-60)] 84 = true := by decide +kernel
theorem qL_brings_147 : decB cL_brings 147 [.aload_n 0] 148 = true := by decide +kernel
theorem qL_brings_151 : decB cL_brings 151 [.iconst 2] 152 = true := by decide +kernel
theorem qL_brings_155 : decB cL_brings 155 [.aload_n 0] 156 = true := by decide +kernel
theorem qL_brings_159 : decB cL_brings 159 [.iconst 3] 160 = true := by decide +kernel
theorem qL_brings_169 : decB cL_brings 169 [.goto 12] 181 = true := by decide +kernel
theorem qL_brings_172 : decB cL_brings 172 [.aload_n 0] 173 = true := by decide +kernel
theorem qL_brings_176 : decB cL_brings 176 [.iconst 2] 177 = true := by decide +kernel
theorem dL_brings_3 : decode cL_brings 3 = .ok (.if_icmp .ge 66, 3) := by decide +kernel
theorem dL_brings_15 : decode cL_brings 15 = .ok (.if_icmp .ge 51, 3) := by decide +kernel
theorem dL_brings_25 : decode cL_brings 25 = .ok (.iaload, 1) := by decide +kernel
theorem dL_brings_26 : decode cL_brings 26 = .ok (.iastore, 1) := by decide +kernel
theorem dL_brings_30 : decode cL_brings 30 = .ok (.iaload, 1) := by decide +kernel
theorem dL_brings_31 : decode cL_brings 31 = .ok (.ifCond .le 29, 3) := by decide +kernel
theorem dL_brings_39 : decode cL_brings 39 = .ok (.iaload, 1) := by decide +kernel
theorem dL_brings_40 : decode cL_brings 40 = .ok (.i2l, 1) := by decide +kernel
theorem dL_brings_53 : decode cL_brings 53 = .ok (.invokevirtual 257, 3) := by decide +kernel
theorem dL_brings_68 : decode cL_brings 68 = .ok (.lreturn, 1) := by decide +kernel
theorem dL_brings_70 : decode cL_brings 70 = .ok (.getfield 10, 3) := by decide +kernel
theorem dL_brings_76 : decode cL_brings 76 = .ok (.invokevirtual 261, 3) := by decide +kernel
theorem dL_brings_87 : decode cL_brings 87 = .ok (.if_icmp .ge 60, 3) := by decide +kernel
theorem dL_brings_91 : decode cL_brings 91 = .ok (.getfield 10, 3) := by decide +kernel
theorem dL_brings_98 : decode cL_brings 98 = .ok (.iaload, 1) := by decide +kernel
theorem dL_brings_99 : decode cL_brings 99 = .ok (.invokevirtual 264, 3) := by decide +kernel
theorem dL_brings_106 : decode cL_brings 106 = .ok (.ifCond .ne 35, 3) := by decide +kernel
theorem dL_brings_111 : decode cL_brings 111 = .ok (.ifCond .lt 7, 3) := by decide +kernel
theorem dL_brings_123 : decode cL_brings 123 = .ok (.iaload, 1) := by decide +kernel
theorem dL_brings_126 : decode cL_brings 126 = .ok (.if_icmp .lt 7, 3) := by decide +kernel
theorem dL_brings_134 : decode cL_brings 134 = .ok (.if_icmp .eq 7, 3) := by decide +kernel
theorem dL_brings_137 : decode cL_brings 137 = .ok (.ldc2_w 267, 3) := by decide +kernel
theorem dL_brings_140 : decode cL_brings 140 = .ok (.lreturn, 1) := by decide +kernel
theorem dL_brings_148 : decode cL_brings 148 = .ok (.getfield 10, 3) := by decide +kernel
theorem dL_brings_152 : decode cL_brings 152 = .ok (.invokevirtual 269, 3) := by decide +kernel
theorem dL_brings_156 : decode cL_brings 156 = .ok (.getfield 10, 3) := by decide +kernel
theorem dL_brings_160 : decode cL_brings 160 = .ok (.invokevirtual 269, 3) := by decide +kernel
theorem dL_brings_163 : decode cL_brings 163 = .ok (.if_icmp .le 9, 3) := by decide +kernel
theorem dL_brings_166 : decode cL_brings 166 = .ok (.ldc2_w 267, 3) := by decide +kernel
theorem dL_brings_173 : decode cL_brings 173 = .ok (.getfield 10, 3) := by decide +kernel
theorem dL_brings_177 : decode cL_brings 177 = .ok (.invokevirtual 269, 3) := by decide +kernel
theorem dL_brings_180 : decode cL_brings 180 = .ok (.i2l, 1) := by decide +kernel
theorem dL_brings_181 : decode cL_brings 181 = .ok (.lreturn, 1) := by decide +kernel
theorem qL_areOffers_0 : decB cL_areOffers 0 [.iconst 3] 1 = true := by decide +kernel
theorem qL_areOffers_3 : decB cL_areOffers 3 [.dup, .iconst 0, .aload_n 0] 6 = true := by decide +kernel
theorem qL_areOffers_9 : decB cL_areOffers 9 [.sipush 500] 12 = true := by decide +kernel
theorem qL_areOffers_16 : decB cL_areOffers 16 [.dup, .iconst 1, .aload_n 0] 19 = true := by decide +kernel
theorem qL_areOffers_22 : decB cL_areOffers 22 [.sipush 2000] 25 = true := by decide +kernel
theorem qL_areOffers_29 : decB cL_areOffers 29 [.dup, .iconst 2, .iconst 0] 32 = true := by decide +kernel
theorem qL_areOffers_33 : decB cL_areOffers 33 [.astore_n 1, .iconst 3] 35 = true := by decide +kernel
theorem qL_areOffers_37 : decB cL_areOffers 37 [.dup, .iconst 0, .aload_n 0] 40 = true := by decide +kernel
theorem qL_areOffers_43 : decB cL_areOffers 43 [.sipush 500] 46 = true := by decide +kernel
theorem qL_areOffers_50 : decB cL_areOffers 50 [.dup, .iconst 1, .aload_n 0] 53 = true := by decide +kernel
theorem qL_areOffers_56 : decB cL_areOffers 56 [.sipush 500] 59 = true := by decide +kernel
theorem qL_areOffers_63 : decB cL_areOffers 63 [.dup, .iconst 2, .iconst 0] 66 = true := by decide +kernel
theorem qL_areOffers_67 : decB cL_areOffers 67 [.astore_n 2, .aload_n 2, .iconst 2, .sipush 1000, .aload_n 2, .iconst 0] 75 = true := by decide +kernel
theorem qL_areOffers_76 : decB cL_areOffers 76 [.isub, .aload_n 2, .iconst 1] 79 = true := by decide +kernel
theorem qL_areOffers_80 : decB cL_areOffers 80 [.isub] 81 = true := by decide +kernel
theorem qL_areOffers_82 : decB cL_areOffers 82 [.aload_n 0] 83 = true := by decide +kernel
theorem qL_areOffers_86 : decB cL_areOffers 86 [.iconst 0, .aload_n 1, .iconst 0] 89 = true := by decide +kernel
theorem qL_areOffers_90 : decB cL_areOffers 90 [.aload_n 2, .iconst 0] 92 = true := by decide +kernel
theorem qL_areOffers_96 : decB cL_areOffers 96 [.aload_n 2, .iconst 0] 98 = true := by decide +kernel
theorem qL_areOffers_102 : decB cL_areOffers 102 [.aload_n 0] 103 = true := by decide +kernel
theorem qL_areOffers_106 : decB cL_areOffers 106 [.iconst 3, .aload_n 1, .iconst 1] 109 = true := by decide +kernel
theorem qL_areOffers_110 : decB cL_areOffers 110 [.aload_n 2, .iconst 1] 112 = true := by decide +kernel
theorem qL_areOffers_116 : decB cL_areOffers 116 [.aload_n 2, .iconst 0] 118 = true := by decide +kernel
theorem qL_areOffers_119 : decB cL_areOffers 119 [.aload_n 2, .iconst 1] 121 = true := by decide +kernel
theorem qL_areOffers_122 : decB cL_areOffers 122 [.iadd] 123 = true := by decide +kernel
theorem qL_areOffers_126 : decB cL_areOffers 126 [.iconst 0] 127 = true := by decide +kernel
theorem qL_areOffers_128 : decB cL_areOffers 128 [.iconst 1, .aload_n 0] 130 = true := by decide +kernel
theorem qL_areOffers_133 : decB cL_areOffers 133 [.iconst 3] 134 = true := by decide +kernel
theorem qL_areOffers_137 : decB cL_areOffers 137 [.iadd, .istore_n 3, .iconst 1, .aload_n 0] 141 = true := by decide +kernel
theorem qL_areOffers_144 : decB cL_areOffers 144 [.iconst 3] 145 = true := by decide +kernel
theorem qL_areOffers_148 : decB cL_areOffers 148 [.iadd, .istore 4, .aload_n 0, .aload_n 1, .aload_n 2, .iload_n 3, .iload 4, .iconst 3] 158 = true := by decide +kernel
theorem qL_areOffers_160 : decB cL_areOffers 160 [.iconst 0] 161 = true := by decide +kernel
theorem qL_areOffers_164 : decB cL_areOffers 164 [.aload_n 0] 165 = true := by decide +kernel
theorem qL_areOffers_168 : decB cL_areOffers 168 [.iload_n 3, .iload 4] 171 = true := by decide +kernel
theorem qL_areOffers_178 : decB cL_areOffers 178 [.iconst 0] 179 = true := by decide +kernel
theorem qL_areOffers_180 : decB cL_areOffers 180 [.iconst 1, .istore 5] 183 = true := by decide +kernel
theorem qL_areOffers_183 : decB cL_areOffers 183 [.iload 5, .iconst 4] 186 = true := by decide +kernel
theorem qL_areOffers_189 : decB cL_areOffers 189 [.iconst 0, .istore 6] 192 = true := by decide +kernel
theorem qL_areOffers_192 : decB cL_areOffers 192 [.iload 6, .iconst 4] 195 = true := by decide +kernel
theorem qL_areOffers_198 : decB cL_areOffers 198 [.aload_n 0] 199 = true := by decide +kernel
theorem qL_areOffers_202 : decB cL_areOffers 202 [.iload 5, .iload 6, .iconst 1, .iadd] 208 = true := by decide +kernel
theorem qL_areOffers_211 : decB cL_areOffers 211 [.aload_n 0] 212 = true := by decide +kernel
theorem qL_areOffers_215 : decB cL_areOffers 215 [.iload 5, .iload 6] 219 = true := by decide +kernel
theorem qL_areOffers_222 : decB cL_areOffers 222 [.lsub, .lstore 7, .aload_n 0] 226 = true := by decide +kernel
theorem qL_areOffers_229 : decB cL_areOffers 229 [.iload 5, .iload 6, .iconst 2, .iadd, .iconst 5] 236 = true := by decide +kernel
theorem qL_areOffers_239 : decB cL_areOffers 239 [.iconst 5, .goto 7] 247 = true := by decide +kernel
theorem qL_areOffers_243 : decB cL_areOffers 243 [.iload 6, .iconst 2, .iadd] 247 = true := by decide +kernel
theorem qL_areOffers_250 : decB cL_areOffers 250 [.aload_n 0] 251 = true := by decide +kernel
theorem qL_areOffers_254 : decB cL_areOffers 254 [.iload 5, .iload 6, .iconst 1, .iadd] 260 = true := by decide +kernel
theorem qL_areOffers_263 : decB cL_areOffers 263 [.lsub, .lload 7] 266 = true := by decide +kernel
theorem qL_areOffers_273 : decB cL_areOffers 273 [.aload_n 0] 274 = true := by decide +kernel
theorem qL_areOffers_277 : decB cL_areOffers 277 [.iload 5, .iconst 1, .isub, .iload 6, .iconst 1, .iadd] 285 = true := by decide +kernel
theorem qL_areOffers_288 : decB cL_areOffers 288 [.aload_n 0] 289 = true := by decide +kernel
theorem qL_areOffers_292 : decB cL_areOffers 292 [.iload 5, .iconst 1, .isub, .iload 6] 298 = true := by decide +kernel
theorem qL_areOffers_301 : decB cL_areOffers 301 [.lsub, .lmul, .lload 7] 305 = true := by decide +kernel
theorem qL_areOffers_309 : decB cL_areOffers 309 [.iconst 0] 310 = true := by decide +kernel
theorem qL_areOffers_311 : decB cL_areOffers 311 [.iinc 6 1, .goto (-122)] 192 = true := by decide +kernel
theorem qL_areOffers_317 : decB cL_areOffers 317 [.iinc 5 1, .goto (-137)] 183 = true := by decide +kernel
theorem qL_areOffers_323 : decB cL_areOffers 323 [.aload_n 0] 324 = true := by decide +kernel
theorem dL_areOffers_1 : decode cL_areOffers 1 = .ok (.newarray .int, 2) := by decide +kernel
theorem dL_areOffers_6 : decode cL_areOffers 6 = .ok (.getfield 52, 3) := by decide +kernel
theorem dL_areOffers_12 : decode cL_areOffers 12 = .ok (.invokevirtual 147, 3) := by decide +kernel
theorem dL_areOffers_15 : decode cL_areOffers 15 = .ok (.iastore, 1) := by decide +kernel
theorem dL_areOffers_19 : decode cL_areOffers 19 = .ok (.getfield 52, 3) := by decide +kernel
theorem dL_areOffers_25 : decode cL_areOffers 25 = .ok (.invokevirtual 147, 3) := by decide +kernel
theorem dL_areOffers_28 : decode cL_areOffers 28 = .ok (.iastore, 1) := by decide +kernel
theorem dL_areOffers_32 : decode cL_areOffers 32 = .ok (.iastore, 1) := by decide +kernel
theorem dL_areOffers_35 : decode cL_areOffers 35 = .ok (.newarray .int, 2) := by decide +kernel
theorem dL_areOffers_40 : decode cL_areOffers 40 = .ok (.getfield 52, 3) := by decide +kernel
theorem dL_areOffers_46 : decode cL_areOffers 46 = .ok (.invokevirtual 147, 3) := by decide +kernel
theorem dL_areOffers_49 : decode cL_areOffers 49 = .ok (.iastore, 1) := by decide +kernel
theorem dL_areOffers_53 : decode cL_areOffers 53 = .ok (.getfield 52, 3) := by decide +kernel
theorem dL_areOffers_59 : decode cL_areOffers 59 = .ok (.invokevirtual 147, 3) := by decide +kernel
theorem dL_areOffers_62 : decode cL_areOffers 62 = .ok (.iastore, 1) := by decide +kernel
theorem dL_areOffers_66 : decode cL_areOffers 66 = .ok (.iastore, 1) := by decide +kernel
theorem dL_areOffers_75 : decode cL_areOffers 75 = .ok (.iaload, 1) := by decide +kernel
theorem dL_areOffers_79 : decode cL_areOffers 79 = .ok (.iaload, 1) := by decide +kernel
theorem dL_areOffers_81 : decode cL_areOffers 81 = .ok (.iastore, 1) := by decide +kernel
theorem dL_areOffers_83 : decode cL_areOffers 83 = .ok (.getfield 10, 3) := by decide +kernel
theorem dL_areOffers_89 : decode cL_areOffers 89 = .ok (.iaload, 1) := by decide +kernel
theorem dL_areOffers_92 : decode cL_areOffers 92 = .ok (.iaload, 1) := by decide +kernel
theorem dL_areOffers_93 : decode cL_areOffers 93 = .ok (.invokevirtual 272, 3) := by decide +kernel
theorem dL_areOffers_98 : decode cL_areOffers 98 = .ok (.iaload, 1) := by decide +kernel
theorem dL_areOffers_99 : decode cL_areOffers 99 = .ok (.if_icmp .ne 27, 3) := by decide +kernel
theorem dL_areOffers_103 : decode cL_areOffers 103 = .ok (.getfield 10, 3) := by decide +kernel
theorem dL_areOffers_109 : decode cL_areOffers 109 = .ok (.iaload, 1) := by decide +kernel
theorem dL_areOffers_112 : decode cL_areOffers 112 = .ok (.iaload, 1) := by decide +kernel
theorem dL_areOffers_113 : decode cL_areOffers 113 = .ok (.invokevirtual 272, 3) := by decide +kernel
theorem dL_areOffers_118 : decode cL_areOffers 118 = .ok (.iaload, 1) := by decide +kernel
theorem dL_areOffers_121 : decode cL_areOffers 121 = .ok (.iaload, 1) := by decide +kernel
theorem dL_areOffers_123 : decode cL_areOffers 123 = .ok (.if_icmp .eq 5, 3) := by decide +kernel
theorem dL_areOffers_127 : decode cL_areOffers 127 = .ok (.ireturn, 1) := by decide +kernel
theorem dL_areOffers_130 : decode cL_areOffers 130 = .ok (.getfield 52, 3) := by decide +kernel
theorem dL_areOffers_134 : decode cL_areOffers 134 = .ok (.invokevirtual 147, 3) := by decide +kernel
theorem dL_areOffers_141 : decode cL_areOffers 141 = .ok (.getfield 52, 3) := by decide +kernel
theorem dL_areOffers_145 : decode cL_areOffers 145 = .ok (.invokevirtual 147, 3) := by decide +kernel
theorem dL_areOffers_158 : decode cL_areOffers 158 = .ok (.newarray .int, 2) := by decide +kernel
theorem dL_areOffers_161 : decode cL_areOffers 161 = .ok (.invokevirtual 257, 3) := by decide +kernel
theorem dL_areOffers_165 : decode cL_areOffers 165 = .ok (.getfield 10, 3) := by decide +kernel
theorem dL_areOffers_171 : decode cL_areOffers 171 = .ok (.invokevirtual 275, 3) := by decide +kernel
theorem dL_areOffers_174 : decode cL_areOffers 174 = .ok (.lcmp, 1) := by decide +kernel
theorem dL_areOffers_175 : decode cL_areOffers 175 = .ok (.ifCond .eq 5, 3) := by decide +kernel
theorem dL_areOffers_179 : decode cL_areOffers 179 = .ok (.ireturn, 1) := by decide +kernel
theorem dL_areOffers_186 : decode cL_areOffers 186 = .ok (.if_icmp .gt 137, 3) := by decide +kernel
theorem dL_areOffers_195 : decode cL_areOffers 195 = .ok (.if_icmp .ge 122, 3) := by decide +kernel
theorem dL_areOffers_199 : decode cL_areOffers 199 = .ok (.getfield 10, 3) := by decide +kernel
theorem dL_areOffers_208 : decode cL_areOffers 208 = .ok (.invokevirtual 275, 3) := by decide +kernel
theorem dL_areOffers_212 : decode cL_areOffers 212 = .ok (.getfield 10, 3) := by decide +kernel
theorem dL_areOffers_219 : decode cL_areOffers 219 = .ok (.invokevirtual 275, 3) := by decide +kernel
theorem dL_areOffers_226 : decode cL_areOffers 226 = .ok (.getfield 10, 3) := by decide +kernel
theorem dL_areOffers_236 : decode cL_areOffers 236 = .ok (.if_icmp .le 7, 3) := by decide +kernel
theorem dL_areOffers_247 : decode cL_areOffers 247 = .ok (.invokevirtual 275, 3) := by decide +kernel
theorem dL_areOffers_251 : decode cL_areOffers 251 = .ok (.getfield 10, 3) := by decide +kernel
theorem dL_areOffers_260 : decode cL_areOffers 260 = .ok (.invokevirtual 275, 3) := by decide +kernel
theorem dL_areOffers_266 : decode cL_areOffers 266 = .ok (.lcmp, 1) := by decide +kernel
theorem dL_areOffers_267 : decode cL_areOffers 267 = .ok (.ifCond .gt 42, 3) := by decide +kernel
theorem dL_areOffers_270 : decode cL_areOffers 270 = .ok (.ldc2_w 279, 3) := by decide +kernel
theorem dL_areOffers_274 : decode cL_areOffers 274 = .ok (.getfield 10, 3) := by decide +kernel
theorem dL_areOffers_285 : decode cL_areOffers 285 = .ok (.invokevirtual 275, 3) := by decide +kernel
theorem dL_areOffers_289 : decode cL_areOffers 289 = .ok (.getfield 10, 3) := by decide +kernel
theorem dL_areOffers_298 : decode cL_areOffers 298 = .ok (.invokevirtual 275, 3) := by decide +kernel
theorem dL_areOffers_305 : decode cL_areOffers 305 = .ok (.lcmp, 1) := by decide +kernel
theorem dL_areOffers_306 : decode cL_areOffers 306 = .ok (.ifCond .le 5, 3) := by decide +kernel
theorem dL_areOffers_310 : decode cL_areOffers 310 = .ok (.ireturn, 1) := by decide +kernel
theorem dL_areOffers_324 : decode cL_areOffers 324 = .ok (.invokevirtual 281, 3) := by decide +kernel
theorem dL_areOffers_327 : decode cL_areOffers 327 = .ok (.ireturn, 1) := by decide +kernel
theorem qL_areSold_0 : decB cL_areSold 0 [.aload_n 0] 1 = true := by decide +kernel
theorem qL_areSold_4 : decB cL_areSold 4 [.iconst 2] 5 = true := by decide +kernel
theorem qL_areSold_8 : decB cL_areSold 8 [.istore_n 1, .bipush 10, .aload_n 0] 12 = true := by decide +kernel
theorem qL_areSold_15 : decB cL_areSold 15 [.bipush 101] 17 = true := by decide +kernel
theorem qL_areSold_20 : decB cL_areSold 20 [.imul, .istore_n 2, .aload_n 0] 23 = true := by decide +kernel
theorem qL_areSold_26 : decB cL_areSold 26 [.sipush 1001] 29 = true := by decide +kernel
theorem qL_areSold_32 : decB cL_areSold 32 [.istore_n 3, .iconst 0, .istore 4, .iconst 1, .istore 5] 39 = true := by decide +kernel
theorem qL_areSold_39 : decB cL_areSold 39 [.iload 5, .iconst 3] 42 = true := by decide +kernel
theorem qL_areSold_45 : decB cL_areSold 45 [.aload_n 0] 46 = true := by decide +kernel
theorem qL_areSold_49 : decB cL_areSold 49 [.iload_n 1] 50 = true := by decide +kernel
theorem qL_areSold_51 : decB cL_areSold 51 [.iload 5, .iadd, .istore 6, .lconst 0, .lstore 7, .lconst 1, .lstore 9, .iconst 0, .istore 11] 65 = true := by decide +kernel
theorem qL_areSold_65 : decB cL_areSold 65 [.iload 11, .iload 6] 69 = true := by decide +kernel
theorem qL_areSold_72 : decB cL_areSold 72 [.lload 9] 74 = true := by decide +kernel
theorem qL_areSold_77 : decB cL_areSold 77 [.lmul, .lstore 9, .iinc 11 1, .goto (-18)] 65 = true := by decide +kernel
theorem qL_areSold_86 : decB cL_areSold 86 [.iconst 0, .istore 11] 89 = true := by decide +kernel
theorem qL_areSold_89 : decB cL_areSold 89 [.iload 11, .iconst 1, .iload 6] 94 = true := by decide +kernel
theorem qL_areSold_98 : decB cL_areSold 98 [.iload 11] 100 = true := by decide +kernel
theorem qL_areSold_103 : decB cL_areSold 103 [.aload_n 0] 104 = true := by decide +kernel
theorem qL_areSold_107 : decB cL_areSold 107 [.iload_n 1] 108 = true := by decide +kernel
theorem qL_areSold_112 : decB cL_areSold 112 [.goto 61] 173 = true := by decide +kernel
theorem qL_areSold_115 : decB cL_areSold 115 [.lconst 1, .lstore 12, .iconst 0, .istore 14] 121 = true := by decide +kernel
theorem qL_areSold_121 : decB cL_areSold 121 [.iload 14, .iload 6] 125 = true := by decide +kernel
theorem qL_areSold_128 : decB cL_areSold 128 [.lload 12, .iload 11, .iload 14] 134 = true := by decide +kernel
theorem qL_areSold_135 : decB cL_areSold 135 [.iconst 1] 136 = true := by decide +kernel
theorem qL_areSold_137 : decB cL_areSold 137 [.iconst 1] 138 = true := by decide +kernel
theorem qL_areSold_141 : decB cL_areSold 141 [.iload_n 2, .bipush 10] 144 = true := by decide +kernel
theorem qL_areSold_146 : decB cL_areSold 146 [.goto 11] 157 = true := by decide +kernel
theorem qL_areSold_149 : decB cL_areSold 149 [.bipush 100, .iload_n 2, .bipush 10] 154 = true := by decide +kernel
theorem qL_areSold_155 : decB cL_areSold 155 [.isub] 156 = true := by decide +kernel
theorem qL_areSold_157 : decB cL_areSold 157 [.lmul, .lstore 12, .iinc 14 1, .goto (-42)] 121 = true := by decide +kernel
theorem qL_areSold_166 : decB cL_areSold 166 [.lload 7, .lload 12, .ladd, .lstore 7] 173 = true := by decide +kernel
theorem qL_areSold_173 : decB cL_areSold 173 [.iinc 11 1, .goto (-87)] 89 = true := by decide +kernel
theorem qL_areSold_179 : decB cL_areSold 179 [.lload 7] 181 = true := by decide +kernel
theorem qL_areSold_184 : decB cL_areSold 184 [.lmul, .iload_n 3] 186 = true := by decide +kernel
theorem qL_areSold_187 : decB cL_areSold 187 [.lload 9, .lmul] 190 = true := by decide +kernel
theorem qL_areSold_194 : decB cL_areSold 194 [.iload 5, .goto 5] 201 = true := by decide +kernel
theorem qL_areSold_199 : decB cL_areSold 199 [.iload 4] 201 = true := by decide +kernel
theorem qL_areSold_201 : decB cL_areSold 201 [.istore 4, .iinc 5 1, .goto (-167)] 39 = true := by decide +kernel
theorem qL_areSold_209 : decB cL_areSold 209 [.aload_n 0] 210 = true := by decide +kernel
theorem qL_areSold_213 : decB cL_areSold 213 [.iload_n 1, .iload_n 2, .iload_n 3] 216 = true := by decide +kernel
theorem qL_areSold_219 : decB cL_areSold 219 [.iload 4] 221 = true := by decide +kernel
theorem qL_areSold_224 : decB cL_areSold 224 [.iconst 1, .goto 4] 229 = true := by decide +kernel
theorem qL_areSold_228 : decB cL_areSold 228 [.iconst 0] 229 = true := by decide +kernel
theorem dL_areSold_1 : decode cL_areSold 1 = .ok (.getfield 52, 3) := by decide +kernel
theorem dL_areSold_5 : decode cL_areSold 5 = .ok (.invokevirtual 147, 3) := by decide +kernel
theorem dL_areSold_12 : decode cL_areSold 12 = .ok (.getfield 52, 3) := by decide +kernel
theorem dL_areSold_17 : decode cL_areSold 17 = .ok (.invokevirtual 147, 3) := by decide +kernel
theorem dL_areSold_23 : decode cL_areSold 23 = .ok (.getfield 52, 3) := by decide +kernel
theorem dL_areSold_29 : decode cL_areSold 29 = .ok (.invokevirtual 147, 3) := by decide +kernel
theorem dL_areSold_42 : decode cL_areSold 42 = .ok (.if_icmp .gt 167, 3) := by decide +kernel
theorem dL_areSold_46 : decode cL_areSold 46 = .ok (.getfield 23, 3) := by decide +kernel
theorem dL_areSold_50 : decode cL_areSold 50 = .ok (.iaload, 1) := by decide +kernel
theorem dL_areSold_69 : decode cL_areSold 69 = .ok (.if_icmp .ge 17, 3) := by decide +kernel
theorem dL_areSold_74 : decode cL_areSold 74 = .ok (.ldc2_w 284, 3) := by decide +kernel
theorem dL_areSold_94 : decode cL_areSold 94 = .ok (.ishl, 1) := by decide +kernel
theorem dL_areSold_95 : decode cL_areSold 95 = .ok (.if_icmp .ge 84, 3) := by decide +kernel
theorem dL_areSold_100 : decode cL_areSold 100 = .ok (.invokestatic 286, 3) := by decide +kernel
theorem dL_areSold_104 : decode cL_areSold 104 = .ok (.getfield 23, 3) := by decide +kernel
theorem dL_areSold_108 : decode cL_areSold 108 = .ok (.iaload, 1) := by decide +kernel
theorem dL_areSold_109 : decode cL_areSold 109 = .ok (.if_icmp .gt 6, 3) := by decide +kernel
theorem dL_areSold_125 : decode cL_areSold 125 = .ok (.if_icmp .ge 41, 3) := by decide +kernel
theorem dL_areSold_134 : decode cL_areSold 134 = .ok (.ishr, 1) := by decide +kernel
theorem dL_areSold_136 : decode cL_areSold 136 = .ok (.iand, 1) := by decide +kernel
theorem dL_areSold_138 : decode cL_areSold 138 = .ok (.if_icmp .ne 11, 3) := by decide +kernel
theorem dL_areSold_144 : decode cL_areSold 144 = .ok (.idiv, 1) := by decide +kernel
theorem dL_areSold_145 : decode cL_areSold 145 = .ok (.i2l, 1) := by decide +kernel
theorem dL_areSold_154 : decode cL_areSold 154 = .ok (.idiv, 1) := by decide +kernel
theorem dL_areSold_156 : decode cL_areSold 156 = .ok (.i2l, 1) := by decide +kernel
theorem dL_areSold_181 : decode cL_areSold 181 = .ok (.ldc2_w 279, 3) := by decide +kernel
theorem dL_areSold_186 : decode cL_areSold 186 = .ok (.i2l, 1) := by decide +kernel
theorem dL_areSold_190 : decode cL_areSold 190 = .ok (.lcmp, 1) := by decide +kernel
theorem dL_areSold_191 : decode cL_areSold 191 = .ok (.ifCond .gt 8, 3) := by decide +kernel
theorem dL_areSold_210 : decode cL_areSold 210 = .ok (.getfield 10, 3) := by decide +kernel
theorem dL_areSold_216 : decode cL_areSold 216 = .ok (.invokevirtual 291, 3) := by decide +kernel
theorem dL_areSold_221 : decode cL_areSold 221 = .ok (.if_icmp .ne 7, 3) := by decide +kernel
theorem dL_areSold_229 : decode cL_areSold 229 = .ok (.ireturn, 1) := by decide +kernel
theorem qL_law_3 : decB cL_law 3 [.dup] 4 = true := by decide +kernel
theorem qL_law_7 : decB cL_law 7 [.dup, .aload_n 0] 9 = true := by decide +kernel
theorem qL_law_15 : decB cL_law 15 [.astore_n 1, .aload_n 1] 17 = true := by decide +kernel
theorem qL_law_23 : decB cL_law 23 [.aload_n 1] 24 = true := by decide +kernel
theorem qL_law_30 : decB cL_law 30 [.aload_n 1] 31 = true := by decide +kernel
theorem qL_law_37 : decB cL_law 37 [.iconst 1, .goto 4] 42 = true := by decide +kernel
theorem qL_law_41 : decB cL_law 41 [.iconst 0] 42 = true := by decide +kernel
theorem dL_law_0 : decode cL_law 0 = .ok (.new 11, 3) := by decide +kernel
theorem dL_law_4 : decode cL_law 4 = .ok (.new 148, 3) := by decide +kernel
theorem dL_law_9 : decode cL_law 9 = .ok (.invokespecial 294, 3) := by decide +kernel
theorem dL_law_12 : decode cL_law 12 = .ok (.invokespecial 297, 3) := by decide +kernel
theorem dL_law_17 : decode cL_law 17 = .ok (.invokevirtual 300, 3) := by decide +kernel
theorem dL_law_20 : decode cL_law 20 = .ok (.ifCond .eq 21, 3) := by decide +kernel
theorem dL_law_24 : decode cL_law 24 = .ok (.invokevirtual 303, 3) := by decide +kernel
theorem dL_law_27 : decode cL_law 27 = .ok (.ifCond .eq 14, 3) := by decide +kernel
theorem dL_law_31 : decode cL_law 31 = .ok (.invokevirtual 306, 3) := by decide +kernel
theorem dL_law_34 : decode cL_law 34 = .ok (.ifCond .eq 7, 3) := by decide +kernel
theorem dL_law_42 : decode cL_law 42 = .ok (.ireturn, 1) := by decide +kernel
