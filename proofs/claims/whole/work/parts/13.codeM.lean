/-! decoded code (printed by wip/whole/gen13.py) -/
theorem qX12_init_0 : decB cX12_init 0 [.aload_n 0] 1 = true := by decide +kernel
theorem qX12_init_4 : decB cX12_init 4 [.aload_n 0, .sipush 5022] 8 = true := by decide +kernel
theorem qX12_init_13 : decB cX12_init 13 [.aload_n 0, .sipush 30132] 17 = true := by decide +kernel
theorem qX12_init_22 : decB cX12_init 22 [.aload_n 0, .bipush 60] 25 = true := by decide +kernel
theorem qX12_init_30 : decB cX12_init 30 [.aload_n 0, .bipush 30] 33 = true := by decide +kernel
theorem qX12_init_38 : decB cX12_init 38 [.aload_n 0, .bipush 44] 41 = true := by decide +kernel
theorem qX12_init_46 : decB cX12_init 46 [.aload_n 0] 47 = true := by decide +kernel
theorem qX12_init_50 : decB cX12_init 50 [.iconst 0] 51 = true := by decide +kernel
theorem qX12_init_57 : decB cX12_init 57 [.aload_n 0] 58 = true := by decide +kernel
theorem qX12_init_61 : decB cX12_init 61 [.iconst 1, .iconst 2] 63 = true := by decide +kernel
theorem qX12_init_64 : decB cX12_init 64 [.aload_n 0] 65 = true := by decide +kernel
theorem qX12_init_68 : decB cX12_init 68 [.bipush 31, .iconst 3] 71 = true := by decide +kernel
theorem qX12_init_72 : decB cX12_init 72 [.aload_n 0] 73 = true := by decide +kernel
theorem qX12_init_76 : decB cX12_init 76 [.bipush 32, .sipush 10000] 81 = true := by decide +kernel
theorem qX12_init_82 : decB cX12_init 82 [.aload_n 0] 83 = true := by decide +kernel
theorem qX12_init_86 : decB cX12_init 86 [.bipush 34, .iconst 1] 89 = true := by decide +kernel
theorem qX12_init_90 : decB cX12_init 90 [.aload_n 0] 91 = true := by decide +kernel
theorem qX12_init_94 : decB cX12_init 94 [.bipush 35, .sipush 25000] 99 = true := by decide +kernel
theorem dX12_init_1 : decode cX12_init 1 = .ok (.invokespecial 3, 3) := by decide +kernel
theorem dX12_init_8 : decode cX12_init 8 = .ok (.newarray .int, 2) := by decide +kernel
theorem dX12_init_10 : decode cX12_init 10 = .ok (.putfield 9, 3) := by decide +kernel
theorem dX12_init_17 : decode cX12_init 17 = .ok (.newarray .int, 2) := by decide +kernel
theorem dX12_init_19 : decode cX12_init 19 = .ok (.putfield 13, 3) := by decide +kernel
theorem dX12_init_25 : decode cX12_init 25 = .ok (.newarray .int, 2) := by decide +kernel
theorem dX12_init_27 : decode cX12_init 27 = .ok (.putfield 16, 3) := by decide +kernel
theorem dX12_init_33 : decode cX12_init 33 = .ok (.newarray .long, 2) := by decide +kernel
theorem dX12_init_35 : decode cX12_init 35 = .ok (.putfield 19, 3) := by decide +kernel
theorem dX12_init_41 : decode cX12_init 41 = .ok (.newarray .long, 2) := by decide +kernel
theorem dX12_init_43 : decode cX12_init 43 = .ok (.putfield 23, 3) := by decide +kernel
theorem dX12_init_47 : decode cX12_init 47 = .ok (.getfield 9, 3) := by decide +kernel
theorem dX12_init_51 : decode cX12_init 51 = .ok (.ldc 26, 2) := by decide +kernel
theorem dX12_init_53 : decode cX12_init 53 = .ok (.invokestatic 27, 3) := by decide +kernel
theorem dX12_init_56 : decode cX12_init 56 = .ok (.iastore, 1) := by decide +kernel
theorem dX12_init_58 : decode cX12_init 58 = .ok (.getfield 9, 3) := by decide +kernel
theorem dX12_init_63 : decode cX12_init 63 = .ok (.iastore, 1) := by decide +kernel
theorem dX12_init_65 : decode cX12_init 65 = .ok (.getfield 9, 3) := by decide +kernel
theorem dX12_init_71 : decode cX12_init 71 = .ok (.iastore, 1) := by decide +kernel
theorem dX12_init_73 : decode cX12_init 73 = .ok (.getfield 9, 3) := by decide +kernel
theorem dX12_init_81 : decode cX12_init 81 = .ok (.iastore, 1) := by decide +kernel
theorem dX12_init_83 : decode cX12_init 83 = .ok (.getfield 9, 3) := by decide +kernel
theorem dX12_init_89 : decode cX12_init 89 = .ok (.iastore, 1) := by decide +kernel
theorem dX12_init_91 : decode cX12_init 91 = .ok (.getfield 9, 3) := by decide +kernel
theorem dX12_init_99 : decode cX12_init 99 = .ok (.iastore, 1) := by decide +kernel
theorem dX12_init_100 : decode cX12_init 100 = .ok (.return_, 1) := by decide +kernel
theorem qX12_thrown_0 : decB cX12_thrown 0 [.aload_n 0] 1 = true := by decide +kernel
theorem dX12_thrown_1 : decode cX12_thrown 1 = .ok (.getfield 31, 3) := by decide +kernel
theorem dX12_thrown_4 : decode cX12_thrown 4 = .ok (.ireturn, 1) := by decide +kernel
theorem qX12_in_0 : decB cX12_in 0 [.iload_n 0, .iload_n 1] 2 = true := by decide +kernel
theorem qX12_in_5 : decB cX12_in 5 [.iload_n 0, .iload_n 2] 7 = true := by decide +kernel
theorem qX12_in_10 : decB cX12_in 10 [.iconst 1, .goto 4] 15 = true := by decide +kernel
theorem qX12_in_14 : decB cX12_in 14 [.iconst 0] 15 = true := by decide +kernel
theorem dX12_in_2 : decode cX12_in 2 = .ok (.if_icmp .lt 12, 3) := by decide +kernel
theorem dX12_in_7 : decode cX12_in 7 = .ok (.if_icmp .gt 7, 3) := by decide +kernel
theorem dX12_in_15 : decode cX12_in 15 = .ok (.ireturn, 1) := by decide +kernel
theorem qX12_fits_0 : decB cX12_fits 0 [.aload_n 0, .iload_n 1] 2 = true := by decide +kernel
theorem qX12_fits_5 : decB cX12_fits 5 [.iconst 1, .goto 20] 26 = true := by decide +kernel
theorem qX12_fits_9 : decB cX12_fits 9 [.iload_n 2] 10 = true := by decide +kernel
theorem qX12_fits_13 : decB cX12_fits 13 [.iconst 2, .goto 12] 26 = true := by decide +kernel
theorem qX12_fits_17 : decB cX12_fits 17 [.iload_n 3] 18 = true := by decide +kernel
theorem qX12_fits_21 : decB cX12_fits 21 [.iconst 3, .goto 4] 26 = true := by decide +kernel
theorem qX12_fits_25 : decB cX12_fits 25 [.iconst 0] 26 = true := by decide +kernel
theorem qX12_fits_29 : decB cX12_fits 29 [.aload_n 0] 30 = true := by decide +kernel
theorem qX12_fits_36 : decB cX12_fits 36 [.iconst 1, .goto 4] 41 = true := by decide +kernel
theorem qX12_fits_40 : decB cX12_fits 40 [.iconst 0] 41 = true := by decide +kernel
theorem dX12_fits_2 : decode cX12_fits 2 = .ok (.ifCond .ne 7, 3) := by decide +kernel
theorem dX12_fits_10 : decode cX12_fits 10 = .ok (.ifCond .ne 7, 3) := by decide +kernel
theorem dX12_fits_18 : decode cX12_fits 18 = .ok (.ifCond .ne 7, 3) := by decide +kernel
theorem dX12_fits_26 : decode cX12_fits 26 = .ok (.putfield 31, 3) := by decide +kernel
theorem dX12_fits_30 : decode cX12_fits 30 = .ok (.getfield 31, 3) := by decide +kernel
theorem dX12_fits_33 : decode cX12_fits 33 = .ok (.ifCond .ne 7, 3) := by decide +kernel
theorem dX12_fits_41 : decode cX12_fits 41 = .ok (.ireturn, 1) := by decide +kernel
theorem qX12_daysInMonth_0 : decB cX12_daysInMonth 0 [.iload_n 1, .iconst 2] 2 = true := by decide +kernel
theorem qX12_daysInMonth_5 : decB cX12_daysInMonth 5 [.iload_n 0, .iconst 4] 7 = true := by decide +kernel
theorem qX12_daysInMonth_11 : decB cX12_daysInMonth 11 [.bipush 29, .goto 38] 51 = true := by decide +kernel
theorem qX12_daysInMonth_16 : decB cX12_daysInMonth 16 [.bipush 28, .goto 33] 51 = true := by decide +kernel
theorem qX12_daysInMonth_21 : decB cX12_daysInMonth 21 [.iload_n 1, .iconst 4] 23 = true := by decide +kernel
theorem qX12_daysInMonth_26 : decB cX12_daysInMonth 26 [.iload_n 1, .bipush 6] 29 = true := by decide +kernel
theorem qX12_daysInMonth_32 : decB cX12_daysInMonth 32 [.iload_n 1, .bipush 9] 35 = true := by decide +kernel
theorem qX12_daysInMonth_38 : decB cX12_daysInMonth 38 [.iload_n 1, .bipush 11] 41 = true := by decide +kernel
theorem qX12_daysInMonth_44 : decB cX12_daysInMonth 44 [.bipush 30, .goto 5] 51 = true := by decide +kernel
theorem qX12_daysInMonth_49 : decB cX12_daysInMonth 49 [.bipush 31] 51 = true := by decide +kernel
theorem dX12_daysInMonth_2 : decode cX12_daysInMonth 2 = .ok (.if_icmp .ne 19, 3) := by decide +kernel
theorem dX12_daysInMonth_7 : decode cX12_daysInMonth 7 = .ok (.irem, 1) := by decide +kernel
theorem dX12_daysInMonth_8 : decode cX12_daysInMonth 8 = .ok (.ifCond .ne 8, 3) := by decide +kernel
theorem dX12_daysInMonth_23 : decode cX12_daysInMonth 23 = .ok (.if_icmp .eq 21, 3) := by decide +kernel
theorem dX12_daysInMonth_29 : decode cX12_daysInMonth 29 = .ok (.if_icmp .eq 15, 3) := by decide +kernel
theorem dX12_daysInMonth_35 : decode cX12_daysInMonth 35 = .ok (.if_icmp .eq 9, 3) := by decide +kernel
theorem dX12_daysInMonth_41 : decode cX12_daysInMonth 41 = .ok (.if_icmp .ne 8, 3) := by decide +kernel
theorem dX12_daysInMonth_51 : decode cX12_daysInMonth 51 = .ok (.ireturn, 1) := by decide +kernel
theorem qX12_dayOf_0 : decB cX12_dayOf 0 [.iload_n 0, .sipush 10000] 4 = true := by decide +kernel
theorem qX12_dayOf_5 : decB cX12_dayOf 5 [.istore_n 1, .iload_n 0, .bipush 100] 9 = true := by decide +kernel
theorem qX12_dayOf_10 : decB cX12_dayOf 10 [.bipush 100] 12 = true := by decide +kernel
theorem qX12_dayOf_13 : decB cX12_dayOf 13 [.istore_n 2, .iload_n 0, .bipush 100] 17 = true := by decide +kernel
theorem qX12_dayOf_18 : decB cX12_dayOf 18 [.istore_n 3, .iload_n 0] 20 = true := by decide +kernel
theorem qX12_dayOf_23 : decB cX12_dayOf 23 [.iload_n 1, .sipush 2000, .sipush 2099] 30 = true := by decide +kernel
theorem qX12_dayOf_36 : decB cX12_dayOf 36 [.iload_n 2, .iconst 1, .bipush 12] 40 = true := by decide +kernel
theorem qX12_dayOf_46 : decB cX12_dayOf 46 [.iload_n 3, .iconst 1, .iload_n 1, .iload_n 2] 50 = true := by decide +kernel
theorem qX12_dayOf_59 : decB cX12_dayOf 59 [.iconst (-1)] 60 = true := by decide +kernel
theorem qX12_dayOf_61 : decB cX12_dayOf 61 [.iload_n 3, .iconst 1, .isub, .istore 4, .sipush 2000, .istore 5] 71 = true := by decide +kernel
theorem qX12_dayOf_71 : decB cX12_dayOf 71 [.iload 5, .iload_n 1] 74 = true := by decide +kernel
theorem qX12_dayOf_77 : decB cX12_dayOf 77 [.iload 4, .iload 5, .iconst 4] 82 = true := by decide +kernel
theorem qX12_dayOf_86 : decB cX12_dayOf 86 [.sipush 366, .goto 6] 95 = true := by decide +kernel
theorem qX12_dayOf_92 : decB cX12_dayOf 92 [.sipush 365] 95 = true := by decide +kernel
theorem qX12_dayOf_95 : decB cX12_dayOf 95 [.iadd, .istore 4, .iinc 5 1, .goto (-30)] 71 = true := by decide +kernel
theorem qX12_dayOf_104 : decB cX12_dayOf 104 [.iconst 1, .istore 5] 107 = true := by decide +kernel
theorem qX12_dayOf_107 : decB cX12_dayOf 107 [.iload 5, .iload_n 2] 110 = true := by decide +kernel
theorem qX12_dayOf_113 : decB cX12_dayOf 113 [.iload 4, .iload_n 1, .iload 5] 118 = true := by decide +kernel
theorem qX12_dayOf_121 : decB cX12_dayOf 121 [.iadd, .istore 4, .iinc 5 1, .goto (-20)] 107 = true := by decide +kernel
theorem qX12_dayOf_130 : decB cX12_dayOf 130 [.iload 4] 132 = true := by decide +kernel
theorem dX12_dayOf_4 : decode cX12_dayOf 4 = .ok (.idiv, 1) := by decide +kernel
theorem dX12_dayOf_9 : decode cX12_dayOf 9 = .ok (.idiv, 1) := by decide +kernel
theorem dX12_dayOf_12 : decode cX12_dayOf 12 = .ok (.irem, 1) := by decide +kernel
theorem dX12_dayOf_17 : decode cX12_dayOf 17 = .ok (.irem, 1) := by decide +kernel
theorem dX12_dayOf_20 : decode cX12_dayOf 20 = .ok (.ifCond .lt 39, 3) := by decide +kernel
theorem dX12_dayOf_30 : decode cX12_dayOf 30 = .ok (.invokestatic 35, 3) := by decide +kernel
theorem dX12_dayOf_33 : decode cX12_dayOf 33 = .ok (.ifCond .eq 26, 3) := by decide +kernel
theorem dX12_dayOf_40 : decode cX12_dayOf 40 = .ok (.invokestatic 35, 3) := by decide +kernel
theorem dX12_dayOf_43 : decode cX12_dayOf 43 = .ok (.ifCond .eq 16, 3) := by decide +kernel
theorem dX12_dayOf_50 : decode cX12_dayOf 50 = .ok (.invokestatic 39, 3) := by decide +kernel
theorem dX12_dayOf_53 : decode cX12_dayOf 53 = .ok (.invokestatic 35, 3) := by decide +kernel
theorem dX12_dayOf_56 : decode cX12_dayOf 56 = .ok (.ifCond .ne 5, 3) := by decide +kernel
theorem dX12_dayOf_60 : decode cX12_dayOf 60 = .ok (.ireturn, 1) := by decide +kernel
theorem dX12_dayOf_74 : decode cX12_dayOf 74 = .ok (.if_icmp .ge 30, 3) := by decide +kernel
theorem dX12_dayOf_82 : decode cX12_dayOf 82 = .ok (.irem, 1) := by decide +kernel
theorem dX12_dayOf_83 : decode cX12_dayOf 83 = .ok (.ifCond .ne 9, 3) := by decide +kernel
theorem dX12_dayOf_110 : decode cX12_dayOf 110 = .ok (.if_icmp .ge 20, 3) := by decide +kernel
theorem dX12_dayOf_118 : decode cX12_dayOf 118 = .ok (.invokestatic 39, 3) := by decide +kernel
theorem dX12_dayOf_132 : decode cX12_dayOf 132 = .ok (.ireturn, 1) := by decide +kernel
theorem qX12_dateOf_0 : decB cX12_dateOf 0 [.iload_n 0, .istore_n 1, .sipush 2000, .istore_n 2] 6 = true := by decide +kernel
theorem qX12_dateOf_6 : decB cX12_dateOf 6 [.iload_n 1, .iload_n 2, .iconst 4] 9 = true := by decide +kernel
theorem qX12_dateOf_13 : decB cX12_dateOf 13 [.sipush 366, .goto 6] 22 = true := by decide +kernel
theorem qX12_dateOf_19 : decB cX12_dateOf 19 [.sipush 365] 22 = true := by decide +kernel
theorem qX12_dateOf_25 : decB cX12_dateOf 25 [.iload_n 1, .iload_n 2, .iconst 4] 28 = true := by decide +kernel
theorem qX12_dateOf_32 : decB cX12_dateOf 32 [.sipush 366, .goto 6] 41 = true := by decide +kernel
theorem qX12_dateOf_38 : decB cX12_dateOf 38 [.sipush 365] 41 = true := by decide +kernel
theorem qX12_dateOf_41 : decB cX12_dateOf 41 [.isub, .istore_n 1, .iinc 2 1, .goto (-40)] 6 = true := by decide +kernel
theorem qX12_dateOf_49 : decB cX12_dateOf 49 [.iconst 1, .istore_n 3] 51 = true := by decide +kernel
theorem qX12_dateOf_51 : decB cX12_dateOf 51 [.iload_n 1, .iload_n 2, .iload_n 3] 54 = true := by decide +kernel
theorem qX12_dateOf_60 : decB cX12_dateOf 60 [.iload_n 1, .iload_n 2, .iload_n 3] 63 = true := by decide +kernel
theorem qX12_dateOf_66 : decB cX12_dateOf 66 [.isub, .istore_n 1, .iinc 3 1, .goto (-20)] 51 = true := by decide +kernel
theorem qX12_dateOf_74 : decB cX12_dateOf 74 [.iload_n 2, .sipush 10000, .imul, .iload_n 3, .bipush 100, .imul, .iadd, .iload_n 1, .iadd, .iconst 1, .iadd] 88 = true := by decide +kernel
theorem dX12_dateOf_9 : decode cX12_dateOf 9 = .ok (.irem, 1) := by decide +kernel
theorem dX12_dateOf_10 : decode cX12_dateOf 10 = .ok (.ifCond .ne 9, 3) := by decide +kernel
theorem dX12_dateOf_22 : decode cX12_dateOf 22 = .ok (.if_icmp .lt 27, 3) := by decide +kernel
theorem dX12_dateOf_28 : decode cX12_dateOf 28 = .ok (.irem, 1) := by decide +kernel
theorem dX12_dateOf_29 : decode cX12_dateOf 29 = .ok (.ifCond .ne 9, 3) := by decide +kernel
theorem dX12_dateOf_54 : decode cX12_dateOf 54 = .ok (.invokestatic 39, 3) := by decide +kernel
theorem dX12_dateOf_57 : decode cX12_dateOf 57 = .ok (.if_icmp .lt 17, 3) := by decide +kernel
theorem dX12_dateOf_63 : decode cX12_dateOf 63 = .ok (.invokestatic 39, 3) := by decide +kernel
theorem dX12_dateOf_88 : decode cX12_dateOf 88 = .ok (.ireturn, 1) := by decide +kernel
theorem qX12_isDate_0 : decB cX12_isDate 0 [.iload_n 0] 1 = true := by decide +kernel
theorem qX12_isDate_4 : decB cX12_isDate 4 [.iconst (-1)] 5 = true := by decide +kernel
theorem qX12_isDate_8 : decB cX12_isDate 8 [.iconst 1, .goto 4] 13 = true := by decide +kernel
theorem qX12_isDate_12 : decB cX12_isDate 12 [.iconst 0] 13 = true := by decide +kernel
theorem dX12_isDate_1 : decode cX12_isDate 1 = .ok (.invokestatic 27, 3) := by decide +kernel
theorem dX12_isDate_5 : decode cX12_isDate 5 = .ok (.if_icmp .eq 7, 3) := by decide +kernel
theorem dX12_isDate_13 : decode cX12_isDate 13 = .ok (.ireturn, 1) := by decide +kernel
theorem qX12_weekday_0 : decB cX12_weekday 0 [.iload_n 0, .iconst 5, .iadd, .bipush 7] 5 = true := by decide +kernel
theorem qX12_weekday_6 : decB cX12_weekday 6 [.iconst 1, .iadd] 8 = true := by decide +kernel
theorem dX12_weekday_5 : decode cX12_weekday 5 = .ok (.irem, 1) := by decide +kernel
theorem dX12_weekday_8 : decode cX12_weekday 8 = .ok (.ireturn, 1) := by decide +kernel
theorem qX12_isKind_0 : decB cX12_isKind 0 [.iload_n 1, .iconst 0, .aload_n 0] 3 = true := by decide +kernel
theorem qX12_isKind_6 : decB cX12_isKind 6 [.iconst 1] 7 = true := by decide +kernel
theorem qX12_isKind_8 : decB cX12_isKind 8 [.iconst 1, .isub] 10 = true := by decide +kernel
theorem dX12_isKind_3 : decode cX12_isKind 3 = .ok (.getfield 9, 3) := by decide +kernel
theorem dX12_isKind_7 : decode cX12_isKind 7 = .ok (.iaload, 1) := by decide +kernel
theorem dX12_isKind_10 : decode cX12_isKind 10 = .ok (.invokestatic 35, 3) := by decide +kernel
theorem dX12_isKind_13 : decode cX12_isKind 13 = .ok (.ireturn, 1) := by decide +kernel
theorem qX12_ofKind_0 : decB cX12_ofKind 0 [.aload_n 0] 1 = true := by decide +kernel
theorem qX12_ofKind_4 : decB cX12_ofKind 4 [.bipush 31, .iload_n 1, .iconst 3, .imul, .iadd, .iload_n 2, .iadd] 12 = true := by decide +kernel
theorem dX12_ofKind_1 : decode cX12_ofKind 1 = .ok (.getfield 9, 3) := by decide +kernel
theorem dX12_ofKind_12 : decode cX12_ofKind 12 = .ok (.iaload, 1) := by decide +kernel
theorem dX12_ofKind_13 : decode cX12_ofKind 13 = .ok (.ireturn, 1) := by decide +kernel
theorem qX12_isStay_0 : decB cX12_isStay 0 [.iload_n 1, .iconst 0, .aload_n 0] 3 = true := by decide +kernel
theorem qX12_isStay_6 : decB cX12_isStay 6 [.iconst 5] 7 = true := by decide +kernel
theorem qX12_isStay_8 : decB cX12_isStay 8 [.iconst 1, .isub] 10 = true := by decide +kernel
theorem dX12_isStay_3 : decode cX12_isStay 3 = .ok (.getfield 9, 3) := by decide +kernel
theorem dX12_isStay_7 : decode cX12_isStay 7 = .ok (.iaload, 1) := by decide +kernel
theorem dX12_isStay_10 : decode cX12_isStay 10 = .ok (.invokestatic 35, 3) := by decide +kernel
theorem dX12_isStay_13 : decode cX12_isStay 13 = .ok (.ireturn, 1) := by decide +kernel
theorem qX12_of_0 : decB cX12_of 0 [.aload_n 0] 1 = true := by decide +kernel
theorem qX12_of_4 : decB cX12_of 4 [.bipush 56, .iload_n 1, .bipush 24, .imul, .iadd, .iload_n 2, .iadd] 13 = true := by decide +kernel
theorem dX12_of_1 : decode cX12_of 1 = .ok (.getfield 9, 3) := by decide +kernel
theorem dX12_of_13 : decode cX12_of 13 = .ok (.iaload, 1) := by decide +kernel
theorem dX12_of_14 : decode cX12_of 14 = .ok (.ireturn, 1) := by decide +kernel
theorem qX12_lays_0 : decB cX12_lays 0 [.aload_n 0] 1 = true := by decide +kernel
theorem qX12_lays_4 : decB cX12_lays 4 [.bipush 56, .iload_n 1, .bipush 24, .imul, .iadd, .iload_n 2, .iadd, .iload_n 3] 14 = true := by decide +kernel
theorem dX12_lays_1 : decode cX12_lays 1 = .ok (.getfield 9, 3) := by decide +kernel
theorem dX12_lays_14 : decode cX12_lays 14 = .ok (.iastore, 1) := by decide +kernel
theorem dX12_lays_15 : decode cX12_lays 15 = .ok (.return_, 1) := by decide +kernel
theorem qX12_isAlive_0 : decB cX12_isAlive 0 [.aload_n 0, .iload_n 1, .iconst 0] 3 = true := by decide +kernel
theorem qX12_isAlive_9 : decB cX12_isAlive 9 [.aload_n 0, .iload_n 1, .iconst 0] 12 = true := by decide +kernel
theorem qX12_isAlive_15 : decB cX12_isAlive 15 [.iconst 1] 16 = true := by decide +kernel
theorem qX12_isAlive_19 : decB cX12_isAlive 19 [.iconst 1, .goto 4] 24 = true := by decide +kernel
theorem qX12_isAlive_23 : decB cX12_isAlive 23 [.iconst 0] 24 = true := by decide +kernel
theorem dX12_isAlive_3 : decode cX12_isAlive 3 = .ok (.invokevirtual 43, 3) := by decide +kernel
theorem dX12_isAlive_6 : decode cX12_isAlive 6 = .ok (.ifCond .eq 13, 3) := by decide +kernel
theorem dX12_isAlive_12 : decode cX12_isAlive 12 = .ok (.invokevirtual 43, 3) := by decide +kernel
theorem dX12_isAlive_16 : decode cX12_isAlive 16 = .ok (.if_icmp .ne 7, 3) := by decide +kernel
theorem dX12_isAlive_24 : decode cX12_isAlive 24 = .ok (.ireturn, 1) := by decide +kernel
theorem qX12_last_0 : decB cX12_last 0 [.aload_n 0, .iload_n 1, .iconst 2] 3 = true := by decide +kernel
theorem qX12_last_6 : decB cX12_last 6 [.aload_n 0, .iload_n 1, .iconst 3] 9 = true := by decide +kernel
theorem qX12_last_12 : decB cX12_last 12 [.iadd, .iconst 1, .isub] 15 = true := by decide +kernel
theorem dX12_last_3 : decode cX12_last 3 = .ok (.invokevirtual 43, 3) := by decide +kernel
theorem dX12_last_9 : decode cX12_last 9 = .ok (.invokevirtual 43, 3) := by decide +kernel
theorem dX12_last_15 : decode cX12_last 15 = .ok (.ireturn, 1) := by decide +kernel
theorem qX12_has_0 : decB cX12_has 0 [.aload_n 0, .iload_n 1, .iconst 2] 3 = true := by decide +kernel
theorem qX12_has_6 : decB cX12_has 6 [.iload_n 2] 7 = true := by decide +kernel
theorem qX12_has_10 : decB cX12_has 10 [.iload_n 2, .aload_n 0, .iload_n 1] 13 = true := by decide +kernel
theorem qX12_has_19 : decB cX12_has 19 [.iconst 1, .goto 4] 24 = true := by decide +kernel
theorem qX12_has_23 : decB cX12_has 23 [.iconst 0] 24 = true := by decide +kernel
theorem dX12_has_3 : decode cX12_has 3 = .ok (.invokevirtual 43, 3) := by decide +kernel
theorem dX12_has_7 : decode cX12_has 7 = .ok (.if_icmp .gt 16, 3) := by decide +kernel
theorem dX12_has_13 : decode cX12_has 13 = .ok (.invokevirtual 46, 3) := by decide +kernel
theorem dX12_has_16 : decode cX12_has 16 = .ok (.if_icmp .gt 7, 3) := by decide +kernel
theorem dX12_has_24 : decode cX12_has 24 = .ok (.ireturn, 1) := by decide +kernel
theorem qX12_counts_0 : decB cX12_counts 0 [.iconst 0, .istore_n 3, .iconst 0, .istore 4] 5 = true := by decide +kernel
theorem qX12_counts_5 : decB cX12_counts 5 [.iload 4, .aload_n 0] 8 = true := by decide +kernel
theorem qX12_counts_11 : decB cX12_counts 11 [.iconst 5] 12 = true := by decide +kernel
theorem qX12_counts_16 : decB cX12_counts 16 [.iload_n 3, .aload_n 0, .iload 4] 20 = true := by decide +kernel
theorem qX12_counts_26 : decB cX12_counts 26 [.aload_n 0, .iload 4, .iconst 1] 30 = true := by decide +kernel
theorem qX12_counts_33 : decB cX12_counts 33 [.iload_n 1] 34 = true := by decide +kernel
theorem qX12_counts_37 : decB cX12_counts 37 [.aload_n 0, .iload 4, .iload_n 2] 41 = true := by decide +kernel
theorem qX12_counts_47 : decB cX12_counts 47 [.iconst 1, .goto 4] 52 = true := by decide +kernel
theorem qX12_counts_51 : decB cX12_counts 51 [.iconst 0] 52 = true := by decide +kernel
theorem qX12_counts_52 : decB cX12_counts 52 [.iadd, .istore_n 3, .iinc 4 1, .goto (-52)] 5 = true := by decide +kernel
theorem qX12_counts_60 : decB cX12_counts 60 [.iload_n 3] 61 = true := by decide +kernel
theorem dX12_counts_8 : decode cX12_counts 8 = .ok (.getfield 9, 3) := by decide +kernel
theorem dX12_counts_12 : decode cX12_counts 12 = .ok (.iaload, 1) := by decide +kernel
theorem dX12_counts_13 : decode cX12_counts 13 = .ok (.if_icmp .ge 47, 3) := by decide +kernel
theorem dX12_counts_20 : decode cX12_counts 20 = .ok (.invokevirtual 49, 3) := by decide +kernel
theorem dX12_counts_23 : decode cX12_counts 23 = .ok (.ifCond .eq 28, 3) := by decide +kernel
theorem dX12_counts_30 : decode cX12_counts 30 = .ok (.invokevirtual 43, 3) := by decide +kernel
theorem dX12_counts_34 : decode cX12_counts 34 = .ok (.if_icmp .ne 17, 3) := by decide +kernel
theorem dX12_counts_41 : decode cX12_counts 41 = .ok (.invokevirtual 53, 3) := by decide +kernel
theorem dX12_counts_44 : decode cX12_counts 44 = .ok (.ifCond .eq 7, 3) := by decide +kernel
theorem dX12_counts_61 : decode cX12_counts 61 = .ok (.ireturn, 1) := by decide +kernel
theorem qX12_isClosed_0 : decB cX12_isClosed 0 [.aload_n 0] 1 = true := by decide +kernel
theorem qX12_isClosed_4 : decB cX12_isClosed 4 [.sipush 1596, .iload_n 1, .sipush 1142, .imul, .iadd, .iload_n 2, .bipush 32] 16 = true := by decide +kernel
theorem qX12_isClosed_17 : decB cX12_isClosed 17 [.iadd] 18 = true := by decide +kernel
theorem qX12_isClosed_19 : decB cX12_isClosed 19 [.iload_n 2, .bipush 32] 22 = true := by decide +kernel
theorem qX12_isClosed_24 : decB cX12_isClosed 24 [.iconst 1] 25 = true := by decide +kernel
theorem qX12_isClosed_26 : decB cX12_isClosed 26 [.iconst 1] 27 = true := by decide +kernel
theorem qX12_isClosed_30 : decB cX12_isClosed 30 [.iconst 1, .goto 4] 35 = true := by decide +kernel
theorem qX12_isClosed_34 : decB cX12_isClosed 34 [.iconst 0] 35 = true := by decide +kernel
theorem dX12_isClosed_1 : decode cX12_isClosed 1 = .ok (.getfield 9, 3) := by decide +kernel
theorem dX12_isClosed_16 : decode cX12_isClosed 16 = .ok (.idiv, 1) := by decide +kernel
theorem dX12_isClosed_18 : decode cX12_isClosed 18 = .ok (.iaload, 1) := by decide +kernel
theorem dX12_isClosed_22 : decode cX12_isClosed 22 = .ok (.irem, 1) := by decide +kernel
theorem dX12_isClosed_23 : decode cX12_isClosed 23 = .ok (.ishr, 1) := by decide +kernel
theorem dX12_isClosed_25 : decode cX12_isClosed 25 = .ok (.iand, 1) := by decide +kernel
theorem dX12_isClosed_27 : decode cX12_isClosed 27 = .ok (.if_icmp .ne 7, 3) := by decide +kernel
theorem dX12_isClosed_35 : decode cX12_isClosed 35 = .ok (.ireturn, 1) := by decide +kernel
theorem qX12_refusing_0 : decB cX12_refusing 0 [.iload_n 2, .istore 4] 3 = true := by decide +kernel
theorem qX12_refusing_3 : decB cX12_refusing 3 [.iload 4, .iload_n 2, .iload_n 3, .iadd] 8 = true := by decide +kernel
theorem qX12_refusing_11 : decB cX12_refusing 11 [.aload_n 0, .iload_n 1, .iload 4] 15 = true := by decide +kernel
theorem qX12_refusing_21 : decB cX12_refusing 21 [.aload_n 0, .iload_n 1, .iload 4] 25 = true := by decide +kernel
theorem qX12_refusing_28 : decB cX12_refusing 28 [.aload_n 0, .iload_n 1, .iconst 0] 31 = true := by decide +kernel
theorem qX12_refusing_34 : decB cX12_refusing 34 [.aload_n 0, .iload_n 1, .iconst 2] 37 = true := by decide +kernel
theorem qX12_refusing_40 : decB cX12_refusing 40 [.iadd] 41 = true := by decide +kernel
theorem qX12_refusing_44 : decB cX12_refusing 44 [.iload 4] 46 = true := by decide +kernel
theorem qX12_refusing_47 : decB cX12_refusing 47 [.iinc 4 1, .goto (-47)] 3 = true := by decide +kernel
theorem qX12_refusing_53 : decB cX12_refusing 53 [.iconst (-1)] 54 = true := by decide +kernel
theorem dX12_refusing_8 : decode cX12_refusing 8 = .ok (.if_icmp .ge 45, 3) := by decide +kernel
theorem dX12_refusing_15 : decode cX12_refusing 15 = .ok (.invokevirtual 57, 3) := by decide +kernel
theorem dX12_refusing_18 : decode cX12_refusing 18 = .ok (.ifCond .ne 26, 3) := by decide +kernel
theorem dX12_refusing_25 : decode cX12_refusing 25 = .ok (.invokevirtual 60, 3) := by decide +kernel
theorem dX12_refusing_31 : decode cX12_refusing 31 = .ok (.invokevirtual 63, 3) := by decide +kernel
theorem dX12_refusing_37 : decode cX12_refusing 37 = .ok (.invokevirtual 63, 3) := by decide +kernel
theorem dX12_refusing_41 : decode cX12_refusing 41 = .ok (.if_icmp .lt 6, 3) := by decide +kernel
theorem dX12_refusing_46 : decode cX12_refusing 46 = .ok (.ireturn, 1) := by decide +kernel
theorem dX12_refusing_54 : decode cX12_refusing 54 = .ok (.ireturn, 1) := by decide +kernel
theorem qX12_isInSeason_0 : decB cX12_isInSeason 0 [.bipush 40, .iload_n 1, .iconst 4, .imul, .iadd, .istore_n 3, .iload_n 2] 8 = true := by decide +kernel
theorem qX12_isInSeason_11 : decB cX12_isInSeason 11 [.sipush 10000] 14 = true := by decide +kernel
theorem qX12_isInSeason_15 : decB cX12_isInSeason 15 [.istore 4, .aload_n 0] 18 = true := by decide +kernel
theorem qX12_isInSeason_21 : decB cX12_isInSeason 21 [.iload_n 3] 22 = true := by decide +kernel
theorem qX12_isInSeason_23 : decB cX12_isInSeason 23 [.aload_n 0] 24 = true := by decide +kernel
theorem qX12_isInSeason_27 : decB cX12_isInSeason 27 [.iload_n 3, .iconst 1, .iadd] 30 = true := by decide +kernel
theorem qX12_isInSeason_34 : decB cX12_isInSeason 34 [.iload 4, .aload_n 0] 37 = true := by decide +kernel
theorem qX12_isInSeason_40 : decB cX12_isInSeason 40 [.iload_n 3] 41 = true := by decide +kernel
theorem qX12_isInSeason_42 : decB cX12_isInSeason 42 [.aload_n 0] 43 = true := by decide +kernel
theorem qX12_isInSeason_46 : decB cX12_isInSeason 46 [.iload_n 3, .iconst 1, .iadd] 49 = true := by decide +kernel
theorem qX12_isInSeason_53 : decB cX12_isInSeason 53 [.goto 32] 85 = true := by decide +kernel
theorem qX12_isInSeason_56 : decB cX12_isInSeason 56 [.iload 4, .aload_n 0] 59 = true := by decide +kernel
theorem qX12_isInSeason_62 : decB cX12_isInSeason 62 [.iload_n 3] 63 = true := by decide +kernel
theorem qX12_isInSeason_67 : decB cX12_isInSeason 67 [.iload 4, .aload_n 0] 70 = true := by decide +kernel
theorem qX12_isInSeason_73 : decB cX12_isInSeason 73 [.iload_n 3, .iconst 1, .iadd] 76 = true := by decide +kernel
theorem qX12_isInSeason_80 : decB cX12_isInSeason 80 [.iconst 1, .goto 4] 85 = true := by decide +kernel
theorem qX12_isInSeason_84 : decB cX12_isInSeason 84 [.iconst 0] 85 = true := by decide +kernel
theorem dX12_isInSeason_8 : decode cX12_isInSeason 8 = .ok (.invokestatic 66, 3) := by decide +kernel
theorem dX12_isInSeason_14 : decode cX12_isInSeason 14 = .ok (.irem, 1) := by decide +kernel
theorem dX12_isInSeason_18 : decode cX12_isInSeason 18 = .ok (.getfield 9, 3) := by decide +kernel
theorem dX12_isInSeason_22 : decode cX12_isInSeason 22 = .ok (.iaload, 1) := by decide +kernel
theorem dX12_isInSeason_24 : decode cX12_isInSeason 24 = .ok (.getfield 9, 3) := by decide +kernel
theorem dX12_isInSeason_30 : decode cX12_isInSeason 30 = .ok (.iaload, 1) := by decide +kernel
theorem dX12_isInSeason_31 : decode cX12_isInSeason 31 = .ok (.if_icmp .gt 25, 3) := by decide +kernel
theorem dX12_isInSeason_37 : decode cX12_isInSeason 37 = .ok (.getfield 9, 3) := by decide +kernel
theorem dX12_isInSeason_41 : decode cX12_isInSeason 41 = .ok (.iaload, 1) := by decide +kernel
theorem dX12_isInSeason_43 : decode cX12_isInSeason 43 = .ok (.getfield 9, 3) := by decide +kernel
theorem dX12_isInSeason_49 : decode cX12_isInSeason 49 = .ok (.iaload, 1) := by decide +kernel
theorem dX12_isInSeason_50 : decode cX12_isInSeason 50 = .ok (.invokestatic 35, 3) := by decide +kernel
theorem dX12_isInSeason_59 : decode cX12_isInSeason 59 = .ok (.getfield 9, 3) := by decide +kernel
theorem dX12_isInSeason_63 : decode cX12_isInSeason 63 = .ok (.iaload, 1) := by decide +kernel
theorem dX12_isInSeason_64 : decode cX12_isInSeason 64 = .ok (.if_icmp .ge 16, 3) := by decide +kernel
theorem dX12_isInSeason_70 : decode cX12_isInSeason 70 = .ok (.getfield 9, 3) := by decide +kernel
theorem dX12_isInSeason_76 : decode cX12_isInSeason 76 = .ok (.iaload, 1) := by decide +kernel
theorem dX12_isInSeason_77 : decode cX12_isInSeason 77 = .ok (.if_icmp .gt 7, 3) := by decide +kernel
theorem dX12_isInSeason_85 : decode cX12_isInSeason 85 = .ok (.ireturn, 1) := by decide +kernel
theorem qX12_leastNights_0 : decB cX12_leastNights 0 [.iconst 1, .istore_n 2, .iconst 0, .istore_n 3] 4 = true := by decide +kernel
theorem qX12_leastNights_4 : decB cX12_leastNights 4 [.iload_n 3, .aload_n 0] 6 = true := by decide +kernel
theorem qX12_leastNights_9 : decB cX12_leastNights 9 [.iconst 2] 10 = true := by decide +kernel
theorem qX12_leastNights_14 : decB cX12_leastNights 14 [.aload_n 0, .iload_n 3, .iload_n 1] 17 = true := by decide +kernel
theorem qX12_leastNights_23 : decB cX12_leastNights 23 [.iload_n 2, .aload_n 0] 25 = true := by decide +kernel
theorem qX12_leastNights_28 : decB cX12_leastNights 28 [.bipush 40, .iload_n 3, .iconst 4, .imul, .iadd, .iconst 3, .iadd] 36 = true := by decide +kernel
theorem qX12_leastNights_40 : decB cX12_leastNights 40 [.istore_n 2] 41 = true := by decide +kernel
theorem qX12_leastNights_41 : decB cX12_leastNights 41 [.iinc 3 1, .goto (-40)] 4 = true := by decide +kernel
theorem qX12_leastNights_47 : decB cX12_leastNights 47 [.iload_n 2] 48 = true := by decide +kernel
theorem dX12_leastNights_6 : decode cX12_leastNights 6 = .ok (.getfield 9, 3) := by decide +kernel
theorem dX12_leastNights_10 : decode cX12_leastNights 10 = .ok (.iaload, 1) := by decide +kernel
theorem dX12_leastNights_11 : decode cX12_leastNights 11 = .ok (.if_icmp .ge 36, 3) := by decide +kernel
theorem dX12_leastNights_17 : decode cX12_leastNights 17 = .ok (.invokevirtual 69, 3) := by decide +kernel
theorem dX12_leastNights_20 : decode cX12_leastNights 20 = .ok (.ifCond .eq 21, 3) := by decide +kernel
theorem dX12_leastNights_25 : decode cX12_leastNights 25 = .ok (.getfield 9, 3) := by decide +kernel
theorem dX12_leastNights_36 : decode cX12_leastNights 36 = .ok (.iaload, 1) := by decide +kernel
theorem dX12_leastNights_37 : decode cX12_leastNights 37 = .ok (.invokestatic 72, 3) := by decide +kernel
theorem dX12_leastNights_48 : decode cX12_leastNights 48 = .ok (.ireturn, 1) := by decide +kernel
theorem qX12_refused_0 : decB cX12_refused 0 [.aload_n 0, .iload_n 1, .iload_n 2, .iload_n 3] 4 = true := by decide +kernel
theorem qX12_refused_7 : decB cX12_refused 7 [.istore 4, .iload 4, .iconst (-1)] 12 = true := by decide +kernel
theorem qX12_refused_15 : decB cX12_refused 15 [.iload 4, .goto 17] 34 = true := by decide +kernel
theorem qX12_refused_20 : decB cX12_refused 20 [.iload_n 3, .aload_n 0, .iload_n 2] 23 = true := by decide +kernel
theorem qX12_refused_29 : decB cX12_refused 29 [.iload_n 2, .goto 4] 34 = true := by decide +kernel
theorem qX12_refused_33 : decB cX12_refused 33 [.iconst (-1)] 34 = true := by decide +kernel
theorem dX12_refused_4 : decode cX12_refused 4 = .ok (.invokevirtual 77, 3) := by decide +kernel
theorem dX12_refused_12 : decode cX12_refused 12 = .ok (.if_icmp .eq 8, 3) := by decide +kernel
theorem dX12_refused_23 : decode cX12_refused 23 = .ok (.invokevirtual 81, 3) := by decide +kernel
theorem dX12_refused_26 : decode cX12_refused 26 = .ok (.if_icmp .ge 7, 3) := by decide +kernel
theorem dX12_refused_34 : decode cX12_refused 34 = .ok (.ireturn, 1) := by decide +kernel
theorem qX12_nightPrice_0 : decB cX12_nightPrice 0 [.bipush 100, .bipush 10, .iconst 4, .aload_n 0, .iload_n 1, .iload_n 2] 8 = true := by decide +kernel
theorem qX12_nightPrice_11 : decB cX12_nightPrice 11 [.imul, .aload_n 0, .iload_n 1, .iconst 0] 15 = true := by decide +kernel
theorem qX12_nightPrice_19 : decB cX12_nightPrice 19 [.imul, .iadd, .istore_n 3, .iconst 0, .istore 4] 25 = true := by decide +kernel
theorem qX12_nightPrice_25 : decB cX12_nightPrice 25 [.iload 4, .aload_n 0] 28 = true := by decide +kernel
theorem qX12_nightPrice_31 : decB cX12_nightPrice 31 [.iconst 2] 32 = true := by decide +kernel
theorem qX12_nightPrice_36 : decB cX12_nightPrice 36 [.iload_n 3, .aload_n 0, .iload 4, .iload_n 2] 41 = true := by decide +kernel
theorem qX12_nightPrice_47 : decB cX12_nightPrice 47 [.aload_n 0] 48 = true := by decide +kernel
theorem qX12_nightPrice_51 : decB cX12_nightPrice 51 [.bipush 40, .iload 4, .iconst 4, .imul, .iadd, .iconst 2, .iadd] 60 = true := by decide +kernel
theorem qX12_nightPrice_61 : decB cX12_nightPrice 61 [.goto 4] 65 = true := by decide +kernel
theorem qX12_nightPrice_64 : decB cX12_nightPrice 64 [.iconst 0] 65 = true := by decide +kernel
theorem qX12_nightPrice_65 : decB cX12_nightPrice 65 [.iadd, .istore_n 3, .iinc 4 1, .goto (-45)] 25 = true := by decide +kernel
theorem qX12_nightPrice_73 : decB cX12_nightPrice 73 [.iload_n 2] 74 = true := by decide +kernel
theorem qX12_nightPrice_77 : decB cX12_nightPrice 77 [.iconst 5] 78 = true := by decide +kernel
theorem qX12_nightPrice_81 : decB cX12_nightPrice 81 [.iload_n 2] 82 = true := by decide +kernel
theorem qX12_nightPrice_85 : decB cX12_nightPrice 85 [.bipush 6] 87 = true := by decide +kernel
theorem qX12_nightPrice_90 : decB cX12_nightPrice 90 [.iload_n 3, .aload_n 0] 92 = true := by decide +kernel
theorem qX12_nightPrice_95 : decB cX12_nightPrice 95 [.iconst 3] 96 = true := by decide +kernel
theorem qX12_nightPrice_97 : decB cX12_nightPrice 97 [.iadd, .istore_n 3] 99 = true := by decide +kernel
theorem qX12_nightPrice_99 : decB cX12_nightPrice 99 [.iload_n 3] 100 = true := by decide +kernel
theorem qX12_nightPrice_103 : decB cX12_nightPrice 103 [.iconst 0, .goto 17] 121 = true := by decide +kernel
theorem qX12_nightPrice_107 : decB cX12_nightPrice 107 [.aload_n 0, .iload_n 1, .iconst 1] 110 = true := by decide +kernel
theorem qX12_nightPrice_113 : decB cX12_nightPrice 113 [.iload_n 3, .imul, .bipush 50, .iadd, .bipush 100] 120 = true := by decide +kernel
theorem dX12_nightPrice_8 : decode cX12_nightPrice 8 = .ok (.invokevirtual 60, 3) := by decide +kernel
theorem dX12_nightPrice_15 : decode cX12_nightPrice 15 = .ok (.invokevirtual 63, 3) := by decide +kernel
theorem dX12_nightPrice_18 : decode cX12_nightPrice 18 = .ok (.idiv, 1) := by decide +kernel
theorem dX12_nightPrice_28 : decode cX12_nightPrice 28 = .ok (.getfield 9, 3) := by decide +kernel
theorem dX12_nightPrice_32 : decode cX12_nightPrice 32 = .ok (.iaload, 1) := by decide +kernel
theorem dX12_nightPrice_33 : decode cX12_nightPrice 33 = .ok (.if_icmp .ge 40, 3) := by decide +kernel
theorem dX12_nightPrice_41 : decode cX12_nightPrice 41 = .ok (.invokevirtual 69, 3) := by decide +kernel
theorem dX12_nightPrice_44 : decode cX12_nightPrice 44 = .ok (.ifCond .eq 20, 3) := by decide +kernel
theorem dX12_nightPrice_48 : decode cX12_nightPrice 48 = .ok (.getfield 9, 3) := by decide +kernel
theorem dX12_nightPrice_60 : decode cX12_nightPrice 60 = .ok (.iaload, 1) := by decide +kernel
theorem dX12_nightPrice_74 : decode cX12_nightPrice 74 = .ok (.invokestatic 84, 3) := by decide +kernel
theorem dX12_nightPrice_78 : decode cX12_nightPrice 78 = .ok (.if_icmp .eq 12, 3) := by decide +kernel
theorem dX12_nightPrice_82 : decode cX12_nightPrice 82 = .ok (.invokestatic 84, 3) := by decide +kernel
theorem dX12_nightPrice_87 : decode cX12_nightPrice 87 = .ok (.if_icmp .ne 12, 3) := by decide +kernel
theorem dX12_nightPrice_92 : decode cX12_nightPrice 92 = .ok (.getfield 9, 3) := by decide +kernel
theorem dX12_nightPrice_96 : decode cX12_nightPrice 96 = .ok (.iaload, 1) := by decide +kernel
theorem dX12_nightPrice_100 : decode cX12_nightPrice 100 = .ok (.ifCond .ge 7, 3) := by decide +kernel
theorem dX12_nightPrice_110 : decode cX12_nightPrice 110 = .ok (.invokevirtual 63, 3) := by decide +kernel
theorem dX12_nightPrice_120 : decode cX12_nightPrice 120 = .ok (.idiv, 1) := by decide +kernel
theorem dX12_nightPrice_121 : decode cX12_nightPrice 121 = .ok (.ireturn, 1) := by decide +kernel
theorem qX12_price_0 : decB cX12_price 0 [.iconst 0, .istore_n 2, .iconst 0, .istore_n 3] 4 = true := by decide +kernel
theorem qX12_price_4 : decB cX12_price 4 [.iload_n 3, .aload_n 0, .iload_n 1, .iconst 3] 8 = true := by decide +kernel
theorem qX12_price_14 : decB cX12_price 14 [.iload_n 2, .aload_n 0, .iload_n 1, .bipush 10, .iload_n 3, .iadd] 21 = true := by decide +kernel
theorem qX12_price_24 : decB cX12_price 24 [.iadd, .istore_n 2, .iinc 3 1, .goto (-25)] 4 = true := by decide +kernel
theorem qX12_price_32 : decB cX12_price 32 [.iload_n 2] 33 = true := by decide +kernel
theorem dX12_price_8 : decode cX12_price 8 = .ok (.invokevirtual 43, 3) := by decide +kernel
theorem dX12_price_11 : decode cX12_price 11 = .ok (.if_icmp .ge 21, 3) := by decide +kernel
theorem dX12_price_21 : decode cX12_price 21 = .ok (.invokevirtual 43, 3) := by decide +kernel
theorem dX12_price_33 : decode cX12_price 33 = .ok (.ireturn, 1) := by decide +kernel
theorem qX12_tax_0 : decB cX12_tax 0 [.aload_n 0, .iload_n 1, .iconst 3] 3 = true := by decide +kernel
theorem qX12_tax_6 : decB cX12_tax 6 [.aload_n 0, .iload_n 1, .iconst 4] 9 = true := by decide +kernel
theorem qX12_tax_12 : decB cX12_tax 12 [.aload_n 0, .iload_n 1, .bipush 7] 16 = true := by decide +kernel
theorem qX12_tax_19 : decB cX12_tax 19 [.imul, .aload_n 0, .iload_n 1, .iconst 5] 23 = true := by decide +kernel
theorem qX12_tax_26 : decB cX12_tax 26 [.aload_n 0, .iload_n 1, .bipush 7] 30 = true := by decide +kernel
theorem qX12_tax_33 : decB cX12_tax 33 [.iconst 1, .iadd, .iconst 2] 36 = true := by decide +kernel
theorem qX12_tax_37 : decB cX12_tax 37 [.imul, .iadd, .imul] 40 = true := by decide +kernel
theorem dX12_tax_3 : decode cX12_tax 3 = .ok (.invokevirtual 43, 3) := by decide +kernel
theorem dX12_tax_9 : decode cX12_tax 9 = .ok (.invokevirtual 43, 3) := by decide +kernel
theorem dX12_tax_16 : decode cX12_tax 16 = .ok (.invokevirtual 43, 3) := by decide +kernel
theorem dX12_tax_23 : decode cX12_tax 23 = .ok (.invokevirtual 43, 3) := by decide +kernel
theorem dX12_tax_30 : decode cX12_tax 30 = .ok (.invokevirtual 43, 3) := by decide +kernel
theorem dX12_tax_36 : decode cX12_tax 36 = .ok (.idiv, 1) := by decide +kernel
theorem dX12_tax_40 : decode cX12_tax 40 = .ok (.ireturn, 1) := by decide +kernel
theorem qX12_makes_0 : decB cX12_makes 0 [.aload_n 0] 1 = true := by decide +kernel
theorem qX12_makes_4 : decB cX12_makes 4 [.iconst 5] 5 = true := by decide +kernel
theorem qX12_makes_6 : decB cX12_makes 6 [.istore 8, .iconst 0, .istore 9] 11 = true := by decide +kernel
theorem qX12_makes_11 : decB cX12_makes 11 [.iload 9, .iload_n 3] 14 = true := by decide +kernel
theorem qX12_makes_17 : decB cX12_makes 17 [.aload_n 0, .iload 8, .bipush 10, .iload 9, .iadd, .aload_n 0, .iload_n 1, .iload_n 2, .iload 9, .iadd] 31 = true := by decide +kernel
theorem qX12_makes_37 : decB cX12_makes 37 [.iinc 9 1, .goto (-29)] 11 = true := by decide +kernel
theorem qX12_makes_43 : decB cX12_makes 43 [.aload_n 0, .iload 8, .iconst 0, .iconst 0] 48 = true := by decide +kernel
theorem qX12_makes_51 : decB cX12_makes 51 [.aload_n 0, .iload 8, .iconst 1, .iload_n 1] 56 = true := by decide +kernel
theorem qX12_makes_59 : decB cX12_makes 59 [.aload_n 0, .iload 8, .iconst 2, .iload_n 2] 64 = true := by decide +kernel
theorem qX12_makes_67 : decB cX12_makes 67 [.aload_n 0, .iload 8, .iconst 3, .iload_n 3] 72 = true := by decide +kernel
theorem qX12_makes_75 : decB cX12_makes 75 [.aload_n 0, .iload 8, .iconst 4, .iload 4] 81 = true := by decide +kernel
theorem qX12_makes_84 : decB cX12_makes 84 [.aload_n 0, .iload 8, .iconst 5, .iload 5] 90 = true := by decide +kernel
theorem qX12_makes_93 : decB cX12_makes 93 [.aload_n 0, .iload 8, .bipush 6, .iconst 0] 99 = true := by decide +kernel
theorem qX12_makes_102 : decB cX12_makes 102 [.aload_n 0, .iload 8, .bipush 7, .aload_n 0] 108 = true := by decide +kernel
theorem qX12_makes_111 : decB cX12_makes 111 [.iconst 4] 112 = true := by decide +kernel
theorem qX12_makes_116 : decB cX12_makes 116 [.aload_n 0, .iload 8, .bipush 8, .iload 7] 123 = true := by decide +kernel
theorem qX12_makes_126 : decB cX12_makes 126 [.aload_n 0, .iload 8, .bipush 9, .iload 6] 133 = true := by decide +kernel
theorem qX12_makes_136 : decB cX12_makes 136 [.aload_n 0] 137 = true := by decide +kernel
theorem qX12_makes_140 : decB cX12_makes 140 [.iconst 5, .dup2] 142 = true := by decide +kernel
theorem qX12_makes_143 : decB cX12_makes 143 [.iconst 1, .iadd] 145 = true := by decide +kernel
theorem qX12_makes_146 : decB cX12_makes 146 [.iload 8] 148 = true := by decide +kernel
theorem dX12_makes_1 : decode cX12_makes 1 = .ok (.getfield 9, 3) := by decide +kernel
theorem dX12_makes_5 : decode cX12_makes 5 = .ok (.iaload, 1) := by decide +kernel
theorem dX12_makes_14 : decode cX12_makes 14 = .ok (.if_icmp .ge 29, 3) := by decide +kernel
theorem dX12_makes_31 : decode cX12_makes 31 = .ok (.invokevirtual 87, 3) := by decide +kernel
theorem dX12_makes_34 : decode cX12_makes 34 = .ok (.invokevirtual 90, 3) := by decide +kernel
theorem dX12_makes_48 : decode cX12_makes 48 = .ok (.invokevirtual 90, 3) := by decide +kernel
theorem dX12_makes_56 : decode cX12_makes 56 = .ok (.invokevirtual 90, 3) := by decide +kernel
theorem dX12_makes_64 : decode cX12_makes 64 = .ok (.invokevirtual 90, 3) := by decide +kernel
theorem dX12_makes_72 : decode cX12_makes 72 = .ok (.invokevirtual 90, 3) := by decide +kernel
theorem dX12_makes_81 : decode cX12_makes 81 = .ok (.invokevirtual 90, 3) := by decide +kernel
theorem dX12_makes_90 : decode cX12_makes 90 = .ok (.invokevirtual 90, 3) := by decide +kernel
theorem dX12_makes_99 : decode cX12_makes 99 = .ok (.invokevirtual 90, 3) := by decide +kernel
theorem dX12_makes_108 : decode cX12_makes 108 = .ok (.getfield 9, 3) := by decide +kernel
theorem dX12_makes_112 : decode cX12_makes 112 = .ok (.iaload, 1) := by decide +kernel
theorem dX12_makes_113 : decode cX12_makes 113 = .ok (.invokevirtual 90, 3) := by decide +kernel
theorem dX12_makes_123 : decode cX12_makes 123 = .ok (.invokevirtual 90, 3) := by decide +kernel
theorem dX12_makes_133 : decode cX12_makes 133 = .ok (.invokevirtual 90, 3) := by decide +kernel
theorem dX12_makes_137 : decode cX12_makes 137 = .ok (.getfield 9, 3) := by decide +kernel
theorem dX12_makes_142 : decode cX12_makes 142 = .ok (.iaload, 1) := by decide +kernel
theorem dX12_makes_145 : decode cX12_makes 145 = .ok (.iastore, 1) := by decide +kernel
theorem dX12_makes_148 : decode cX12_makes 148 = .ok (.ireturn, 1) := by decide +kernel
theorem qX12_moves_0 : decB cX12_moves 0 [.aload_n 0] 1 = true := by decide +kernel
theorem qX12_moves_4 : decB cX12_moves 4 [.bipush 9, .iload_n 1, .iadd, .dup2] 9 = true := by decide +kernel
theorem qX12_moves_10 : decB cX12_moves 10 [.iload_n 3, .isub] 12 = true := by decide +kernel
theorem qX12_moves_13 : decB cX12_moves 13 [.aload_n 0] 14 = true := by decide +kernel
theorem qX12_moves_17 : decB cX12_moves 17 [.bipush 9, .iload_n 2, .iadd, .dup2] 22 = true := by decide +kernel
theorem qX12_moves_23 : decB cX12_moves 23 [.iload_n 3, .iadd] 25 = true := by decide +kernel
theorem dX12_moves_1 : decode cX12_moves 1 = .ok (.getfield 9, 3) := by decide +kernel
theorem dX12_moves_9 : decode cX12_moves 9 = .ok (.iaload, 1) := by decide +kernel
theorem dX12_moves_12 : decode cX12_moves 12 = .ok (.iastore, 1) := by decide +kernel
theorem dX12_moves_14 : decode cX12_moves 14 = .ok (.getfield 9, 3) := by decide +kernel
theorem dX12_moves_22 : decode cX12_moves 22 = .ok (.iaload, 1) := by decide +kernel
theorem dX12_moves_25 : decode cX12_moves 25 = .ok (.iastore, 1) := by decide +kernel
theorem dX12_moves_26 : decode cX12_moves 26 = .ok (.return_, 1) := by decide +kernel
theorem qX12_looks_0 : decB cX12_looks 0 [.iconst 0, .istore_n 1, .iconst 0, .istore_n 2] 4 = true := by decide +kernel
theorem qX12_looks_4 : decB cX12_looks 4 [.iload_n 2, .aload_n 0] 6 = true := by decide +kernel
theorem qX12_looks_9 : decB cX12_looks 9 [.bipush 7] 11 = true := by decide +kernel
theorem qX12_looks_15 : decB cX12_looks 15 [.sipush 1496, .iload_n 2, .iconst 5, .imul, .iadd, .istore_n 3, .aload_n 0] 24 = true := by decide +kernel
theorem qX12_looks_27 : decB cX12_looks 27 [.iload_n 3, .iconst 1, .iadd] 30 = true := by decide +kernel
theorem qX12_looks_31 : decB cX12_looks 31 [.aload_n 0] 32 = true := by decide +kernel
theorem qX12_looks_35 : decB cX12_looks 35 [.iconst 0] 36 = true := by decide +kernel
theorem qX12_looks_40 : decB cX12_looks 40 [.iconst 1, .goto 4] 45 = true := by decide +kernel
theorem qX12_looks_44 : decB cX12_looks 44 [.iconst 0] 45 = true := by decide +kernel
theorem qX12_looks_45 : decB cX12_looks 45 [.istore 4, .iload 4] 49 = true := by decide +kernel
theorem qX12_looks_52 : decB cX12_looks 52 [.aload_n 0] 53 = true := by decide +kernel
theorem qX12_looks_56 : decB cX12_looks 56 [.iconst 5] 57 = true := by decide +kernel
theorem qX12_looks_58 : decB cX12_looks 58 [.bipush 60] 60 = true := by decide +kernel
theorem qX12_looks_63 : decB cX12_looks 63 [.aload_n 0, .aload_n 0] 65 = true := by decide +kernel
theorem qX12_looks_68 : decB cX12_looks 68 [.iload_n 3] 69 = true := by decide +kernel
theorem qX12_looks_70 : decB cX12_looks 70 [.aload_n 0] 71 = true := by decide +kernel
theorem qX12_looks_74 : decB cX12_looks 74 [.iload_n 3, .iconst 1, .iadd] 77 = true := by decide +kernel
theorem qX12_looks_78 : decB cX12_looks 78 [.aload_n 0] 79 = true := by decide +kernel
theorem qX12_looks_82 : decB cX12_looks 82 [.iload_n 3, .iconst 2, .iadd] 85 = true := by decide +kernel
theorem qX12_looks_89 : decB cX12_looks 89 [.iconst (-1)] 90 = true := by decide +kernel
theorem qX12_looks_93 : decB cX12_looks 93 [.iconst 1, .goto 4] 98 = true := by decide +kernel
theorem qX12_looks_97 : decB cX12_looks 97 [.iconst 0] 98 = true := by decide +kernel
theorem qX12_looks_98 : decB cX12_looks 98 [.istore 5, .iload 5] 102 = true := by decide +kernel
theorem qX12_looks_105 : decB cX12_looks 105 [.aload_n 0, .aload_n 0] 107 = true := by decide +kernel
theorem qX12_looks_110 : decB cX12_looks 110 [.iload_n 3] 111 = true := by decide +kernel
theorem qX12_looks_112 : decB cX12_looks 112 [.aload_n 0] 113 = true := by decide +kernel
theorem qX12_looks_116 : decB cX12_looks 116 [.iload_n 3, .iconst 1, .iadd] 119 = true := by decide +kernel
theorem qX12_looks_120 : decB cX12_looks 120 [.aload_n 0] 121 = true := by decide +kernel
theorem qX12_looks_124 : decB cX12_looks 124 [.iload_n 3, .iconst 2, .iadd] 127 = true := by decide +kernel
theorem qX12_looks_128 : decB cX12_looks 128 [.aload_n 0] 129 = true := by decide +kernel
theorem qX12_looks_132 : decB cX12_looks 132 [.iload_n 3, .iconst 3, .iadd] 135 = true := by decide +kernel
theorem qX12_looks_136 : decB cX12_looks 136 [.aload_n 0] 137 = true := by decide +kernel
theorem qX12_looks_140 : decB cX12_looks 140 [.iload_n 3, .iconst 4, .iadd] 143 = true := by decide +kernel
theorem qX12_looks_144 : decB cX12_looks 144 [.aload_n 0] 145 = true := by decide +kernel
theorem qX12_looks_148 : decB cX12_looks 148 [.iload_n 3, .iconst 1, .iadd] 151 = true := by decide +kernel
theorem qX12_looks_152 : decB cX12_looks 152 [.iconst (-1)] 153 = true := by decide +kernel
theorem qX12_looks_156 : decB cX12_looks 156 [.istore 6, .iinc 1 1] 161 = true := by decide +kernel
theorem qX12_looks_161 : decB cX12_looks 161 [.iload 4] 163 = true := by decide +kernel
theorem qX12_looks_166 : decB cX12_looks 166 [.iload 5] 168 = true := by decide +kernel
theorem qX12_looks_171 : decB cX12_looks 171 [.iinc 2 1, .goto (-170)] 4 = true := by decide +kernel
theorem qX12_looks_177 : decB cX12_looks 177 [.aload_n 0] 178 = true := by decide +kernel
theorem qX12_looks_181 : decB cX12_looks 181 [.bipush 7, .dup2] 184 = true := by decide +kernel
theorem qX12_looks_185 : decB cX12_looks 185 [.iconst 1, .isub] 187 = true := by decide +kernel
theorem qX12_looks_188 : decB cX12_looks 188 [.iload_n 3, .istore 6] 191 = true := by decide +kernel
theorem qX12_looks_191 : decB cX12_looks 191 [.iload 6, .sipush 1496, .aload_n 0] 197 = true := by decide +kernel
theorem qX12_looks_200 : decB cX12_looks 200 [.bipush 7] 202 = true := by decide +kernel
theorem qX12_looks_203 : decB cX12_looks 203 [.iconst 5, .imul, .iadd] 206 = true := by decide +kernel
theorem qX12_looks_209 : decB cX12_looks 209 [.aload_n 0] 210 = true := by decide +kernel
theorem qX12_looks_213 : decB cX12_looks 213 [.iload 6, .aload_n 0] 216 = true := by decide +kernel
theorem qX12_looks_219 : decB cX12_looks 219 [.iload 6, .iconst 5, .iadd] 223 = true := by decide +kernel
theorem qX12_looks_225 : decB cX12_looks 225 [.iinc 6 1, .goto (-37)] 191 = true := by decide +kernel
theorem qX12_looks_231 : decB cX12_looks 231 [.goto (-227)] 4 = true := by decide +kernel
theorem qX12_looks_234 : decB cX12_looks 234 [.iload_n 1] 235 = true := by decide +kernel
theorem dX12_looks_6 : decode cX12_looks 6 = .ok (.getfield 9, 3) := by decide +kernel
theorem dX12_looks_11 : decode cX12_looks 11 = .ok (.iaload, 1) := by decide +kernel
theorem dX12_looks_12 : decode cX12_looks 12 = .ok (.if_icmp .ge 222, 3) := by decide +kernel
theorem dX12_looks_24 : decode cX12_looks 24 = .ok (.getfield 9, 3) := by decide +kernel
theorem dX12_looks_30 : decode cX12_looks 30 = .ok (.iaload, 1) := by decide +kernel
theorem dX12_looks_32 : decode cX12_looks 32 = .ok (.getfield 9, 3) := by decide +kernel
theorem dX12_looks_36 : decode cX12_looks 36 = .ok (.iaload, 1) := by decide +kernel
theorem dX12_looks_37 : decode cX12_looks 37 = .ok (.if_icmp .ge 7, 3) := by decide +kernel
theorem dX12_looks_49 : decode cX12_looks 49 = .ok (.ifCond .ne 48, 3) := by decide +kernel
theorem dX12_looks_53 : decode cX12_looks 53 = .ok (.getfield 9, 3) := by decide +kernel
theorem dX12_looks_57 : decode cX12_looks 57 = .ok (.iaload, 1) := by decide +kernel
theorem dX12_looks_60 : decode cX12_looks 60 = .ok (.if_icmp .ge 37, 3) := by decide +kernel
theorem dX12_looks_65 : decode cX12_looks 65 = .ok (.getfield 9, 3) := by decide +kernel
theorem dX12_looks_69 : decode cX12_looks 69 = .ok (.iaload, 1) := by decide +kernel
theorem dX12_looks_71 : decode cX12_looks 71 = .ok (.getfield 9, 3) := by decide +kernel
theorem dX12_looks_77 : decode cX12_looks 77 = .ok (.iaload, 1) := by decide +kernel
theorem dX12_looks_79 : decode cX12_looks 79 = .ok (.getfield 9, 3) := by decide +kernel
theorem dX12_looks_85 : decode cX12_looks 85 = .ok (.iaload, 1) := by decide +kernel
theorem dX12_looks_86 : decode cX12_looks 86 = .ok (.invokevirtual 94, 3) := by decide +kernel
theorem dX12_looks_90 : decode cX12_looks 90 = .ok (.if_icmp .ne 7, 3) := by decide +kernel
theorem dX12_looks_102 : decode cX12_looks 102 = .ok (.ifCond .eq 59, 3) := by decide +kernel
theorem dX12_looks_107 : decode cX12_looks 107 = .ok (.getfield 9, 3) := by decide +kernel
theorem dX12_looks_111 : decode cX12_looks 111 = .ok (.iaload, 1) := by decide +kernel
theorem dX12_looks_113 : decode cX12_looks 113 = .ok (.getfield 9, 3) := by decide +kernel
theorem dX12_looks_119 : decode cX12_looks 119 = .ok (.iaload, 1) := by decide +kernel
theorem dX12_looks_121 : decode cX12_looks 121 = .ok (.getfield 9, 3) := by decide +kernel
theorem dX12_looks_127 : decode cX12_looks 127 = .ok (.iaload, 1) := by decide +kernel
theorem dX12_looks_129 : decode cX12_looks 129 = .ok (.getfield 9, 3) := by decide +kernel
theorem dX12_looks_135 : decode cX12_looks 135 = .ok (.iaload, 1) := by decide +kernel
theorem dX12_looks_137 : decode cX12_looks 137 = .ok (.getfield 9, 3) := by decide +kernel
theorem dX12_looks_143 : decode cX12_looks 143 = .ok (.iaload, 1) := by decide +kernel
theorem dX12_looks_145 : decode cX12_looks 145 = .ok (.getfield 9, 3) := by decide +kernel
theorem dX12_looks_151 : decode cX12_looks 151 = .ok (.iaload, 1) := by decide +kernel
theorem dX12_looks_153 : decode cX12_looks 153 = .ok (.invokevirtual 97, 3) := by decide +kernel
theorem dX12_looks_163 : decode cX12_looks 163 = .ok (.ifCond .ne 14, 3) := by decide +kernel
theorem dX12_looks_168 : decode cX12_looks 168 = .ok (.ifCond .ne 9, 3) := by decide +kernel
theorem dX12_looks_178 : decode cX12_looks 178 = .ok (.getfield 9, 3) := by decide +kernel
theorem dX12_looks_184 : decode cX12_looks 184 = .ok (.iaload, 1) := by decide +kernel
theorem dX12_looks_187 : decode cX12_looks 187 = .ok (.iastore, 1) := by decide +kernel
theorem dX12_looks_197 : decode cX12_looks 197 = .ok (.getfield 9, 3) := by decide +kernel
theorem dX12_looks_202 : decode cX12_looks 202 = .ok (.iaload, 1) := by decide +kernel
theorem dX12_looks_206 : decode cX12_looks 206 = .ok (.if_icmp .ge 25, 3) := by decide +kernel
theorem dX12_looks_210 : decode cX12_looks 210 = .ok (.getfield 9, 3) := by decide +kernel
theorem dX12_looks_216 : decode cX12_looks 216 = .ok (.getfield 9, 3) := by decide +kernel
theorem dX12_looks_223 : decode cX12_looks 223 = .ok (.iaload, 1) := by decide +kernel
theorem dX12_looks_224 : decode cX12_looks 224 = .ok (.iastore, 1) := by decide +kernel
theorem dX12_looks_235 : decode cX12_looks 235 = .ok (.ireturn, 1) := by decide +kernel
theorem qX12_keeps_0 : decB cX12_keeps 0 [.aload_n 0] 1 = true := by decide +kernel
theorem qX12_keeps_4 : decB cX12_keeps 4 [.bipush 6] 6 = true := by decide +kernel
theorem qX12_keeps_9 : decB cX12_keeps 9 [.aload_n 0] 10 = true := by decide +kernel
theorem qX12_keeps_13 : decB cX12_keeps 13 [.sipush 5022, .aload_n 0] 17 = true := by decide +kernel
theorem qX12_keeps_20 : decB cX12_keeps 20 [.iconst 0, .sipush 25110] 24 = true := by decide +kernel
theorem qX12_keeps_27 : decB cX12_keeps 27 [.aload_n 0, .dup] 29 = true := by decide +kernel
theorem qX12_keeps_32 : decB cX12_keeps 32 [.iconst 1, .isub] 34 = true := by decide +kernel
theorem qX12_keeps_37 : decB cX12_keeps 37 [.aload_n 0] 38 = true := by decide +kernel
theorem qX12_keeps_41 : decB cX12_keeps 41 [.iconst 0, .aload_n 0] 43 = true := by decide +kernel
theorem qX12_keeps_46 : decB cX12_keeps 46 [.aload_n 0] 47 = true := by decide +kernel
theorem qX12_keeps_50 : decB cX12_keeps 50 [.sipush 5022, .imul, .sipush 5022] 57 = true := by decide +kernel
theorem qX12_keeps_60 : decB cX12_keeps 60 [.aload_n 0, .dup] 62 = true := by decide +kernel
theorem qX12_keeps_65 : decB cX12_keeps 65 [.iconst 1, .iadd] 67 = true := by decide +kernel
theorem dX12_keeps_1 : decode cX12_keeps 1 = .ok (.getfield 101, 3) := by decide +kernel
theorem dX12_keeps_6 : decode cX12_keeps 6 = .ok (.if_icmp .ne 31, 3) := by decide +kernel
theorem dX12_keeps_10 : decode cX12_keeps 10 = .ok (.getfield 13, 3) := by decide +kernel
theorem dX12_keeps_17 : decode cX12_keeps 17 = .ok (.getfield 13, 3) := by decide +kernel
theorem dX12_keeps_24 : decode cX12_keeps 24 = .ok (.invokestatic 104, 3) := by decide +kernel
theorem dX12_keeps_29 : decode cX12_keeps 29 = .ok (.getfield 101, 3) := by decide +kernel
theorem dX12_keeps_34 : decode cX12_keeps 34 = .ok (.putfield 101, 3) := by decide +kernel
theorem dX12_keeps_38 : decode cX12_keeps 38 = .ok (.getfield 9, 3) := by decide +kernel
theorem dX12_keeps_43 : decode cX12_keeps 43 = .ok (.getfield 13, 3) := by decide +kernel
theorem dX12_keeps_47 : decode cX12_keeps 47 = .ok (.getfield 101, 3) := by decide +kernel
theorem dX12_keeps_57 : decode cX12_keeps 57 = .ok (.invokestatic 104, 3) := by decide +kernel
theorem dX12_keeps_62 : decode cX12_keeps 62 = .ok (.getfield 101, 3) := by decide +kernel
theorem dX12_keeps_67 : decode cX12_keeps 67 = .ok (.putfield 101, 3) := by decide +kernel
theorem dX12_keeps_70 : decode cX12_keeps 70 = .ok (.return_, 1) := by decide +kernel
theorem qX12_addKind_0 : decB cX12_addKind 0 [.aload_n 0, .iload_n 1, .iconst 1, .bipush 6] 5 = true := by decide +kernel
theorem qX12_addKind_11 : decB cX12_addKind 11 [.iload_n 2, .bipush 100] 14 = true := by decide +kernel
theorem qX12_addKind_22 : decB cX12_addKind 22 [.iconst 1, .goto 4] 27 = true := by decide +kernel
theorem qX12_addKind_26 : decB cX12_addKind 26 [.iconst 0] 27 = true := by decide +kernel
theorem qX12_addKind_27 : decB cX12_addKind 27 [.aload_n 0] 28 = true := by decide +kernel
theorem qX12_addKind_31 : decB cX12_addKind 31 [.iconst 1] 32 = true := by decide +kernel
theorem qX12_addKind_33 : decB cX12_addKind 33 [.iconst 3] 34 = true := by decide +kernel
theorem qX12_addKind_37 : decB cX12_addKind 37 [.iconst 1, .goto 4] 42 = true := by decide +kernel
theorem qX12_addKind_41 : decB cX12_addKind 41 [.iconst 0] 42 = true := by decide +kernel
theorem qX12_addKind_42 : decB cX12_addKind 42 [.iconst 1] 43 = true := by decide +kernel
theorem qX12_addKind_49 : decB cX12_addKind 49 [.iconst 0] 50 = true := by decide +kernel
theorem qX12_addKind_51 : decB cX12_addKind 51 [.aload_n 0] 52 = true := by decide +kernel
theorem qX12_addKind_55 : decB cX12_addKind 55 [.aload_n 0] 56 = true := by decide +kernel
theorem qX12_addKind_59 : decB cX12_addKind 59 [.iconst 1] 60 = true := by decide +kernel
theorem qX12_addKind_61 : decB cX12_addKind 61 [.istore_n 3, .aload_n 0] 63 = true := by decide +kernel
theorem qX12_addKind_66 : decB cX12_addKind 66 [.bipush 31, .iload_n 3, .iconst 3, .imul, .iadd, .iconst 0, .iadd, .iload_n 1] 75 = true := by decide +kernel
theorem qX12_addKind_76 : decB cX12_addKind 76 [.aload_n 0] 77 = true := by decide +kernel
theorem qX12_addKind_80 : decB cX12_addKind 80 [.bipush 31, .iload_n 3, .iconst 3, .imul, .iadd, .iconst 1, .iadd, .iload_n 2] 89 = true := by decide +kernel
theorem qX12_addKind_90 : decB cX12_addKind 90 [.aload_n 0] 91 = true := by decide +kernel
theorem qX12_addKind_94 : decB cX12_addKind 94 [.iconst 1, .dup2] 96 = true := by decide +kernel
theorem qX12_addKind_97 : decB cX12_addKind 97 [.iconst 1, .iadd] 99 = true := by decide +kernel
theorem qX12_addKind_100 : decB cX12_addKind 100 [.iload_n 3] 101 = true := by decide +kernel
theorem dX12_addKind_5 : decode cX12_addKind 5 = .ok (.invokestatic 35, 3) := by decide +kernel
theorem dX12_addKind_8 : decode cX12_addKind 8 = .ok (.ifCond .eq 18, 3) := by decide +kernel
theorem dX12_addKind_14 : decode cX12_addKind 14 = .ok (.ldc 110, 2) := by decide +kernel
theorem dX12_addKind_16 : decode cX12_addKind 16 = .ok (.invokestatic 35, 3) := by decide +kernel
theorem dX12_addKind_19 : decode cX12_addKind 19 = .ok (.ifCond .eq 7, 3) := by decide +kernel
theorem dX12_addKind_28 : decode cX12_addKind 28 = .ok (.getfield 9, 3) := by decide +kernel
theorem dX12_addKind_32 : decode cX12_addKind 32 = .ok (.iaload, 1) := by decide +kernel
theorem dX12_addKind_34 : decode cX12_addKind 34 = .ok (.if_icmp .ge 7, 3) := by decide +kernel
theorem dX12_addKind_43 : decode cX12_addKind 43 = .ok (.invokevirtual 111, 3) := by decide +kernel
theorem dX12_addKind_46 : decode cX12_addKind 46 = .ok (.ifCond .ne 5, 3) := by decide +kernel
theorem dX12_addKind_50 : decode cX12_addKind 50 = .ok (.ireturn, 1) := by decide +kernel
theorem dX12_addKind_52 : decode cX12_addKind 52 = .ok (.invokevirtual 115, 3) := by decide +kernel
theorem dX12_addKind_56 : decode cX12_addKind 56 = .ok (.getfield 9, 3) := by decide +kernel
theorem dX12_addKind_60 : decode cX12_addKind 60 = .ok (.iaload, 1) := by decide +kernel
theorem dX12_addKind_63 : decode cX12_addKind 63 = .ok (.getfield 9, 3) := by decide +kernel
theorem dX12_addKind_75 : decode cX12_addKind 75 = .ok (.iastore, 1) := by decide +kernel
theorem dX12_addKind_77 : decode cX12_addKind 77 = .ok (.getfield 9, 3) := by decide +kernel
theorem dX12_addKind_89 : decode cX12_addKind 89 = .ok (.iastore, 1) := by decide +kernel
theorem dX12_addKind_91 : decode cX12_addKind 91 = .ok (.getfield 9, 3) := by decide +kernel
theorem dX12_addKind_96 : decode cX12_addKind 96 = .ok (.iaload, 1) := by decide +kernel
theorem dX12_addKind_99 : decode cX12_addKind 99 = .ok (.iastore, 1) := by decide +kernel
theorem dX12_addKind_101 : decode cX12_addKind 101 = .ok (.ireturn, 1) := by decide +kernel
theorem qX12_closeNight_0 : decB cX12_closeNight 0 [.aload_n 0, .aload_n 0, .iload_n 1] 3 = true := by decide +kernel
theorem qX12_closeNight_6 : decB cX12_closeNight 6 [.iload_n 2] 7 = true := by decide +kernel
theorem qX12_closeNight_10 : decB cX12_closeNight 10 [.iconst 1] 11 = true := by decide +kernel
theorem qX12_closeNight_17 : decB cX12_closeNight 17 [.iconst 0] 18 = true := by decide +kernel
theorem qX12_closeNight_19 : decB cX12_closeNight 19 [.aload_n 0] 20 = true := by decide +kernel
theorem qX12_closeNight_23 : decB cX12_closeNight 23 [.iload_n 2] 24 = true := by decide +kernel
theorem qX12_closeNight_27 : decB cX12_closeNight 27 [.istore 4, .sipush 1596, .iload_n 1, .sipush 1142, .imul, .iadd, .iload 4, .bipush 32] 42 = true := by decide +kernel
theorem qX12_closeNight_43 : decB cX12_closeNight 43 [.iadd, .istore 5, .aload_n 0] 47 = true := by decide +kernel
theorem qX12_closeNight_50 : decB cX12_closeNight 50 [.iload 5, .iload_n 3] 53 = true := by decide +kernel
theorem qX12_closeNight_56 : decB cX12_closeNight 56 [.aload_n 0] 57 = true := by decide +kernel
theorem qX12_closeNight_60 : decB cX12_closeNight 60 [.iload 5] 62 = true := by decide +kernel
theorem qX12_closeNight_63 : decB cX12_closeNight 63 [.iconst 1, .iload 4, .bipush 32] 68 = true := by decide +kernel
theorem qX12_closeNight_71 : decB cX12_closeNight 71 [.goto 20] 91 = true := by decide +kernel
theorem qX12_closeNight_74 : decB cX12_closeNight 74 [.aload_n 0] 75 = true := by decide +kernel
theorem qX12_closeNight_78 : decB cX12_closeNight 78 [.iload 5] 80 = true := by decide +kernel
theorem qX12_closeNight_81 : decB cX12_closeNight 81 [.iconst 1, .iload 4, .bipush 32] 86 = true := by decide +kernel
theorem qX12_closeNight_88 : decB cX12_closeNight 88 [.iconst (-1)] 89 = true := by decide +kernel
theorem qX12_closeNight_92 : decB cX12_closeNight 92 [.iload_n 3] 93 = true := by decide +kernel
theorem qX12_closeNight_96 : decB cX12_closeNight 96 [.iconst 0, .goto 7] 104 = true := by decide +kernel
theorem qX12_closeNight_100 : decB cX12_closeNight 100 [.aload_n 0] 101 = true := by decide +kernel
theorem dX12_closeNight_3 : decode cX12_closeNight 3 = .ok (.invokevirtual 118, 3) := by decide +kernel
theorem dX12_closeNight_7 : decode cX12_closeNight 7 = .ok (.invokestatic 121, 3) := by decide +kernel
theorem dX12_closeNight_11 : decode cX12_closeNight 11 = .ok (.invokevirtual 111, 3) := by decide +kernel
theorem dX12_closeNight_14 : decode cX12_closeNight 14 = .ok (.ifCond .ne 5, 3) := by decide +kernel
theorem dX12_closeNight_18 : decode cX12_closeNight 18 = .ok (.ireturn, 1) := by decide +kernel
theorem dX12_closeNight_20 : decode cX12_closeNight 20 = .ok (.invokevirtual 115, 3) := by decide +kernel
theorem dX12_closeNight_24 : decode cX12_closeNight 24 = .ok (.invokestatic 27, 3) := by decide +kernel
theorem dX12_closeNight_42 : decode cX12_closeNight 42 = .ok (.idiv, 1) := by decide +kernel
theorem dX12_closeNight_47 : decode cX12_closeNight 47 = .ok (.getfield 9, 3) := by decide +kernel
theorem dX12_closeNight_53 : decode cX12_closeNight 53 = .ok (.ifCond .eq 21, 3) := by decide +kernel
theorem dX12_closeNight_57 : decode cX12_closeNight 57 = .ok (.getfield 9, 3) := by decide +kernel
theorem dX12_closeNight_62 : decode cX12_closeNight 62 = .ok (.iaload, 1) := by decide +kernel
theorem dX12_closeNight_68 : decode cX12_closeNight 68 = .ok (.irem, 1) := by decide +kernel
theorem dX12_closeNight_69 : decode cX12_closeNight 69 = .ok (.ishl, 1) := by decide +kernel
theorem dX12_closeNight_70 : decode cX12_closeNight 70 = .ok (.ior, 1) := by decide +kernel
theorem dX12_closeNight_75 : decode cX12_closeNight 75 = .ok (.getfield 9, 3) := by decide +kernel
theorem dX12_closeNight_80 : decode cX12_closeNight 80 = .ok (.iaload, 1) := by decide +kernel
theorem dX12_closeNight_86 : decode cX12_closeNight 86 = .ok (.irem, 1) := by decide +kernel
theorem dX12_closeNight_87 : decode cX12_closeNight 87 = .ok (.ishl, 1) := by decide +kernel
theorem dX12_closeNight_89 : decode cX12_closeNight 89 = .ok (.ixor, 1) := by decide +kernel
theorem dX12_closeNight_90 : decode cX12_closeNight 90 = .ok (.iand, 1) := by decide +kernel
theorem dX12_closeNight_91 : decode cX12_closeNight 91 = .ok (.iastore, 1) := by decide +kernel
theorem dX12_closeNight_93 : decode cX12_closeNight 93 = .ok (.ifCond .eq 7, 3) := by decide +kernel
theorem dX12_closeNight_101 : decode cX12_closeNight 101 = .ok (.invokevirtual 124, 3) := by decide +kernel
theorem dX12_closeNight_104 : decode cX12_closeNight 104 = .ok (.ireturn, 1) := by decide +kernel
theorem qX12_setExtra_0 : decB cX12_setExtra 0 [.aload_n 0, .aload_n 0, .iload_n 1] 3 = true := by decide +kernel
theorem qX12_setExtra_6 : decB cX12_setExtra 6 [.iload_n 2, .iconst 0, .iconst 3] 9 = true := by decide +kernel
theorem qX12_setExtra_12 : decB cX12_setExtra 12 [.iconst 1] 13 = true := by decide +kernel
theorem qX12_setExtra_19 : decB cX12_setExtra 19 [.iconst 0] 20 = true := by decide +kernel
theorem qX12_setExtra_21 : decB cX12_setExtra 21 [.aload_n 0] 22 = true := by decide +kernel
theorem qX12_setExtra_25 : decB cX12_setExtra 25 [.aload_n 0] 26 = true := by decide +kernel
theorem qX12_setExtra_29 : decB cX12_setExtra 29 [.bipush 31, .iload_n 1, .iconst 3, .imul, .iadd, .iconst 2, .iadd, .iload_n 2] 38 = true := by decide +kernel
theorem qX12_setExtra_39 : decB cX12_setExtra 39 [.aload_n 0] 40 = true := by decide +kernel
theorem dX12_setExtra_3 : decode cX12_setExtra 3 = .ok (.invokevirtual 118, 3) := by decide +kernel
theorem dX12_setExtra_9 : decode cX12_setExtra 9 = .ok (.invokestatic 35, 3) := by decide +kernel
theorem dX12_setExtra_13 : decode cX12_setExtra 13 = .ok (.invokevirtual 111, 3) := by decide +kernel
theorem dX12_setExtra_16 : decode cX12_setExtra 16 = .ok (.ifCond .ne 5, 3) := by decide +kernel
theorem dX12_setExtra_20 : decode cX12_setExtra 20 = .ok (.ireturn, 1) := by decide +kernel
theorem dX12_setExtra_22 : decode cX12_setExtra 22 = .ok (.invokevirtual 115, 3) := by decide +kernel
theorem dX12_setExtra_26 : decode cX12_setExtra 26 = .ok (.getfield 9, 3) := by decide +kernel
theorem dX12_setExtra_38 : decode cX12_setExtra 38 = .ok (.iastore, 1) := by decide +kernel
theorem dX12_setExtra_40 : decode cX12_setExtra 40 = .ok (.invokevirtual 124, 3) := by decide +kernel
theorem dX12_setExtra_43 : decode cX12_setExtra 43 = .ok (.ireturn, 1) := by decide +kernel
theorem qX12_isDayOfYear_0 : decB cX12_isDayOfYear 0 [.iload_n 0] 1 = true := by decide +kernel
theorem qX12_isDayOfYear_4 : decB cX12_isDayOfYear 4 [.iload_n 0, .sipush 10000] 8 = true := by decide +kernel
theorem qX12_isDayOfYear_13 : decB cX12_isDayOfYear 13 [.iload_n 0, .iadd] 15 = true := by decide +kernel
theorem qX12_isDayOfYear_21 : decB cX12_isDayOfYear 21 [.iconst 1, .goto 4] 26 = true := by decide +kernel
theorem qX12_isDayOfYear_25 : decB cX12_isDayOfYear 25 [.iconst 0] 26 = true := by decide +kernel
theorem dX12_isDayOfYear_1 : decode cX12_isDayOfYear 1 = .ok (.ifCond .le 24, 3) := by decide +kernel
theorem dX12_isDayOfYear_8 : decode cX12_isDayOfYear 8 = .ok (.if_icmp .ge 17, 3) := by decide +kernel
theorem dX12_isDayOfYear_11 : decode cX12_isDayOfYear 11 = .ok (.ldc 128, 2) := by decide +kernel
theorem dX12_isDayOfYear_15 : decode cX12_isDayOfYear 15 = .ok (.invokestatic 121, 3) := by decide +kernel
theorem dX12_isDayOfYear_18 : decode cX12_isDayOfYear 18 = .ok (.ifCond .eq 7, 3) := by decide +kernel
theorem dX12_isDayOfYear_26 : decode cX12_isDayOfYear 26 = .ok (.ireturn, 1) := by decide +kernel
theorem qX12_addSeason_0 : decB cX12_addSeason 0 [.aload_n 0, .iload_n 1] 2 = true := by decide +kernel
theorem qX12_addSeason_8 : decB cX12_addSeason 8 [.iload_n 2] 9 = true := by decide +kernel
theorem qX12_addSeason_15 : decB cX12_addSeason 15 [.iload_n 3, .bipush (-50), .bipush 100] 20 = true := by decide +kernel
theorem qX12_addSeason_26 : decB cX12_addSeason 26 [.iload 4, .iconst 1, .bipush 7] 31 = true := by decide +kernel
theorem qX12_addSeason_37 : decB cX12_addSeason 37 [.iconst 1, .goto 4] 42 = true := by decide +kernel
theorem qX12_addSeason_41 : decB cX12_addSeason 41 [.iconst 0] 42 = true := by decide +kernel
theorem qX12_addSeason_42 : decB cX12_addSeason 42 [.aload_n 0] 43 = true := by decide +kernel
theorem qX12_addSeason_46 : decB cX12_addSeason 46 [.iconst 2] 47 = true := by decide +kernel
theorem qX12_addSeason_48 : decB cX12_addSeason 48 [.iconst 4] 49 = true := by decide +kernel
theorem qX12_addSeason_52 : decB cX12_addSeason 52 [.iconst 1, .goto 4] 57 = true := by decide +kernel
theorem qX12_addSeason_56 : decB cX12_addSeason 56 [.iconst 0] 57 = true := by decide +kernel
theorem qX12_addSeason_57 : decB cX12_addSeason 57 [.iconst 1] 58 = true := by decide +kernel
theorem qX12_addSeason_64 : decB cX12_addSeason 64 [.iconst 0] 65 = true := by decide +kernel
theorem qX12_addSeason_66 : decB cX12_addSeason 66 [.aload_n 0] 67 = true := by decide +kernel
theorem qX12_addSeason_70 : decB cX12_addSeason 70 [.bipush 40, .aload_n 0] 73 = true := by decide +kernel
theorem qX12_addSeason_76 : decB cX12_addSeason 76 [.iconst 2] 77 = true := by decide +kernel
theorem qX12_addSeason_78 : decB cX12_addSeason 78 [.iconst 4, .imul, .iadd, .istore 5, .aload_n 0] 84 = true := by decide +kernel
theorem qX12_addSeason_87 : decB cX12_addSeason 87 [.iload 5, .iload_n 1] 90 = true := by decide +kernel
theorem qX12_addSeason_91 : decB cX12_addSeason 91 [.aload_n 0] 92 = true := by decide +kernel
theorem qX12_addSeason_95 : decB cX12_addSeason 95 [.iload 5, .iconst 1, .iadd, .iload_n 2] 100 = true := by decide +kernel
theorem qX12_addSeason_101 : decB cX12_addSeason 101 [.aload_n 0] 102 = true := by decide +kernel
theorem qX12_addSeason_105 : decB cX12_addSeason 105 [.iload 5, .iconst 2, .iadd, .iload_n 3] 110 = true := by decide +kernel
theorem qX12_addSeason_111 : decB cX12_addSeason 111 [.aload_n 0] 112 = true := by decide +kernel
theorem qX12_addSeason_115 : decB cX12_addSeason 115 [.iload 5, .iconst 3, .iadd, .iload 4] 121 = true := by decide +kernel
theorem qX12_addSeason_122 : decB cX12_addSeason 122 [.aload_n 0] 123 = true := by decide +kernel
theorem qX12_addSeason_126 : decB cX12_addSeason 126 [.iconst 2, .dup2] 128 = true := by decide +kernel
theorem qX12_addSeason_129 : decB cX12_addSeason 129 [.iconst 1, .iadd] 131 = true := by decide +kernel
theorem qX12_addSeason_132 : decB cX12_addSeason 132 [.aload_n 0] 133 = true := by decide +kernel
theorem qX12_addSeason_136 : decB cX12_addSeason 136 [.iconst 2] 137 = true := by decide +kernel
theorem qX12_addSeason_138 : decB cX12_addSeason 138 [.iconst 1, .isub] 140 = true := by decide +kernel
theorem dX12_addSeason_2 : decode cX12_addSeason 2 = .ok (.invokestatic 129, 3) := by decide +kernel
theorem dX12_addSeason_5 : decode cX12_addSeason 5 = .ok (.ifCond .eq 36, 3) := by decide +kernel
theorem dX12_addSeason_9 : decode cX12_addSeason 9 = .ok (.invokestatic 129, 3) := by decide +kernel
theorem dX12_addSeason_12 : decode cX12_addSeason 12 = .ok (.ifCond .eq 29, 3) := by decide +kernel
theorem dX12_addSeason_20 : decode cX12_addSeason 20 = .ok (.invokestatic 35, 3) := by decide +kernel
theorem dX12_addSeason_23 : decode cX12_addSeason 23 = .ok (.ifCond .eq 18, 3) := by decide +kernel
theorem dX12_addSeason_31 : decode cX12_addSeason 31 = .ok (.invokestatic 35, 3) := by decide +kernel
theorem dX12_addSeason_34 : decode cX12_addSeason 34 = .ok (.ifCond .eq 7, 3) := by decide +kernel
theorem dX12_addSeason_43 : decode cX12_addSeason 43 = .ok (.getfield 9, 3) := by decide +kernel
theorem dX12_addSeason_47 : decode cX12_addSeason 47 = .ok (.iaload, 1) := by decide +kernel
theorem dX12_addSeason_49 : decode cX12_addSeason 49 = .ok (.if_icmp .ge 7, 3) := by decide +kernel
theorem dX12_addSeason_58 : decode cX12_addSeason 58 = .ok (.invokevirtual 111, 3) := by decide +kernel
theorem dX12_addSeason_61 : decode cX12_addSeason 61 = .ok (.ifCond .ne 5, 3) := by decide +kernel
theorem dX12_addSeason_65 : decode cX12_addSeason 65 = .ok (.ireturn, 1) := by decide +kernel
theorem dX12_addSeason_67 : decode cX12_addSeason 67 = .ok (.invokevirtual 115, 3) := by decide +kernel
theorem dX12_addSeason_73 : decode cX12_addSeason 73 = .ok (.getfield 9, 3) := by decide +kernel
theorem dX12_addSeason_77 : decode cX12_addSeason 77 = .ok (.iaload, 1) := by decide +kernel
theorem dX12_addSeason_84 : decode cX12_addSeason 84 = .ok (.getfield 9, 3) := by decide +kernel
theorem dX12_addSeason_90 : decode cX12_addSeason 90 = .ok (.iastore, 1) := by decide +kernel
theorem dX12_addSeason_92 : decode cX12_addSeason 92 = .ok (.getfield 9, 3) := by decide +kernel
theorem dX12_addSeason_100 : decode cX12_addSeason 100 = .ok (.iastore, 1) := by decide +kernel
theorem dX12_addSeason_102 : decode cX12_addSeason 102 = .ok (.getfield 9, 3) := by decide +kernel
theorem dX12_addSeason_110 : decode cX12_addSeason 110 = .ok (.iastore, 1) := by decide +kernel
theorem dX12_addSeason_112 : decode cX12_addSeason 112 = .ok (.getfield 9, 3) := by decide +kernel
theorem dX12_addSeason_121 : decode cX12_addSeason 121 = .ok (.iastore, 1) := by decide +kernel
theorem dX12_addSeason_123 : decode cX12_addSeason 123 = .ok (.getfield 9, 3) := by decide +kernel
theorem dX12_addSeason_128 : decode cX12_addSeason 128 = .ok (.iaload, 1) := by decide +kernel
theorem dX12_addSeason_131 : decode cX12_addSeason 131 = .ok (.iastore, 1) := by decide +kernel
theorem dX12_addSeason_133 : decode cX12_addSeason 133 = .ok (.getfield 9, 3) := by decide +kernel
theorem dX12_addSeason_137 : decode cX12_addSeason 137 = .ok (.iaload, 1) := by decide +kernel
theorem dX12_addSeason_140 : decode cX12_addSeason 140 = .ok (.ireturn, 1) := by decide +kernel
theorem qX12_setWeekend_0 : decB cX12_setWeekend 0 [.aload_n 0, .iload_n 1, .iconst 0, .bipush 100] 5 = true := by decide +kernel
theorem qX12_setWeekend_11 : decB cX12_setWeekend 11 [.iload_n 2, .iconst 0, .sipush 1000] 16 = true := by decide +kernel
theorem qX12_setWeekend_22 : decB cX12_setWeekend 22 [.iconst 1, .goto 4] 27 = true := by decide +kernel
theorem qX12_setWeekend_26 : decB cX12_setWeekend 26 [.iconst 0] 27 = true := by decide +kernel
theorem qX12_setWeekend_27 : decB cX12_setWeekend 27 [.iconst 1, .iconst 1] 29 = true := by decide +kernel
theorem qX12_setWeekend_35 : decB cX12_setWeekend 35 [.iconst 0] 36 = true := by decide +kernel
theorem qX12_setWeekend_37 : decB cX12_setWeekend 37 [.aload_n 0] 38 = true := by decide +kernel
theorem qX12_setWeekend_41 : decB cX12_setWeekend 41 [.aload_n 0] 42 = true := by decide +kernel
theorem qX12_setWeekend_45 : decB cX12_setWeekend 45 [.iconst 4] 46 = true := by decide +kernel
theorem qX12_setWeekend_47 : decB cX12_setWeekend 47 [.istore_n 3, .aload_n 0] 49 = true := by decide +kernel
theorem qX12_setWeekend_52 : decB cX12_setWeekend 52 [.iconst 3, .iload_n 1] 54 = true := by decide +kernel
theorem qX12_setWeekend_55 : decB cX12_setWeekend 55 [.aload_n 0] 56 = true := by decide +kernel
theorem qX12_setWeekend_59 : decB cX12_setWeekend 59 [.iconst 4, .iload_n 2] 61 = true := by decide +kernel
theorem qX12_setWeekend_62 : decB cX12_setWeekend 62 [.iload_n 3] 63 = true := by decide +kernel
theorem dX12_setWeekend_5 : decode cX12_setWeekend 5 = .ok (.invokestatic 35, 3) := by decide +kernel
theorem dX12_setWeekend_8 : decode cX12_setWeekend 8 = .ok (.ifCond .eq 18, 3) := by decide +kernel
theorem dX12_setWeekend_16 : decode cX12_setWeekend 16 = .ok (.invokestatic 35, 3) := by decide +kernel
theorem dX12_setWeekend_19 : decode cX12_setWeekend 19 = .ok (.ifCond .eq 7, 3) := by decide +kernel
theorem dX12_setWeekend_29 : decode cX12_setWeekend 29 = .ok (.invokevirtual 111, 3) := by decide +kernel
theorem dX12_setWeekend_32 : decode cX12_setWeekend 32 = .ok (.ifCond .ne 5, 3) := by decide +kernel
theorem dX12_setWeekend_36 : decode cX12_setWeekend 36 = .ok (.ireturn, 1) := by decide +kernel
theorem dX12_setWeekend_38 : decode cX12_setWeekend 38 = .ok (.invokevirtual 115, 3) := by decide +kernel
theorem dX12_setWeekend_42 : decode cX12_setWeekend 42 = .ok (.getfield 9, 3) := by decide +kernel
theorem dX12_setWeekend_46 : decode cX12_setWeekend 46 = .ok (.iaload, 1) := by decide +kernel
theorem dX12_setWeekend_49 : decode cX12_setWeekend 49 = .ok (.getfield 9, 3) := by decide +kernel
theorem dX12_setWeekend_54 : decode cX12_setWeekend 54 = .ok (.iastore, 1) := by decide +kernel
theorem dX12_setWeekend_56 : decode cX12_setWeekend 56 = .ok (.getfield 9, 3) := by decide +kernel
theorem dX12_setWeekend_61 : decode cX12_setWeekend 61 = .ok (.iastore, 1) := by decide +kernel
theorem dX12_setWeekend_63 : decode cX12_setWeekend 63 = .ok (.ireturn, 1) := by decide +kernel
theorem qX12_canEnd_0 : decB cX12_canEnd 0 [.iload_n 1, .aload_n 0] 2 = true := by decide +kernel
theorem qX12_canEnd_5 : decB cX12_canEnd 5 [.iconst 0] 6 = true := by decide +kernel
theorem qX12_canEnd_7 : decB cX12_canEnd 7 [.sipush 365, .iadd] 11 = true := by decide +kernel
theorem qX12_canEnd_14 : decB cX12_canEnd 14 [.iload_n 1] 15 = true := by decide +kernel
theorem qX12_canEnd_20 : decB cX12_canEnd 20 [.iconst 1, .goto 4] 25 = true := by decide +kernel
theorem qX12_canEnd_24 : decB cX12_canEnd 24 [.iconst 0] 25 = true := by decide +kernel
theorem dX12_canEnd_2 : decode cX12_canEnd 2 = .ok (.getfield 9, 3) := by decide +kernel
theorem dX12_canEnd_6 : decode cX12_canEnd 6 = .ok (.iaload, 1) := by decide +kernel
theorem dX12_canEnd_11 : decode cX12_canEnd 11 = .ok (.if_icmp .gt 13, 3) := by decide +kernel
theorem dX12_canEnd_15 : decode cX12_canEnd 15 = .ok (.ldc 132, 2) := by decide +kernel
theorem dX12_canEnd_17 : decode cX12_canEnd 17 = .ok (.if_icmp .ge 7, 3) := by decide +kernel
theorem dX12_canEnd_25 : decode cX12_canEnd 25 = .ok (.ireturn, 1) := by decide +kernel
theorem qX12_isAskable_0 : decB cX12_isAskable 0 [.iload_n 1] 1 = true := by decide +kernel
theorem qX12_isAskable_7 : decB cX12_isAskable 7 [.iload_n 2, .iconst 1, .bipush 14] 11 = true := by decide +kernel
theorem qX12_isAskable_17 : decB cX12_isAskable 17 [.iload_n 3, .iconst 1, .iconst 4] 20 = true := by decide +kernel
theorem qX12_isAskable_26 : decB cX12_isAskable 26 [.iload 4, .iconst 0, .iconst 4] 30 = true := by decide +kernel
theorem qX12_isAskable_36 : decB cX12_isAskable 36 [.iload_n 1] 37 = true := by decide +kernel
theorem qX12_isAskable_40 : decB cX12_isAskable 40 [.aload_n 0] 41 = true := by decide +kernel
theorem qX12_isAskable_44 : decB cX12_isAskable 44 [.iconst 0] 45 = true := by decide +kernel
theorem qX12_isAskable_49 : decB cX12_isAskable 49 [.aload_n 0, .iload_n 1] 51 = true := by decide +kernel
theorem qX12_isAskable_54 : decB cX12_isAskable 54 [.iload_n 2, .iadd, .iconst 1, .isub] 58 = true := by decide +kernel
theorem qX12_isAskable_64 : decB cX12_isAskable 64 [.iconst 1, .goto 4] 69 = true := by decide +kernel
theorem qX12_isAskable_68 : decB cX12_isAskable 68 [.iconst 0] 69 = true := by decide +kernel
theorem dX12_isAskable_1 : decode cX12_isAskable 1 = .ok (.invokestatic 121, 3) := by decide +kernel
theorem dX12_isAskable_4 : decode cX12_isAskable 4 = .ok (.ifCond .eq 64, 3) := by decide +kernel
theorem dX12_isAskable_11 : decode cX12_isAskable 11 = .ok (.invokestatic 35, 3) := by decide +kernel
theorem dX12_isAskable_14 : decode cX12_isAskable 14 = .ok (.ifCond .eq 54, 3) := by decide +kernel
theorem dX12_isAskable_20 : decode cX12_isAskable 20 = .ok (.invokestatic 35, 3) := by decide +kernel
theorem dX12_isAskable_23 : decode cX12_isAskable 23 = .ok (.ifCond .eq 45, 3) := by decide +kernel
theorem dX12_isAskable_30 : decode cX12_isAskable 30 = .ok (.invokestatic 35, 3) := by decide +kernel
theorem dX12_isAskable_33 : decode cX12_isAskable 33 = .ok (.ifCond .eq 35, 3) := by decide +kernel
theorem dX12_isAskable_37 : decode cX12_isAskable 37 = .ok (.invokestatic 27, 3) := by decide +kernel
theorem dX12_isAskable_41 : decode cX12_isAskable 41 = .ok (.getfield 9, 3) := by decide +kernel
theorem dX12_isAskable_45 : decode cX12_isAskable 45 = .ok (.iaload, 1) := by decide +kernel
theorem dX12_isAskable_46 : decode cX12_isAskable 46 = .ok (.if_icmp .lt 22, 3) := by decide +kernel
theorem dX12_isAskable_51 : decode cX12_isAskable 51 = .ok (.invokestatic 27, 3) := by decide +kernel
theorem dX12_isAskable_58 : decode cX12_isAskable 58 = .ok (.invokevirtual 133, 3) := by decide +kernel
theorem dX12_isAskable_61 : decode cX12_isAskable 61 = .ok (.ifCond .eq 7, 3) := by decide +kernel
theorem dX12_isAskable_69 : decode cX12_isAskable 69 = .ok (.ireturn, 1) := by decide +kernel
theorem qX12_isTill_0 : decB cX12_isTill 0 [.iload_n 1] 1 = true := by decide +kernel
theorem qX12_isTill_7 : decB cX12_isTill 7 [.iload_n 1] 8 = true := by decide +kernel
theorem qX12_isTill_11 : decB cX12_isTill 11 [.aload_n 0] 12 = true := by decide +kernel
theorem qX12_isTill_15 : decB cX12_isTill 15 [.iconst 0] 16 = true := by decide +kernel
theorem qX12_isTill_17 : decB cX12_isTill 17 [.iload_n 2] 18 = true := by decide +kernel
theorem qX12_isTill_27 : decB cX12_isTill 27 [.iconst 1, .goto 4] 32 = true := by decide +kernel
theorem qX12_isTill_31 : decB cX12_isTill 31 [.iconst 0] 32 = true := by decide +kernel
theorem dX12_isTill_1 : decode cX12_isTill 1 = .ok (.invokestatic 121, 3) := by decide +kernel
theorem dX12_isTill_4 : decode cX12_isTill 4 = .ok (.ifCond .eq 27, 3) := by decide +kernel
theorem dX12_isTill_8 : decode cX12_isTill 8 = .ok (.invokestatic 27, 3) := by decide +kernel
theorem dX12_isTill_12 : decode cX12_isTill 12 = .ok (.getfield 9, 3) := by decide +kernel
theorem dX12_isTill_16 : decode cX12_isTill 16 = .ok (.iaload, 1) := by decide +kernel
theorem dX12_isTill_18 : decode cX12_isTill 18 = .ok (.invokestatic 27, 3) := by decide +kernel
theorem dX12_isTill_21 : decode cX12_isTill 21 = .ok (.invokestatic 35, 3) := by decide +kernel
theorem dX12_isTill_24 : decode cX12_isTill 24 = .ok (.ifCond .eq 7, 3) := by decide +kernel
theorem dX12_isTill_32 : decode cX12_isTill 32 = .ok (.ireturn, 1) := by decide +kernel
theorem qX12_ask_0 : decB cX12_ask 0 [.aload_n 0, .aload_n 0, .iload_n 1] 3 = true := by decide +kernel
theorem qX12_ask_6 : decB cX12_ask 6 [.aload_n 0, .iload_n 2, .iload_n 3, .iload 4, .iload 5] 13 = true := by decide +kernel
theorem qX12_ask_19 : decB cX12_ask 19 [.aload_n 0, .iload 6, .iload_n 2] 23 = true := by decide +kernel
theorem qX12_ask_29 : decB cX12_ask 29 [.iconst 1, .goto 4] 34 = true := by decide +kernel
theorem qX12_ask_33 : decB cX12_ask 33 [.iconst 0] 34 = true := by decide +kernel
theorem qX12_ask_34 : decB cX12_ask 34 [.aload_n 0] 35 = true := by decide +kernel
theorem qX12_ask_38 : decB cX12_ask 38 [.iconst 5] 39 = true := by decide +kernel
theorem qX12_ask_40 : decB cX12_ask 40 [.bipush 60] 42 = true := by decide +kernel
theorem qX12_ask_45 : decB cX12_ask 45 [.iconst 1, .goto 4] 50 = true := by decide +kernel
theorem qX12_ask_49 : decB cX12_ask 49 [.iconst 0] 50 = true := by decide +kernel
theorem qX12_ask_56 : decB cX12_ask 56 [.iconst 0] 57 = true := by decide +kernel
theorem qX12_ask_58 : decB cX12_ask 58 [.aload_n 0] 59 = true := by decide +kernel
theorem qX12_ask_62 : decB cX12_ask 62 [.aload_n 0, .iload_n 1, .iload_n 2] 65 = true := by decide +kernel
theorem qX12_ask_68 : decB cX12_ask 68 [.iload_n 3] 69 = true := by decide +kernel
theorem qX12_ask_72 : decB cX12_ask 72 [.istore 7, .iload 7, .iconst (-1)] 77 = true := by decide +kernel
theorem qX12_ask_80 : decB cX12_ask 80 [.aload_n 0, .iload_n 1, .iload_n 2] 83 = true := by decide +kernel
theorem qX12_ask_86 : decB cX12_ask 86 [.iload_n 3, .iload 4, .iload 5, .iload 6] 93 = true := by decide +kernel
theorem qX12_ask_96 : decB cX12_ask 96 [.iconst (-1)] 97 = true := by decide +kernel
theorem qX12_ask_101 : decB cX12_ask 101 [.aload_n 0] 102 = true := by decide +kernel
theorem qX12_ask_105 : decB cX12_ask 105 [.bipush 8, .iload 7] 109 = true := by decide +kernel
theorem qX12_ask_113 : decB cX12_ask 113 [.iconst (-1)] 114 = true := by decide +kernel
theorem dX12_ask_3 : decode cX12_ask 3 = .ok (.invokevirtual 118, 3) := by decide +kernel
theorem dX12_ask_13 : decode cX12_ask 13 = .ok (.invokevirtual 136, 3) := by decide +kernel
theorem dX12_ask_16 : decode cX12_ask 16 = .ok (.ifCond .eq 17, 3) := by decide +kernel
theorem dX12_ask_23 : decode cX12_ask 23 = .ok (.invokevirtual 140, 3) := by decide +kernel
theorem dX12_ask_26 : decode cX12_ask 26 = .ok (.ifCond .eq 7, 3) := by decide +kernel
theorem dX12_ask_35 : decode cX12_ask 35 = .ok (.getfield 9, 3) := by decide +kernel
theorem dX12_ask_39 : decode cX12_ask 39 = .ok (.iaload, 1) := by decide +kernel
theorem dX12_ask_42 : decode cX12_ask 42 = .ok (.if_icmp .ge 7, 3) := by decide +kernel
theorem dX12_ask_50 : decode cX12_ask 50 = .ok (.invokevirtual 111, 3) := by decide +kernel
theorem dX12_ask_53 : decode cX12_ask 53 = .ok (.ifCond .ne 5, 3) := by decide +kernel
theorem dX12_ask_57 : decode cX12_ask 57 = .ok (.ireturn, 1) := by decide +kernel
theorem dX12_ask_59 : decode cX12_ask 59 = .ok (.invokevirtual 115, 3) := by decide +kernel
theorem dX12_ask_65 : decode cX12_ask 65 = .ok (.invokestatic 27, 3) := by decide +kernel
theorem dX12_ask_69 : decode cX12_ask 69 = .ok (.invokevirtual 94, 3) := by decide +kernel
theorem dX12_ask_77 : decode cX12_ask 77 = .ok (.if_icmp .ne 24, 3) := by decide +kernel
theorem dX12_ask_83 : decode cX12_ask 83 = .ok (.invokestatic 27, 3) := by decide +kernel
theorem dX12_ask_93 : decode cX12_ask 93 = .ok (.invokestatic 27, 3) := by decide +kernel
theorem dX12_ask_97 : decode cX12_ask 97 = .ok (.invokevirtual 97, 3) := by decide +kernel
theorem dX12_ask_100 : decode cX12_ask 100 = .ok (.ireturn, 1) := by decide +kernel
theorem dX12_ask_102 : decode cX12_ask 102 = .ok (.getfield 9, 3) := by decide +kernel
theorem dX12_ask_109 : decode cX12_ask 109 = .ok (.invokestatic 66, 3) := by decide +kernel
theorem dX12_ask_112 : decode cX12_ask 112 = .ok (.iastore, 1) := by decide +kernel
theorem dX12_ask_114 : decode cX12_ask 114 = .ok (.ireturn, 1) := by decide +kernel
theorem qX12_group_0 : decB cX12_group 0 [.iload_n 2, .iconst 1, .bipush 6] 4 = true := by decide +kernel
theorem qX12_group_10 : decB cX12_group 10 [.aload_n 0, .iload_n 3, .iload 4, .iconst 1, .iconst 0] 16 = true := by decide +kernel
theorem qX12_group_22 : decB cX12_group 22 [.aload_n 0, .iload 5, .iload_n 3] 26 = true := by decide +kernel
theorem qX12_group_32 : decB cX12_group 32 [.iconst 1, .goto 4] 37 = true := by decide +kernel
theorem qX12_group_36 : decB cX12_group 36 [.iconst 0] 37 = true := by decide +kernel
theorem qX12_group_37 : decB cX12_group 37 [.istore 6, .aload_n 0, .aload_n 0, .iload_n 1] 42 = true := by decide +kernel
theorem qX12_group_45 : decB cX12_group 45 [.iload 6, .aload_n 0] 48 = true := by decide +kernel
theorem qX12_group_51 : decB cX12_group 51 [.bipush 6] 53 = true := by decide +kernel
theorem qX12_group_54 : decB cX12_group 54 [.bipush 10] 56 = true := by decide +kernel
theorem qX12_group_59 : decB cX12_group 59 [.aload_n 0] 60 = true := by decide +kernel
theorem qX12_group_63 : decB cX12_group 63 [.iconst 5] 64 = true := by decide +kernel
theorem qX12_group_65 : decB cX12_group 65 [.iload_n 2, .iadd, .bipush 60] 69 = true := by decide +kernel
theorem qX12_group_72 : decB cX12_group 72 [.iconst 1, .goto 4] 77 = true := by decide +kernel
theorem qX12_group_76 : decB cX12_group 76 [.iconst 0] 77 = true := by decide +kernel
theorem qX12_group_83 : decB cX12_group 83 [.iconst 0] 84 = true := by decide +kernel
theorem qX12_group_85 : decB cX12_group 85 [.aload_n 0] 86 = true := by decide +kernel
theorem qX12_group_89 : decB cX12_group 89 [.iconst 0, .istore 7] 92 = true := by decide +kernel
theorem qX12_group_92 : decB cX12_group 92 [.iload 7, .iload_n 2] 95 = true := by decide +kernel
theorem qX12_group_98 : decB cX12_group 98 [.aload_n 0, .iload_n 1, .iload_n 3] 101 = true := by decide +kernel
theorem qX12_group_104 : decB cX12_group 104 [.iload 4] 106 = true := by decide +kernel
theorem qX12_group_109 : decB cX12_group 109 [.istore 8, .iload 8, .iconst (-1)] 114 = true := by decide +kernel
theorem qX12_group_117 : decB cX12_group 117 [.aload_n 0, .iload_n 1, .iload_n 3] 120 = true := by decide +kernel
theorem qX12_group_123 : decB cX12_group 123 [.iload 4, .iconst 1, .iconst 0, .iload 5] 129 = true := by decide +kernel
theorem qX12_group_132 : decB cX12_group 132 [.aload_n 0] 133 = true := by decide +kernel
theorem qX12_group_136 : decB cX12_group 136 [.bipush 6] 138 = true := by decide +kernel
theorem qX12_group_142 : decB cX12_group 142 [.istore 9, .goto 42] 186 = true := by decide +kernel
theorem qX12_group_147 : decB cX12_group 147 [.aload_n 0] 148 = true := by decide +kernel
theorem qX12_group_151 : decB cX12_group 151 [.aload_n 0] 152 = true := by decide +kernel
theorem qX12_group_155 : decB cX12_group 155 [.iconst 1, .isub, .sipush 5022, .imul, .aload_n 0] 162 = true := by decide +kernel
theorem qX12_group_165 : decB cX12_group 165 [.iconst 0, .sipush 5022] 169 = true := by decide +kernel
theorem qX12_group_172 : decB cX12_group 172 [.aload_n 0] 173 = true := by decide +kernel
theorem qX12_group_176 : decB cX12_group 176 [.bipush 8, .iload 8] 180 = true := by decide +kernel
theorem qX12_group_184 : decB cX12_group 184 [.iconst (-1)] 185 = true := by decide +kernel
theorem qX12_group_186 : decB cX12_group 186 [.iinc 7 1, .goto (-97)] 92 = true := by decide +kernel
theorem qX12_group_192 : decB cX12_group 192 [.aload_n 0] 193 = true := by decide +kernel
theorem qX12_group_196 : decB cX12_group 196 [.bipush 6, .dup2] 199 = true := by decide +kernel
theorem qX12_group_200 : decB cX12_group 200 [.iconst 1, .iadd] 202 = true := by decide +kernel
theorem qX12_group_203 : decB cX12_group 203 [.aload_n 0] 204 = true := by decide +kernel
theorem qX12_group_207 : decB cX12_group 207 [.bipush 6] 209 = true := by decide +kernel
theorem qX12_group_210 : decB cX12_group 210 [.iconst 1, .isub] 212 = true := by decide +kernel
theorem dX12_group_4 : decode cX12_group 4 = .ok (.invokestatic 35, 3) := by decide +kernel
theorem dX12_group_7 : decode cX12_group 7 = .ok (.ifCond .eq 29, 3) := by decide +kernel
theorem dX12_group_16 : decode cX12_group 16 = .ok (.invokevirtual 136, 3) := by decide +kernel
theorem dX12_group_19 : decode cX12_group 19 = .ok (.ifCond .eq 17, 3) := by decide +kernel
theorem dX12_group_26 : decode cX12_group 26 = .ok (.invokevirtual 140, 3) := by decide +kernel
theorem dX12_group_29 : decode cX12_group 29 = .ok (.ifCond .eq 7, 3) := by decide +kernel
theorem dX12_group_42 : decode cX12_group 42 = .ok (.invokevirtual 118, 3) := by decide +kernel
theorem dX12_group_48 : decode cX12_group 48 = .ok (.getfield 9, 3) := by decide +kernel
theorem dX12_group_53 : decode cX12_group 53 = .ok (.iaload, 1) := by decide +kernel
theorem dX12_group_56 : decode cX12_group 56 = .ok (.if_icmp .ge 20, 3) := by decide +kernel
theorem dX12_group_60 : decode cX12_group 60 = .ok (.getfield 9, 3) := by decide +kernel
theorem dX12_group_64 : decode cX12_group 64 = .ok (.iaload, 1) := by decide +kernel
theorem dX12_group_69 : decode cX12_group 69 = .ok (.if_icmp .gt 7, 3) := by decide +kernel
theorem dX12_group_77 : decode cX12_group 77 = .ok (.invokevirtual 111, 3) := by decide +kernel
theorem dX12_group_80 : decode cX12_group 80 = .ok (.ifCond .ne 5, 3) := by decide +kernel
theorem dX12_group_84 : decode cX12_group 84 = .ok (.ireturn, 1) := by decide +kernel
theorem dX12_group_86 : decode cX12_group 86 = .ok (.invokevirtual 115, 3) := by decide +kernel
theorem dX12_group_95 : decode cX12_group 95 = .ok (.if_icmp .ge 97, 3) := by decide +kernel
theorem dX12_group_101 : decode cX12_group 101 = .ok (.invokestatic 27, 3) := by decide +kernel
theorem dX12_group_106 : decode cX12_group 106 = .ok (.invokevirtual 94, 3) := by decide +kernel
theorem dX12_group_114 : decode cX12_group 114 = .ok (.if_icmp .ne 33, 3) := by decide +kernel
theorem dX12_group_120 : decode cX12_group 120 = .ok (.invokestatic 27, 3) := by decide +kernel
theorem dX12_group_129 : decode cX12_group 129 = .ok (.invokestatic 27, 3) := by decide +kernel
theorem dX12_group_133 : decode cX12_group 133 = .ok (.getfield 9, 3) := by decide +kernel
theorem dX12_group_138 : decode cX12_group 138 = .ok (.iaload, 1) := by decide +kernel
theorem dX12_group_139 : decode cX12_group 139 = .ok (.invokevirtual 97, 3) := by decide +kernel
theorem dX12_group_148 : decode cX12_group 148 = .ok (.getfield 13, 3) := by decide +kernel
theorem dX12_group_152 : decode cX12_group 152 = .ok (.getfield 101, 3) := by decide +kernel
theorem dX12_group_162 : decode cX12_group 162 = .ok (.getfield 9, 3) := by decide +kernel
theorem dX12_group_169 : decode cX12_group 169 = .ok (.invokestatic 104, 3) := by decide +kernel
theorem dX12_group_173 : decode cX12_group 173 = .ok (.getfield 9, 3) := by decide +kernel
theorem dX12_group_180 : decode cX12_group 180 = .ok (.invokestatic 66, 3) := by decide +kernel
theorem dX12_group_183 : decode cX12_group 183 = .ok (.iastore, 1) := by decide +kernel
theorem dX12_group_185 : decode cX12_group 185 = .ok (.ireturn, 1) := by decide +kernel
theorem dX12_group_193 : decode cX12_group 193 = .ok (.getfield 9, 3) := by decide +kernel
theorem dX12_group_199 : decode cX12_group 199 = .ok (.iaload, 1) := by decide +kernel
theorem dX12_group_202 : decode cX12_group 202 = .ok (.iastore, 1) := by decide +kernel
theorem dX12_group_204 : decode cX12_group 204 = .ok (.getfield 9, 3) := by decide +kernel
theorem dX12_group_209 : decode cX12_group 209 = .ok (.iaload, 1) := by decide +kernel
theorem dX12_group_212 : decode cX12_group 212 = .ok (.ireturn, 1) := by decide +kernel
theorem qX12_letGo_0 : decB cX12_letGo 0 [.aload_n 0, .iload_n 1, .iconst 0, .aload_n 0] 4 = true := by decide +kernel
theorem qX12_letGo_7 : decB cX12_letGo 7 [.bipush 6] 9 = true := by decide +kernel
theorem qX12_letGo_10 : decB cX12_letGo 10 [.iconst 1, .isub] 12 = true := by decide +kernel
theorem qX12_letGo_15 : decB cX12_letGo 15 [.iconst 1, .iconst 1] 17 = true := by decide +kernel
theorem qX12_letGo_23 : decB cX12_letGo 23 [.iconst 0] 24 = true := by decide +kernel
theorem qX12_letGo_25 : decB cX12_letGo 25 [.aload_n 0] 26 = true := by decide +kernel
theorem qX12_letGo_29 : decB cX12_letGo 29 [.iconst 0, .istore_n 2, .iconst 0, .istore_n 3] 33 = true := by decide +kernel
theorem qX12_letGo_33 : decB cX12_letGo 33 [.iload_n 3, .aload_n 0] 35 = true := by decide +kernel
theorem qX12_letGo_38 : decB cX12_letGo 38 [.iconst 5] 39 = true := by decide +kernel
theorem qX12_letGo_43 : decB cX12_letGo 43 [.aload_n 0, .iload_n 3, .bipush 8] 47 = true := by decide +kernel
theorem qX12_letGo_50 : decB cX12_letGo 50 [.iload_n 1] 51 = true := by decide +kernel
theorem qX12_letGo_54 : decB cX12_letGo 54 [.aload_n 0, .iload_n 3, .iconst 0] 57 = true := by decide +kernel
theorem qX12_letGo_63 : decB cX12_letGo 63 [.goto 13] 76 = true := by decide +kernel
theorem qX12_letGo_66 : decB cX12_letGo 66 [.aload_n 0, .iload_n 3, .iconst 0, .iconst 2] 70 = true := by decide +kernel
theorem qX12_letGo_73 : decB cX12_letGo 73 [.iinc 2 1] 76 = true := by decide +kernel
theorem qX12_letGo_76 : decB cX12_letGo 76 [.iinc 3 1, .goto (-46)] 33 = true := by decide +kernel
theorem qX12_letGo_82 : decB cX12_letGo 82 [.aload_n 0] 83 = true := by decide +kernel
theorem qX12_letGo_86 : decB cX12_letGo 86 [.istore_n 3, .iload_n 2] 88 = true := by decide +kernel
theorem dX12_letGo_4 : decode cX12_letGo 4 = .ok (.getfield 9, 3) := by decide +kernel
theorem dX12_letGo_9 : decode cX12_letGo 9 = .ok (.iaload, 1) := by decide +kernel
theorem dX12_letGo_12 : decode cX12_letGo 12 = .ok (.invokestatic 35, 3) := by decide +kernel
theorem dX12_letGo_17 : decode cX12_letGo 17 = .ok (.invokevirtual 111, 3) := by decide +kernel
theorem dX12_letGo_20 : decode cX12_letGo 20 = .ok (.ifCond .ne 5, 3) := by decide +kernel
theorem dX12_letGo_24 : decode cX12_letGo 24 = .ok (.ireturn, 1) := by decide +kernel
theorem dX12_letGo_26 : decode cX12_letGo 26 = .ok (.invokevirtual 115, 3) := by decide +kernel
theorem dX12_letGo_35 : decode cX12_letGo 35 = .ok (.getfield 9, 3) := by decide +kernel
theorem dX12_letGo_39 : decode cX12_letGo 39 = .ok (.iaload, 1) := by decide +kernel
theorem dX12_letGo_40 : decode cX12_letGo 40 = .ok (.if_icmp .ge 42, 3) := by decide +kernel
theorem dX12_letGo_47 : decode cX12_letGo 47 = .ok (.invokevirtual 43, 3) := by decide +kernel
theorem dX12_letGo_51 : decode cX12_letGo 51 = .ok (.if_icmp .ne 25, 3) := by decide +kernel
theorem dX12_letGo_57 : decode cX12_letGo 57 = .ok (.invokevirtual 43, 3) := by decide +kernel
theorem dX12_letGo_60 : decode cX12_letGo 60 = .ok (.ifCond .eq 6, 3) := by decide +kernel
theorem dX12_letGo_70 : decode cX12_letGo 70 = .ok (.invokevirtual 90, 3) := by decide +kernel
theorem dX12_letGo_83 : decode cX12_letGo 83 = .ok (.invokevirtual 124, 3) := by decide +kernel
theorem dX12_letGo_88 : decode cX12_letGo 88 = .ok (.ireturn, 1) := by decide +kernel
theorem qX12_waitFor_0 : decB cX12_waitFor 0 [.aload_n 0, .aload_n 0, .iload_n 1] 3 = true := by decide +kernel
theorem qX12_waitFor_6 : decB cX12_waitFor 6 [.aload_n 0, .iload_n 2, .iload_n 3, .iload 4, .iload 5] 13 = true := by decide +kernel
theorem qX12_waitFor_16 : decB cX12_waitFor 16 [.aload_n 0] 17 = true := by decide +kernel
theorem qX12_waitFor_20 : decB cX12_waitFor 20 [.bipush 7] 22 = true := by decide +kernel
theorem qX12_waitFor_23 : decB cX12_waitFor 23 [.bipush 20] 25 = true := by decide +kernel
theorem qX12_waitFor_28 : decB cX12_waitFor 28 [.iconst 1, .goto 4] 33 = true := by decide +kernel
theorem qX12_waitFor_32 : decB cX12_waitFor 32 [.iconst 0] 33 = true := by decide +kernel
theorem qX12_waitFor_39 : decB cX12_waitFor 39 [.iconst 0] 40 = true := by decide +kernel
theorem qX12_waitFor_41 : decB cX12_waitFor 41 [.aload_n 0] 42 = true := by decide +kernel
theorem qX12_waitFor_45 : decB cX12_waitFor 45 [.sipush 1496, .aload_n 0] 49 = true := by decide +kernel
theorem qX12_waitFor_52 : decB cX12_waitFor 52 [.bipush 7] 54 = true := by decide +kernel
theorem qX12_waitFor_55 : decB cX12_waitFor 55 [.iconst 5, .imul, .iadd, .istore 6, .aload_n 0] 61 = true := by decide +kernel
theorem qX12_waitFor_64 : decB cX12_waitFor 64 [.iload 6, .iload_n 1] 67 = true := by decide +kernel
theorem qX12_waitFor_68 : decB cX12_waitFor 68 [.aload_n 0] 69 = true := by decide +kernel
theorem qX12_waitFor_72 : decB cX12_waitFor 72 [.iload 6, .iconst 1, .iadd, .iload_n 2] 77 = true := by decide +kernel
theorem qX12_waitFor_81 : decB cX12_waitFor 81 [.aload_n 0] 82 = true := by decide +kernel
theorem qX12_waitFor_85 : decB cX12_waitFor 85 [.iload 6, .iconst 2, .iadd, .iload_n 3] 90 = true := by decide +kernel
theorem qX12_waitFor_91 : decB cX12_waitFor 91 [.aload_n 0] 92 = true := by decide +kernel
theorem qX12_waitFor_95 : decB cX12_waitFor 95 [.iload 6, .iconst 3, .iadd, .iload 4] 101 = true := by decide +kernel
theorem qX12_waitFor_102 : decB cX12_waitFor 102 [.aload_n 0] 103 = true := by decide +kernel
theorem qX12_waitFor_106 : decB cX12_waitFor 106 [.iload 6, .iconst 4, .iadd, .iload 5] 112 = true := by decide +kernel
theorem qX12_waitFor_113 : decB cX12_waitFor 113 [.aload_n 0] 114 = true := by decide +kernel
theorem qX12_waitFor_117 : decB cX12_waitFor 117 [.bipush 7, .dup2] 120 = true := by decide +kernel
theorem qX12_waitFor_121 : decB cX12_waitFor 121 [.iconst 1, .iadd] 123 = true := by decide +kernel
theorem qX12_waitFor_124 : decB cX12_waitFor 124 [.aload_n 0] 125 = true := by decide +kernel
theorem qX12_waitFor_128 : decB cX12_waitFor 128 [.bipush 7] 130 = true := by decide +kernel
theorem dX12_waitFor_3 : decode cX12_waitFor 3 = .ok (.invokevirtual 118, 3) := by decide +kernel
theorem dX12_waitFor_13 : decode cX12_waitFor 13 = .ok (.invokevirtual 136, 3) := by decide +kernel
theorem dX12_waitFor_17 : decode cX12_waitFor 17 = .ok (.getfield 9, 3) := by decide +kernel
theorem dX12_waitFor_22 : decode cX12_waitFor 22 = .ok (.iaload, 1) := by decide +kernel
theorem dX12_waitFor_25 : decode cX12_waitFor 25 = .ok (.if_icmp .ge 7, 3) := by decide +kernel
theorem dX12_waitFor_33 : decode cX12_waitFor 33 = .ok (.invokevirtual 111, 3) := by decide +kernel
theorem dX12_waitFor_36 : decode cX12_waitFor 36 = .ok (.ifCond .ne 5, 3) := by decide +kernel
theorem dX12_waitFor_40 : decode cX12_waitFor 40 = .ok (.ireturn, 1) := by decide +kernel
theorem dX12_waitFor_42 : decode cX12_waitFor 42 = .ok (.invokevirtual 115, 3) := by decide +kernel
theorem dX12_waitFor_49 : decode cX12_waitFor 49 = .ok (.getfield 9, 3) := by decide +kernel
theorem dX12_waitFor_54 : decode cX12_waitFor 54 = .ok (.iaload, 1) := by decide +kernel
theorem dX12_waitFor_61 : decode cX12_waitFor 61 = .ok (.getfield 9, 3) := by decide +kernel
theorem dX12_waitFor_67 : decode cX12_waitFor 67 = .ok (.iastore, 1) := by decide +kernel
theorem dX12_waitFor_69 : decode cX12_waitFor 69 = .ok (.getfield 9, 3) := by decide +kernel
theorem dX12_waitFor_77 : decode cX12_waitFor 77 = .ok (.invokestatic 27, 3) := by decide +kernel
theorem dX12_waitFor_80 : decode cX12_waitFor 80 = .ok (.iastore, 1) := by decide +kernel
theorem dX12_waitFor_82 : decode cX12_waitFor 82 = .ok (.getfield 9, 3) := by decide +kernel
theorem dX12_waitFor_90 : decode cX12_waitFor 90 = .ok (.iastore, 1) := by decide +kernel
theorem dX12_waitFor_92 : decode cX12_waitFor 92 = .ok (.getfield 9, 3) := by decide +kernel
theorem dX12_waitFor_101 : decode cX12_waitFor 101 = .ok (.iastore, 1) := by decide +kernel
theorem dX12_waitFor_103 : decode cX12_waitFor 103 = .ok (.getfield 9, 3) := by decide +kernel
theorem dX12_waitFor_112 : decode cX12_waitFor 112 = .ok (.iastore, 1) := by decide +kernel
theorem dX12_waitFor_114 : decode cX12_waitFor 114 = .ok (.getfield 9, 3) := by decide +kernel
theorem dX12_waitFor_120 : decode cX12_waitFor 120 = .ok (.iaload, 1) := by decide +kernel
theorem dX12_waitFor_123 : decode cX12_waitFor 123 = .ok (.iastore, 1) := by decide +kernel
theorem dX12_waitFor_125 : decode cX12_waitFor 125 = .ok (.getfield 9, 3) := by decide +kernel
theorem dX12_waitFor_130 : decode cX12_waitFor 130 = .ok (.iaload, 1) := by decide +kernel
theorem dX12_waitFor_131 : decode cX12_waitFor 131 = .ok (.ireturn, 1) := by decide +kernel
theorem qX12_pay_0 : decB cX12_pay 0 [.aload_n 0, .aload_n 0, .iload_n 1] 3 = true := by decide +kernel
theorem qX12_pay_6 : decB cX12_pay 6 [.aload_n 0, .iload_n 1] 8 = true := by decide +kernel
theorem qX12_pay_14 : decB cX12_pay 14 [.aload_n 0, .iload_n 1, .iconst 0] 17 = true := by decide +kernel
theorem qX12_pay_23 : decB cX12_pay 23 [.iconst 1, .goto 4] 28 = true := by decide +kernel
theorem qX12_pay_27 : decB cX12_pay 27 [.iconst 0] 28 = true := by decide +kernel
theorem qX12_pay_28 : decB cX12_pay 28 [.iconst 1] 29 = true := by decide +kernel
theorem qX12_pay_35 : decB cX12_pay 35 [.iconst 0] 36 = true := by decide +kernel
theorem qX12_pay_37 : decB cX12_pay 37 [.aload_n 0] 38 = true := by decide +kernel
theorem qX12_pay_41 : decB cX12_pay 41 [.aload_n 0, .iload_n 1] 43 = true := by decide +kernel
theorem qX12_pay_46 : decB cX12_pay 46 [.bipush 20, .imul, .bipush 50, .iadd, .bipush 100] 54 = true := by decide +kernel
theorem qX12_pay_55 : decB cX12_pay 55 [.istore_n 2, .aload_n 0, .iload_n 1, .iconst 0, .iconst 1] 60 = true := by decide +kernel
theorem qX12_pay_63 : decB cX12_pay 63 [.aload_n 0, .iload_n 1, .bipush 6, .iload_n 2] 68 = true := by decide +kernel
theorem qX12_pay_71 : decB cX12_pay 71 [.aload_n 0, .iconst 0, .iconst 1, .iload_n 2] 75 = true := by decide +kernel
theorem qX12_pay_78 : decB cX12_pay 78 [.iload_n 2] 79 = true := by decide +kernel
theorem dX12_pay_3 : decode cX12_pay 3 = .ok (.invokevirtual 143, 3) := by decide +kernel
theorem dX12_pay_8 : decode cX12_pay 8 = .ok (.invokevirtual 143, 3) := by decide +kernel
theorem dX12_pay_11 : decode cX12_pay 11 = .ok (.ifCond .eq 16, 3) := by decide +kernel
theorem dX12_pay_17 : decode cX12_pay 17 = .ok (.invokevirtual 43, 3) := by decide +kernel
theorem dX12_pay_20 : decode cX12_pay 20 = .ok (.ifCond .ne 7, 3) := by decide +kernel
theorem dX12_pay_29 : decode cX12_pay 29 = .ok (.invokevirtual 111, 3) := by decide +kernel
theorem dX12_pay_32 : decode cX12_pay 32 = .ok (.ifCond .ne 5, 3) := by decide +kernel
theorem dX12_pay_36 : decode cX12_pay 36 = .ok (.ireturn, 1) := by decide +kernel
theorem dX12_pay_38 : decode cX12_pay 38 = .ok (.invokevirtual 115, 3) := by decide +kernel
theorem dX12_pay_43 : decode cX12_pay 43 = .ok (.invokevirtual 146, 3) := by decide +kernel
theorem dX12_pay_54 : decode cX12_pay 54 = .ok (.idiv, 1) := by decide +kernel
theorem dX12_pay_60 : decode cX12_pay 60 = .ok (.invokevirtual 90, 3) := by decide +kernel
theorem dX12_pay_68 : decode cX12_pay 68 = .ok (.invokevirtual 90, 3) := by decide +kernel
theorem dX12_pay_75 : decode cX12_pay 75 = .ok (.invokevirtual 149, 3) := by decide +kernel
theorem dX12_pay_79 : decode cX12_pay 79 = .ok (.ireturn, 1) := by decide +kernel
theorem qX12_refundOf_0 : decB cX12_refundOf 0 [.aload_n 0, .iload_n 1, .iconst 2] 3 = true := by decide +kernel
theorem qX12_refundOf_6 : decB cX12_refundOf 6 [.aload_n 0] 7 = true := by decide +kernel
theorem qX12_refundOf_10 : decB cX12_refundOf 10 [.iconst 0] 11 = true := by decide +kernel
theorem qX12_refundOf_12 : decB cX12_refundOf 12 [.isub, .istore_n 2, .aload_n 0, .iload_n 1, .iconst 0] 17 = true := by decide +kernel
theorem qX12_refundOf_20 : decB cX12_refundOf 20 [.iconst 1] 21 = true := by decide +kernel
theorem qX12_refundOf_24 : decB cX12_refundOf 24 [.iload_n 2, .iconst 3] 26 = true := by decide +kernel
theorem qX12_refundOf_29 : decB cX12_refundOf 29 [.iconst 0, .goto 30] 60 = true := by decide +kernel
theorem qX12_refundOf_33 : decB cX12_refundOf 33 [.iload_n 2, .bipush 14] 36 = true := by decide +kernel
theorem qX12_refundOf_39 : decB cX12_refundOf 39 [.aload_n 0, .iload_n 1, .bipush 6] 43 = true := by decide +kernel
theorem qX12_refundOf_46 : decB cX12_refundOf 46 [.iconst 1, .iadd, .iconst 2] 49 = true := by decide +kernel
theorem qX12_refundOf_50 : decB cX12_refundOf 50 [.goto 10] 60 = true := by decide +kernel
theorem qX12_refundOf_53 : decB cX12_refundOf 53 [.aload_n 0, .iload_n 1, .bipush 6] 57 = true := by decide +kernel
theorem dX12_refundOf_3 : decode cX12_refundOf 3 = .ok (.invokevirtual 43, 3) := by decide +kernel
theorem dX12_refundOf_7 : decode cX12_refundOf 7 = .ok (.getfield 9, 3) := by decide +kernel
theorem dX12_refundOf_11 : decode cX12_refundOf 11 = .ok (.iaload, 1) := by decide +kernel
theorem dX12_refundOf_17 : decode cX12_refundOf 17 = .ok (.invokevirtual 43, 3) := by decide +kernel
theorem dX12_refundOf_21 : decode cX12_refundOf 21 = .ok (.if_icmp .ne 8, 3) := by decide +kernel
theorem dX12_refundOf_26 : decode cX12_refundOf 26 = .ok (.if_icmp .ge 7, 3) := by decide +kernel
theorem dX12_refundOf_36 : decode cX12_refundOf 36 = .ok (.if_icmp .ge 17, 3) := by decide +kernel
theorem dX12_refundOf_43 : decode cX12_refundOf 43 = .ok (.invokevirtual 43, 3) := by decide +kernel
theorem dX12_refundOf_49 : decode cX12_refundOf 49 = .ok (.idiv, 1) := by decide +kernel
theorem dX12_refundOf_57 : decode cX12_refundOf 57 = .ok (.invokevirtual 43, 3) := by decide +kernel
theorem dX12_refundOf_60 : decode cX12_refundOf 60 = .ok (.ireturn, 1) := by decide +kernel
theorem qX12_cancel_0 : decB cX12_cancel 0 [.aload_n 0, .aload_n 0, .iload_n 1] 3 = true := by decide +kernel
theorem qX12_cancel_6 : decB cX12_cancel 6 [.aload_n 0, .iload_n 1] 8 = true := by decide +kernel
theorem qX12_cancel_14 : decB cX12_cancel 14 [.aload_n 0, .iload_n 1] 16 = true := by decide +kernel
theorem qX12_cancel_22 : decB cX12_cancel 22 [.aload_n 0, .iload_n 1, .iconst 2] 25 = true := by decide +kernel
theorem qX12_cancel_28 : decB cX12_cancel 28 [.aload_n 0] 29 = true := by decide +kernel
theorem qX12_cancel_32 : decB cX12_cancel 32 [.iconst 0] 33 = true := by decide +kernel
theorem qX12_cancel_37 : decB cX12_cancel 37 [.iconst 1, .goto 4] 42 = true := by decide +kernel
theorem qX12_cancel_41 : decB cX12_cancel 41 [.iconst 0] 42 = true := by decide +kernel
theorem qX12_cancel_42 : decB cX12_cancel 42 [.iconst 1] 43 = true := by decide +kernel
theorem qX12_cancel_49 : decB cX12_cancel 49 [.iconst 0] 50 = true := by decide +kernel
theorem qX12_cancel_51 : decB cX12_cancel 51 [.aload_n 0] 52 = true := by decide +kernel
theorem qX12_cancel_55 : decB cX12_cancel 55 [.aload_n 0, .iload_n 1] 57 = true := by decide +kernel
theorem qX12_cancel_60 : decB cX12_cancel 60 [.istore_n 2, .aload_n 0, .iload_n 1, .iconst 0] 64 = true := by decide +kernel
theorem qX12_cancel_67 : decB cX12_cancel 67 [.iconst 1] 68 = true := by decide +kernel
theorem qX12_cancel_71 : decB cX12_cancel 71 [.aload_n 0, .iconst 1, .iconst 0, .iload_n 2] 75 = true := by decide +kernel
theorem qX12_cancel_78 : decB cX12_cancel 78 [.aload_n 0, .iconst 1, .iconst 2, .aload_n 0, .iload_n 1, .bipush 6] 85 = true := by decide +kernel
theorem qX12_cancel_88 : decB cX12_cancel 88 [.iload_n 2, .isub] 90 = true := by decide +kernel
theorem qX12_cancel_93 : decB cX12_cancel 93 [.aload_n 0, .iload_n 1, .iconst 0, .iconst 2] 97 = true := by decide +kernel
theorem qX12_cancel_100 : decB cX12_cancel 100 [.aload_n 0] 101 = true := by decide +kernel
theorem qX12_cancel_104 : decB cX12_cancel 104 [.istore_n 3, .iload_n 2] 106 = true := by decide +kernel
theorem dX12_cancel_3 : decode cX12_cancel 3 = .ok (.invokevirtual 143, 3) := by decide +kernel
theorem dX12_cancel_8 : decode cX12_cancel 8 = .ok (.invokevirtual 143, 3) := by decide +kernel
theorem dX12_cancel_11 : decode cX12_cancel 11 = .ok (.ifCond .eq 30, 3) := by decide +kernel
theorem dX12_cancel_16 : decode cX12_cancel 16 = .ok (.invokevirtual 49, 3) := by decide +kernel
theorem dX12_cancel_19 : decode cX12_cancel 19 = .ok (.ifCond .eq 22, 3) := by decide +kernel
theorem dX12_cancel_25 : decode cX12_cancel 25 = .ok (.invokevirtual 43, 3) := by decide +kernel
theorem dX12_cancel_29 : decode cX12_cancel 29 = .ok (.getfield 9, 3) := by decide +kernel
theorem dX12_cancel_33 : decode cX12_cancel 33 = .ok (.iaload, 1) := by decide +kernel
theorem dX12_cancel_34 : decode cX12_cancel 34 = .ok (.if_icmp .le 7, 3) := by decide +kernel
theorem dX12_cancel_43 : decode cX12_cancel 43 = .ok (.invokevirtual 111, 3) := by decide +kernel
theorem dX12_cancel_46 : decode cX12_cancel 46 = .ok (.ifCond .ne 5, 3) := by decide +kernel
theorem dX12_cancel_50 : decode cX12_cancel 50 = .ok (.ireturn, 1) := by decide +kernel
theorem dX12_cancel_52 : decode cX12_cancel 52 = .ok (.invokevirtual 115, 3) := by decide +kernel
theorem dX12_cancel_57 : decode cX12_cancel 57 = .ok (.invokevirtual 152, 3) := by decide +kernel
theorem dX12_cancel_64 : decode cX12_cancel 64 = .ok (.invokevirtual 43, 3) := by decide +kernel
theorem dX12_cancel_68 : decode cX12_cancel 68 = .ok (.if_icmp .ne 25, 3) := by decide +kernel
theorem dX12_cancel_75 : decode cX12_cancel 75 = .ok (.invokevirtual 149, 3) := by decide +kernel
theorem dX12_cancel_85 : decode cX12_cancel 85 = .ok (.invokevirtual 43, 3) := by decide +kernel
theorem dX12_cancel_90 : decode cX12_cancel 90 = .ok (.invokevirtual 149, 3) := by decide +kernel
theorem dX12_cancel_97 : decode cX12_cancel 97 = .ok (.invokevirtual 90, 3) := by decide +kernel
theorem dX12_cancel_101 : decode cX12_cancel 101 = .ok (.invokevirtual 124, 3) := by decide +kernel
theorem dX12_cancel_106 : decode cX12_cancel 106 = .ok (.ireturn, 1) := by decide +kernel
theorem qX12_longer_0 : decB cX12_longer 0 [.aload_n 0, .iload_n 1] 2 = true := by decide +kernel
theorem qX12_longer_5 : decB cX12_longer 5 [.istore_n 3, .iload_n 3] 7 = true := by decide +kernel
theorem qX12_longer_10 : decB cX12_longer 10 [.iload_n 2, .iconst 1, .bipush 13] 14 = true := by decide +kernel
theorem qX12_longer_20 : decB cX12_longer 20 [.aload_n 0, .iload_n 1, .iconst 3] 23 = true := by decide +kernel
theorem qX12_longer_26 : decB cX12_longer 26 [.iload_n 2, .iadd, .bipush 14] 30 = true := by decide +kernel
theorem qX12_longer_33 : decB cX12_longer 33 [.aload_n 0, .aload_n 0, .iload_n 1] 36 = true := by decide +kernel
theorem qX12_longer_39 : decB cX12_longer 39 [.iload_n 2, .iadd] 41 = true := by decide +kernel
theorem qX12_longer_47 : decB cX12_longer 47 [.iconst 1, .goto 4] 52 = true := by decide +kernel
theorem qX12_longer_51 : decB cX12_longer 51 [.iconst 0] 52 = true := by decide +kernel
theorem qX12_longer_52 : decB cX12_longer 52 [.istore 4, .aload_n 0, .iload_n 3, .iload 4, .iload_n 3] 59 = true := by decide +kernel
theorem qX12_longer_62 : decB cX12_longer 62 [.aload_n 0, .iload_n 1] 64 = true := by decide +kernel
theorem qX12_longer_70 : decB cX12_longer 70 [.iconst 1, .goto 4] 75 = true := by decide +kernel
theorem qX12_longer_74 : decB cX12_longer 74 [.iconst 0] 75 = true := by decide +kernel
theorem qX12_longer_81 : decB cX12_longer 81 [.iconst 0] 82 = true := by decide +kernel
theorem qX12_longer_83 : decB cX12_longer 83 [.aload_n 0] 84 = true := by decide +kernel
theorem qX12_longer_87 : decB cX12_longer 87 [.aload_n 0, .iload_n 1, .iconst 1] 90 = true := by decide +kernel
theorem qX12_longer_93 : decB cX12_longer 93 [.istore 5, .aload_n 0, .iload_n 1] 97 = true := by decide +kernel
theorem qX12_longer_100 : decB cX12_longer 100 [.iconst 1, .iadd, .istore 6, .aload_n 0, .iload 5, .iload 6, .iload_n 2] 110 = true := by decide +kernel
theorem qX12_longer_113 : decB cX12_longer 113 [.istore 7, .iload 7, .iconst (-1)] 118 = true := by decide +kernel
theorem qX12_longer_121 : decB cX12_longer 121 [.aload_n 0] 122 = true := by decide +kernel
theorem qX12_longer_125 : decB cX12_longer 125 [.bipush 8, .iload 7] 129 = true := by decide +kernel
theorem qX12_longer_133 : decB cX12_longer 133 [.iconst (-1)] 134 = true := by decide +kernel
theorem qX12_longer_135 : decB cX12_longer 135 [.iconst 0, .istore 8, .iconst 0, .istore 9] 141 = true := by decide +kernel
theorem qX12_longer_141 : decB cX12_longer 141 [.iload 9, .iload_n 2] 144 = true := by decide +kernel
theorem qX12_longer_147 : decB cX12_longer 147 [.aload_n 0, .iload 5, .iload 6, .iload 9, .iadd] 155 = true := by decide +kernel
theorem qX12_longer_158 : decB cX12_longer 158 [.istore 10, .aload_n 0, .iload_n 1, .bipush 10, .aload_n 0, .iload_n 1, .iconst 3] 167 = true := by decide +kernel
theorem qX12_longer_170 : decB cX12_longer 170 [.iadd, .iload 9, .iadd, .iload 10] 176 = true := by decide +kernel
theorem qX12_longer_179 : decB cX12_longer 179 [.iload 8, .iload 10, .iadd, .istore 8, .iinc 9 1, .goto (-48)] 141 = true := by decide +kernel
theorem qX12_longer_192 : decB cX12_longer 192 [.aload_n 0, .iload_n 1, .iconst 3, .aload_n 0, .iload_n 1, .iconst 3] 198 = true := by decide +kernel
theorem qX12_longer_201 : decB cX12_longer 201 [.iload_n 2, .iadd] 203 = true := by decide +kernel
theorem qX12_longer_206 : decB cX12_longer 206 [.iload 8] 208 = true := by decide +kernel
theorem dX12_longer_2 : decode cX12_longer 2 = .ok (.invokevirtual 143, 3) := by decide +kernel
theorem dX12_longer_7 : decode cX12_longer 7 = .ok (.ifCond .eq 44, 3) := by decide +kernel
theorem dX12_longer_14 : decode cX12_longer 14 = .ok (.invokestatic 35, 3) := by decide +kernel
theorem dX12_longer_17 : decode cX12_longer 17 = .ok (.ifCond .eq 34, 3) := by decide +kernel
theorem dX12_longer_23 : decode cX12_longer 23 = .ok (.invokevirtual 43, 3) := by decide +kernel
theorem dX12_longer_30 : decode cX12_longer 30 = .ok (.if_icmp .gt 21, 3) := by decide +kernel
theorem dX12_longer_36 : decode cX12_longer 36 = .ok (.invokevirtual 46, 3) := by decide +kernel
theorem dX12_longer_41 : decode cX12_longer 41 = .ok (.invokevirtual 133, 3) := by decide +kernel
theorem dX12_longer_44 : decode cX12_longer 44 = .ok (.ifCond .eq 7, 3) := by decide +kernel
theorem dX12_longer_59 : decode cX12_longer 59 = .ok (.ifCond .eq 15, 3) := by decide +kernel
theorem dX12_longer_64 : decode cX12_longer 64 = .ok (.invokevirtual 49, 3) := by decide +kernel
theorem dX12_longer_67 : decode cX12_longer 67 = .ok (.ifCond .eq 7, 3) := by decide +kernel
theorem dX12_longer_75 : decode cX12_longer 75 = .ok (.invokevirtual 111, 3) := by decide +kernel
theorem dX12_longer_78 : decode cX12_longer 78 = .ok (.ifCond .ne 5, 3) := by decide +kernel
theorem dX12_longer_82 : decode cX12_longer 82 = .ok (.ireturn, 1) := by decide +kernel
theorem dX12_longer_84 : decode cX12_longer 84 = .ok (.invokevirtual 115, 3) := by decide +kernel
theorem dX12_longer_90 : decode cX12_longer 90 = .ok (.invokevirtual 43, 3) := by decide +kernel
theorem dX12_longer_97 : decode cX12_longer 97 = .ok (.invokevirtual 46, 3) := by decide +kernel
theorem dX12_longer_110 : decode cX12_longer 110 = .ok (.invokevirtual 77, 3) := by decide +kernel
theorem dX12_longer_118 : decode cX12_longer 118 = .ok (.if_icmp .eq 17, 3) := by decide +kernel
theorem dX12_longer_122 : decode cX12_longer 122 = .ok (.getfield 9, 3) := by decide +kernel
theorem dX12_longer_129 : decode cX12_longer 129 = .ok (.invokestatic 66, 3) := by decide +kernel
theorem dX12_longer_132 : decode cX12_longer 132 = .ok (.iastore, 1) := by decide +kernel
theorem dX12_longer_134 : decode cX12_longer 134 = .ok (.ireturn, 1) := by decide +kernel
theorem dX12_longer_144 : decode cX12_longer 144 = .ok (.if_icmp .ge 48, 3) := by decide +kernel
theorem dX12_longer_155 : decode cX12_longer 155 = .ok (.invokevirtual 87, 3) := by decide +kernel
theorem dX12_longer_167 : decode cX12_longer 167 = .ok (.invokevirtual 43, 3) := by decide +kernel
theorem dX12_longer_176 : decode cX12_longer 176 = .ok (.invokevirtual 90, 3) := by decide +kernel
theorem dX12_longer_198 : decode cX12_longer 198 = .ok (.invokevirtual 43, 3) := by decide +kernel
theorem dX12_longer_203 : decode cX12_longer 203 = .ok (.invokevirtual 90, 3) := by decide +kernel
theorem dX12_longer_208 : decode cX12_longer 208 = .ok (.ireturn, 1) := by decide +kernel
theorem qX12_shorter_0 : decB cX12_shorter 0 [.aload_n 0, .iload_n 1] 2 = true := by decide +kernel
theorem qX12_shorter_5 : decB cX12_shorter 5 [.istore_n 3, .iload_n 3] 7 = true := by decide +kernel
theorem qX12_shorter_10 : decB cX12_shorter 10 [.iload_n 2, .iconst 1, .bipush 13] 14 = true := by decide +kernel
theorem qX12_shorter_20 : decB cX12_shorter 20 [.iload_n 2, .aload_n 0, .iload_n 1, .iconst 3] 24 = true := by decide +kernel
theorem qX12_shorter_30 : decB cX12_shorter 30 [.aload_n 0, .iload_n 1] 32 = true := by decide +kernel
theorem qX12_shorter_35 : decB cX12_shorter 35 [.iload_n 2, .isub, .iconst 1, .iadd, .aload_n 0] 40 = true := by decide +kernel
theorem qX12_shorter_43 : decB cX12_shorter 43 [.iconst 0] 44 = true := by decide +kernel
theorem qX12_shorter_48 : decB cX12_shorter 48 [.iconst 1, .goto 4] 53 = true := by decide +kernel
theorem qX12_shorter_52 : decB cX12_shorter 52 [.iconst 0] 53 = true := by decide +kernel
theorem qX12_shorter_53 : decB cX12_shorter 53 [.istore 4, .aload_n 0, .iload_n 3, .iload 4, .iload_n 3] 60 = true := by decide +kernel
theorem qX12_shorter_63 : decB cX12_shorter 63 [.aload_n 0, .iload_n 1] 65 = true := by decide +kernel
theorem qX12_shorter_71 : decB cX12_shorter 71 [.iconst 1, .goto 4] 76 = true := by decide +kernel
theorem qX12_shorter_75 : decB cX12_shorter 75 [.iconst 0] 76 = true := by decide +kernel
theorem qX12_shorter_82 : decB cX12_shorter 82 [.iconst 0] 83 = true := by decide +kernel
theorem qX12_shorter_84 : decB cX12_shorter 84 [.aload_n 0] 85 = true := by decide +kernel
theorem qX12_shorter_88 : decB cX12_shorter 88 [.aload_n 0, .iload_n 1] 90 = true := by decide +kernel
theorem qX12_shorter_93 : decB cX12_shorter 93 [.istore 5, .aload_n 0, .iload_n 1, .iconst 3, .aload_n 0, .iload_n 1, .iconst 3] 101 = true := by decide +kernel
theorem qX12_shorter_104 : decB cX12_shorter 104 [.iload_n 2, .isub] 106 = true := by decide +kernel
theorem qX12_shorter_109 : decB cX12_shorter 109 [.iload 5, .aload_n 0, .iload_n 1] 113 = true := by decide +kernel
theorem qX12_shorter_116 : decB cX12_shorter 116 [.isub, .istore 6, .aload_n 0] 120 = true := by decide +kernel
theorem qX12_shorter_123 : decB cX12_shorter 123 [.istore 7, .iload 6] 127 = true := by decide +kernel
theorem dX12_shorter_2 : decode cX12_shorter 2 = .ok (.invokevirtual 143, 3) := by decide +kernel
theorem dX12_shorter_7 : decode cX12_shorter 7 = .ok (.ifCond .eq 45, 3) := by decide +kernel
theorem dX12_shorter_14 : decode cX12_shorter 14 = .ok (.invokestatic 35, 3) := by decide +kernel
theorem dX12_shorter_17 : decode cX12_shorter 17 = .ok (.ifCond .eq 35, 3) := by decide +kernel
theorem dX12_shorter_24 : decode cX12_shorter 24 = .ok (.invokevirtual 43, 3) := by decide +kernel
theorem dX12_shorter_27 : decode cX12_shorter 27 = .ok (.if_icmp .ge 25, 3) := by decide +kernel
theorem dX12_shorter_32 : decode cX12_shorter 32 = .ok (.invokevirtual 46, 3) := by decide +kernel
theorem dX12_shorter_40 : decode cX12_shorter 40 = .ok (.getfield 9, 3) := by decide +kernel
theorem dX12_shorter_44 : decode cX12_shorter 44 = .ok (.iaload, 1) := by decide +kernel
theorem dX12_shorter_45 : decode cX12_shorter 45 = .ok (.if_icmp .lt 7, 3) := by decide +kernel
theorem dX12_shorter_60 : decode cX12_shorter 60 = .ok (.ifCond .eq 15, 3) := by decide +kernel
theorem dX12_shorter_65 : decode cX12_shorter 65 = .ok (.invokevirtual 49, 3) := by decide +kernel
theorem dX12_shorter_68 : decode cX12_shorter 68 = .ok (.ifCond .eq 7, 3) := by decide +kernel
theorem dX12_shorter_76 : decode cX12_shorter 76 = .ok (.invokevirtual 111, 3) := by decide +kernel
theorem dX12_shorter_79 : decode cX12_shorter 79 = .ok (.ifCond .ne 5, 3) := by decide +kernel
theorem dX12_shorter_83 : decode cX12_shorter 83 = .ok (.ireturn, 1) := by decide +kernel
theorem dX12_shorter_85 : decode cX12_shorter 85 = .ok (.invokevirtual 115, 3) := by decide +kernel
theorem dX12_shorter_90 : decode cX12_shorter 90 = .ok (.invokevirtual 146, 3) := by decide +kernel
theorem dX12_shorter_101 : decode cX12_shorter 101 = .ok (.invokevirtual 43, 3) := by decide +kernel
theorem dX12_shorter_106 : decode cX12_shorter 106 = .ok (.invokevirtual 90, 3) := by decide +kernel
theorem dX12_shorter_113 : decode cX12_shorter 113 = .ok (.invokevirtual 146, 3) := by decide +kernel
theorem dX12_shorter_120 : decode cX12_shorter 120 = .ok (.invokevirtual 124, 3) := by decide +kernel
theorem dX12_shorter_127 : decode cX12_shorter 127 = .ok (.ireturn, 1) := by decide +kernel
theorem qX12_sent_0 : decB cX12_sent 0 [.iconst (-1), .istore_n 2, .iconst 0, .istore_n 3] 4 = true := by decide +kernel
theorem qX12_sent_4 : decB cX12_sent 4 [.iload_n 3, .aload_n 0] 6 = true := by decide +kernel
theorem qX12_sent_9 : decB cX12_sent 9 [.iconst 5] 10 = true := by decide +kernel
theorem qX12_sent_14 : decB cX12_sent 14 [.aload_n 0, .iload_n 3] 16 = true := by decide +kernel
theorem qX12_sent_22 : decB cX12_sent 22 [.aload_n 0, .iload_n 3, .iconst 1] 25 = true := by decide +kernel
theorem qX12_sent_28 : decB cX12_sent 28 [.iload_n 1] 29 = true := by decide +kernel
theorem qX12_sent_32 : decB cX12_sent 32 [.aload_n 0, .iload_n 3, .aload_n 0] 35 = true := by decide +kernel
theorem qX12_sent_38 : decB cX12_sent 38 [.iconst 0] 39 = true := by decide +kernel
theorem qX12_sent_46 : decB cX12_sent 46 [.goto 25] 71 = true := by decide +kernel
theorem qX12_sent_49 : decB cX12_sent 49 [.iload_n 2, .iconst (-1)] 51 = true := by decide +kernel
theorem qX12_sent_54 : decB cX12_sent 54 [.aload_n 0, .iload_n 3, .iconst 2] 57 = true := by decide +kernel
theorem qX12_sent_60 : decB cX12_sent 60 [.aload_n 0, .iload_n 2, .iconst 2] 63 = true := by decide +kernel
theorem qX12_sent_69 : decB cX12_sent 69 [.iload_n 3, .istore_n 2] 71 = true := by decide +kernel
theorem qX12_sent_71 : decB cX12_sent 71 [.iinc 3 1, .goto (-70)] 4 = true := by decide +kernel
theorem qX12_sent_77 : decB cX12_sent 77 [.iload_n 2] 78 = true := by decide +kernel
theorem dX12_sent_6 : decode cX12_sent 6 = .ok (.getfield 9, 3) := by decide +kernel
theorem dX12_sent_10 : decode cX12_sent 10 = .ok (.iaload, 1) := by decide +kernel
theorem dX12_sent_11 : decode cX12_sent 11 = .ok (.if_icmp .ge 66, 3) := by decide +kernel
theorem dX12_sent_16 : decode cX12_sent 16 = .ok (.invokevirtual 49, 3) := by decide +kernel
theorem dX12_sent_19 : decode cX12_sent 19 = .ok (.ifCond .eq 52, 3) := by decide +kernel
theorem dX12_sent_25 : decode cX12_sent 25 = .ok (.invokevirtual 43, 3) := by decide +kernel
theorem dX12_sent_29 : decode cX12_sent 29 = .ok (.if_icmp .ne 42, 3) := by decide +kernel
theorem dX12_sent_35 : decode cX12_sent 35 = .ok (.getfield 9, 3) := by decide +kernel
theorem dX12_sent_39 : decode cX12_sent 39 = .ok (.iaload, 1) := by decide +kernel
theorem dX12_sent_40 : decode cX12_sent 40 = .ok (.invokevirtual 53, 3) := by decide +kernel
theorem dX12_sent_43 : decode cX12_sent 43 = .ok (.ifCond .ne 6, 3) := by decide +kernel
theorem dX12_sent_51 : decode cX12_sent 51 = .ok (.if_icmp .eq 18, 3) := by decide +kernel
theorem dX12_sent_57 : decode cX12_sent 57 = .ok (.invokevirtual 43, 3) := by decide +kernel
theorem dX12_sent_63 : decode cX12_sent 63 = .ok (.invokevirtual 43, 3) := by decide +kernel
theorem dX12_sent_66 : decode cX12_sent 66 = .ok (.if_icmp .lt 5, 3) := by decide +kernel
theorem dX12_sent_78 : decode cX12_sent 78 = .ok (.ireturn, 1) := by decide +kernel
theorem qX12_ends_0 : decB cX12_ends 0 [.aload_n 0, .iload_n 1] 2 = true := by decide +kernel
theorem qX12_ends_5 : decB cX12_ends 5 [.istore_n 2, .aload_n 0, .iload_n 1] 8 = true := by decide +kernel
theorem qX12_ends_11 : decB cX12_ends 11 [.istore_n 3, .aload_n 0] 13 = true := by decide +kernel
theorem qX12_ends_16 : decB cX12_ends 16 [.bipush 10, .dup2] 19 = true := by decide +kernel
theorem qX12_ends_20 : decB cX12_ends 20 [.aload_n 0, .iload_n 1, .bipush 6] 24 = true := by decide +kernel
theorem qX12_ends_27 : decB cX12_ends 27 [.isub] 28 = true := by decide +kernel
theorem qX12_ends_29 : decB cX12_ends 29 [.aload_n 0] 30 = true := by decide +kernel
theorem qX12_ends_33 : decB cX12_ends 33 [.bipush 9, .dup2] 36 = true := by decide +kernel
theorem qX12_ends_37 : decB cX12_ends 37 [.iload_n 2, .iload_n 3, .iadd, .aload_n 0, .iload_n 1, .bipush 6] 44 = true := by decide +kernel
theorem qX12_ends_47 : decB cX12_ends 47 [.isub, .isub] 49 = true := by decide +kernel
theorem qX12_ends_50 : decB cX12_ends 50 [.aload_n 0] 51 = true := by decide +kernel
theorem qX12_ends_54 : decB cX12_ends 54 [.bipush 11, .dup2] 57 = true := by decide +kernel
theorem qX12_ends_58 : decB cX12_ends 58 [.iload_n 2, .iadd] 60 = true := by decide +kernel
theorem qX12_ends_61 : decB cX12_ends 61 [.aload_n 0] 62 = true := by decide +kernel
theorem qX12_ends_65 : decB cX12_ends 65 [.bipush 12, .dup2] 68 = true := by decide +kernel
theorem qX12_ends_69 : decB cX12_ends 69 [.iload_n 3, .iadd] 71 = true := by decide +kernel
theorem qX12_ends_72 : decB cX12_ends 72 [.aload_n 0, .iload_n 1, .iconst 0, .iconst 4] 76 = true := by decide +kernel
theorem dX12_ends_2 : decode cX12_ends 2 = .ok (.invokevirtual 146, 3) := by decide +kernel
theorem dX12_ends_8 : decode cX12_ends 8 = .ok (.invokevirtual 155, 3) := by decide +kernel
theorem dX12_ends_13 : decode cX12_ends 13 = .ok (.getfield 9, 3) := by decide +kernel
theorem dX12_ends_19 : decode cX12_ends 19 = .ok (.iaload, 1) := by decide +kernel
theorem dX12_ends_24 : decode cX12_ends 24 = .ok (.invokevirtual 43, 3) := by decide +kernel
theorem dX12_ends_28 : decode cX12_ends 28 = .ok (.iastore, 1) := by decide +kernel
theorem dX12_ends_30 : decode cX12_ends 30 = .ok (.getfield 9, 3) := by decide +kernel
theorem dX12_ends_36 : decode cX12_ends 36 = .ok (.iaload, 1) := by decide +kernel
theorem dX12_ends_44 : decode cX12_ends 44 = .ok (.invokevirtual 43, 3) := by decide +kernel
theorem dX12_ends_49 : decode cX12_ends 49 = .ok (.iastore, 1) := by decide +kernel
theorem dX12_ends_51 : decode cX12_ends 51 = .ok (.getfield 9, 3) := by decide +kernel
theorem dX12_ends_57 : decode cX12_ends 57 = .ok (.iaload, 1) := by decide +kernel
theorem dX12_ends_60 : decode cX12_ends 60 = .ok (.iastore, 1) := by decide +kernel
theorem dX12_ends_62 : decode cX12_ends 62 = .ok (.getfield 9, 3) := by decide +kernel
theorem dX12_ends_68 : decode cX12_ends 68 = .ok (.iaload, 1) := by decide +kernel
theorem dX12_ends_71 : decode cX12_ends 71 = .ok (.iastore, 1) := by decide +kernel
theorem dX12_ends_76 : decode cX12_ends 76 = .ok (.invokevirtual 90, 3) := by decide +kernel
theorem dX12_ends_79 : decode cX12_ends 79 = .ok (.return_, 1) := by decide +kernel
theorem qX12_oneDay_0 : decB cX12_oneDay 0 [.aload_n 0] 1 = true := by decide +kernel
theorem qX12_oneDay_4 : decB cX12_oneDay 4 [.iconst 0, .dup2] 6 = true := by decide +kernel
theorem qX12_oneDay_7 : decB cX12_oneDay 7 [.iconst 1, .iadd] 9 = true := by decide +kernel
theorem qX12_oneDay_10 : decB cX12_oneDay 10 [.iconst 0, .istore_n 1] 12 = true := by decide +kernel
theorem qX12_oneDay_12 : decB cX12_oneDay 12 [.iload_n 1, .aload_n 0] 14 = true := by decide +kernel
theorem qX12_oneDay_17 : decB cX12_oneDay 17 [.iconst 5] 18 = true := by decide +kernel
theorem qX12_oneDay_22 : decB cX12_oneDay 22 [.aload_n 0, .iload_n 1, .iconst 0] 25 = true := by decide +kernel
theorem qX12_oneDay_28 : decB cX12_oneDay 28 [.iconst 1] 29 = true := by decide +kernel
theorem qX12_oneDay_32 : decB cX12_oneDay 32 [.aload_n 0, .iload_n 1] 34 = true := by decide +kernel
theorem qX12_oneDay_37 : decB cX12_oneDay 37 [.aload_n 0] 38 = true := by decide +kernel
theorem qX12_oneDay_41 : decB cX12_oneDay 41 [.iconst 0] 42 = true := by decide +kernel
theorem qX12_oneDay_46 : decB cX12_oneDay 46 [.aload_n 0, .iload_n 1] 48 = true := by decide +kernel
theorem qX12_oneDay_51 : decB cX12_oneDay 51 [.iinc 1 1, .goto (-42)] 12 = true := by decide +kernel
theorem qX12_oneDay_57 : decB cX12_oneDay 57 [.iconst 0, .istore_n 1] 59 = true := by decide +kernel
theorem qX12_oneDay_59 : decB cX12_oneDay 59 [.iload_n 1, .aload_n 0] 61 = true := by decide +kernel
theorem qX12_oneDay_64 : decB cX12_oneDay 64 [.iconst 5] 65 = true := by decide +kernel
theorem qX12_oneDay_69 : decB cX12_oneDay 69 [.aload_n 0, .iload_n 1, .iconst 0] 72 = true := by decide +kernel
theorem qX12_oneDay_78 : decB cX12_oneDay 78 [.aload_n 0, .iload_n 1, .bipush 9] 82 = true := by decide +kernel
theorem qX12_oneDay_85 : decB cX12_oneDay 85 [.aload_n 0] 86 = true := by decide +kernel
theorem qX12_oneDay_89 : decB cX12_oneDay 89 [.iconst 0] 90 = true := by decide +kernel
theorem qX12_oneDay_94 : decB cX12_oneDay 94 [.aload_n 0, .iload_n 1, .iconst 2] 97 = true := by decide +kernel
theorem qX12_oneDay_100 : decB cX12_oneDay 100 [.aload_n 0] 101 = true := by decide +kernel
theorem qX12_oneDay_104 : decB cX12_oneDay 104 [.iconst 0] 105 = true := by decide +kernel
theorem qX12_oneDay_109 : decB cX12_oneDay 109 [.aload_n 0, .iload_n 1, .iconst 0, .iconst 2] 113 = true := by decide +kernel
theorem qX12_oneDay_116 : decB cX12_oneDay 116 [.iinc 1 1, .goto (-60)] 59 = true := by decide +kernel
theorem qX12_oneDay_122 : decB cX12_oneDay 122 [.iconst 0, .istore_n 1] 124 = true := by decide +kernel
theorem qX12_oneDay_124 : decB cX12_oneDay 124 [.iload_n 1, .aload_n 0] 126 = true := by decide +kernel
theorem qX12_oneDay_129 : decB cX12_oneDay 129 [.iconst 1] 130 = true := by decide +kernel
theorem qX12_oneDay_134 : decB cX12_oneDay 134 [.aload_n 0, .iload_n 1, .aload_n 0] 137 = true := by decide +kernel
theorem qX12_oneDay_140 : decB cX12_oneDay 140 [.iconst 0] 141 = true := by decide +kernel
theorem qX12_oneDay_145 : decB cX12_oneDay 145 [.aload_n 0, .iload_n 1, .iconst 0] 148 = true := by decide +kernel
theorem qX12_oneDay_154 : decB cX12_oneDay 154 [.aload_n 0, .iload_n 1] 156 = true := by decide +kernel
theorem qX12_oneDay_159 : decB cX12_oneDay 159 [.istore_n 2, .aload_n 0, .iconst 1, .iconst 0, .aload_n 0, .iload_n 2, .bipush 6] 167 = true := by decide +kernel
theorem qX12_oneDay_173 : decB cX12_oneDay 173 [.aload_n 0, .iload_n 2, .iconst 0, .iconst 3] 177 = true := by decide +kernel
theorem qX12_oneDay_180 : decB cX12_oneDay 180 [.goto (-46)] 134 = true := by decide +kernel
theorem qX12_oneDay_183 : decB cX12_oneDay 183 [.iinc 1 1, .goto (-62)] 124 = true := by decide +kernel
theorem qX12_oneDay_189 : decB cX12_oneDay 189 [.aload_n 0] 190 = true := by decide +kernel
theorem qX12_oneDay_193 : decB cX12_oneDay 193 [.istore_n 1] 194 = true := by decide +kernel
theorem dX12_oneDay_1 : decode cX12_oneDay 1 = .ok (.getfield 9, 3) := by decide +kernel
theorem dX12_oneDay_6 : decode cX12_oneDay 6 = .ok (.iaload, 1) := by decide +kernel
theorem dX12_oneDay_9 : decode cX12_oneDay 9 = .ok (.iastore, 1) := by decide +kernel
theorem dX12_oneDay_14 : decode cX12_oneDay 14 = .ok (.getfield 9, 3) := by decide +kernel
theorem dX12_oneDay_18 : decode cX12_oneDay 18 = .ok (.iaload, 1) := by decide +kernel
theorem dX12_oneDay_19 : decode cX12_oneDay 19 = .ok (.if_icmp .ge 38, 3) := by decide +kernel
theorem dX12_oneDay_25 : decode cX12_oneDay 25 = .ok (.invokevirtual 43, 3) := by decide +kernel
theorem dX12_oneDay_29 : decode cX12_oneDay 29 = .ok (.if_icmp .ne 22, 3) := by decide +kernel
theorem dX12_oneDay_34 : decode cX12_oneDay 34 = .ok (.invokevirtual 46, 3) := by decide +kernel
theorem dX12_oneDay_38 : decode cX12_oneDay 38 = .ok (.getfield 9, 3) := by decide +kernel
theorem dX12_oneDay_42 : decode cX12_oneDay 42 = .ok (.iaload, 1) := by decide +kernel
theorem dX12_oneDay_43 : decode cX12_oneDay 43 = .ok (.if_icmp .ge 8, 3) := by decide +kernel
theorem dX12_oneDay_48 : decode cX12_oneDay 48 = .ok (.invokevirtual 158, 3) := by decide +kernel
theorem dX12_oneDay_61 : decode cX12_oneDay 61 = .ok (.getfield 9, 3) := by decide +kernel
theorem dX12_oneDay_65 : decode cX12_oneDay 65 = .ok (.iaload, 1) := by decide +kernel
theorem dX12_oneDay_66 : decode cX12_oneDay 66 = .ok (.if_icmp .ge 56, 3) := by decide +kernel
theorem dX12_oneDay_72 : decode cX12_oneDay 72 = .ok (.invokevirtual 43, 3) := by decide +kernel
theorem dX12_oneDay_75 : decode cX12_oneDay 75 = .ok (.ifCond .ne 41, 3) := by decide +kernel
theorem dX12_oneDay_82 : decode cX12_oneDay 82 = .ok (.invokevirtual 43, 3) := by decide +kernel
theorem dX12_oneDay_86 : decode cX12_oneDay 86 = .ok (.getfield 9, 3) := by decide +kernel
theorem dX12_oneDay_90 : decode cX12_oneDay 90 = .ok (.iaload, 1) := by decide +kernel
theorem dX12_oneDay_91 : decode cX12_oneDay 91 = .ok (.if_icmp .lt 18, 3) := by decide +kernel
theorem dX12_oneDay_97 : decode cX12_oneDay 97 = .ok (.invokevirtual 43, 3) := by decide +kernel
theorem dX12_oneDay_101 : decode cX12_oneDay 101 = .ok (.getfield 9, 3) := by decide +kernel
theorem dX12_oneDay_105 : decode cX12_oneDay 105 = .ok (.iaload, 1) := by decide +kernel
theorem dX12_oneDay_106 : decode cX12_oneDay 106 = .ok (.if_icmp .gt 10, 3) := by decide +kernel
theorem dX12_oneDay_113 : decode cX12_oneDay 113 = .ok (.invokevirtual 90, 3) := by decide +kernel
theorem dX12_oneDay_126 : decode cX12_oneDay 126 = .ok (.getfield 9, 3) := by decide +kernel
theorem dX12_oneDay_130 : decode cX12_oneDay 130 = .ok (.iaload, 1) := by decide +kernel
theorem dX12_oneDay_131 : decode cX12_oneDay 131 = .ok (.if_icmp .ge 58, 3) := by decide +kernel
theorem dX12_oneDay_137 : decode cX12_oneDay 137 = .ok (.getfield 9, 3) := by decide +kernel
theorem dX12_oneDay_141 : decode cX12_oneDay 141 = .ok (.iaload, 1) := by decide +kernel
theorem dX12_oneDay_142 : decode cX12_oneDay 142 = .ok (.invokevirtual 60, 3) := by decide +kernel
theorem dX12_oneDay_148 : decode cX12_oneDay 148 = .ok (.invokevirtual 63, 3) := by decide +kernel
theorem dX12_oneDay_151 : decode cX12_oneDay 151 = .ok (.if_icmp .le 32, 3) := by decide +kernel
theorem dX12_oneDay_156 : decode cX12_oneDay 156 = .ok (.invokevirtual 162, 3) := by decide +kernel
theorem dX12_oneDay_167 : decode cX12_oneDay 167 = .ok (.invokevirtual 43, 3) := by decide +kernel
theorem dX12_oneDay_170 : decode cX12_oneDay 170 = .ok (.invokevirtual 149, 3) := by decide +kernel
theorem dX12_oneDay_177 : decode cX12_oneDay 177 = .ok (.invokevirtual 90, 3) := by decide +kernel
theorem dX12_oneDay_190 : decode cX12_oneDay 190 = .ok (.invokevirtual 124, 3) := by decide +kernel
theorem dX12_oneDay_194 : decode cX12_oneDay 194 = .ok (.return_, 1) := by decide +kernel
theorem qX12_passes_0 : decB cX12_passes 0 [.aload_n 0, .iload_n 1, .iconst 1, .bipush 31] 5 = true := by decide +kernel
theorem qX12_passes_11 : decB cX12_passes 11 [.aload_n 0] 12 = true := by decide +kernel
theorem qX12_passes_15 : decB cX12_passes 15 [.iconst 0] 16 = true := by decide +kernel
theorem qX12_passes_17 : decB cX12_passes 17 [.iload_n 1, .iadd] 19 = true := by decide +kernel
theorem qX12_passes_24 : decB cX12_passes 24 [.iconst 1, .goto 4] 29 = true := by decide +kernel
theorem qX12_passes_28 : decB cX12_passes 28 [.iconst 0] 29 = true := by decide +kernel
theorem qX12_passes_29 : decB cX12_passes 29 [.iconst 1, .iconst 1] 31 = true := by decide +kernel
theorem qX12_passes_37 : decB cX12_passes 37 [.iconst 0] 38 = true := by decide +kernel
theorem qX12_passes_39 : decB cX12_passes 39 [.aload_n 0] 40 = true := by decide +kernel
theorem qX12_passes_43 : decB cX12_passes 43 [.iconst 0, .istore_n 2] 45 = true := by decide +kernel
theorem qX12_passes_45 : decB cX12_passes 45 [.iload_n 2, .iload_n 1] 47 = true := by decide +kernel
theorem qX12_passes_50 : decB cX12_passes 50 [.aload_n 0] 51 = true := by decide +kernel
theorem qX12_passes_54 : decB cX12_passes 54 [.iinc 2 1, .goto (-12)] 45 = true := by decide +kernel
theorem qX12_passes_60 : decB cX12_passes 60 [.aload_n 0] 61 = true := by decide +kernel
theorem qX12_passes_64 : decB cX12_passes 64 [.iconst 0] 65 = true := by decide +kernel
theorem dX12_passes_5 : decode cX12_passes 5 = .ok (.invokestatic 35, 3) := by decide +kernel
theorem dX12_passes_8 : decode cX12_passes 8 = .ok (.ifCond .eq 20, 3) := by decide +kernel
theorem dX12_passes_12 : decode cX12_passes 12 = .ok (.getfield 9, 3) := by decide +kernel
theorem dX12_passes_16 : decode cX12_passes 16 = .ok (.iaload, 1) := by decide +kernel
theorem dX12_passes_19 : decode cX12_passes 19 = .ok (.ldc 132, 2) := by decide +kernel
theorem dX12_passes_21 : decode cX12_passes 21 = .ok (.if_icmp .ge 7, 3) := by decide +kernel
theorem dX12_passes_31 : decode cX12_passes 31 = .ok (.invokevirtual 111, 3) := by decide +kernel
theorem dX12_passes_34 : decode cX12_passes 34 = .ok (.ifCond .ne 5, 3) := by decide +kernel
theorem dX12_passes_38 : decode cX12_passes 38 = .ok (.ireturn, 1) := by decide +kernel
theorem dX12_passes_40 : decode cX12_passes 40 = .ok (.invokevirtual 115, 3) := by decide +kernel
theorem dX12_passes_47 : decode cX12_passes 47 = .ok (.if_icmp .ge 13, 3) := by decide +kernel
theorem dX12_passes_51 : decode cX12_passes 51 = .ok (.invokevirtual 165, 3) := by decide +kernel
theorem dX12_passes_61 : decode cX12_passes 61 = .ok (.getfield 9, 3) := by decide +kernel
theorem dX12_passes_65 : decode cX12_passes 65 = .ok (.iaload, 1) := by decide +kernel
theorem dX12_passes_66 : decode cX12_passes 66 = .ok (.invokestatic 66, 3) := by decide +kernel
theorem dX12_passes_69 : decode cX12_passes 69 = .ok (.ireturn, 1) := by decide +kernel
theorem qX12_setOdds_0 : decB cX12_setOdds 0 [.iconst 0, .istore 4, .iconst 0, .istore 5] 6 = true := by decide +kernel
theorem qX12_setOdds_6 : decB cX12_setOdds 6 [.iload 5, .iconst 4] 9 = true := by decide +kernel
theorem qX12_setOdds_12 : decB cX12_setOdds 12 [.iload 4, .iload 5, .iload_n 1] 17 = true := by decide +kernel
theorem qX12_setOdds_20 : decB cX12_setOdds 20 [.aload_n 0] 21 = true := by decide +kernel
theorem qX12_setOdds_24 : decB cX12_setOdds 24 [.bipush 13, .iload 5, .iadd] 29 = true := by decide +kernel
theorem qX12_setOdds_30 : decB cX12_setOdds 30 [.goto 4] 34 = true := by decide +kernel
theorem qX12_setOdds_33 : decB cX12_setOdds 33 [.iconst 0] 34 = true := by decide +kernel
theorem qX12_setOdds_34 : decB cX12_setOdds 34 [.iadd, .istore 4, .iinc 5 1, .goto (-34)] 6 = true := by decide +kernel
theorem qX12_setOdds_43 : decB cX12_setOdds 43 [.aload_n 0, .iload_n 1, .iconst 0, .iconst 3] 47 = true := by decide +kernel
theorem qX12_setOdds_50 : decB cX12_setOdds 50 [.iload_n 2, .iconst 0] 52 = true := by decide +kernel
theorem qX12_setOdds_60 : decB cX12_setOdds 60 [.iload_n 3, .iconst 0, .sipush 1000] 65 = true := by decide +kernel
theorem qX12_setOdds_71 : decB cX12_setOdds 71 [.iload 4, .iload_n 3, .iadd, .sipush 1000] 78 = true := by decide +kernel
theorem qX12_setOdds_81 : decB cX12_setOdds 81 [.iconst 1, .goto 4] 86 = true := by decide +kernel
theorem qX12_setOdds_85 : decB cX12_setOdds 85 [.iconst 0] 86 = true := by decide +kernel
theorem qX12_setOdds_86 : decB cX12_setOdds 86 [.iconst 1] 87 = true := by decide +kernel
theorem qX12_setOdds_93 : decB cX12_setOdds 93 [.iconst 0] 94 = true := by decide +kernel
theorem qX12_setOdds_95 : decB cX12_setOdds 95 [.aload_n 0] 96 = true := by decide +kernel
theorem qX12_setOdds_99 : decB cX12_setOdds 99 [.aload_n 0] 100 = true := by decide +kernel
theorem qX12_setOdds_103 : decB cX12_setOdds 103 [.bipush 17, .iload_n 1, .iadd, .iload_n 2] 108 = true := by decide +kernel
theorem qX12_setOdds_109 : decB cX12_setOdds 109 [.aload_n 0] 110 = true := by decide +kernel
theorem qX12_setOdds_113 : decB cX12_setOdds 113 [.bipush 13, .iload_n 1, .iadd, .iload_n 3] 118 = true := by decide +kernel
theorem qX12_setOdds_119 : decB cX12_setOdds 119 [.iload 4, .iload_n 3, .iadd] 123 = true := by decide +kernel
theorem dX12_setOdds_9 : decode cX12_setOdds 9 = .ok (.if_icmp .ge 34, 3) := by decide +kernel
theorem dX12_setOdds_17 : decode cX12_setOdds 17 = .ok (.if_icmp .eq 16, 3) := by decide +kernel
theorem dX12_setOdds_21 : decode cX12_setOdds 21 = .ok (.getfield 9, 3) := by decide +kernel
theorem dX12_setOdds_29 : decode cX12_setOdds 29 = .ok (.iaload, 1) := by decide +kernel
theorem dX12_setOdds_47 : decode cX12_setOdds 47 = .ok (.invokestatic 35, 3) := by decide +kernel
theorem dX12_setOdds_52 : decode cX12_setOdds 52 = .ok (.ldc 110, 2) := by decide +kernel
theorem dX12_setOdds_54 : decode cX12_setOdds 54 = .ok (.invokestatic 35, 3) := by decide +kernel
theorem dX12_setOdds_57 : decode cX12_setOdds 57 = .ok (.ifCond .eq 28, 3) := by decide +kernel
theorem dX12_setOdds_65 : decode cX12_setOdds 65 = .ok (.invokestatic 35, 3) := by decide +kernel
theorem dX12_setOdds_68 : decode cX12_setOdds 68 = .ok (.ifCond .eq 17, 3) := by decide +kernel
theorem dX12_setOdds_78 : decode cX12_setOdds 78 = .ok (.if_icmp .gt 7, 3) := by decide +kernel
theorem dX12_setOdds_87 : decode cX12_setOdds 87 = .ok (.invokevirtual 111, 3) := by decide +kernel
theorem dX12_setOdds_90 : decode cX12_setOdds 90 = .ok (.ifCond .ne 5, 3) := by decide +kernel
theorem dX12_setOdds_94 : decode cX12_setOdds 94 = .ok (.ireturn, 1) := by decide +kernel
theorem dX12_setOdds_96 : decode cX12_setOdds 96 = .ok (.invokevirtual 115, 3) := by decide +kernel
theorem dX12_setOdds_100 : decode cX12_setOdds 100 = .ok (.getfield 9, 3) := by decide +kernel
theorem dX12_setOdds_108 : decode cX12_setOdds 108 = .ok (.iastore, 1) := by decide +kernel
theorem dX12_setOdds_110 : decode cX12_setOdds 110 = .ok (.getfield 9, 3) := by decide +kernel
theorem dX12_setOdds_118 : decode cX12_setOdds 118 = .ok (.iastore, 1) := by decide +kernel
theorem dX12_setOdds_123 : decode cX12_setOdds 123 = .ok (.ireturn, 1) := by decide +kernel
theorem qX12_laysIncomes_0 : decB cX12_laysIncomes 0 [.sipush 1000, .istore_n 1, .iconst 0, .istore_n 2] 6 = true := by decide +kernel
theorem qX12_laysIncomes_6 : decB cX12_laysIncomes 6 [.iload_n 2, .iconst 4] 8 = true := by decide +kernel
theorem qX12_laysIncomes_11 : decB cX12_laysIncomes 11 [.iload_n 1, .aload_n 0] 13 = true := by decide +kernel
theorem qX12_laysIncomes_16 : decB cX12_laysIncomes 16 [.bipush 13, .iload_n 2, .iadd] 20 = true := by decide +kernel
theorem qX12_laysIncomes_21 : decB cX12_laysIncomes 21 [.isub, .istore_n 1, .iinc 2 1, .goto (-20)] 6 = true := by decide +kernel
theorem qX12_laysIncomes_29 : decB cX12_laysIncomes 29 [.lconst 1, .lstore_n 2, .iconst 0, .istore 4] 34 = true := by decide +kernel
theorem qX12_laysIncomes_34 : decB cX12_laysIncomes 34 [.iload 4, .iconst 4] 37 = true := by decide +kernel
theorem qX12_laysIncomes_40 : decB cX12_laysIncomes 40 [.iconst 0, .istore 5] 43 = true := by decide +kernel
theorem qX12_laysIncomes_43 : decB cX12_laysIncomes 43 [.iload 5, .iconst 5] 46 = true := by decide +kernel
theorem qX12_laysIncomes_49 : decB cX12_laysIncomes 49 [.iload 4, .bipush 6, .imul, .iload 5, .iadd, .istore 6, .aload_n 0] 60 = true := by decide +kernel
theorem qX12_laysIncomes_63 : decB cX12_laysIncomes 63 [.iload 6, .lconst 0] 66 = true := by decide +kernel
theorem qX12_laysIncomes_67 : decB cX12_laysIncomes 67 [.iload 4] 69 = true := by decide +kernel
theorem qX12_laysIncomes_72 : decB cX12_laysIncomes 72 [.iload 5] 74 = true := by decide +kernel
theorem qX12_laysIncomes_77 : decB cX12_laysIncomes 77 [.goto 99] 176 = true := by decide +kernel
theorem qX12_laysIncomes_80 : decB cX12_laysIncomes 80 [.aload_n 0] 81 = true := by decide +kernel
theorem qX12_laysIncomes_84 : decB cX12_laysIncomes 84 [.iload 6, .iconst 5, .isub, .iconst 1, .isub] 90 = true := by decide +kernel
theorem qX12_laysIncomes_91 : decB cX12_laysIncomes 91 [.lstore 7, .aload_n 0] 94 = true := by decide +kernel
theorem qX12_laysIncomes_97 : decB cX12_laysIncomes 97 [.iload 6, .iconst 5, .isub, .iconst 2, .isub] 103 = true := by decide +kernel
theorem qX12_laysIncomes_104 : decB cX12_laysIncomes 104 [.lstore 9, .aload_n 0] 107 = true := by decide +kernel
theorem qX12_laysIncomes_110 : decB cX12_laysIncomes 110 [.iload 6, .iload_n 1] 113 = true := by decide +kernel
theorem qX12_laysIncomes_114 : decB cX12_laysIncomes 114 [.lload 7, .lmul] 117 = true := by decide +kernel
theorem qX12_laysIncomes_118 : decB cX12_laysIncomes 118 [.iconst 0, .istore 11] 121 = true := by decide +kernel
theorem qX12_laysIncomes_121 : decB cX12_laysIncomes 121 [.iload 11, .iconst 4] 124 = true := by decide +kernel
theorem qX12_laysIncomes_127 : decB cX12_laysIncomes 127 [.aload_n 0] 128 = true := by decide +kernel
theorem qX12_laysIncomes_131 : decB cX12_laysIncomes 131 [.iload 6, .dup2] 134 = true := by decide +kernel
theorem qX12_laysIncomes_135 : decB cX12_laysIncomes 135 [.aload_n 0] 136 = true := by decide +kernel
theorem qX12_laysIncomes_139 : decB cX12_laysIncomes 139 [.bipush 13, .iload 11, .iadd] 144 = true := by decide +kernel
theorem qX12_laysIncomes_146 : decB cX12_laysIncomes 146 [.lload 7, .aload_n 0] 149 = true := by decide +kernel
theorem qX12_laysIncomes_152 : decB cX12_laysIncomes 152 [.bipush 17, .iload 11, .iadd] 157 = true := by decide +kernel
theorem qX12_laysIncomes_159 : decB cX12_laysIncomes 159 [.lload_n 2, .lmul, .lload 9, .ladd] 164 = true := by decide +kernel
theorem qX12_laysIncomes_167 : decB cX12_laysIncomes 167 [.lmul, .ladd] 169 = true := by decide +kernel
theorem qX12_laysIncomes_170 : decB cX12_laysIncomes 170 [.iinc 11 1, .goto (-52)] 121 = true := by decide +kernel
theorem qX12_laysIncomes_176 : decB cX12_laysIncomes 176 [.iinc 5 1, .goto (-136)] 43 = true := by decide +kernel
theorem qX12_laysIncomes_182 : decB cX12_laysIncomes 182 [.iload 4] 184 = true := by decide +kernel
theorem qX12_laysIncomes_187 : decB cX12_laysIncomes 187 [.lload_n 2] 188 = true := by decide +kernel
theorem qX12_laysIncomes_191 : decB cX12_laysIncomes 191 [.lmul, .lstore_n 2] 193 = true := by decide +kernel
theorem qX12_laysIncomes_193 : decB cX12_laysIncomes 193 [.iinc 4 1, .goto (-162)] 34 = true := by decide +kernel
theorem dX12_laysIncomes_8 : decode cX12_laysIncomes 8 = .ok (.if_icmp .ge 21, 3) := by decide +kernel
theorem dX12_laysIncomes_13 : decode cX12_laysIncomes 13 = .ok (.getfield 9, 3) := by decide +kernel
theorem dX12_laysIncomes_20 : decode cX12_laysIncomes 20 = .ok (.iaload, 1) := by decide +kernel
theorem dX12_laysIncomes_37 : decode cX12_laysIncomes 37 = .ok (.if_icmp .gt 162, 3) := by decide +kernel
theorem dX12_laysIncomes_46 : decode cX12_laysIncomes 46 = .ok (.if_icmp .gt 136, 3) := by decide +kernel
theorem dX12_laysIncomes_60 : decode cX12_laysIncomes 60 = .ok (.getfield 19, 3) := by decide +kernel
theorem dX12_laysIncomes_66 : decode cX12_laysIncomes 66 = .ok (.lastore, 1) := by decide +kernel
theorem dX12_laysIncomes_69 : decode cX12_laysIncomes 69 = .ok (.ifCond .eq 107, 3) := by decide +kernel
theorem dX12_laysIncomes_74 : decode cX12_laysIncomes 74 = .ok (.ifCond .ne 6, 3) := by decide +kernel
theorem dX12_laysIncomes_81 : decode cX12_laysIncomes 81 = .ok (.getfield 19, 3) := by decide +kernel
theorem dX12_laysIncomes_90 : decode cX12_laysIncomes 90 = .ok (.laload, 1) := by decide +kernel
theorem dX12_laysIncomes_94 : decode cX12_laysIncomes 94 = .ok (.getfield 19, 3) := by decide +kernel
theorem dX12_laysIncomes_103 : decode cX12_laysIncomes 103 = .ok (.laload, 1) := by decide +kernel
theorem dX12_laysIncomes_107 : decode cX12_laysIncomes 107 = .ok (.getfield 19, 3) := by decide +kernel
theorem dX12_laysIncomes_113 : decode cX12_laysIncomes 113 = .ok (.i2l, 1) := by decide +kernel
theorem dX12_laysIncomes_117 : decode cX12_laysIncomes 117 = .ok (.lastore, 1) := by decide +kernel
theorem dX12_laysIncomes_124 : decode cX12_laysIncomes 124 = .ok (.if_icmp .ge 52, 3) := by decide +kernel
theorem dX12_laysIncomes_128 : decode cX12_laysIncomes 128 = .ok (.getfield 19, 3) := by decide +kernel
theorem dX12_laysIncomes_134 : decode cX12_laysIncomes 134 = .ok (.laload, 1) := by decide +kernel
theorem dX12_laysIncomes_136 : decode cX12_laysIncomes 136 = .ok (.getfield 9, 3) := by decide +kernel
theorem dX12_laysIncomes_144 : decode cX12_laysIncomes 144 = .ok (.iaload, 1) := by decide +kernel
theorem dX12_laysIncomes_145 : decode cX12_laysIncomes 145 = .ok (.i2l, 1) := by decide +kernel
theorem dX12_laysIncomes_149 : decode cX12_laysIncomes 149 = .ok (.getfield 9, 3) := by decide +kernel
theorem dX12_laysIncomes_157 : decode cX12_laysIncomes 157 = .ok (.iaload, 1) := by decide +kernel
theorem dX12_laysIncomes_158 : decode cX12_laysIncomes 158 = .ok (.i2l, 1) := by decide +kernel
theorem dX12_laysIncomes_164 : decode cX12_laysIncomes 164 = .ok (.invokestatic 168, 3) := by decide +kernel
theorem dX12_laysIncomes_169 : decode cX12_laysIncomes 169 = .ok (.lastore, 1) := by decide +kernel
theorem dX12_laysIncomes_184 : decode cX12_laysIncomes 184 = .ok (.ifCond .le 9, 3) := by decide +kernel
theorem dX12_laysIncomes_188 : decode cX12_laysIncomes 188 = .ok (.ldc2_w 171, 3) := by decide +kernel
theorem dX12_laysIncomes_199 : decode cX12_laysIncomes 199 = .ok (.return_, 1) := by decide +kernel
theorem qX12_incomeOf_0 : decB cX12_incomeOf 0 [.aload_n 0] 1 = true := by decide +kernel
theorem qX12_incomeOf_4 : decB cX12_incomeOf 4 [.iload_n 1, .bipush 6, .imul, .iload_n 2, .iadd] 10 = true := by decide +kernel
theorem dX12_incomeOf_1 : decode cX12_incomeOf 1 = .ok (.getfield 19, 3) := by decide +kernel
theorem dX12_incomeOf_10 : decode cX12_incomeOf 10 = .ok (.laload, 1) := by decide +kernel
theorem dX12_incomeOf_11 : decode cX12_incomeOf 11 = .ok (.lreturn, 1) := by decide +kernel
theorem qX12_limitOf_0 : decB cX12_limitOf 0 [.aload_n 0] 1 = true := by decide +kernel
theorem qX12_limitOf_4 : decB cX12_limitOf 4 [.lconst 1, .lstore_n 3, .iconst 1, .istore 5] 9 = true := by decide +kernel
theorem qX12_limitOf_9 : decB cX12_limitOf 9 [.iload 5, .iload_n 1] 12 = true := by decide +kernel
theorem qX12_limitOf_15 : decB cX12_limitOf 15 [.lload_n 3] 16 = true := by decide +kernel
theorem qX12_limitOf_19 : decB cX12_limitOf 19 [.lmul, .lstore_n 3, .iinc 5 1, .goto (-15)] 9 = true := by decide +kernel
theorem qX12_limitOf_27 : decB cX12_limitOf 27 [.aload_n 0, .iload_n 1, .iconst 1, .isub, .iload_n 2] 32 = true := by decide +kernel
theorem qX12_limitOf_35 : decB cX12_limitOf 35 [.aload_n 0, .iload_n 1, .iconst 1, .isub, .iload_n 2, .iconst 1, .isub] 42 = true := by decide +kernel
theorem qX12_limitOf_45 : decB cX12_limitOf 45 [.lsub, .lstore 5, .lload 5, .lload_n 3, .ladd, .lconst 1, .lsub, .lload_n 3] 55 = true := by decide +kernel
theorem qX12_limitOf_56 : decB cX12_limitOf 56 [.l2i] 57 = true := by decide +kernel
theorem dX12_limitOf_1 : decode cX12_limitOf 1 = .ok (.invokevirtual 173, 3) := by decide +kernel
theorem dX12_limitOf_12 : decode cX12_limitOf 12 = .ok (.if_icmp .ge 15, 3) := by decide +kernel
theorem dX12_limitOf_16 : decode cX12_limitOf 16 = .ok (.ldc2_w 171, 3) := by decide +kernel
theorem dX12_limitOf_32 : decode cX12_limitOf 32 = .ok (.invokevirtual 176, 3) := by decide +kernel
theorem dX12_limitOf_42 : decode cX12_limitOf 42 = .ok (.invokevirtual 176, 3) := by decide +kernel
theorem dX12_limitOf_55 : decode cX12_limitOf 55 = .ok (.ldiv, 1) := by decide +kernel
theorem dX12_limitOf_57 : decode cX12_limitOf 57 = .ok (.ireturn, 1) := by decide +kernel
theorem qX12_sell_0 : decB cX12_sell 0 [.aload_n 0, .iload_n 1, .iconst 1, .iconst 4] 4 = true := by decide +kernel
theorem qX12_sell_10 : decB cX12_sell 10 [.iload_n 2, .iconst 1, .iconst 4] 13 = true := by decide +kernel
theorem qX12_sell_19 : decB cX12_sell 19 [.iconst 1, .goto 4] 24 = true := by decide +kernel
theorem qX12_sell_23 : decB cX12_sell 23 [.iconst 0] 24 = true := by decide +kernel
theorem qX12_sell_24 : decB cX12_sell 24 [.iconst 1, .iconst 1] 26 = true := by decide +kernel
theorem qX12_sell_32 : decB cX12_sell 32 [.iconst 0] 33 = true := by decide +kernel
theorem qX12_sell_34 : decB cX12_sell 34 [.aload_n 0] 35 = true := by decide +kernel
theorem qX12_sell_38 : decB cX12_sell 38 [.aload_n 0] 39 = true := by decide +kernel
theorem qX12_sell_42 : decB cX12_sell 42 [.bipush 21, .iconst 1] 45 = true := by decide +kernel
theorem qX12_sell_46 : decB cX12_sell 46 [.aload_n 0] 47 = true := by decide +kernel
theorem qX12_sell_50 : decB cX12_sell 50 [.bipush 22, .iload_n 1] 53 = true := by decide +kernel
theorem qX12_sell_54 : decB cX12_sell 54 [.aload_n 0] 55 = true := by decide +kernel
theorem qX12_sell_58 : decB cX12_sell 58 [.bipush 23, .iload_n 2] 61 = true := by decide +kernel
theorem qX12_sell_62 : decB cX12_sell 62 [.aload_n 0] 63 = true := by decide +kernel
theorem qX12_sell_66 : decB cX12_sell 66 [.bipush 24, .iconst 0] 69 = true := by decide +kernel
theorem qX12_sell_70 : decB cX12_sell 70 [.aload_n 0] 71 = true := by decide +kernel
theorem qX12_sell_74 : decB cX12_sell 74 [.bipush 25, .iload_n 2] 77 = true := by decide +kernel
theorem qX12_sell_78 : decB cX12_sell 78 [.aload_n 0] 79 = true := by decide +kernel
theorem qX12_sell_82 : decB cX12_sell 82 [.bipush 26, .iconst 0] 85 = true := by decide +kernel
theorem qX12_sell_86 : decB cX12_sell 86 [.aload_n 0, .iload_n 1, .iload_n 2] 89 = true := by decide +kernel
theorem dX12_sell_4 : decode cX12_sell 4 = .ok (.invokestatic 35, 3) := by decide +kernel
theorem dX12_sell_7 : decode cX12_sell 7 = .ok (.ifCond .eq 16, 3) := by decide +kernel
theorem dX12_sell_13 : decode cX12_sell 13 = .ok (.invokestatic 35, 3) := by decide +kernel
theorem dX12_sell_16 : decode cX12_sell 16 = .ok (.ifCond .eq 7, 3) := by decide +kernel
theorem dX12_sell_26 : decode cX12_sell 26 = .ok (.invokevirtual 111, 3) := by decide +kernel
theorem dX12_sell_29 : decode cX12_sell 29 = .ok (.ifCond .ne 5, 3) := by decide +kernel
theorem dX12_sell_33 : decode cX12_sell 33 = .ok (.ireturn, 1) := by decide +kernel
theorem dX12_sell_35 : decode cX12_sell 35 = .ok (.invokevirtual 115, 3) := by decide +kernel
theorem dX12_sell_39 : decode cX12_sell 39 = .ok (.getfield 9, 3) := by decide +kernel
theorem dX12_sell_45 : decode cX12_sell 45 = .ok (.iastore, 1) := by decide +kernel
theorem dX12_sell_47 : decode cX12_sell 47 = .ok (.getfield 9, 3) := by decide +kernel
theorem dX12_sell_53 : decode cX12_sell 53 = .ok (.iastore, 1) := by decide +kernel
theorem dX12_sell_55 : decode cX12_sell 55 = .ok (.getfield 9, 3) := by decide +kernel
theorem dX12_sell_61 : decode cX12_sell 61 = .ok (.iastore, 1) := by decide +kernel
theorem dX12_sell_63 : decode cX12_sell 63 = .ok (.getfield 9, 3) := by decide +kernel
theorem dX12_sell_69 : decode cX12_sell 69 = .ok (.iastore, 1) := by decide +kernel
theorem dX12_sell_71 : decode cX12_sell 71 = .ok (.getfield 9, 3) := by decide +kernel
theorem dX12_sell_77 : decode cX12_sell 77 = .ok (.iastore, 1) := by decide +kernel
theorem dX12_sell_79 : decode cX12_sell 79 = .ok (.getfield 9, 3) := by decide +kernel
theorem dX12_sell_85 : decode cX12_sell 85 = .ok (.iastore, 1) := by decide +kernel
theorem dX12_sell_89 : decode cX12_sell 89 = .ok (.invokevirtual 180, 3) := by decide +kernel
theorem dX12_sell_92 : decode cX12_sell 92 = .ok (.ireturn, 1) := by decide +kernel
theorem qX12_offer_0 : decB cX12_offer 0 [.aload_n 0, .iload_n 1, .iconst 0] 3 = true := by decide +kernel
theorem qX12_offer_8 : decB cX12_offer 8 [.aload_n 0] 9 = true := by decide +kernel
theorem qX12_offer_12 : decB cX12_offer 12 [.bipush 21] 14 = true := by decide +kernel
theorem qX12_offer_15 : decB cX12_offer 15 [.iconst 1] 16 = true := by decide +kernel
theorem qX12_offer_19 : decB cX12_offer 19 [.aload_n 0] 20 = true := by decide +kernel
theorem qX12_offer_23 : decB cX12_offer 23 [.bipush 22] 25 = true := by decide +kernel
theorem qX12_offer_29 : decB cX12_offer 29 [.iconst 1, .goto 4] 34 = true := by decide +kernel
theorem qX12_offer_33 : decB cX12_offer 33 [.iconst 0] 34 = true := by decide +kernel
theorem qX12_offer_34 : decB cX12_offer 34 [.iconst 1] 35 = true := by decide +kernel
theorem qX12_offer_41 : decB cX12_offer 41 [.iconst 0] 42 = true := by decide +kernel
theorem qX12_offer_43 : decB cX12_offer 43 [.aload_n 0] 44 = true := by decide +kernel
theorem qX12_offer_47 : decB cX12_offer 47 [.aload_n 0] 48 = true := by decide +kernel
theorem qX12_offer_51 : decB cX12_offer 51 [.bipush 23] 53 = true := by decide +kernel
theorem qX12_offer_57 : decB cX12_offer 57 [.iload_n 1, .aload_n 0, .aload_n 0] 60 = true := by decide +kernel
theorem qX12_offer_63 : decB cX12_offer 63 [.bipush 22] 65 = true := by decide +kernel
theorem qX12_offer_66 : decB cX12_offer 66 [.aload_n 0] 67 = true := by decide +kernel
theorem qX12_offer_70 : decB cX12_offer 70 [.bipush 23] 72 = true := by decide +kernel
theorem qX12_offer_79 : decB cX12_offer 79 [.iconst 1, .goto 4] 84 = true := by decide +kernel
theorem qX12_offer_83 : decB cX12_offer 83 [.iconst 0] 84 = true := by decide +kernel
theorem qX12_offer_84 : decB cX12_offer 84 [.istore_n 2, .aload_n 0] 86 = true := by decide +kernel
theorem qX12_offer_89 : decB cX12_offer 89 [.bipush 27, .aload_n 0] 92 = true := by decide +kernel
theorem qX12_offer_95 : decB cX12_offer 95 [.bipush 26] 97 = true := by decide +kernel
theorem qX12_offer_98 : decB cX12_offer 98 [.iadd, .iload_n 1] 100 = true := by decide +kernel
theorem qX12_offer_101 : decB cX12_offer 101 [.aload_n 0] 102 = true := by decide +kernel
theorem qX12_offer_105 : decB cX12_offer 105 [.bipush 26, .dup2] 108 = true := by decide +kernel
theorem qX12_offer_109 : decB cX12_offer 109 [.iconst 1, .iadd] 111 = true := by decide +kernel
theorem qX12_offer_112 : decB cX12_offer 112 [.aload_n 0] 113 = true := by decide +kernel
theorem qX12_offer_116 : decB cX12_offer 116 [.bipush 22, .dup2] 119 = true := by decide +kernel
theorem qX12_offer_120 : decB cX12_offer 120 [.iconst 1, .isub] 122 = true := by decide +kernel
theorem qX12_offer_123 : decB cX12_offer 123 [.iload_n 2] 124 = true := by decide +kernel
theorem qX12_offer_127 : decB cX12_offer 127 [.iconst (-1)] 128 = true := by decide +kernel
theorem qX12_offer_129 : decB cX12_offer 129 [.aload_n 0] 130 = true := by decide +kernel
theorem qX12_offer_133 : decB cX12_offer 133 [.bipush 23, .dup2] 136 = true := by decide +kernel
theorem qX12_offer_137 : decB cX12_offer 137 [.iconst 1, .isub] 139 = true := by decide +kernel
theorem qX12_offer_140 : decB cX12_offer 140 [.aload_n 0] 141 = true := by decide +kernel
theorem qX12_offer_144 : decB cX12_offer 144 [.bipush 24, .dup2] 147 = true := by decide +kernel
theorem qX12_offer_148 : decB cX12_offer 148 [.iload_n 1, .iadd] 150 = true := by decide +kernel
theorem qX12_offer_151 : decB cX12_offer 151 [.aload_n 0] 152 = true := by decide +kernel
theorem qX12_offer_155 : decB cX12_offer 155 [.bipush 24] 157 = true := by decide +kernel
theorem dX12_offer_3 : decode cX12_offer 3 = .ok (.ldc 110, 2) := by decide +kernel
theorem dX12_offer_5 : decode cX12_offer 5 = .ok (.invokestatic 35, 3) := by decide +kernel
theorem dX12_offer_9 : decode cX12_offer 9 = .ok (.getfield 9, 3) := by decide +kernel
theorem dX12_offer_14 : decode cX12_offer 14 = .ok (.iaload, 1) := by decide +kernel
theorem dX12_offer_16 : decode cX12_offer 16 = .ok (.if_icmp .ne 17, 3) := by decide +kernel
theorem dX12_offer_20 : decode cX12_offer 20 = .ok (.getfield 9, 3) := by decide +kernel
theorem dX12_offer_25 : decode cX12_offer 25 = .ok (.iaload, 1) := by decide +kernel
theorem dX12_offer_26 : decode cX12_offer 26 = .ok (.ifCond .le 7, 3) := by decide +kernel
theorem dX12_offer_35 : decode cX12_offer 35 = .ok (.invokevirtual 111, 3) := by decide +kernel
theorem dX12_offer_38 : decode cX12_offer 38 = .ok (.ifCond .ne 5, 3) := by decide +kernel
theorem dX12_offer_42 : decode cX12_offer 42 = .ok (.ireturn, 1) := by decide +kernel
theorem dX12_offer_44 : decode cX12_offer 44 = .ok (.invokevirtual 115, 3) := by decide +kernel
theorem dX12_offer_48 : decode cX12_offer 48 = .ok (.getfield 9, 3) := by decide +kernel
theorem dX12_offer_53 : decode cX12_offer 53 = .ok (.iaload, 1) := by decide +kernel
theorem dX12_offer_54 : decode cX12_offer 54 = .ok (.ifCond .le 29, 3) := by decide +kernel
theorem dX12_offer_60 : decode cX12_offer 60 = .ok (.getfield 9, 3) := by decide +kernel
theorem dX12_offer_65 : decode cX12_offer 65 = .ok (.iaload, 1) := by decide +kernel
theorem dX12_offer_67 : decode cX12_offer 67 = .ok (.getfield 9, 3) := by decide +kernel
theorem dX12_offer_72 : decode cX12_offer 72 = .ok (.iaload, 1) := by decide +kernel
theorem dX12_offer_73 : decode cX12_offer 73 = .ok (.invokevirtual 180, 3) := by decide +kernel
theorem dX12_offer_76 : decode cX12_offer 76 = .ok (.if_icmp .lt 7, 3) := by decide +kernel
theorem dX12_offer_86 : decode cX12_offer 86 = .ok (.getfield 9, 3) := by decide +kernel
theorem dX12_offer_92 : decode cX12_offer 92 = .ok (.getfield 9, 3) := by decide +kernel
theorem dX12_offer_97 : decode cX12_offer 97 = .ok (.iaload, 1) := by decide +kernel
theorem dX12_offer_100 : decode cX12_offer 100 = .ok (.iastore, 1) := by decide +kernel
theorem dX12_offer_102 : decode cX12_offer 102 = .ok (.getfield 9, 3) := by decide +kernel
theorem dX12_offer_108 : decode cX12_offer 108 = .ok (.iaload, 1) := by decide +kernel
theorem dX12_offer_111 : decode cX12_offer 111 = .ok (.iastore, 1) := by decide +kernel
theorem dX12_offer_113 : decode cX12_offer 113 = .ok (.getfield 9, 3) := by decide +kernel
theorem dX12_offer_119 : decode cX12_offer 119 = .ok (.iaload, 1) := by decide +kernel
theorem dX12_offer_122 : decode cX12_offer 122 = .ok (.iastore, 1) := by decide +kernel
theorem dX12_offer_124 : decode cX12_offer 124 = .ok (.ifCond .ne 5, 3) := by decide +kernel
theorem dX12_offer_128 : decode cX12_offer 128 = .ok (.ireturn, 1) := by decide +kernel
theorem dX12_offer_130 : decode cX12_offer 130 = .ok (.getfield 9, 3) := by decide +kernel
theorem dX12_offer_136 : decode cX12_offer 136 = .ok (.iaload, 1) := by decide +kernel
theorem dX12_offer_139 : decode cX12_offer 139 = .ok (.iastore, 1) := by decide +kernel
theorem dX12_offer_141 : decode cX12_offer 141 = .ok (.getfield 9, 3) := by decide +kernel
theorem dX12_offer_147 : decode cX12_offer 147 = .ok (.iaload, 1) := by decide +kernel
theorem dX12_offer_150 : decode cX12_offer 150 = .ok (.iastore, 1) := by decide +kernel
theorem dX12_offer_152 : decode cX12_offer 152 = .ok (.getfield 9, 3) := by decide +kernel
theorem dX12_offer_157 : decode cX12_offer 157 = .ok (.iaload, 1) := by decide +kernel
theorem dX12_offer_158 : decode cX12_offer 158 = .ok (.ireturn, 1) := by decide +kernel
theorem qX12_undo_0 : decB cX12_undo 0 [.aload_n 0, .iconst 0] 2 = true := by decide +kernel
theorem qX12_undo_5 : decB cX12_undo 5 [.aload_n 0] 6 = true := by decide +kernel
theorem qX12_undo_12 : decB cX12_undo 12 [.iconst (-1)] 13 = true := by decide +kernel
theorem qX12_undo_14 : decB cX12_undo 14 [.aload_n 0, .dup] 16 = true := by decide +kernel
theorem qX12_undo_19 : decB cX12_undo 19 [.iconst 1, .isub] 21 = true := by decide +kernel
theorem qX12_undo_24 : decB cX12_undo 24 [.aload_n 0] 25 = true := by decide +kernel
theorem qX12_undo_28 : decB cX12_undo 28 [.aload_n 0] 29 = true := by decide +kernel
theorem qX12_undo_32 : decB cX12_undo 32 [.sipush 5022, .imul, .aload_n 0] 37 = true := by decide +kernel
theorem qX12_undo_40 : decB cX12_undo 40 [.iconst 0, .sipush 5022] 44 = true := by decide +kernel
theorem qX12_undo_47 : decB cX12_undo 47 [.aload_n 0] 48 = true := by decide +kernel
theorem dX12_undo_2 : decode cX12_undo 2 = .ok (.putfield 31, 3) := by decide +kernel
theorem dX12_undo_6 : decode cX12_undo 6 = .ok (.getfield 101, 3) := by decide +kernel
theorem dX12_undo_9 : decode cX12_undo 9 = .ok (.ifCond .ne 5, 3) := by decide +kernel
theorem dX12_undo_13 : decode cX12_undo 13 = .ok (.ireturn, 1) := by decide +kernel
theorem dX12_undo_16 : decode cX12_undo 16 = .ok (.getfield 101, 3) := by decide +kernel
theorem dX12_undo_21 : decode cX12_undo 21 = .ok (.putfield 101, 3) := by decide +kernel
theorem dX12_undo_25 : decode cX12_undo 25 = .ok (.getfield 13, 3) := by decide +kernel
theorem dX12_undo_29 : decode cX12_undo 29 = .ok (.getfield 101, 3) := by decide +kernel
theorem dX12_undo_37 : decode cX12_undo 37 = .ok (.getfield 9, 3) := by decide +kernel
theorem dX12_undo_44 : decode cX12_undo 44 = .ok (.invokestatic 104, 3) := by decide +kernel
theorem dX12_undo_48 : decode cX12_undo 48 = .ok (.getfield 101, 3) := by decide +kernel
theorem dX12_undo_51 : decode cX12_undo 51 = .ok (.ireturn, 1) := by decide +kernel
theorem qX12_today_0 : decB cX12_today 0 [.aload_n 0, .iconst 0] 2 = true := by decide +kernel
theorem qX12_today_5 : decB cX12_today 5 [.aload_n 0] 6 = true := by decide +kernel
theorem qX12_today_9 : decB cX12_today 9 [.iconst 0] 10 = true := by decide +kernel
theorem dX12_today_2 : decode cX12_today 2 = .ok (.putfield 31, 3) := by decide +kernel
theorem dX12_today_6 : decode cX12_today 6 = .ok (.getfield 9, 3) := by decide +kernel
theorem dX12_today_10 : decode cX12_today 10 = .ok (.iaload, 1) := by decide +kernel
theorem dX12_today_11 : decode cX12_today 11 = .ok (.invokestatic 66, 3) := by decide +kernel
theorem dX12_today_14 : decode cX12_today 14 = .ok (.ireturn, 1) := by decide +kernel
theorem qX12_dayOfWeek_0 : decB cX12_dayOfWeek 0 [.aload_n 0, .iload_n 1] 2 = true := by decide +kernel
theorem qX12_dayOfWeek_5 : decB cX12_dayOfWeek 5 [.iconst 1, .iconst 1] 7 = true := by decide +kernel
theorem qX12_dayOfWeek_13 : decB cX12_dayOfWeek 13 [.iload_n 1] 14 = true := by decide +kernel
theorem qX12_dayOfWeek_20 : decB cX12_dayOfWeek 20 [.goto 4] 24 = true := by decide +kernel
theorem qX12_dayOfWeek_23 : decB cX12_dayOfWeek 23 [.iconst 0] 24 = true := by decide +kernel
theorem dX12_dayOfWeek_2 : decode cX12_dayOfWeek 2 = .ok (.invokestatic 121, 3) := by decide +kernel
theorem dX12_dayOfWeek_7 : decode cX12_dayOfWeek 7 = .ok (.invokevirtual 111, 3) := by decide +kernel
theorem dX12_dayOfWeek_10 : decode cX12_dayOfWeek 10 = .ok (.ifCond .eq 13, 3) := by decide +kernel
theorem dX12_dayOfWeek_14 : decode cX12_dayOfWeek 14 = .ok (.invokestatic 27, 3) := by decide +kernel
theorem dX12_dayOfWeek_17 : decode cX12_dayOfWeek 17 = .ok (.invokestatic 84, 3) := by decide +kernel
theorem dX12_dayOfWeek_24 : decode cX12_dayOfWeek 24 = .ok (.ireturn, 1) := by decide +kernel
theorem qX12_addDays_0 : decB cX12_addDays 0 [.aload_n 0, .iload_n 1] 2 = true := by decide +kernel
theorem qX12_addDays_8 : decB cX12_addDays 8 [.iload_n 2, .sipush (-1000), .sipush 1000] 15 = true := by decide +kernel
theorem qX12_addDays_21 : decB cX12_addDays 21 [.iload_n 1] 22 = true := by decide +kernel
theorem qX12_addDays_25 : decB cX12_addDays 25 [.iload_n 2, .iadd, .iconst 0] 28 = true := by decide +kernel
theorem qX12_addDays_36 : decB cX12_addDays 36 [.iconst 1, .goto 4] 41 = true := by decide +kernel
theorem qX12_addDays_40 : decB cX12_addDays 40 [.iconst 0] 41 = true := by decide +kernel
theorem qX12_addDays_41 : decB cX12_addDays 41 [.iconst 1, .iconst 1] 43 = true := by decide +kernel
theorem qX12_addDays_49 : decB cX12_addDays 49 [.iload_n 1] 50 = true := by decide +kernel
theorem qX12_addDays_53 : decB cX12_addDays 53 [.iload_n 2, .iadd] 55 = true := by decide +kernel
theorem qX12_addDays_58 : decB cX12_addDays 58 [.goto 4] 62 = true := by decide +kernel
theorem qX12_addDays_61 : decB cX12_addDays 61 [.iconst 0] 62 = true := by decide +kernel
theorem dX12_addDays_2 : decode cX12_addDays 2 = .ok (.invokestatic 121, 3) := by decide +kernel
theorem dX12_addDays_5 : decode cX12_addDays 5 = .ok (.ifCond .eq 35, 3) := by decide +kernel
theorem dX12_addDays_15 : decode cX12_addDays 15 = .ok (.invokestatic 35, 3) := by decide +kernel
theorem dX12_addDays_18 : decode cX12_addDays 18 = .ok (.ifCond .eq 22, 3) := by decide +kernel
theorem dX12_addDays_22 : decode cX12_addDays 22 = .ok (.invokestatic 27, 3) := by decide +kernel
theorem dX12_addDays_28 : decode cX12_addDays 28 = .ok (.ldc 183, 2) := by decide +kernel
theorem dX12_addDays_30 : decode cX12_addDays 30 = .ok (.invokestatic 35, 3) := by decide +kernel
theorem dX12_addDays_33 : decode cX12_addDays 33 = .ok (.ifCond .eq 7, 3) := by decide +kernel
theorem dX12_addDays_43 : decode cX12_addDays 43 = .ok (.invokevirtual 111, 3) := by decide +kernel
theorem dX12_addDays_46 : decode cX12_addDays 46 = .ok (.ifCond .eq 15, 3) := by decide +kernel
theorem dX12_addDays_50 : decode cX12_addDays 50 = .ok (.invokestatic 27, 3) := by decide +kernel
theorem dX12_addDays_55 : decode cX12_addDays 55 = .ok (.invokestatic 66, 3) := by decide +kernel
theorem dX12_addDays_62 : decode cX12_addDays 62 = .ok (.ireturn, 1) := by decide +kernel
theorem qX12_kinds_0 : decB cX12_kinds 0 [.aload_n 0, .iconst 0] 2 = true := by decide +kernel
theorem qX12_kinds_5 : decB cX12_kinds 5 [.aload_n 0] 6 = true := by decide +kernel
theorem qX12_kinds_9 : decB cX12_kinds 9 [.iconst 1] 10 = true := by decide +kernel
theorem dX12_kinds_2 : decode cX12_kinds 2 = .ok (.putfield 31, 3) := by decide +kernel
theorem dX12_kinds_6 : decode cX12_kinds 6 = .ok (.getfield 9, 3) := by decide +kernel
theorem dX12_kinds_10 : decode cX12_kinds 10 = .ok (.iaload, 1) := by decide +kernel
theorem dX12_kinds_11 : decode cX12_kinds 11 = .ok (.ireturn, 1) := by decide +kernel
theorem qX12_count_0 : decB cX12_count 0 [.aload_n 0, .aload_n 0, .iload_n 1] 3 = true := by decide +kernel
theorem qX12_count_6 : decB cX12_count 6 [.iload_n 2] 7 = true := by decide +kernel
theorem qX12_count_10 : decB cX12_count 10 [.iconst 1] 11 = true := by decide +kernel
theorem qX12_count_17 : decB cX12_count 17 [.aload_n 0, .iload_n 1, .iload_n 2] 20 = true := by decide +kernel
theorem qX12_count_26 : decB cX12_count 26 [.goto 4] 30 = true := by decide +kernel
theorem qX12_count_29 : decB cX12_count 29 [.iconst 0] 30 = true := by decide +kernel
theorem dX12_count_3 : decode cX12_count 3 = .ok (.invokevirtual 118, 3) := by decide +kernel
theorem dX12_count_7 : decode cX12_count 7 = .ok (.invokestatic 121, 3) := by decide +kernel
theorem dX12_count_11 : decode cX12_count 11 = .ok (.invokevirtual 111, 3) := by decide +kernel
theorem dX12_count_14 : decode cX12_count 14 = .ok (.ifCond .eq 15, 3) := by decide +kernel
theorem dX12_count_20 : decode cX12_count 20 = .ok (.invokestatic 27, 3) := by decide +kernel
theorem dX12_count_23 : decode cX12_count 23 = .ok (.invokevirtual 60, 3) := by decide +kernel
theorem dX12_count_30 : decode cX12_count 30 = .ok (.ireturn, 1) := by decide +kernel
theorem qX12_greatest_0 : decB cX12_greatest 0 [.aload_n 0, .aload_n 0, .iload_n 1] 3 = true := by decide +kernel
theorem qX12_greatest_6 : decB cX12_greatest 6 [.iload_n 2] 7 = true := by decide +kernel
theorem qX12_greatest_13 : decB cX12_greatest 13 [.iload_n 3] 14 = true := by decide +kernel
theorem qX12_greatest_20 : decB cX12_greatest 20 [.iload_n 3] 21 = true := by decide +kernel
theorem qX12_greatest_24 : decB cX12_greatest 24 [.iload_n 2] 25 = true := by decide +kernel
theorem qX12_greatest_28 : decB cX12_greatest 28 [.isub, .iconst 0, .sipush 400] 33 = true := by decide +kernel
theorem qX12_greatest_39 : decB cX12_greatest 39 [.iconst 1, .goto 4] 44 = true := by decide +kernel
theorem qX12_greatest_43 : decB cX12_greatest 43 [.iconst 0] 44 = true := by decide +kernel
theorem qX12_greatest_44 : decB cX12_greatest 44 [.iconst 1] 45 = true := by decide +kernel
theorem qX12_greatest_51 : decB cX12_greatest 51 [.iconst 0] 52 = true := by decide +kernel
theorem qX12_greatest_53 : decB cX12_greatest 53 [.iconst 0, .istore 4, .iload_n 2] 57 = true := by decide +kernel
theorem qX12_greatest_60 : decB cX12_greatest 60 [.istore 5] 62 = true := by decide +kernel
theorem qX12_greatest_62 : decB cX12_greatest 62 [.iload 5, .iload_n 3] 65 = true := by decide +kernel
theorem qX12_greatest_71 : decB cX12_greatest 71 [.iload 4, .aload_n 0, .iload_n 1, .iload 5] 77 = true := by decide +kernel
theorem qX12_greatest_83 : decB cX12_greatest 83 [.istore 4, .iinc 5 1, .goto (-26)] 62 = true := by decide +kernel
theorem qX12_greatest_91 : decB cX12_greatest 91 [.iload 4] 93 = true := by decide +kernel
theorem dX12_greatest_3 : decode cX12_greatest 3 = .ok (.invokevirtual 118, 3) := by decide +kernel
theorem dX12_greatest_7 : decode cX12_greatest 7 = .ok (.invokestatic 121, 3) := by decide +kernel
theorem dX12_greatest_10 : decode cX12_greatest 10 = .ok (.ifCond .eq 33, 3) := by decide +kernel
theorem dX12_greatest_14 : decode cX12_greatest 14 = .ok (.invokestatic 121, 3) := by decide +kernel
theorem dX12_greatest_17 : decode cX12_greatest 17 = .ok (.ifCond .eq 26, 3) := by decide +kernel
theorem dX12_greatest_21 : decode cX12_greatest 21 = .ok (.invokestatic 27, 3) := by decide +kernel
theorem dX12_greatest_25 : decode cX12_greatest 25 = .ok (.invokestatic 27, 3) := by decide +kernel
theorem dX12_greatest_33 : decode cX12_greatest 33 = .ok (.invokestatic 35, 3) := by decide +kernel
theorem dX12_greatest_36 : decode cX12_greatest 36 = .ok (.ifCond .eq 7, 3) := by decide +kernel
theorem dX12_greatest_45 : decode cX12_greatest 45 = .ok (.invokevirtual 111, 3) := by decide +kernel
theorem dX12_greatest_48 : decode cX12_greatest 48 = .ok (.ifCond .ne 5, 3) := by decide +kernel
theorem dX12_greatest_52 : decode cX12_greatest 52 = .ok (.ireturn, 1) := by decide +kernel
theorem dX12_greatest_57 : decode cX12_greatest 57 = .ok (.invokestatic 27, 3) := by decide +kernel
theorem dX12_greatest_65 : decode cX12_greatest 65 = .ok (.invokestatic 27, 3) := by decide +kernel
theorem dX12_greatest_68 : decode cX12_greatest 68 = .ok (.if_icmp .gt 23, 3) := by decide +kernel
theorem dX12_greatest_77 : decode cX12_greatest 77 = .ok (.invokevirtual 60, 3) := by decide +kernel
theorem dX12_greatest_80 : decode cX12_greatest 80 = .ok (.invokestatic 72, 3) := by decide +kernel
theorem dX12_greatest_93 : decode cX12_greatest 93 = .ok (.ireturn, 1) := by decide +kernel
theorem qX12_gives_0 : decB cX12_gives 0 [.iconst 0, .istore_n 3] 2 = true := by decide +kernel
theorem qX12_gives_2 : decB cX12_gives 2 [.iload_n 3, .aload_n 0] 4 = true := by decide +kernel
theorem qX12_gives_7 : decB cX12_gives 7 [.iconst 5] 8 = true := by decide +kernel
theorem qX12_gives_12 : decB cX12_gives 12 [.aload_n 0] 13 = true := by decide +kernel
theorem qX12_gives_16 : decB cX12_gives 16 [.iload_n 3, .iconst (-1)] 18 = true := by decide +kernel
theorem qX12_gives_19 : decB cX12_gives 19 [.iinc 3 1, .goto (-20)] 2 = true := by decide +kernel
theorem qX12_gives_25 : decB cX12_gives 25 [.iconst 0, .istore_n 3, .iconst (-1), .istore 4, .iconst (-1), .istore 5, .iconst 0, .istore 6] 36 = true := by decide +kernel
theorem qX12_gives_36 : decB cX12_gives 36 [.iload 6, .aload_n 0] 39 = true := by decide +kernel
theorem qX12_gives_42 : decB cX12_gives 42 [.iconst 5] 43 = true := by decide +kernel
theorem qX12_gives_47 : decB cX12_gives 47 [.iconst (-1), .istore 7, .iconst 0, .istore 8] 53 = true := by decide +kernel
theorem qX12_gives_53 : decB cX12_gives 53 [.iload 8, .aload_n 0] 56 = true := by decide +kernel
theorem qX12_gives_59 : decB cX12_gives 59 [.iconst 5] 60 = true := by decide +kernel
theorem qX12_gives_64 : decB cX12_gives 64 [.aload_n 0, .iload 8] 67 = true := by decide +kernel
theorem qX12_gives_73 : decB cX12_gives 73 [.aload_n 0, .iload 8, .iconst 1] 77 = true := by decide +kernel
theorem qX12_gives_80 : decB cX12_gives 80 [.iload_n 1] 81 = true := by decide +kernel
theorem qX12_gives_84 : decB cX12_gives 84 [.aload_n 0, .iload 8, .iconst 2] 88 = true := by decide +kernel
theorem qX12_gives_91 : decB cX12_gives 91 [.iload 4] 93 = true := by decide +kernel
theorem qX12_gives_96 : decB cX12_gives 96 [.aload_n 0, .iload 8, .iconst 2] 100 = true := by decide +kernel
theorem qX12_gives_103 : decB cX12_gives 103 [.iload 4] 105 = true := by decide +kernel
theorem qX12_gives_108 : decB cX12_gives 108 [.iload 8, .iload 5] 112 = true := by decide +kernel
theorem qX12_gives_115 : decB cX12_gives 115 [.goto 30] 145 = true := by decide +kernel
theorem qX12_gives_118 : decB cX12_gives 118 [.iload 7, .iconst (-1)] 121 = true := by decide +kernel
theorem qX12_gives_124 : decB cX12_gives 124 [.aload_n 0, .iload 8, .iconst 2] 128 = true := by decide +kernel
theorem qX12_gives_131 : decB cX12_gives 131 [.aload_n 0, .iload 7, .iconst 2] 135 = true := by decide +kernel
theorem qX12_gives_141 : decB cX12_gives 141 [.iload 8, .istore 7] 145 = true := by decide +kernel
theorem qX12_gives_145 : decB cX12_gives 145 [.iinc 8 1, .goto (-95)] 53 = true := by decide +kernel
theorem qX12_gives_151 : decB cX12_gives 151 [.iload 7, .iconst (-1)] 154 = true := by decide +kernel
theorem qX12_gives_157 : decB cX12_gives 157 [.iload_n 3] 158 = true := by decide +kernel
theorem qX12_gives_159 : decB cX12_gives 159 [.iload 7, .istore 5, .aload_n 0, .iload 5, .iconst 2] 167 = true := by decide +kernel
theorem qX12_gives_170 : decB cX12_gives 170 [.istore 4, .iconst 0, .istore 8] 175 = true := by decide +kernel
theorem qX12_gives_175 : decB cX12_gives 175 [.iload 8, .iload_n 2] 178 = true := by decide +kernel
theorem qX12_gives_181 : decB cX12_gives 181 [.aload_n 0] 182 = true := by decide +kernel
theorem qX12_gives_185 : decB cX12_gives 185 [.iload 5] 187 = true := by decide +kernel
theorem qX12_gives_188 : decB cX12_gives 188 [.iconst (-1)] 189 = true := by decide +kernel
theorem qX12_gives_192 : decB cX12_gives 192 [.aload_n 0, .iload_n 1, .iload 8, .iload 5] 198 = true := by decide +kernel
theorem qX12_gives_204 : decB cX12_gives 204 [.aload_n 0] 205 = true := by decide +kernel
theorem qX12_gives_208 : decB cX12_gives 208 [.iload 5, .iload 8] 212 = true := by decide +kernel
theorem qX12_gives_213 : decB cX12_gives 213 [.iinc 8 1, .goto (-41)] 175 = true := by decide +kernel
theorem qX12_gives_219 : decB cX12_gives 219 [.iload_n 3, .aload_n 0] 221 = true := by decide +kernel
theorem qX12_gives_224 : decB cX12_gives 224 [.iload 5] 226 = true := by decide +kernel
theorem qX12_gives_227 : decB cX12_gives 227 [.iconst 1, .iadd] 229 = true := by decide +kernel
theorem qX12_gives_232 : decB cX12_gives 232 [.istore_n 3, .iinc 6 1, .goto (-200)] 36 = true := by decide +kernel
theorem qX12_gives_239 : decB cX12_gives 239 [.iload_n 3] 240 = true := by decide +kernel
theorem dX12_gives_4 : decode cX12_gives 4 = .ok (.getfield 9, 3) := by decide +kernel
theorem dX12_gives_8 : decode cX12_gives 8 = .ok (.iaload, 1) := by decide +kernel
theorem dX12_gives_9 : decode cX12_gives 9 = .ok (.if_icmp .ge 16, 3) := by decide +kernel
theorem dX12_gives_13 : decode cX12_gives 13 = .ok (.getfield 16, 3) := by decide +kernel
theorem dX12_gives_18 : decode cX12_gives 18 = .ok (.iastore, 1) := by decide +kernel
theorem dX12_gives_39 : decode cX12_gives 39 = .ok (.getfield 9, 3) := by decide +kernel
theorem dX12_gives_43 : decode cX12_gives 43 = .ok (.iaload, 1) := by decide +kernel
theorem dX12_gives_44 : decode cX12_gives 44 = .ok (.if_icmp .ge 195, 3) := by decide +kernel
theorem dX12_gives_56 : decode cX12_gives 56 = .ok (.getfield 9, 3) := by decide +kernel
theorem dX12_gives_60 : decode cX12_gives 60 = .ok (.iaload, 1) := by decide +kernel
theorem dX12_gives_61 : decode cX12_gives 61 = .ok (.if_icmp .ge 90, 3) := by decide +kernel
theorem dX12_gives_67 : decode cX12_gives 67 = .ok (.invokevirtual 49, 3) := by decide +kernel
theorem dX12_gives_70 : decode cX12_gives 70 = .ok (.ifCond .eq 75, 3) := by decide +kernel
theorem dX12_gives_77 : decode cX12_gives 77 = .ok (.invokevirtual 43, 3) := by decide +kernel
theorem dX12_gives_81 : decode cX12_gives 81 = .ok (.if_icmp .ne 64, 3) := by decide +kernel
theorem dX12_gives_88 : decode cX12_gives 88 = .ok (.invokevirtual 43, 3) := by decide +kernel
theorem dX12_gives_93 : decode cX12_gives 93 = .ok (.if_icmp .lt 52, 3) := by decide +kernel
theorem dX12_gives_100 : decode cX12_gives 100 = .ok (.invokevirtual 43, 3) := by decide +kernel
theorem dX12_gives_105 : decode cX12_gives 105 = .ok (.if_icmp .ne 13, 3) := by decide +kernel
theorem dX12_gives_112 : decode cX12_gives 112 = .ok (.if_icmp .gt 6, 3) := by decide +kernel
theorem dX12_gives_121 : decode cX12_gives 121 = .ok (.if_icmp .eq 20, 3) := by decide +kernel
theorem dX12_gives_128 : decode cX12_gives 128 = .ok (.invokevirtual 43, 3) := by decide +kernel
theorem dX12_gives_135 : decode cX12_gives 135 = .ok (.invokevirtual 43, 3) := by decide +kernel
theorem dX12_gives_138 : decode cX12_gives 138 = .ok (.if_icmp .ge 7, 3) := by decide +kernel
theorem dX12_gives_154 : decode cX12_gives 154 = .ok (.if_icmp .ne 5, 3) := by decide +kernel
theorem dX12_gives_158 : decode cX12_gives 158 = .ok (.ireturn, 1) := by decide +kernel
theorem dX12_gives_167 : decode cX12_gives 167 = .ok (.invokevirtual 43, 3) := by decide +kernel
theorem dX12_gives_178 : decode cX12_gives 178 = .ok (.if_icmp .ge 41, 3) := by decide +kernel
theorem dX12_gives_182 : decode cX12_gives 182 = .ok (.getfield 16, 3) := by decide +kernel
theorem dX12_gives_187 : decode cX12_gives 187 = .ok (.iaload, 1) := by decide +kernel
theorem dX12_gives_189 : decode cX12_gives 189 = .ok (.if_icmp .ne 30, 3) := by decide +kernel
theorem dX12_gives_198 : decode cX12_gives 198 = .ok (.invokevirtual 184, 3) := by decide +kernel
theorem dX12_gives_201 : decode cX12_gives 201 = .ok (.ifCond .ne 12, 3) := by decide +kernel
theorem dX12_gives_205 : decode cX12_gives 205 = .ok (.getfield 16, 3) := by decide +kernel
theorem dX12_gives_212 : decode cX12_gives 212 = .ok (.iastore, 1) := by decide +kernel
theorem dX12_gives_221 : decode cX12_gives 221 = .ok (.getfield 16, 3) := by decide +kernel
theorem dX12_gives_226 : decode cX12_gives 226 = .ok (.iaload, 1) := by decide +kernel
theorem dX12_gives_229 : decode cX12_gives 229 = .ok (.invokestatic 72, 3) := by decide +kernel
theorem dX12_gives_240 : decode cX12_gives 240 = .ok (.ireturn, 1) := by decide +kernel
theorem qX12_isTaken_0 : decB cX12_isTaken 0 [.iconst 0, .istore 4, .iconst 0, .istore 5] 6 = true := by decide +kernel
theorem qX12_isTaken_6 : decB cX12_isTaken 6 [.iload 5, .aload_n 0] 9 = true := by decide +kernel
theorem qX12_isTaken_12 : decB cX12_isTaken 12 [.iconst 5] 13 = true := by decide +kernel
theorem qX12_isTaken_17 : decB cX12_isTaken 17 [.iload 4] 19 = true := by decide +kernel
theorem qX12_isTaken_22 : decB cX12_isTaken 22 [.iload 5, .iload_n 3] 25 = true := by decide +kernel
theorem qX12_isTaken_28 : decB cX12_isTaken 28 [.aload_n 0] 29 = true := by decide +kernel
theorem qX12_isTaken_32 : decB cX12_isTaken 32 [.iload 5] 34 = true := by decide +kernel
theorem qX12_isTaken_35 : decB cX12_isTaken 35 [.iload_n 2] 36 = true := by decide +kernel
theorem qX12_isTaken_39 : decB cX12_isTaken 39 [.aload_n 0, .iload 5] 42 = true := by decide +kernel
theorem qX12_isTaken_48 : decB cX12_isTaken 48 [.aload_n 0, .iload 5, .iconst 1] 52 = true := by decide +kernel
theorem qX12_isTaken_55 : decB cX12_isTaken 55 [.iload_n 1] 56 = true := by decide +kernel
theorem qX12_isTaken_59 : decB cX12_isTaken 59 [.aload_n 0, .iload 5] 62 = true := by decide +kernel
theorem qX12_isTaken_65 : decB cX12_isTaken 65 [.aload_n 0, .iload_n 3, .iconst 2] 68 = true := by decide +kernel
theorem qX12_isTaken_74 : decB cX12_isTaken 74 [.iconst 1, .goto 4] 79 = true := by decide +kernel
theorem qX12_isTaken_78 : decB cX12_isTaken 78 [.iconst 0] 79 = true := by decide +kernel
theorem qX12_isTaken_79 : decB cX12_isTaken 79 [.istore 4, .iinc 5 1, .goto (-78)] 6 = true := by decide +kernel
theorem qX12_isTaken_87 : decB cX12_isTaken 87 [.iload 4] 89 = true := by decide +kernel
theorem dX12_isTaken_9 : decode cX12_isTaken 9 = .ok (.getfield 9, 3) := by decide +kernel
theorem dX12_isTaken_13 : decode cX12_isTaken 13 = .ok (.iaload, 1) := by decide +kernel
theorem dX12_isTaken_14 : decode cX12_isTaken 14 = .ok (.if_icmp .ge 73, 3) := by decide +kernel
theorem dX12_isTaken_19 : decode cX12_isTaken 19 = .ok (.ifCond .ne 55, 3) := by decide +kernel
theorem dX12_isTaken_25 : decode cX12_isTaken 25 = .ok (.if_icmp .eq 53, 3) := by decide +kernel
theorem dX12_isTaken_29 : decode cX12_isTaken 29 = .ok (.getfield 16, 3) := by decide +kernel
theorem dX12_isTaken_34 : decode cX12_isTaken 34 = .ok (.iaload, 1) := by decide +kernel
theorem dX12_isTaken_36 : decode cX12_isTaken 36 = .ok (.if_icmp .ne 42, 3) := by decide +kernel
theorem dX12_isTaken_42 : decode cX12_isTaken 42 = .ok (.invokevirtual 49, 3) := by decide +kernel
theorem dX12_isTaken_45 : decode cX12_isTaken 45 = .ok (.ifCond .eq 33, 3) := by decide +kernel
theorem dX12_isTaken_52 : decode cX12_isTaken 52 = .ok (.invokevirtual 43, 3) := by decide +kernel
theorem dX12_isTaken_56 : decode cX12_isTaken 56 = .ok (.if_icmp .ne 22, 3) := by decide +kernel
theorem dX12_isTaken_62 : decode cX12_isTaken 62 = .ok (.invokevirtual 46, 3) := by decide +kernel
theorem dX12_isTaken_68 : decode cX12_isTaken 68 = .ok (.invokevirtual 43, 3) := by decide +kernel
theorem dX12_isTaken_71 : decode cX12_isTaken 71 = .ok (.if_icmp .lt 7, 3) := by decide +kernel
theorem dX12_isTaken_89 : decode cX12_isTaken 89 = .ok (.ireturn, 1) := by decide +kernel
theorem qX12_needed_0 : decB cX12_needed 0 [.aload_n 0, .aload_n 0, .iload_n 1] 3 = true := by decide +kernel
theorem qX12_needed_6 : decB cX12_needed 6 [.iconst 1, .iconst 1] 8 = true := by decide +kernel
theorem qX12_needed_14 : decB cX12_needed 14 [.aload_n 0, .iload_n 1, .bipush 60] 18 = true := by decide +kernel
theorem qX12_needed_21 : decB cX12_needed 21 [.goto 4] 25 = true := by decide +kernel
theorem qX12_needed_24 : decB cX12_needed 24 [.iconst 0] 25 = true := by decide +kernel
theorem dX12_needed_3 : decode cX12_needed 3 = .ok (.invokevirtual 118, 3) := by decide +kernel
theorem dX12_needed_8 : decode cX12_needed 8 = .ok (.invokevirtual 111, 3) := by decide +kernel
theorem dX12_needed_11 : decode cX12_needed 11 = .ok (.ifCond .eq 13, 3) := by decide +kernel
theorem dX12_needed_18 : decode cX12_needed 18 = .ok (.invokevirtual 187, 3) := by decide +kernel
theorem dX12_needed_25 : decode cX12_needed 25 = .ok (.ireturn, 1) := by decide +kernel
theorem qX12_refusedNight_0 : decB cX12_refusedNight 0 [.aload_n 0, .iconst 0] 2 = true := by decide +kernel
theorem qX12_refusedNight_5 : decB cX12_refusedNight 5 [.aload_n 0] 6 = true := by decide +kernel
theorem qX12_refusedNight_9 : decB cX12_refusedNight 9 [.bipush 8] 11 = true := by decide +kernel
theorem dX12_refusedNight_2 : decode cX12_refusedNight 2 = .ok (.putfield 31, 3) := by decide +kernel
theorem dX12_refusedNight_6 : decode cX12_refusedNight 6 = .ok (.getfield 9, 3) := by decide +kernel
theorem dX12_refusedNight_11 : decode cX12_refusedNight 11 = .ok (.iaload, 1) := by decide +kernel
theorem dX12_refusedNight_12 : decode cX12_refusedNight 12 = .ok (.ireturn, 1) := by decide +kernel
theorem qX12_stayAt_0 : decB cX12_stayAt 0 [.aload_n 0, .aload_n 0, .iload_n 1] 3 = true := by decide +kernel
theorem qX12_stayAt_6 : decB cX12_stayAt 6 [.iload_n 2, .iconst 0, .bipush 8] 10 = true := by decide +kernel
theorem qX12_stayAt_13 : decB cX12_stayAt 13 [.iconst 1] 14 = true := by decide +kernel
theorem qX12_stayAt_20 : decB cX12_stayAt 20 [.iconst 0] 21 = true := by decide +kernel
theorem qX12_stayAt_22 : decB cX12_stayAt 22 [.iload_n 2] 23 = true := by decide +kernel
theorem qX12_stayAt_68 : decB cX12_stayAt 68 [.aload_n 0, .iload_n 1, .iconst 0] 71 = true := by decide +kernel
theorem qX12_stayAt_75 : decB cX12_stayAt 75 [.aload_n 0, .iload_n 1, .iconst 1] 78 = true := by decide +kernel
theorem qX12_stayAt_82 : decB cX12_stayAt 82 [.aload_n 0, .iload_n 1, .iconst 2] 85 = true := by decide +kernel
theorem qX12_stayAt_92 : decB cX12_stayAt 92 [.aload_n 0, .iload_n 1, .iconst 3] 95 = true := by decide +kernel
theorem qX12_stayAt_99 : decB cX12_stayAt 99 [.aload_n 0, .iload_n 1] 101 = true := by decide +kernel
theorem qX12_stayAt_105 : decB cX12_stayAt 105 [.aload_n 0, .iload_n 1, .bipush 6] 109 = true := by decide +kernel
theorem qX12_stayAt_113 : decB cX12_stayAt 113 [.aload_n 0, .iload_n 1] 115 = true := by decide +kernel
theorem qX12_stayAt_119 : decB cX12_stayAt 119 [.aload_n 0, .iload_n 1, .bipush 8] 123 = true := by decide +kernel
theorem qX12_stayAt_127 : decB cX12_stayAt 127 [.aload_n 0, .iload_n 1, .bipush 9] 131 = true := by decide +kernel
theorem dX12_stayAt_3 : decode cX12_stayAt 3 = .ok (.invokevirtual 143, 3) := by decide +kernel
theorem dX12_stayAt_10 : decode cX12_stayAt 10 = .ok (.invokestatic 35, 3) := by decide +kernel
theorem dX12_stayAt_14 : decode cX12_stayAt 14 = .ok (.invokevirtual 111, 3) := by decide +kernel
theorem dX12_stayAt_17 : decode cX12_stayAt 17 = .ok (.ifCond .ne 5, 3) := by decide +kernel
theorem dX12_stayAt_21 : decode cX12_stayAt 21 = .ok (.ireturn, 1) := by decide +kernel
theorem dX12_stayAt_23 : decode cX12_stayAt 23 = .ok (.tableswitch 104 0 7 #[45, 52, 59, 69, 76, 82, 90, 96], 45) := by decide +kernel
theorem dX12_stayAt_71 : decode cX12_stayAt 71 = .ok (.invokevirtual 43, 3) := by decide +kernel
theorem dX12_stayAt_74 : decode cX12_stayAt 74 = .ok (.ireturn, 1) := by decide +kernel
theorem dX12_stayAt_78 : decode cX12_stayAt 78 = .ok (.invokevirtual 43, 3) := by decide +kernel
theorem dX12_stayAt_81 : decode cX12_stayAt 81 = .ok (.ireturn, 1) := by decide +kernel
theorem dX12_stayAt_85 : decode cX12_stayAt 85 = .ok (.invokevirtual 43, 3) := by decide +kernel
theorem dX12_stayAt_88 : decode cX12_stayAt 88 = .ok (.invokestatic 66, 3) := by decide +kernel
theorem dX12_stayAt_91 : decode cX12_stayAt 91 = .ok (.ireturn, 1) := by decide +kernel
theorem dX12_stayAt_95 : decode cX12_stayAt 95 = .ok (.invokevirtual 43, 3) := by decide +kernel
theorem dX12_stayAt_98 : decode cX12_stayAt 98 = .ok (.ireturn, 1) := by decide +kernel
theorem dX12_stayAt_101 : decode cX12_stayAt 101 = .ok (.invokevirtual 146, 3) := by decide +kernel
theorem dX12_stayAt_104 : decode cX12_stayAt 104 = .ok (.ireturn, 1) := by decide +kernel
theorem dX12_stayAt_109 : decode cX12_stayAt 109 = .ok (.invokevirtual 43, 3) := by decide +kernel
theorem dX12_stayAt_112 : decode cX12_stayAt 112 = .ok (.ireturn, 1) := by decide +kernel
theorem dX12_stayAt_115 : decode cX12_stayAt 115 = .ok (.invokevirtual 155, 3) := by decide +kernel
theorem dX12_stayAt_118 : decode cX12_stayAt 118 = .ok (.ireturn, 1) := by decide +kernel
theorem dX12_stayAt_123 : decode cX12_stayAt 123 = .ok (.invokevirtual 43, 3) := by decide +kernel
theorem dX12_stayAt_126 : decode cX12_stayAt 126 = .ok (.ireturn, 1) := by decide +kernel
theorem dX12_stayAt_131 : decode cX12_stayAt 131 = .ok (.invokevirtual 43, 3) := by decide +kernel
theorem dX12_stayAt_134 : decode cX12_stayAt 134 = .ok (.invokestatic 66, 3) := by decide +kernel
theorem dX12_stayAt_137 : decode cX12_stayAt 137 = .ok (.ireturn, 1) := by decide +kernel
theorem qX12_roomOf_0 : decB cX12_roomOf 0 [.aload_n 0, .aload_n 0, .iload_n 1] 3 = true := by decide +kernel
theorem qX12_roomOf_6 : decB cX12_roomOf 6 [.aload_n 0, .iload_n 1] 8 = true := by decide +kernel
theorem qX12_roomOf_14 : decB cX12_roomOf 14 [.aload_n 0, .iload_n 1] 16 = true := by decide +kernel
theorem qX12_roomOf_22 : decB cX12_roomOf 22 [.iconst 1, .goto 4] 27 = true := by decide +kernel
theorem qX12_roomOf_26 : decB cX12_roomOf 26 [.iconst 0] 27 = true := by decide +kernel
theorem qX12_roomOf_27 : decB cX12_roomOf 27 [.iconst 1] 28 = true := by decide +kernel
theorem qX12_roomOf_34 : decB cX12_roomOf 34 [.iconst 0] 35 = true := by decide +kernel
theorem qX12_roomOf_36 : decB cX12_roomOf 36 [.aload_n 0, .aload_n 0, .iload_n 1, .iconst 1] 40 = true := by decide +kernel
theorem qX12_roomOf_43 : decB cX12_roomOf 43 [.aload_n 0, .aload_n 0, .iload_n 1, .iconst 1] 47 = true := by decide +kernel
theorem qX12_roomOf_50 : decB cX12_roomOf 50 [.iconst 0] 51 = true := by decide +kernel
theorem qX12_roomOf_57 : decB cX12_roomOf 57 [.istore_n 2, .aload_n 0] 59 = true := by decide +kernel
theorem qX12_roomOf_62 : decB cX12_roomOf 62 [.iload_n 1] 63 = true := by decide +kernel
theorem dX12_roomOf_3 : decode cX12_roomOf 3 = .ok (.invokevirtual 143, 3) := by decide +kernel
theorem dX12_roomOf_8 : decode cX12_roomOf 8 = .ok (.invokevirtual 143, 3) := by decide +kernel
theorem dX12_roomOf_11 : decode cX12_roomOf 11 = .ok (.ifCond .eq 15, 3) := by decide +kernel
theorem dX12_roomOf_16 : decode cX12_roomOf 16 = .ok (.invokevirtual 49, 3) := by decide +kernel
theorem dX12_roomOf_19 : decode cX12_roomOf 19 = .ok (.ifCond .eq 7, 3) := by decide +kernel
theorem dX12_roomOf_28 : decode cX12_roomOf 28 = .ok (.invokevirtual 111, 3) := by decide +kernel
theorem dX12_roomOf_31 : decode cX12_roomOf 31 = .ok (.ifCond .ne 5, 3) := by decide +kernel
theorem dX12_roomOf_35 : decode cX12_roomOf 35 = .ok (.ireturn, 1) := by decide +kernel
theorem dX12_roomOf_40 : decode cX12_roomOf 40 = .ok (.invokevirtual 43, 3) := by decide +kernel
theorem dX12_roomOf_47 : decode cX12_roomOf 47 = .ok (.invokevirtual 43, 3) := by decide +kernel
theorem dX12_roomOf_51 : decode cX12_roomOf 51 = .ok (.invokevirtual 63, 3) := by decide +kernel
theorem dX12_roomOf_54 : decode cX12_roomOf 54 = .ok (.invokevirtual 187, 3) := by decide +kernel
theorem dX12_roomOf_59 : decode cX12_roomOf 59 = .ok (.getfield 16, 3) := by decide +kernel
theorem dX12_roomOf_63 : decode cX12_roomOf 63 = .ok (.iaload, 1) := by decide +kernel
theorem dX12_roomOf_64 : decode cX12_roomOf 64 = .ok (.ireturn, 1) := by decide +kernel
theorem qX12_priceOf_0 : decB cX12_priceOf 0 [.aload_n 0, .aload_n 0, .iload_n 1] 3 = true := by decide +kernel
theorem qX12_priceOf_6 : decB cX12_priceOf 6 [.iload_n 2] 7 = true := by decide +kernel
theorem qX12_priceOf_10 : decB cX12_priceOf 10 [.iconst 1] 11 = true := by decide +kernel
theorem qX12_priceOf_17 : decB cX12_priceOf 17 [.aload_n 0, .iload_n 1, .iload_n 2] 20 = true := by decide +kernel
theorem qX12_priceOf_26 : decB cX12_priceOf 26 [.goto 4] 30 = true := by decide +kernel
theorem qX12_priceOf_29 : decB cX12_priceOf 29 [.iconst 0] 30 = true := by decide +kernel
theorem dX12_priceOf_3 : decode cX12_priceOf 3 = .ok (.invokevirtual 118, 3) := by decide +kernel
theorem dX12_priceOf_7 : decode cX12_priceOf 7 = .ok (.invokestatic 121, 3) := by decide +kernel
theorem dX12_priceOf_11 : decode cX12_priceOf 11 = .ok (.invokevirtual 111, 3) := by decide +kernel
theorem dX12_priceOf_14 : decode cX12_priceOf 14 = .ok (.ifCond .eq 15, 3) := by decide +kernel
theorem dX12_priceOf_20 : decode cX12_priceOf 20 = .ok (.invokestatic 27, 3) := by decide +kernel
theorem dX12_priceOf_23 : decode cX12_priceOf 23 = .ok (.invokevirtual 87, 3) := by decide +kernel
theorem dX12_priceOf_30 : decode cX12_priceOf 30 = .ok (.ireturn, 1) := by decide +kernel
theorem qX12_refund_0 : decB cX12_refund 0 [.aload_n 0, .aload_n 0, .iload_n 1] 3 = true := by decide +kernel
theorem qX12_refund_6 : decB cX12_refund 6 [.iconst 1, .iconst 1] 8 = true := by decide +kernel
theorem qX12_refund_14 : decB cX12_refund 14 [.aload_n 0, .iload_n 1] 16 = true := by decide +kernel
theorem qX12_refund_19 : decB cX12_refund 19 [.goto 4] 23 = true := by decide +kernel
theorem qX12_refund_22 : decB cX12_refund 22 [.iconst 0] 23 = true := by decide +kernel
theorem dX12_refund_3 : decode cX12_refund 3 = .ok (.invokevirtual 143, 3) := by decide +kernel
theorem dX12_refund_8 : decode cX12_refund 8 = .ok (.invokevirtual 111, 3) := by decide +kernel
theorem dX12_refund_11 : decode cX12_refund 11 = .ok (.ifCond .eq 11, 3) := by decide +kernel
theorem dX12_refund_16 : decode cX12_refund 16 = .ok (.invokevirtual 152, 3) := by decide +kernel
theorem dX12_refund_23 : decode cX12_refund 23 = .ok (.ireturn, 1) := by decide +kernel
theorem qX12_book_0 : decB cX12_book 0 [.aload_n 0, .iload_n 1, .iconst 0, .iconst 3] 4 = true := by decide +kernel
theorem qX12_book_7 : decB cX12_book 7 [.iconst 1, .iconst 1] 9 = true := by decide +kernel
theorem qX12_book_15 : decB cX12_book 15 [.aload_n 0] 16 = true := by decide +kernel
theorem qX12_book_19 : decB cX12_book 19 [.bipush 9, .iload_n 1, .iadd] 23 = true := by decide +kernel
theorem qX12_book_25 : decB cX12_book 25 [.goto 4] 29 = true := by decide +kernel
theorem qX12_book_28 : decB cX12_book 28 [.lconst 0] 29 = true := by decide +kernel
theorem dX12_book_4 : decode cX12_book 4 = .ok (.invokestatic 35, 3) := by decide +kernel
theorem dX12_book_9 : decode cX12_book 9 = .ok (.invokevirtual 111, 3) := by decide +kernel
theorem dX12_book_12 : decode cX12_book 12 = .ok (.ifCond .eq 16, 3) := by decide +kernel
theorem dX12_book_16 : decode cX12_book 16 = .ok (.getfield 9, 3) := by decide +kernel
theorem dX12_book_23 : decode cX12_book 23 = .ok (.iaload, 1) := by decide +kernel
theorem dX12_book_24 : decode cX12_book 24 = .ok (.i2l, 1) := by decide +kernel
theorem dX12_book_29 : decode cX12_book 29 = .ok (.lreturn, 1) := by decide +kernel
theorem qX12_waiting_0 : decB cX12_waiting 0 [.aload_n 0, .iconst 0] 2 = true := by decide +kernel
theorem qX12_waiting_5 : decB cX12_waiting 5 [.aload_n 0] 6 = true := by decide +kernel
theorem qX12_waiting_9 : decB cX12_waiting 9 [.bipush 7] 11 = true := by decide +kernel
theorem dX12_waiting_2 : decode cX12_waiting 2 = .ok (.putfield 31, 3) := by decide +kernel
theorem dX12_waiting_6 : decode cX12_waiting 6 = .ok (.getfield 9, 3) := by decide +kernel
theorem dX12_waiting_11 : decode cX12_waiting 11 = .ok (.iaload, 1) := by decide +kernel
theorem dX12_waiting_12 : decode cX12_waiting 12 = .ok (.ireturn, 1) := by decide +kernel
theorem qX12_awaited_0 : decB cX12_awaited 0 [.aload_n 0, .iload_n 1, .iconst 0, .iconst 4] 4 = true := by decide +kernel
theorem qX12_awaited_10 : decB cX12_awaited 10 [.iload_n 2, .iconst 0, .iconst 5] 13 = true := by decide +kernel
theorem qX12_awaited_19 : decB cX12_awaited 19 [.iconst 1, .goto 4] 24 = true := by decide +kernel
theorem qX12_awaited_23 : decB cX12_awaited 23 [.iconst 0] 24 = true := by decide +kernel
theorem qX12_awaited_24 : decB cX12_awaited 24 [.iconst 1, .iconst 1] 26 = true := by decide +kernel
theorem qX12_awaited_32 : decB cX12_awaited 32 [.lconst 0] 33 = true := by decide +kernel
theorem qX12_awaited_34 : decB cX12_awaited 34 [.aload_n 0] 35 = true := by decide +kernel
theorem qX12_awaited_38 : decB cX12_awaited 38 [.aload_n 0, .iload_n 1, .iload_n 2] 41 = true := by decide +kernel
theorem dX12_awaited_4 : decode cX12_awaited 4 = .ok (.invokestatic 35, 3) := by decide +kernel
theorem dX12_awaited_7 : decode cX12_awaited 7 = .ok (.ifCond .eq 16, 3) := by decide +kernel
theorem dX12_awaited_13 : decode cX12_awaited 13 = .ok (.invokestatic 35, 3) := by decide +kernel
theorem dX12_awaited_16 : decode cX12_awaited 16 = .ok (.ifCond .eq 7, 3) := by decide +kernel
theorem dX12_awaited_26 : decode cX12_awaited 26 = .ok (.invokevirtual 111, 3) := by decide +kernel
theorem dX12_awaited_29 : decode cX12_awaited 29 = .ok (.ifCond .ne 5, 3) := by decide +kernel
theorem dX12_awaited_33 : decode cX12_awaited 33 = .ok (.lreturn, 1) := by decide +kernel
theorem dX12_awaited_35 : decode cX12_awaited 35 = .ok (.invokevirtual 173, 3) := by decide +kernel
theorem dX12_awaited_41 : decode cX12_awaited 41 = .ok (.invokevirtual 176, 3) := by decide +kernel
theorem dX12_awaited_44 : decode cX12_awaited 44 = .ok (.lreturn, 1) := by decide +kernel
theorem qX12_limit_0 : decB cX12_limit 0 [.aload_n 0, .iload_n 1, .iconst 1, .iconst 4] 4 = true := by decide +kernel
theorem qX12_limit_10 : decB cX12_limit 10 [.iload_n 2, .iconst 1, .iconst 4] 13 = true := by decide +kernel
theorem qX12_limit_19 : decB cX12_limit 19 [.iconst 1, .goto 4] 24 = true := by decide +kernel
theorem qX12_limit_23 : decB cX12_limit 23 [.iconst 0] 24 = true := by decide +kernel
theorem qX12_limit_24 : decB cX12_limit 24 [.iconst 1, .iconst 1] 26 = true := by decide +kernel
theorem qX12_limit_32 : decB cX12_limit 32 [.aload_n 0, .iload_n 1, .iload_n 2] 35 = true := by decide +kernel
theorem qX12_limit_38 : decB cX12_limit 38 [.goto 4] 42 = true := by decide +kernel
theorem qX12_limit_41 : decB cX12_limit 41 [.iconst 0] 42 = true := by decide +kernel
theorem dX12_limit_4 : decode cX12_limit 4 = .ok (.invokestatic 35, 3) := by decide +kernel
theorem dX12_limit_7 : decode cX12_limit 7 = .ok (.ifCond .eq 16, 3) := by decide +kernel
theorem dX12_limit_13 : decode cX12_limit 13 = .ok (.invokestatic 35, 3) := by decide +kernel
theorem dX12_limit_16 : decode cX12_limit 16 = .ok (.ifCond .eq 7, 3) := by decide +kernel
theorem dX12_limit_26 : decode cX12_limit 26 = .ok (.invokevirtual 111, 3) := by decide +kernel
theorem dX12_limit_29 : decode cX12_limit 29 = .ok (.ifCond .eq 12, 3) := by decide +kernel
theorem dX12_limit_35 : decode cX12_limit 35 = .ok (.invokevirtual 180, 3) := by decide +kernel
theorem dX12_limit_42 : decode cX12_limit 42 = .ok (.ireturn, 1) := by decide +kernel
theorem qX12_saleAt_0 : decB cX12_saleAt 0 [.aload_n 0, .iload_n 1, .iconst 0, .iconst 3] 4 = true := by decide +kernel
theorem qX12_saleAt_7 : decB cX12_saleAt 7 [.aload_n 0] 8 = true := by decide +kernel
theorem qX12_saleAt_11 : decB cX12_saleAt 11 [.bipush 21] 13 = true := by decide +kernel
theorem qX12_saleAt_14 : decB cX12_saleAt 14 [.iconst 1] 15 = true := by decide +kernel
theorem qX12_saleAt_18 : decB cX12_saleAt 18 [.iconst 1, .goto 4] 23 = true := by decide +kernel
theorem qX12_saleAt_22 : decB cX12_saleAt 22 [.iconst 0] 23 = true := by decide +kernel
theorem qX12_saleAt_23 : decB cX12_saleAt 23 [.iconst 1] 24 = true := by decide +kernel
theorem qX12_saleAt_30 : decB cX12_saleAt 30 [.iconst 0] 31 = true := by decide +kernel
theorem qX12_saleAt_32 : decB cX12_saleAt 32 [.iload_n 1, .iconst 3] 34 = true := by decide +kernel
theorem qX12_saleAt_37 : decB cX12_saleAt 37 [.aload_n 0] 38 = true := by decide +kernel
theorem qX12_saleAt_41 : decB cX12_saleAt 41 [.bipush 22, .iload_n 1, .iadd] 45 = true := by decide +kernel
theorem qX12_saleAt_47 : decB cX12_saleAt 47 [.iconst 0, .istore_n 2, .iconst 0, .istore_n 3, .iconst 0, .istore 4] 54 = true := by decide +kernel
theorem qX12_saleAt_54 : decB cX12_saleAt 54 [.iload 4, .aload_n 0] 57 = true := by decide +kernel
theorem qX12_saleAt_60 : decB cX12_saleAt 60 [.bipush 25] 62 = true := by decide +kernel
theorem qX12_saleAt_66 : decB cX12_saleAt 66 [.iload 4, .aload_n 0] 69 = true := by decide +kernel
theorem qX12_saleAt_72 : decB cX12_saleAt 72 [.bipush 26] 74 = true := by decide +kernel
theorem qX12_saleAt_78 : decB cX12_saleAt 78 [.iconst (-1), .istore 5, .iconst 0, .istore 6] 84 = true := by decide +kernel
theorem qX12_saleAt_84 : decB cX12_saleAt 84 [.iload 6, .aload_n 0] 87 = true := by decide +kernel
theorem qX12_saleAt_90 : decB cX12_saleAt 90 [.bipush 26] 92 = true := by decide +kernel
theorem qX12_saleAt_96 : decB cX12_saleAt 96 [.iload_n 3, .iload 6] 99 = true := by decide +kernel
theorem qX12_saleAt_100 : decB cX12_saleAt 100 [.iconst 1] 101 = true := by decide +kernel
theorem qX12_saleAt_105 : decB cX12_saleAt 105 [.iload 5, .iconst (-1)] 108 = true := by decide +kernel
theorem qX12_saleAt_111 : decB cX12_saleAt 111 [.aload_n 0] 112 = true := by decide +kernel
theorem qX12_saleAt_115 : decB cX12_saleAt 115 [.bipush 27, .iload 6, .iadd] 120 = true := by decide +kernel
theorem qX12_saleAt_121 : decB cX12_saleAt 121 [.aload_n 0] 122 = true := by decide +kernel
theorem qX12_saleAt_125 : decB cX12_saleAt 125 [.bipush 27, .iload 5, .iadd] 130 = true := by decide +kernel
theorem qX12_saleAt_134 : decB cX12_saleAt 134 [.iload 6, .istore 5] 138 = true := by decide +kernel
theorem qX12_saleAt_138 : decB cX12_saleAt 138 [.iinc 6 1, .goto (-57)] 84 = true := by decide +kernel
theorem qX12_saleAt_144 : decB cX12_saleAt 144 [.iload_n 3, .iconst 1, .iload 5] 148 = true := by decide +kernel
theorem qX12_saleAt_150 : decB cX12_saleAt 150 [.istore_n 3, .iload_n 2, .aload_n 0] 153 = true := by decide +kernel
theorem qX12_saleAt_156 : decB cX12_saleAt 156 [.bipush 27, .iload 5, .iadd] 161 = true := by decide +kernel
theorem qX12_saleAt_162 : decB cX12_saleAt 162 [.iadd, .istore_n 2, .iinc 4 1, .goto (-113)] 54 = true := by decide +kernel
theorem qX12_saleAt_170 : decB cX12_saleAt 170 [.iload_n 2] 171 = true := by decide +kernel
theorem dX12_saleAt_4 : decode cX12_saleAt 4 = .ok (.invokestatic 35, 3) := by decide +kernel
theorem dX12_saleAt_8 : decode cX12_saleAt 8 = .ok (.getfield 9, 3) := by decide +kernel
theorem dX12_saleAt_13 : decode cX12_saleAt 13 = .ok (.iaload, 1) := by decide +kernel
theorem dX12_saleAt_15 : decode cX12_saleAt 15 = .ok (.if_icmp .ne 7, 3) := by decide +kernel
theorem dX12_saleAt_24 : decode cX12_saleAt 24 = .ok (.invokevirtual 111, 3) := by decide +kernel
theorem dX12_saleAt_27 : decode cX12_saleAt 27 = .ok (.ifCond .ne 5, 3) := by decide +kernel
theorem dX12_saleAt_31 : decode cX12_saleAt 31 = .ok (.ireturn, 1) := by decide +kernel
theorem dX12_saleAt_34 : decode cX12_saleAt 34 = .ok (.if_icmp .ge 13, 3) := by decide +kernel
theorem dX12_saleAt_38 : decode cX12_saleAt 38 = .ok (.getfield 9, 3) := by decide +kernel
theorem dX12_saleAt_45 : decode cX12_saleAt 45 = .ok (.iaload, 1) := by decide +kernel
theorem dX12_saleAt_46 : decode cX12_saleAt 46 = .ok (.ireturn, 1) := by decide +kernel
theorem dX12_saleAt_57 : decode cX12_saleAt 57 = .ok (.getfield 9, 3) := by decide +kernel
theorem dX12_saleAt_62 : decode cX12_saleAt 62 = .ok (.iaload, 1) := by decide +kernel
theorem dX12_saleAt_63 : decode cX12_saleAt 63 = .ok (.if_icmp .ge 107, 3) := by decide +kernel
theorem dX12_saleAt_69 : decode cX12_saleAt 69 = .ok (.getfield 9, 3) := by decide +kernel
theorem dX12_saleAt_74 : decode cX12_saleAt 74 = .ok (.iaload, 1) := by decide +kernel
theorem dX12_saleAt_75 : decode cX12_saleAt 75 = .ok (.if_icmp .ge 95, 3) := by decide +kernel
theorem dX12_saleAt_87 : decode cX12_saleAt 87 = .ok (.getfield 9, 3) := by decide +kernel
theorem dX12_saleAt_92 : decode cX12_saleAt 92 = .ok (.iaload, 1) := by decide +kernel
theorem dX12_saleAt_93 : decode cX12_saleAt 93 = .ok (.if_icmp .ge 51, 3) := by decide +kernel
theorem dX12_saleAt_99 : decode cX12_saleAt 99 = .ok (.ishr, 1) := by decide +kernel
theorem dX12_saleAt_101 : decode cX12_saleAt 101 = .ok (.iand, 1) := by decide +kernel
theorem dX12_saleAt_102 : decode cX12_saleAt 102 = .ok (.ifCond .ne 36, 3) := by decide +kernel
theorem dX12_saleAt_108 : decode cX12_saleAt 108 = .ok (.if_icmp .eq 26, 3) := by decide +kernel
theorem dX12_saleAt_112 : decode cX12_saleAt 112 = .ok (.getfield 9, 3) := by decide +kernel
theorem dX12_saleAt_120 : decode cX12_saleAt 120 = .ok (.iaload, 1) := by decide +kernel
theorem dX12_saleAt_122 : decode cX12_saleAt 122 = .ok (.getfield 9, 3) := by decide +kernel
theorem dX12_saleAt_130 : decode cX12_saleAt 130 = .ok (.iaload, 1) := by decide +kernel
theorem dX12_saleAt_131 : decode cX12_saleAt 131 = .ok (.if_icmp .le 7, 3) := by decide +kernel
theorem dX12_saleAt_148 : decode cX12_saleAt 148 = .ok (.ishl, 1) := by decide +kernel
theorem dX12_saleAt_149 : decode cX12_saleAt 149 = .ok (.ior, 1) := by decide +kernel
theorem dX12_saleAt_153 : decode cX12_saleAt 153 = .ok (.getfield 9, 3) := by decide +kernel
theorem dX12_saleAt_161 : decode cX12_saleAt 161 = .ok (.iaload, 1) := by decide +kernel
theorem dX12_saleAt_171 : decode cX12_saleAt 171 = .ok (.ireturn, 1) := by decide +kernel
theorem qX12_mixes_0 : decB cX12_mixes 0 [.lconst 0, .lstore 7, .iconst 0, .istore 9] 6 = true := by decide +kernel
theorem qX12_mixes_6 : decB cX12_mixes 6 [.iload 9, .iconst 4] 9 = true := by decide +kernel
theorem qX12_mixes_12 : decB cX12_mixes 12 [.aload_n 0] 13 = true := by decide +kernel
theorem qX12_mixes_16 : decB cX12_mixes 16 [.iload_n 1, .iconst 4, .imul, .iload 9, .iadd] 22 = true := by decide +kernel
theorem qX12_mixes_23 : decB cX12_mixes 23 [.lload_n 2, .lmul, .iload 4] 27 = true := by decide +kernel
theorem qX12_mixes_30 : decB cX12_mixes 30 [.lconst 0, .goto 18] 49 = true := by decide +kernel
theorem qX12_mixes_34 : decB cX12_mixes 34 [.aload_n 0] 35 = true := by decide +kernel
theorem qX12_mixes_38 : decB cX12_mixes 38 [.iload 4, .iconst 4, .imul, .iload 9, .iadd] 45 = true := by decide +kernel
theorem qX12_mixes_46 : decB cX12_mixes 46 [.lload 5, .lmul] 49 = true := by decide +kernel
theorem qX12_mixes_49 : decB cX12_mixes 49 [.ladd, .lload 7, .ladd, .lstore 10, .aload_n 0] 56 = true := by decide +kernel
theorem qX12_mixes_59 : decB cX12_mixes 59 [.iload_n 1, .iconst 4, .imul, .iload 9, .iadd, .lload 10] 67 = true := by decide +kernel
theorem qX12_mixes_72 : decB cX12_mixes 72 [.lload 10] 74 = true := by decide +kernel
theorem qX12_mixes_78 : decB cX12_mixes 78 [.lstore 7, .iinc 9 1, .goto (-77)] 6 = true := by decide +kernel
theorem dX12_mixes_9 : decode cX12_mixes 9 = .ok (.if_icmp .ge 77, 3) := by decide +kernel
theorem dX12_mixes_13 : decode cX12_mixes 13 = .ok (.getfield 23, 3) := by decide +kernel
theorem dX12_mixes_22 : decode cX12_mixes 22 = .ok (.laload, 1) := by decide +kernel
theorem dX12_mixes_27 : decode cX12_mixes 27 = .ok (.ifCond .ge 7, 3) := by decide +kernel
theorem dX12_mixes_35 : decode cX12_mixes 35 = .ok (.getfield 23, 3) := by decide +kernel
theorem dX12_mixes_45 : decode cX12_mixes 45 = .ok (.laload, 1) := by decide +kernel
theorem dX12_mixes_56 : decode cX12_mixes 56 = .ok (.getfield 23, 3) := by decide +kernel
theorem dX12_mixes_67 : decode cX12_mixes 67 = .ok (.ldc2_w 190, 3) := by decide +kernel
theorem dX12_mixes_70 : decode cX12_mixes 70 = .ok (.lrem, 1) := by decide +kernel
theorem dX12_mixes_71 : decode cX12_mixes 71 = .ok (.lastore, 1) := by decide +kernel
theorem dX12_mixes_74 : decode cX12_mixes 74 = .ok (.ldc2_w 190, 3) := by decide +kernel
theorem dX12_mixes_77 : decode cX12_mixes 77 = .ok (.ldiv, 1) := by decide +kernel
theorem dX12_mixes_86 : decode cX12_mixes 86 = .ok (.return_, 1) := by decide +kernel
theorem qX12_isSafe_0 : decB cX12_isSafe 0 [.iconst 0, .istore 5] 3 = true := by decide +kernel
theorem qX12_isSafe_3 : decB cX12_isSafe 3 [.iload 5, .bipush 44] 7 = true := by decide +kernel
theorem qX12_isSafe_10 : decB cX12_isSafe 10 [.aload_n 0] 11 = true := by decide +kernel
theorem qX12_isSafe_14 : decB cX12_isSafe 14 [.iload 5, .lconst 0] 17 = true := by decide +kernel
theorem qX12_isSafe_18 : decB cX12_isSafe 18 [.iinc 5 1, .goto (-18)] 3 = true := by decide +kernel
theorem qX12_isSafe_24 : decB cX12_isSafe 24 [.aload_n 0] 25 = true := by decide +kernel
theorem qX12_isSafe_28 : decB cX12_isSafe 28 [.iconst 0, .lconst 1] 30 = true := by decide +kernel
theorem qX12_isSafe_31 : decB cX12_isSafe 31 [.iconst 0, .istore 5] 34 = true := by decide +kernel
theorem qX12_isSafe_34 : decB cX12_isSafe 34 [.iload 5, .iload_n 2] 37 = true := by decide +kernel
theorem qX12_isSafe_40 : decB cX12_isSafe 40 [.iload 5, .iconst 1, .iadd, .istore 6] 46 = true := by decide +kernel
theorem qX12_isSafe_46 : decB cX12_isSafe 46 [.iload 6] 48 = true := by decide +kernel
theorem qX12_isSafe_51 : decB cX12_isSafe 51 [.aload_n 0, .iload 6, .sipush 1000, .iload_n 3, .isub] 59 = true := by decide +kernel
theorem qX12_isSafe_60 : decB cX12_isSafe 60 [.iload 6, .iconst 1, .isub, .iload_n 3] 65 = true := by decide +kernel
theorem qX12_isSafe_69 : decB cX12_isSafe 69 [.iinc 6 (-1), .goto (-26)] 46 = true := by decide +kernel
theorem qX12_isSafe_75 : decB cX12_isSafe 75 [.iinc 5 1, .goto (-44)] 34 = true := by decide +kernel
theorem qX12_isSafe_81 : decB cX12_isSafe 81 [.iconst 0, .istore 5] 84 = true := by decide +kernel
theorem qX12_isSafe_84 : decB cX12_isSafe 84 [.iload 5, .iconst 4] 87 = true := by decide +kernel
theorem qX12_isSafe_90 : decB cX12_isSafe 90 [.aload_n 0] 91 = true := by decide +kernel
theorem qX12_isSafe_94 : decB cX12_isSafe 94 [.iload 5, .lconst 0] 97 = true := by decide +kernel
theorem qX12_isSafe_98 : decB cX12_isSafe 98 [.aload_n 0] 99 = true := by decide +kernel
theorem qX12_isSafe_102 : decB cX12_isSafe 102 [.bipush 40, .iload 5, .iadd, .lconst 0] 108 = true := by decide +kernel
theorem qX12_isSafe_109 : decB cX12_isSafe 109 [.iinc 5 1, .goto (-28)] 84 = true := by decide +kernel
theorem qX12_isSafe_115 : decB cX12_isSafe 115 [.iload_n 1, .iconst 1, .iadd, .istore 5] 120 = true := by decide +kernel
theorem qX12_isSafe_120 : decB cX12_isSafe 120 [.iload 5, .iload_n 2] 123 = true := by decide +kernel
theorem qX12_isSafe_126 : decB cX12_isSafe 126 [.aload_n 0, .iconst 0, .lconst 1, .iload 5, .lconst 1] 132 = true := by decide +kernel
theorem qX12_isSafe_135 : decB cX12_isSafe 135 [.iinc 5 1, .goto (-18)] 120 = true := by decide +kernel
theorem qX12_isSafe_141 : decB cX12_isSafe 141 [.aload_n 0] 142 = true := by decide +kernel
theorem qX12_isSafe_145 : decB cX12_isSafe 145 [.bipush 40, .iload 4] 149 = true := by decide +kernel
theorem qX12_isSafe_151 : decB cX12_isSafe 151 [.iconst 1, .istore 5] 154 = true := by decide +kernel
theorem qX12_isSafe_154 : decB cX12_isSafe 154 [.iload 5, .iload_n 2] 157 = true := by decide +kernel
theorem qX12_isSafe_160 : decB cX12_isSafe 160 [.aload_n 0, .bipush 10] 163 = true := by decide +kernel
theorem qX12_isSafe_166 : decB cX12_isSafe 166 [.iconst (-1), .lconst 0] 168 = true := by decide +kernel
theorem qX12_isSafe_171 : decB cX12_isSafe 171 [.iinc 5 1, .goto (-20)] 154 = true := by decide +kernel
theorem qX12_isSafe_177 : decB cX12_isSafe 177 [.iconst 3, .istore 5] 180 = true := by decide +kernel
theorem qX12_isSafe_180 : decB cX12_isSafe 180 [.iload 5] 182 = true := by decide +kernel
theorem qX12_isSafe_185 : decB cX12_isSafe 185 [.aload_n 0] 186 = true := by decide +kernel
theorem qX12_isSafe_189 : decB cX12_isSafe 189 [.iload 5] 191 = true := by decide +kernel
theorem qX12_isSafe_192 : decB cX12_isSafe 192 [.aload_n 0] 193 = true := by decide +kernel
theorem qX12_isSafe_196 : decB cX12_isSafe 196 [.bipush 40, .iload 5, .iadd] 201 = true := by decide +kernel
theorem qX12_isSafe_206 : decB cX12_isSafe 206 [.aload_n 0] 207 = true := by decide +kernel
theorem qX12_isSafe_210 : decB cX12_isSafe 210 [.iload 5] 212 = true := by decide +kernel
theorem qX12_isSafe_213 : decB cX12_isSafe 213 [.aload_n 0] 214 = true := by decide +kernel
theorem qX12_isSafe_217 : decB cX12_isSafe 217 [.bipush 40, .iload 5, .iadd] 222 = true := by decide +kernel
theorem qX12_isSafe_227 : decB cX12_isSafe 227 [.iconst 1, .goto 4] 232 = true := by decide +kernel
theorem qX12_isSafe_231 : decB cX12_isSafe 231 [.iconst 0] 232 = true := by decide +kernel
theorem qX12_isSafe_233 : decB cX12_isSafe 233 [.iinc 5 (-1), .goto (-56)] 180 = true := by decide +kernel
theorem qX12_isSafe_239 : decB cX12_isSafe 239 [.iconst 1] 240 = true := by decide +kernel
theorem dX12_isSafe_7 : decode cX12_isSafe 7 = .ok (.if_icmp .ge 17, 3) := by decide +kernel
theorem dX12_isSafe_11 : decode cX12_isSafe 11 = .ok (.getfield 23, 3) := by decide +kernel
theorem dX12_isSafe_17 : decode cX12_isSafe 17 = .ok (.lastore, 1) := by decide +kernel
theorem dX12_isSafe_25 : decode cX12_isSafe 25 = .ok (.getfield 23, 3) := by decide +kernel
theorem dX12_isSafe_30 : decode cX12_isSafe 30 = .ok (.lastore, 1) := by decide +kernel
theorem dX12_isSafe_37 : decode cX12_isSafe 37 = .ok (.if_icmp .ge 44, 3) := by decide +kernel
theorem dX12_isSafe_48 : decode cX12_isSafe 48 = .ok (.ifCond .lt 27, 3) := by decide +kernel
theorem dX12_isSafe_59 : decode cX12_isSafe 59 = .ok (.i2l, 1) := by decide +kernel
theorem dX12_isSafe_65 : decode cX12_isSafe 65 = .ok (.i2l, 1) := by decide +kernel
theorem dX12_isSafe_66 : decode cX12_isSafe 66 = .ok (.invokevirtual 192, 3) := by decide +kernel
theorem dX12_isSafe_87 : decode cX12_isSafe 87 = .ok (.if_icmp .ge 28, 3) := by decide +kernel
theorem dX12_isSafe_91 : decode cX12_isSafe 91 = .ok (.getfield 23, 3) := by decide +kernel
theorem dX12_isSafe_97 : decode cX12_isSafe 97 = .ok (.lastore, 1) := by decide +kernel
theorem dX12_isSafe_99 : decode cX12_isSafe 99 = .ok (.getfield 23, 3) := by decide +kernel
theorem dX12_isSafe_108 : decode cX12_isSafe 108 = .ok (.lastore, 1) := by decide +kernel
theorem dX12_isSafe_123 : decode cX12_isSafe 123 = .ok (.if_icmp .gt 18, 3) := by decide +kernel
theorem dX12_isSafe_132 : decode cX12_isSafe 132 = .ok (.invokevirtual 192, 3) := by decide +kernel
theorem dX12_isSafe_142 : decode cX12_isSafe 142 = .ok (.getfield 23, 3) := by decide +kernel
theorem dX12_isSafe_149 : decode cX12_isSafe 149 = .ok (.i2l, 1) := by decide +kernel
theorem dX12_isSafe_150 : decode cX12_isSafe 150 = .ok (.lastore, 1) := by decide +kernel
theorem dX12_isSafe_157 : decode cX12_isSafe 157 = .ok (.if_icmp .ge 20, 3) := by decide +kernel
theorem dX12_isSafe_163 : decode cX12_isSafe 163 = .ok (.ldc2_w 171, 3) := by decide +kernel
theorem dX12_isSafe_168 : decode cX12_isSafe 168 = .ok (.invokevirtual 192, 3) := by decide +kernel
theorem dX12_isSafe_182 : decode cX12_isSafe 182 = .ok (.ifCond .lt 57, 3) := by decide +kernel
theorem dX12_isSafe_186 : decode cX12_isSafe 186 = .ok (.getfield 23, 3) := by decide +kernel
theorem dX12_isSafe_191 : decode cX12_isSafe 191 = .ok (.laload, 1) := by decide +kernel
theorem dX12_isSafe_193 : decode cX12_isSafe 193 = .ok (.getfield 23, 3) := by decide +kernel
theorem dX12_isSafe_201 : decode cX12_isSafe 201 = .ok (.laload, 1) := by decide +kernel
theorem dX12_isSafe_202 : decode cX12_isSafe 202 = .ok (.lcmp, 1) := by decide +kernel
theorem dX12_isSafe_203 : decode cX12_isSafe 203 = .ok (.ifCond .eq 30, 3) := by decide +kernel
theorem dX12_isSafe_207 : decode cX12_isSafe 207 = .ok (.getfield 23, 3) := by decide +kernel
theorem dX12_isSafe_212 : decode cX12_isSafe 212 = .ok (.laload, 1) := by decide +kernel
theorem dX12_isSafe_214 : decode cX12_isSafe 214 = .ok (.getfield 23, 3) := by decide +kernel
theorem dX12_isSafe_222 : decode cX12_isSafe 222 = .ok (.laload, 1) := by decide +kernel
theorem dX12_isSafe_223 : decode cX12_isSafe 223 = .ok (.lcmp, 1) := by decide +kernel
theorem dX12_isSafe_224 : decode cX12_isSafe 224 = .ok (.ifCond .ge 7, 3) := by decide +kernel
theorem dX12_isSafe_232 : decode cX12_isSafe 232 = .ok (.ireturn, 1) := by decide +kernel
theorem dX12_isSafe_240 : decode cX12_isSafe 240 = .ok (.ireturn, 1) := by decide +kernel
theorem qX12_moreToSell_0 : decB cX12_moreToSell 0 [.aload_n 0, .aload_n 0, .iload_n 1] 3 = true := by decide +kernel
theorem qX12_moreToSell_6 : decB cX12_moreToSell 6 [.iload_n 2, .iconst 0, .sipush 1000] 11 = true := by decide +kernel
theorem qX12_moreToSell_17 : decB cX12_moreToSell 17 [.iload_n 3, .iconst 0, .sipush 1000] 22 = true := by decide +kernel
theorem qX12_moreToSell_28 : decB cX12_moreToSell 28 [.iconst 1, .goto 4] 33 = true := by decide +kernel
theorem qX12_moreToSell_32 : decB cX12_moreToSell 32 [.iconst 0] 33 = true := by decide +kernel
theorem qX12_moreToSell_33 : decB cX12_moreToSell 33 [.iconst 1] 34 = true := by decide +kernel
theorem qX12_moreToSell_40 : decB cX12_moreToSell 40 [.iconst 0] 41 = true := by decide +kernel
theorem qX12_moreToSell_42 : decB cX12_moreToSell 42 [.aload_n 0, .iload_n 1, .iconst 0] 45 = true := by decide +kernel
theorem qX12_moreToSell_48 : decB cX12_moreToSell 48 [.istore 4, .iconst 0, .istore 5, .iconst 1, .istore 6] 56 = true := by decide +kernel
theorem qX12_moreToSell_56 : decB cX12_moreToSell 56 [.iload 6, .iconst 3] 59 = true := by decide +kernel
theorem qX12_moreToSell_62 : decB cX12_moreToSell 62 [.aload_n 0, .iload 4, .iload 4, .iload 6, .iadd, .iload_n 2, .iload_n 3] 72 = true := by decide +kernel
theorem qX12_moreToSell_78 : decB cX12_moreToSell 78 [.iload 6, .istore 5] 82 = true := by decide +kernel
theorem qX12_moreToSell_82 : decB cX12_moreToSell 82 [.iinc 6 1, .goto (-29)] 56 = true := by decide +kernel
theorem qX12_moreToSell_88 : decB cX12_moreToSell 88 [.iload 5] 90 = true := by decide +kernel
theorem dX12_moreToSell_3 : decode cX12_moreToSell 3 = .ok (.invokevirtual 118, 3) := by decide +kernel
theorem dX12_moreToSell_11 : decode cX12_moreToSell 11 = .ok (.invokestatic 35, 3) := by decide +kernel
theorem dX12_moreToSell_14 : decode cX12_moreToSell 14 = .ok (.ifCond .eq 18, 3) := by decide +kernel
theorem dX12_moreToSell_22 : decode cX12_moreToSell 22 = .ok (.invokestatic 35, 3) := by decide +kernel
theorem dX12_moreToSell_25 : decode cX12_moreToSell 25 = .ok (.ifCond .eq 7, 3) := by decide +kernel
theorem dX12_moreToSell_34 : decode cX12_moreToSell 34 = .ok (.invokevirtual 111, 3) := by decide +kernel
theorem dX12_moreToSell_37 : decode cX12_moreToSell 37 = .ok (.ifCond .ne 5, 3) := by decide +kernel
theorem dX12_moreToSell_41 : decode cX12_moreToSell 41 = .ok (.ireturn, 1) := by decide +kernel
theorem dX12_moreToSell_45 : decode cX12_moreToSell 45 = .ok (.invokevirtual 63, 3) := by decide +kernel
theorem dX12_moreToSell_59 : decode cX12_moreToSell 59 = .ok (.if_icmp .gt 29, 3) := by decide +kernel
theorem dX12_moreToSell_72 : decode cX12_moreToSell 72 = .ok (.invokevirtual 196, 3) := by decide +kernel
theorem dX12_moreToSell_75 : decode cX12_moreToSell 75 = .ok (.ifCond .eq 7, 3) := by decide +kernel
theorem dX12_moreToSell_90 : decode cX12_moreToSell 90 = .ok (.ireturn, 1) := by decide +kernel
theorem qX12_needing_0 : decB cX12_needing 0 [.iconst 0, .istore_n 3, .iconst 0, .istore 4] 5 = true := by decide +kernel
theorem qX12_needing_5 : decB cX12_needing 5 [.iload 4, .aload_n 0] 8 = true := by decide +kernel
theorem qX12_needing_11 : decB cX12_needing 11 [.iconst 1] 12 = true := by decide +kernel
theorem qX12_needing_16 : decB cX12_needing 16 [.aload_n 0, .iload 4, .aload_n 0, .iload 4, .iconst 0] 23 = true := by decide +kernel
theorem qX12_needing_29 : decB cX12_needing 29 [.istore 5, .iconst 0, .istore 6] 34 = true := by decide +kernel
theorem qX12_needing_34 : decB cX12_needing 34 [.iload 6, .iload 5] 38 = true := by decide +kernel
theorem qX12_needing_41 : decB cX12_needing 41 [.iconst 0, .istore 7, .iconst 0, .istore 8, .iconst 0, .istore 9] 50 = true := by decide +kernel
theorem qX12_needing_50 : decB cX12_needing 50 [.iload 9, .aload_n 0] 53 = true := by decide +kernel
theorem qX12_needing_56 : decB cX12_needing 56 [.iconst 5] 57 = true := by decide +kernel
theorem qX12_needing_61 : decB cX12_needing 61 [.aload_n 0] 62 = true := by decide +kernel
theorem qX12_needing_65 : decB cX12_needing 65 [.iload 9] 67 = true := by decide +kernel
theorem qX12_needing_68 : decB cX12_needing 68 [.iload 6] 70 = true := by decide +kernel
theorem qX12_needing_73 : decB cX12_needing 73 [.aload_n 0, .iload 9, .iload_n 2, .iconst 1, .isub] 79 = true := by decide +kernel
theorem qX12_needing_85 : decB cX12_needing 85 [.goto 30] 115 = true := by decide +kernel
theorem qX12_needing_88 : decB cX12_needing 88 [.iconst 1, .istore 8, .iload 7] 93 = true := by decide +kernel
theorem qX12_needing_96 : decB cX12_needing 96 [.aload_n 0, .iload 9] 99 = true := by decide +kernel
theorem qX12_needing_102 : decB cX12_needing 102 [.iload_n 2, .iconst 1, .isub] 105 = true := by decide +kernel
theorem qX12_needing_108 : decB cX12_needing 108 [.iconst 1, .goto 4] 113 = true := by decide +kernel
theorem qX12_needing_112 : decB cX12_needing 112 [.iconst 0] 113 = true := by decide +kernel
theorem qX12_needing_113 : decB cX12_needing 113 [.istore 7] 115 = true := by decide +kernel
theorem qX12_needing_115 : decB cX12_needing 115 [.iinc 9 1, .goto (-68)] 50 = true := by decide +kernel
theorem qX12_needing_121 : decB cX12_needing 121 [.iload_n 3, .iload_n 1, .bipush 45] 125 = true := by decide +kernel
theorem qX12_needing_128 : decB cX12_needing 128 [.iload 7] 130 = true := by decide +kernel
theorem qX12_needing_133 : decB cX12_needing 133 [.goto 13] 146 = true := by decide +kernel
theorem qX12_needing_136 : decB cX12_needing 136 [.iload 8] 138 = true := by decide +kernel
theorem qX12_needing_141 : decB cX12_needing 141 [.iload 7] 143 = true := by decide +kernel
theorem qX12_needing_146 : decB cX12_needing 146 [.iconst 1, .goto 4] 151 = true := by decide +kernel
theorem qX12_needing_150 : decB cX12_needing 150 [.iconst 0] 151 = true := by decide +kernel
theorem qX12_needing_151 : decB cX12_needing 151 [.iadd, .istore_n 3, .iinc 6 1, .goto (-122)] 34 = true := by decide +kernel
theorem qX12_needing_159 : decB cX12_needing 159 [.iinc 4 1, .goto (-157)] 5 = true := by decide +kernel
theorem qX12_needing_165 : decB cX12_needing 165 [.iload_n 3] 166 = true := by decide +kernel
theorem dX12_needing_8 : decode cX12_needing 8 = .ok (.getfield 9, 3) := by decide +kernel
theorem dX12_needing_12 : decode cX12_needing 12 = .ok (.iaload, 1) := by decide +kernel
theorem dX12_needing_13 : decode cX12_needing 13 = .ok (.if_icmp .ge 152, 3) := by decide +kernel
theorem dX12_needing_23 : decode cX12_needing 23 = .ok (.invokevirtual 63, 3) := by decide +kernel
theorem dX12_needing_26 : decode cX12_needing 26 = .ok (.invokevirtual 187, 3) := by decide +kernel
theorem dX12_needing_38 : decode cX12_needing 38 = .ok (.if_icmp .ge 121, 3) := by decide +kernel
theorem dX12_needing_53 : decode cX12_needing 53 = .ok (.getfield 9, 3) := by decide +kernel
theorem dX12_needing_57 : decode cX12_needing 57 = .ok (.iaload, 1) := by decide +kernel
theorem dX12_needing_58 : decode cX12_needing 58 = .ok (.if_icmp .ge 63, 3) := by decide +kernel
theorem dX12_needing_62 : decode cX12_needing 62 = .ok (.getfield 16, 3) := by decide +kernel
theorem dX12_needing_67 : decode cX12_needing 67 = .ok (.iaload, 1) := by decide +kernel
theorem dX12_needing_70 : decode cX12_needing 70 = .ok (.if_icmp .ne 45, 3) := by decide +kernel
theorem dX12_needing_79 : decode cX12_needing 79 = .ok (.invokevirtual 53, 3) := by decide +kernel
theorem dX12_needing_82 : decode cX12_needing 82 = .ok (.ifCond .ne 6, 3) := by decide +kernel
theorem dX12_needing_93 : decode cX12_needing 93 = .ok (.ifCond .ne 15, 3) := by decide +kernel
theorem dX12_needing_99 : decode cX12_needing 99 = .ok (.invokevirtual 46, 3) := by decide +kernel
theorem dX12_needing_105 : decode cX12_needing 105 = .ok (.if_icmp .ne 7, 3) := by decide +kernel
theorem dX12_needing_125 : decode cX12_needing 125 = .ok (.if_icmp .ne 11, 3) := by decide +kernel
theorem dX12_needing_130 : decode cX12_needing 130 = .ok (.ifCond .eq 20, 3) := by decide +kernel
theorem dX12_needing_138 : decode cX12_needing 138 = .ok (.ifCond .eq 12, 3) := by decide +kernel
theorem dX12_needing_143 : decode cX12_needing 143 = .ok (.ifCond .ne 7, 3) := by decide +kernel
theorem dX12_needing_166 : decode cX12_needing 166 = .ok (.ireturn, 1) := by decide +kernel
theorem qX12_minutes_0 : decB cX12_minutes 0 [.aload_n 0, .iload_n 1] 2 = true := by decide +kernel
theorem qX12_minutes_5 : decB cX12_minutes 5 [.iconst 1, .iconst 1] 7 = true := by decide +kernel
theorem qX12_minutes_13 : decB cX12_minutes 13 [.bipush 45, .aload_n 0, .bipush 45, .iload_n 1] 19 = true := by decide +kernel
theorem qX12_minutes_25 : decB cX12_minutes 25 [.imul, .bipush 20, .aload_n 0, .bipush 20, .iload_n 1] 32 = true := by decide +kernel
theorem qX12_minutes_38 : decB cX12_minutes 38 [.imul, .iadd, .goto 4] 44 = true := by decide +kernel
theorem qX12_minutes_43 : decB cX12_minutes 43 [.iconst 0] 44 = true := by decide +kernel
theorem dX12_minutes_2 : decode cX12_minutes 2 = .ok (.invokestatic 121, 3) := by decide +kernel
theorem dX12_minutes_7 : decode cX12_minutes 7 = .ok (.invokevirtual 111, 3) := by decide +kernel
theorem dX12_minutes_10 : decode cX12_minutes 10 = .ok (.ifCond .eq 33, 3) := by decide +kernel
theorem dX12_minutes_19 : decode cX12_minutes 19 = .ok (.invokestatic 27, 3) := by decide +kernel
theorem dX12_minutes_22 : decode cX12_minutes 22 = .ok (.invokevirtual 199, 3) := by decide +kernel
theorem dX12_minutes_32 : decode cX12_minutes 32 = .ok (.invokestatic 27, 3) := by decide +kernel
theorem dX12_minutes_35 : decode cX12_minutes 35 = .ok (.invokevirtual 199, 3) := by decide +kernel
theorem dX12_minutes_44 : decode cX12_minutes 44 = .ok (.ireturn, 1) := by decide +kernel
theorem qX12_rounds_0 : decB cX12_rounds 0 [.aload_n 0, .iload_n 1] 2 = true := by decide +kernel
theorem qX12_rounds_5 : decB cX12_rounds 5 [.iconst 1, .iconst 1] 7 = true := by decide +kernel
theorem qX12_rounds_13 : decB cX12_rounds 13 [.iconst 0] 14 = true := by decide +kernel
theorem qX12_rounds_15 : decB cX12_rounds 15 [.aload_n 0, .bipush 45, .iload_n 1] 19 = true := by decide +kernel
theorem qX12_rounds_25 : decB cX12_rounds 25 [.istore_n 2, .aload_n 0, .bipush 20, .iload_n 1] 30 = true := by decide +kernel
theorem qX12_rounds_36 : decB cX12_rounds 36 [.istore_n 3, .iload_n 2, .iload_n 3, .iadd, .istore 4, .iconst 0, .istore 5] 45 = true := by decide +kernel
theorem qX12_rounds_45 : decB cX12_rounds 45 [.iconst 2, .iload 5, .imul, .iload_n 2] 50 = true := by decide +kernel
theorem qX12_rounds_53 : decB cX12_rounds 53 [.iload_n 2, .iconst 2, .iload 5, .imul, .isub, .istore 6, .iconst 0, .iload_n 3, .iload 5, .isub, .iconst 3, .iload 6, .imul, .isub] 71 = true := by decide +kernel
theorem qX12_rounds_74 : decB cX12_rounds 74 [.istore 7, .iload 4, .iload 5, .iload 6, .iadd, .iload 7, .iconst 5, .iadd, .bipush 6] 89 = true := by decide +kernel
theorem qX12_rounds_90 : decB cX12_rounds 90 [.iadd] 91 = true := by decide +kernel
theorem qX12_rounds_94 : decB cX12_rounds 94 [.istore 4, .iinc 5 1, .goto (-54)] 45 = true := by decide +kernel
theorem qX12_rounds_102 : decB cX12_rounds 102 [.iload 4] 104 = true := by decide +kernel
theorem dX12_rounds_2 : decode cX12_rounds 2 = .ok (.invokestatic 121, 3) := by decide +kernel
theorem dX12_rounds_7 : decode cX12_rounds 7 = .ok (.invokevirtual 111, 3) := by decide +kernel
theorem dX12_rounds_10 : decode cX12_rounds 10 = .ok (.ifCond .ne 5, 3) := by decide +kernel
theorem dX12_rounds_14 : decode cX12_rounds 14 = .ok (.ireturn, 1) := by decide +kernel
theorem dX12_rounds_19 : decode cX12_rounds 19 = .ok (.invokestatic 27, 3) := by decide +kernel
theorem dX12_rounds_22 : decode cX12_rounds 22 = .ok (.invokevirtual 199, 3) := by decide +kernel
theorem dX12_rounds_30 : decode cX12_rounds 30 = .ok (.invokestatic 27, 3) := by decide +kernel
theorem dX12_rounds_33 : decode cX12_rounds 33 = .ok (.invokevirtual 199, 3) := by decide +kernel
theorem dX12_rounds_50 : decode cX12_rounds 50 = .ok (.if_icmp .gt 52, 3) := by decide +kernel
theorem dX12_rounds_71 : decode cX12_rounds 71 = .ok (.invokestatic 72, 3) := by decide +kernel
theorem dX12_rounds_89 : decode cX12_rounds 89 = .ok (.idiv, 1) := by decide +kernel
theorem dX12_rounds_91 : decode cX12_rounds 91 = .ok (.invokestatic 202, 3) := by decide +kernel
theorem dX12_rounds_104 : decode cX12_rounds 104 = .ok (.ireturn, 1) := by decide +kernel
theorem qX12_isMonth_0 : decB cX12_isMonth 0 [.iload_n 0, .bipush 100] 3 = true := by decide +kernel
theorem qX12_isMonth_4 : decB cX12_isMonth 4 [.sipush 2000, .sipush 2099] 10 = true := by decide +kernel
theorem qX12_isMonth_16 : decB cX12_isMonth 16 [.iload_n 0, .bipush 100] 19 = true := by decide +kernel
theorem qX12_isMonth_20 : decB cX12_isMonth 20 [.iconst 1, .bipush 12] 23 = true := by decide +kernel
theorem qX12_isMonth_29 : decB cX12_isMonth 29 [.iconst 1, .goto 4] 34 = true := by decide +kernel
theorem qX12_isMonth_33 : decB cX12_isMonth 33 [.iconst 0] 34 = true := by decide +kernel
theorem dX12_isMonth_3 : decode cX12_isMonth 3 = .ok (.idiv, 1) := by decide +kernel
theorem dX12_isMonth_10 : decode cX12_isMonth 10 = .ok (.invokestatic 35, 3) := by decide +kernel
theorem dX12_isMonth_13 : decode cX12_isMonth 13 = .ok (.ifCond .eq 20, 3) := by decide +kernel
theorem dX12_isMonth_19 : decode cX12_isMonth 19 = .ok (.irem, 1) := by decide +kernel
theorem dX12_isMonth_23 : decode cX12_isMonth 23 = .ok (.invokestatic 35, 3) := by decide +kernel
theorem dX12_isMonth_26 : decode cX12_isMonth 26 = .ok (.ifCond .eq 7, 3) := by decide +kernel
theorem dX12_isMonth_34 : decode cX12_isMonth 34 = .ok (.ireturn, 1) := by decide +kernel
theorem qX12_isSold_0 : decB cX12_isSold 0 [.aload_n 0, .iload_n 1, .iconst 0] 3 = true := by decide +kernel
theorem qX12_isSold_6 : decB cX12_isSold 6 [.iconst 1] 7 = true := by decide +kernel
theorem qX12_isSold_10 : decB cX12_isSold 10 [.aload_n 0, .iload_n 1, .iconst 0] 13 = true := by decide +kernel
theorem qX12_isSold_16 : decB cX12_isSold 16 [.iconst 4] 17 = true := by decide +kernel
theorem qX12_isSold_20 : decB cX12_isSold 20 [.iconst 1, .goto 4] 25 = true := by decide +kernel
theorem qX12_isSold_24 : decB cX12_isSold 24 [.iconst 0] 25 = true := by decide +kernel
theorem dX12_isSold_3 : decode cX12_isSold 3 = .ok (.invokevirtual 43, 3) := by decide +kernel
theorem dX12_isSold_7 : decode cX12_isSold 7 = .ok (.if_icmp .eq 13, 3) := by decide +kernel
theorem dX12_isSold_13 : decode cX12_isSold 13 = .ok (.invokevirtual 43, 3) := by decide +kernel
theorem dX12_isSold_17 : decode cX12_isSold 17 = .ok (.if_icmp .ne 7, 3) := by decide +kernel
theorem dX12_isSold_25 : decode cX12_isSold 25 = .ok (.ireturn, 1) := by decide +kernel
theorem qX12_monthNights_0 : decB cX12_monthNights 0 [.aload_n 0, .iload_n 1] 2 = true := by decide +kernel
theorem qX12_monthNights_5 : decB cX12_monthNights 5 [.iconst 1, .iconst 1] 7 = true := by decide +kernel
theorem qX12_monthNights_13 : decB cX12_monthNights 13 [.iconst 0] 14 = true := by decide +kernel
theorem qX12_monthNights_15 : decB cX12_monthNights 15 [.iconst 0, .istore_n 2, .iconst 0, .istore_n 3] 19 = true := by decide +kernel
theorem qX12_monthNights_19 : decB cX12_monthNights 19 [.iload_n 3, .aload_n 0] 21 = true := by decide +kernel
theorem qX12_monthNights_24 : decB cX12_monthNights 24 [.iconst 5] 25 = true := by decide +kernel
theorem qX12_monthNights_29 : decB cX12_monthNights 29 [.iconst 0, .istore 4] 32 = true := by decide +kernel
theorem qX12_monthNights_32 : decB cX12_monthNights 32 [.iload 4, .aload_n 0, .iload_n 3, .iconst 3] 37 = true := by decide +kernel
theorem qX12_monthNights_43 : decB cX12_monthNights 43 [.aload_n 0, .iload_n 3] 45 = true := by decide +kernel
theorem qX12_monthNights_51 : decB cX12_monthNights 51 [.iload_n 2, .aload_n 0, .iload_n 3, .iconst 2] 55 = true := by decide +kernel
theorem qX12_monthNights_58 : decB cX12_monthNights 58 [.iload 4, .iadd] 61 = true := by decide +kernel
theorem qX12_monthNights_64 : decB cX12_monthNights 64 [.bipush 100] 66 = true := by decide +kernel
theorem qX12_monthNights_67 : decB cX12_monthNights 67 [.iload_n 1] 68 = true := by decide +kernel
theorem qX12_monthNights_71 : decB cX12_monthNights 71 [.iconst 1, .goto 4] 76 = true := by decide +kernel
theorem qX12_monthNights_75 : decB cX12_monthNights 75 [.iconst 0] 76 = true := by decide +kernel
theorem qX12_monthNights_76 : decB cX12_monthNights 76 [.iadd, .istore_n 2, .iinc 4 1, .goto (-49)] 32 = true := by decide +kernel
theorem qX12_monthNights_84 : decB cX12_monthNights 84 [.iinc 3 1, .goto (-68)] 19 = true := by decide +kernel
theorem qX12_monthNights_90 : decB cX12_monthNights 90 [.iload_n 2] 91 = true := by decide +kernel
theorem dX12_monthNights_2 : decode cX12_monthNights 2 = .ok (.invokestatic 205, 3) := by decide +kernel
theorem dX12_monthNights_7 : decode cX12_monthNights 7 = .ok (.invokevirtual 111, 3) := by decide +kernel
theorem dX12_monthNights_10 : decode cX12_monthNights 10 = .ok (.ifCond .ne 5, 3) := by decide +kernel
theorem dX12_monthNights_14 : decode cX12_monthNights 14 = .ok (.ireturn, 1) := by decide +kernel
theorem dX12_monthNights_21 : decode cX12_monthNights 21 = .ok (.getfield 9, 3) := by decide +kernel
theorem dX12_monthNights_25 : decode cX12_monthNights 25 = .ok (.iaload, 1) := by decide +kernel
theorem dX12_monthNights_26 : decode cX12_monthNights 26 = .ok (.if_icmp .ge 64, 3) := by decide +kernel
theorem dX12_monthNights_37 : decode cX12_monthNights 37 = .ok (.invokevirtual 43, 3) := by decide +kernel
theorem dX12_monthNights_40 : decode cX12_monthNights 40 = .ok (.if_icmp .ge 44, 3) := by decide +kernel
theorem dX12_monthNights_45 : decode cX12_monthNights 45 = .ok (.invokevirtual 208, 3) := by decide +kernel
theorem dX12_monthNights_48 : decode cX12_monthNights 48 = .ok (.ifCond .eq 36, 3) := by decide +kernel
theorem dX12_monthNights_55 : decode cX12_monthNights 55 = .ok (.invokevirtual 43, 3) := by decide +kernel
theorem dX12_monthNights_61 : decode cX12_monthNights 61 = .ok (.invokestatic 66, 3) := by decide +kernel
theorem dX12_monthNights_66 : decode cX12_monthNights 66 = .ok (.idiv, 1) := by decide +kernel
theorem dX12_monthNights_68 : decode cX12_monthNights 68 = .ok (.if_icmp .ne 7, 3) := by decide +kernel
theorem dX12_monthNights_91 : decode cX12_monthNights 91 = .ok (.ireturn, 1) := by decide +kernel
theorem qX12_monthIncome_0 : decB cX12_monthIncome 0 [.aload_n 0, .iload_n 1] 2 = true := by decide +kernel
theorem qX12_monthIncome_5 : decB cX12_monthIncome 5 [.iconst 1, .iconst 1] 7 = true := by decide +kernel
theorem qX12_monthIncome_13 : decB cX12_monthIncome 13 [.lconst 0] 14 = true := by decide +kernel
theorem qX12_monthIncome_15 : decB cX12_monthIncome 15 [.lconst 0, .lstore_n 2, .iconst 0, .istore 4] 20 = true := by decide +kernel
theorem qX12_monthIncome_20 : decB cX12_monthIncome 20 [.iload 4, .aload_n 0] 23 = true := by decide +kernel
theorem qX12_monthIncome_26 : decB cX12_monthIncome 26 [.iconst 5] 27 = true := by decide +kernel
theorem qX12_monthIncome_31 : decB cX12_monthIncome 31 [.iconst 0, .istore 5] 34 = true := by decide +kernel
theorem qX12_monthIncome_34 : decB cX12_monthIncome 34 [.iload 5, .aload_n 0, .iload 4, .iconst 3] 40 = true := by decide +kernel
theorem qX12_monthIncome_46 : decB cX12_monthIncome 46 [.aload_n 0, .iload 4] 49 = true := by decide +kernel
theorem qX12_monthIncome_55 : decB cX12_monthIncome 55 [.lload_n 2, .aload_n 0, .iload 4, .iconst 2] 60 = true := by decide +kernel
theorem qX12_monthIncome_63 : decB cX12_monthIncome 63 [.iload 5, .iadd] 66 = true := by decide +kernel
theorem qX12_monthIncome_69 : decB cX12_monthIncome 69 [.bipush 100] 71 = true := by decide +kernel
theorem qX12_monthIncome_72 : decB cX12_monthIncome 72 [.iload_n 1] 73 = true := by decide +kernel
theorem qX12_monthIncome_76 : decB cX12_monthIncome 76 [.aload_n 0, .iload 4, .bipush 10, .iload 5, .iadd] 84 = true := by decide +kernel
theorem qX12_monthIncome_88 : decB cX12_monthIncome 88 [.goto 4] 92 = true := by decide +kernel
theorem qX12_monthIncome_91 : decB cX12_monthIncome 91 [.lconst 0] 92 = true := by decide +kernel
theorem qX12_monthIncome_92 : decB cX12_monthIncome 92 [.ladd, .lstore_n 2, .iinc 5 1, .goto (-63)] 34 = true := by decide +kernel
theorem qX12_monthIncome_100 : decB cX12_monthIncome 100 [.iinc 4 1, .goto (-83)] 20 = true := by decide +kernel
theorem qX12_monthIncome_106 : decB cX12_monthIncome 106 [.lload_n 2] 107 = true := by decide +kernel
theorem dX12_monthIncome_2 : decode cX12_monthIncome 2 = .ok (.invokestatic 205, 3) := by decide +kernel
theorem dX12_monthIncome_7 : decode cX12_monthIncome 7 = .ok (.invokevirtual 111, 3) := by decide +kernel
theorem dX12_monthIncome_10 : decode cX12_monthIncome 10 = .ok (.ifCond .ne 5, 3) := by decide +kernel
theorem dX12_monthIncome_14 : decode cX12_monthIncome 14 = .ok (.lreturn, 1) := by decide +kernel
theorem dX12_monthIncome_23 : decode cX12_monthIncome 23 = .ok (.getfield 9, 3) := by decide +kernel
theorem dX12_monthIncome_27 : decode cX12_monthIncome 27 = .ok (.iaload, 1) := by decide +kernel
theorem dX12_monthIncome_28 : decode cX12_monthIncome 28 = .ok (.if_icmp .ge 78, 3) := by decide +kernel
theorem dX12_monthIncome_40 : decode cX12_monthIncome 40 = .ok (.invokevirtual 43, 3) := by decide +kernel
theorem dX12_monthIncome_43 : decode cX12_monthIncome 43 = .ok (.if_icmp .ge 57, 3) := by decide +kernel
theorem dX12_monthIncome_49 : decode cX12_monthIncome 49 = .ok (.invokevirtual 208, 3) := by decide +kernel
theorem dX12_monthIncome_52 : decode cX12_monthIncome 52 = .ok (.ifCond .eq 48, 3) := by decide +kernel
theorem dX12_monthIncome_60 : decode cX12_monthIncome 60 = .ok (.invokevirtual 43, 3) := by decide +kernel
theorem dX12_monthIncome_66 : decode cX12_monthIncome 66 = .ok (.invokestatic 66, 3) := by decide +kernel
theorem dX12_monthIncome_71 : decode cX12_monthIncome 71 = .ok (.idiv, 1) := by decide +kernel
theorem dX12_monthIncome_73 : decode cX12_monthIncome 73 = .ok (.if_icmp .ne 18, 3) := by decide +kernel
theorem dX12_monthIncome_84 : decode cX12_monthIncome 84 = .ok (.invokevirtual 43, 3) := by decide +kernel
theorem dX12_monthIncome_87 : decode cX12_monthIncome 87 = .ok (.i2l, 1) := by decide +kernel
theorem dX12_monthIncome_107 : decode cX12_monthIncome 107 = .ok (.lreturn, 1) := by decide +kernel
theorem qX12_meanPrice_0 : decB cX12_meanPrice 0 [.aload_n 0, .iconst 0] 2 = true := by decide +kernel
theorem qX12_meanPrice_5 : decB cX12_meanPrice 5 [.lconst 0, .lstore_n 1, .iconst 0, .istore_n 3, .iconst 0, .istore 4] 12 = true := by decide +kernel
theorem qX12_meanPrice_12 : decB cX12_meanPrice 12 [.iload 4, .aload_n 0] 15 = true := by decide +kernel
theorem qX12_meanPrice_18 : decB cX12_meanPrice 18 [.iconst 5] 19 = true := by decide +kernel
theorem qX12_meanPrice_23 : decB cX12_meanPrice 23 [.aload_n 0, .iload 4] 26 = true := by decide +kernel
theorem qX12_meanPrice_32 : decB cX12_meanPrice 32 [.goto 23] 55 = true := by decide +kernel
theorem qX12_meanPrice_35 : decB cX12_meanPrice 35 [.lload_n 1, .aload_n 0, .iload 4] 39 = true := by decide +kernel
theorem qX12_meanPrice_43 : decB cX12_meanPrice 43 [.ladd, .lstore_n 1, .iload_n 3, .aload_n 0, .iload 4, .iconst 3] 50 = true := by decide +kernel
theorem qX12_meanPrice_53 : decB cX12_meanPrice 53 [.iadd, .istore_n 3] 55 = true := by decide +kernel
theorem qX12_meanPrice_55 : decB cX12_meanPrice 55 [.iinc 4 1, .goto (-46)] 12 = true := by decide +kernel
theorem qX12_meanPrice_61 : decB cX12_meanPrice 61 [.iload_n 3] 62 = true := by decide +kernel
theorem qX12_meanPrice_66 : decB cX12_meanPrice 66 [.goto 8] 74 = true := by decide +kernel
theorem qX12_meanPrice_69 : decB cX12_meanPrice 69 [.lload_n 1] 70 = true := by decide +kernel
theorem qX12_meanPrice_71 : decB cX12_meanPrice 71 [.iload_n 3] 72 = true := by decide +kernel
theorem dX12_meanPrice_2 : decode cX12_meanPrice 2 = .ok (.putfield 31, 3) := by decide +kernel
theorem dX12_meanPrice_15 : decode cX12_meanPrice 15 = .ok (.getfield 9, 3) := by decide +kernel
theorem dX12_meanPrice_19 : decode cX12_meanPrice 19 = .ok (.iaload, 1) := by decide +kernel
theorem dX12_meanPrice_20 : decode cX12_meanPrice 20 = .ok (.if_icmp .ge 41, 3) := by decide +kernel
theorem dX12_meanPrice_26 : decode cX12_meanPrice 26 = .ok (.invokevirtual 49, 3) := by decide +kernel
theorem dX12_meanPrice_29 : decode cX12_meanPrice 29 = .ok (.ifCond .ne 6, 3) := by decide +kernel
theorem dX12_meanPrice_39 : decode cX12_meanPrice 39 = .ok (.invokevirtual 146, 3) := by decide +kernel
theorem dX12_meanPrice_42 : decode cX12_meanPrice 42 = .ok (.i2l, 1) := by decide +kernel
theorem dX12_meanPrice_50 : decode cX12_meanPrice 50 = .ok (.invokevirtual 43, 3) := by decide +kernel
theorem dX12_meanPrice_62 : decode cX12_meanPrice 62 = .ok (.ifCond .ne 7, 3) := by decide +kernel
theorem dX12_meanPrice_65 : decode cX12_meanPrice 65 = .ok (.dconst 0, 1) := by decide +kernel
theorem dX12_meanPrice_70 : decode cX12_meanPrice 70 = .ok (.l2d, 1) := by decide +kernel
theorem dX12_meanPrice_72 : decode cX12_meanPrice 72 = .ok (.i2d, 1) := by decide +kernel
theorem dX12_meanPrice_73 : decode cX12_meanPrice 73 = .ok (.ddiv, 1) := by decide +kernel
theorem dX12_meanPrice_74 : decode cX12_meanPrice 74 = .ok (.dreturn, 1) := by decide +kernel
theorem qX12_share_0 : decB cX12_share 0 [.aload_n 0, .aload_n 0, .iload_n 1] 3 = true := by decide +kernel
theorem qX12_share_6 : decB cX12_share 6 [.iload_n 2] 7 = true := by decide +kernel
theorem qX12_share_10 : decB cX12_share 10 [.iconst 1] 11 = true := by decide +kernel
theorem qX12_share_17 : decB cX12_share 17 [.aload_n 0, .iload_n 1, .iload_n 2] 20 = true := by decide +kernel
theorem qX12_share_27 : decB cX12_share 27 [.aload_n 0, .iload_n 1, .iconst 0] 30 = true := by decide +kernel
theorem qX12_share_35 : decB cX12_share 35 [.goto 4] 39 = true := by decide +kernel
theorem dX12_share_3 : decode cX12_share 3 = .ok (.invokevirtual 118, 3) := by decide +kernel
theorem dX12_share_7 : decode cX12_share 7 = .ok (.invokestatic 121, 3) := by decide +kernel
theorem dX12_share_11 : decode cX12_share 11 = .ok (.invokevirtual 111, 3) := by decide +kernel
theorem dX12_share_14 : decode cX12_share 14 = .ok (.ifCond .eq 24, 3) := by decide +kernel
theorem dX12_share_20 : decode cX12_share 20 = .ok (.invokestatic 27, 3) := by decide +kernel
theorem dX12_share_23 : decode cX12_share 23 = .ok (.invokevirtual 60, 3) := by decide +kernel
theorem dX12_share_26 : decode cX12_share 26 = .ok (.i2f, 1) := by decide +kernel
theorem dX12_share_30 : decode cX12_share 30 = .ok (.invokevirtual 63, 3) := by decide +kernel
theorem dX12_share_33 : decode cX12_share 33 = .ok (.i2f, 1) := by decide +kernel
theorem dX12_share_34 : decode cX12_share 34 = .ok (.fdiv, 1) := by decide +kernel
theorem dX12_share_38 : decode cX12_share 38 = .ok (.fconst 0, 1) := by decide +kernel
theorem dX12_share_39 : decode cX12_share 39 = .ok (.freturn, 1) := by decide +kernel
theorem qX12_checksum_0 : decB cX12_checksum 0 [.aload_n 0, .iconst 0] 2 = true := by decide +kernel
theorem qX12_checksum_5 : decB cX12_checksum 5 [.bipush 17, .istore_n 1, .iconst 0, .istore_n 2] 10 = true := by decide +kernel
theorem qX12_checksum_10 : decB cX12_checksum 10 [.iload_n 2, .aload_n 0] 12 = true := by decide +kernel
theorem qX12_checksum_15 : decB cX12_checksum 15 [.iconst 5] 16 = true := by decide +kernel
theorem qX12_checksum_20 : decB cX12_checksum 20 [.bipush 31, .bipush 31, .bipush 31, .iload_n 1, .imul, .aload_n 0, .iload_n 2, .iconst 0] 31 = true := by decide +kernel
theorem qX12_checksum_34 : decB cX12_checksum 34 [.iadd, .imul, .aload_n 0, .iload_n 2] 38 = true := by decide +kernel
theorem qX12_checksum_41 : decB cX12_checksum 41 [.iadd, .imul, .aload_n 0, .iload_n 2, .iconst 3] 46 = true := by decide +kernel
theorem qX12_checksum_49 : decB cX12_checksum 49 [.iadd, .istore_n 1, .iinc 2 1, .goto (-44)] 10 = true := by decide +kernel
theorem qX12_checksum_57 : decB cX12_checksum 57 [.bipush 31, .iload_n 1, .imul, .aload_n 0] 62 = true := by decide +kernel
theorem qX12_checksum_65 : decB cX12_checksum 65 [.iconst 0] 66 = true := by decide +kernel
theorem qX12_checksum_70 : decB cX12_checksum 70 [.iadd] 71 = true := by decide +kernel
theorem dX12_checksum_2 : decode cX12_checksum 2 = .ok (.putfield 31, 3) := by decide +kernel
theorem dX12_checksum_12 : decode cX12_checksum 12 = .ok (.getfield 9, 3) := by decide +kernel
theorem dX12_checksum_16 : decode cX12_checksum 16 = .ok (.iaload, 1) := by decide +kernel
theorem dX12_checksum_17 : decode cX12_checksum 17 = .ok (.if_icmp .ge 40, 3) := by decide +kernel
theorem dX12_checksum_31 : decode cX12_checksum 31 = .ok (.invokevirtual 43, 3) := by decide +kernel
theorem dX12_checksum_38 : decode cX12_checksum 38 = .ok (.invokevirtual 146, 3) := by decide +kernel
theorem dX12_checksum_46 : decode cX12_checksum 46 = .ok (.invokevirtual 43, 3) := by decide +kernel
theorem dX12_checksum_62 : decode cX12_checksum 62 = .ok (.getfield 9, 3) := by decide +kernel
theorem dX12_checksum_66 : decode cX12_checksum 66 = .ok (.iaload, 1) := by decide +kernel
theorem dX12_checksum_67 : decode cX12_checksum 67 = .ok (.invokestatic 66, 3) := by decide +kernel
theorem dX12_checksum_71 : decode cX12_checksum 71 = .ok (.ireturn, 1) := by decide +kernel
theorem qX12_errors_0 : decB cX12_errors 0 [.aload_n 0, .iconst 0] 2 = true := by decide +kernel
theorem qX12_errors_5 : decB cX12_errors 5 [.aload_n 0] 6 = true := by decide +kernel
theorem qX12_errors_9 : decB cX12_errors 9 [.bipush 9] 11 = true := by decide +kernel
theorem qX12_errors_12 : decB cX12_errors 12 [.aload_n 0] 13 = true := by decide +kernel
theorem qX12_errors_16 : decB cX12_errors 16 [.bipush 10] 18 = true := by decide +kernel
theorem qX12_errors_19 : decB cX12_errors 19 [.iadd, .aload_n 0] 21 = true := by decide +kernel
theorem qX12_errors_24 : decB cX12_errors 24 [.bipush 11] 26 = true := by decide +kernel
theorem qX12_errors_27 : decB cX12_errors 27 [.iadd, .aload_n 0] 29 = true := by decide +kernel
theorem qX12_errors_32 : decB cX12_errors 32 [.bipush 12] 34 = true := by decide +kernel
theorem qX12_errors_35 : decB cX12_errors 35 [.iadd] 36 = true := by decide +kernel
theorem qX12_errors_39 : decB cX12_errors 39 [.iconst 0, .goto 4] 44 = true := by decide +kernel
theorem qX12_errors_43 : decB cX12_errors 43 [.iconst 1] 44 = true := by decide +kernel
theorem qX12_errors_44 : decB cX12_errors 44 [.istore_n 1, .iconst 0, .istore_n 2] 47 = true := by decide +kernel
theorem qX12_errors_47 : decB cX12_errors 47 [.iload_n 2, .aload_n 0] 49 = true := by decide +kernel
theorem qX12_errors_52 : decB cX12_errors 52 [.iconst 1] 53 = true := by decide +kernel
theorem qX12_errors_57 : decB cX12_errors 57 [.iconst 0, .istore_n 3, .iconst 0, .istore 4, .aload_n 0, .iload_n 2, .aload_n 0, .iload_n 2, .iconst 0] 67 = true := by decide +kernel
theorem qX12_errors_73 : decB cX12_errors 73 [.istore 5, .iconst 0, .istore 6] 78 = true := by decide +kernel
theorem qX12_errors_78 : decB cX12_errors 78 [.iload 6, .aload_n 0] 81 = true := by decide +kernel
theorem qX12_errors_84 : decB cX12_errors 84 [.iconst 5] 85 = true := by decide +kernel
theorem qX12_errors_89 : decB cX12_errors 89 [.aload_n 0, .iload 6] 92 = true := by decide +kernel
theorem qX12_errors_98 : decB cX12_errors 98 [.aload_n 0, .iload 6, .iconst 1] 102 = true := by decide +kernel
theorem qX12_errors_105 : decB cX12_errors 105 [.iload_n 2] 106 = true := by decide +kernel
theorem qX12_errors_109 : decB cX12_errors 109 [.goto 57] 166 = true := by decide +kernel
theorem qX12_errors_112 : decB cX12_errors 112 [.iload 4] 114 = true := by decide +kernel
theorem qX12_errors_117 : decB cX12_errors 117 [.aload_n 0] 118 = true := by decide +kernel
theorem qX12_errors_121 : decB cX12_errors 121 [.iload 6] 123 = true := by decide +kernel
theorem qX12_errors_124 : decB cX12_errors 124 [.iconst (-1)] 125 = true := by decide +kernel
theorem qX12_errors_128 : decB cX12_errors 128 [.iconst 1, .goto 4] 133 = true := by decide +kernel
theorem qX12_errors_132 : decB cX12_errors 132 [.iconst 0] 133 = true := by decide +kernel
theorem qX12_errors_133 : decB cX12_errors 133 [.istore 4, .iload_n 3] 136 = true := by decide +kernel
theorem qX12_errors_139 : decB cX12_errors 139 [.aload_n 0, .iload_n 2, .aload_n 0, .iload 6, .iconst 2] 145 = true := by decide +kernel
theorem qX12_errors_151 : decB cX12_errors 151 [.aload_n 0, .iload_n 2, .iconst 0] 154 = true := by decide +kernel
theorem qX12_errors_160 : decB cX12_errors 160 [.iconst 1, .goto 4] 165 = true := by decide +kernel
theorem qX12_errors_164 : decB cX12_errors 164 [.iconst 0] 165 = true := by decide +kernel
theorem qX12_errors_165 : decB cX12_errors 165 [.istore_n 3] 166 = true := by decide +kernel
theorem qX12_errors_166 : decB cX12_errors 166 [.iinc 6 1, .goto (-91)] 78 = true := by decide +kernel
theorem qX12_errors_172 : decB cX12_errors 172 [.iload_n 1, .iload_n 3, .iload 4] 176 = true := by decide +kernel
theorem qX12_errors_179 : decB cX12_errors 179 [.iconst 0, .goto 4] 184 = true := by decide +kernel
theorem qX12_errors_183 : decB cX12_errors 183 [.iconst 1] 184 = true := by decide +kernel
theorem qX12_errors_184 : decB cX12_errors 184 [.iadd, .istore_n 1, .iinc 2 1, .goto (-142)] 47 = true := by decide +kernel
theorem qX12_errors_192 : decB cX12_errors 192 [.iload_n 1] 193 = true := by decide +kernel
theorem dX12_errors_2 : decode cX12_errors 2 = .ok (.putfield 31, 3) := by decide +kernel
theorem dX12_errors_6 : decode cX12_errors 6 = .ok (.getfield 9, 3) := by decide +kernel
theorem dX12_errors_11 : decode cX12_errors 11 = .ok (.iaload, 1) := by decide +kernel
theorem dX12_errors_13 : decode cX12_errors 13 = .ok (.getfield 9, 3) := by decide +kernel
theorem dX12_errors_18 : decode cX12_errors 18 = .ok (.iaload, 1) := by decide +kernel
theorem dX12_errors_21 : decode cX12_errors 21 = .ok (.getfield 9, 3) := by decide +kernel
theorem dX12_errors_26 : decode cX12_errors 26 = .ok (.iaload, 1) := by decide +kernel
theorem dX12_errors_29 : decode cX12_errors 29 = .ok (.getfield 9, 3) := by decide +kernel
theorem dX12_errors_34 : decode cX12_errors 34 = .ok (.iaload, 1) := by decide +kernel
theorem dX12_errors_36 : decode cX12_errors 36 = .ok (.ifCond .ne 7, 3) := by decide +kernel
theorem dX12_errors_49 : decode cX12_errors 49 = .ok (.getfield 9, 3) := by decide +kernel
theorem dX12_errors_53 : decode cX12_errors 53 = .ok (.iaload, 1) := by decide +kernel
theorem dX12_errors_54 : decode cX12_errors 54 = .ok (.if_icmp .ge 138, 3) := by decide +kernel
theorem dX12_errors_67 : decode cX12_errors 67 = .ok (.invokevirtual 63, 3) := by decide +kernel
theorem dX12_errors_70 : decode cX12_errors 70 = .ok (.invokevirtual 187, 3) := by decide +kernel
theorem dX12_errors_81 : decode cX12_errors 81 = .ok (.getfield 9, 3) := by decide +kernel
theorem dX12_errors_85 : decode cX12_errors 85 = .ok (.iaload, 1) := by decide +kernel
theorem dX12_errors_86 : decode cX12_errors 86 = .ok (.if_icmp .ge 86, 3) := by decide +kernel
theorem dX12_errors_92 : decode cX12_errors 92 = .ok (.invokevirtual 49, 3) := by decide +kernel
theorem dX12_errors_95 : decode cX12_errors 95 = .ok (.ifCond .eq 71, 3) := by decide +kernel
theorem dX12_errors_102 : decode cX12_errors 102 = .ok (.invokevirtual 43, 3) := by decide +kernel
theorem dX12_errors_106 : decode cX12_errors 106 = .ok (.if_icmp .eq 6, 3) := by decide +kernel
theorem dX12_errors_114 : decode cX12_errors 114 = .ok (.ifCond .ne 14, 3) := by decide +kernel
theorem dX12_errors_118 : decode cX12_errors 118 = .ok (.getfield 16, 3) := by decide +kernel
theorem dX12_errors_123 : decode cX12_errors 123 = .ok (.iaload, 1) := by decide +kernel
theorem dX12_errors_125 : decode cX12_errors 125 = .ok (.if_icmp .ne 7, 3) := by decide +kernel
theorem dX12_errors_136 : decode cX12_errors 136 = .ok (.ifCond .ne 24, 3) := by decide +kernel
theorem dX12_errors_145 : decode cX12_errors 145 = .ok (.invokevirtual 43, 3) := by decide +kernel
theorem dX12_errors_148 : decode cX12_errors 148 = .ok (.invokevirtual 60, 3) := by decide +kernel
theorem dX12_errors_154 : decode cX12_errors 154 = .ok (.invokevirtual 63, 3) := by decide +kernel
theorem dX12_errors_157 : decode cX12_errors 157 = .ok (.if_icmp .le 7, 3) := by decide +kernel
theorem dX12_errors_176 : decode cX12_errors 176 = .ok (.if_icmp .ne 7, 3) := by decide +kernel
theorem dX12_errors_193 : decode cX12_errors 193 = .ok (.ireturn, 1) := by decide +kernel
