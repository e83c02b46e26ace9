/-! decoded code of the law (printed by wip/whole/gen96.py) -/
theorem qL_addKind_0 : decB cL_addKind 0 [.aload_n 3, .iconst 0, .aload_n 0, .iload_n 1, .iload_n 2] 5 = true := by decide +kernel
theorem qL_addKind_10 : decB cL_addKind 10 [.goto 11] 21 = true := by decide +kernel
theorem qL_addKind_17 : decB cL_addKind 17 [.astore 4, .iconst 2] 20 = true := by decide +kernel
theorem qL_addKind_21 : decB cL_addKind 21 [.iconst 0] 22 = true := by decide +kernel
theorem dL_addKind_5 : decode cL_addKind 5 = .ok (.invokevirtual 7, 3) := by decide +kernel
theorem dL_addKind_8 : decode cL_addKind 8 = .ok (.i2l, 1) := by decide +kernel
theorem dL_addKind_9 : decode cL_addKind 9 = .ok (.lastore, 1) := by decide +kernel
theorem dL_addKind_16 : decode cL_addKind 16 = .ok (.ireturn, 1) := by decide +kernel
theorem dL_addKind_20 : decode cL_addKind 20 = .ok (.ireturn, 1) := by decide +kernel
theorem dL_addKind_22 : decode cL_addKind 22 = .ok (.ireturn, 1) := by decide +kernel
theorem qL_closeNight_0 : decB cL_closeNight 0 [.aload 4, .iconst 0, .aload_n 0, .iload_n 1, .iload_n 2, .iload_n 3] 7 = true := by decide +kernel
theorem qL_closeNight_12 : decB cL_closeNight 12 [.goto 11] 23 = true := by decide +kernel
theorem qL_closeNight_19 : decB cL_closeNight 19 [.astore 5, .iconst 2] 22 = true := by decide +kernel
theorem qL_closeNight_23 : decB cL_closeNight 23 [.iconst 0] 24 = true := by decide +kernel
theorem dL_closeNight_7 : decode cL_closeNight 7 = .ok (.invokevirtual 17, 3) := by decide +kernel
theorem dL_closeNight_10 : decode cL_closeNight 10 = .ok (.i2l, 1) := by decide +kernel
theorem dL_closeNight_11 : decode cL_closeNight 11 = .ok (.lastore, 1) := by decide +kernel
theorem dL_closeNight_18 : decode cL_closeNight 18 = .ok (.ireturn, 1) := by decide +kernel
theorem dL_closeNight_22 : decode cL_closeNight 22 = .ok (.ireturn, 1) := by decide +kernel
theorem dL_closeNight_24 : decode cL_closeNight 24 = .ok (.ireturn, 1) := by decide +kernel
theorem qL_setExtra_0 : decB cL_setExtra 0 [.aload_n 3, .iconst 0, .aload_n 0, .iload_n 1, .iload_n 2] 5 = true := by decide +kernel
theorem qL_setExtra_10 : decB cL_setExtra 10 [.goto 11] 21 = true := by decide +kernel
theorem qL_setExtra_17 : decB cL_setExtra 17 [.astore 4, .iconst 2] 20 = true := by decide +kernel
theorem qL_setExtra_21 : decB cL_setExtra 21 [.iconst 0] 22 = true := by decide +kernel
theorem dL_setExtra_5 : decode cL_setExtra 5 = .ok (.invokevirtual 23, 3) := by decide +kernel
theorem dL_setExtra_8 : decode cL_setExtra 8 = .ok (.i2l, 1) := by decide +kernel
theorem dL_setExtra_9 : decode cL_setExtra 9 = .ok (.lastore, 1) := by decide +kernel
theorem dL_setExtra_16 : decode cL_setExtra 16 = .ok (.ireturn, 1) := by decide +kernel
theorem dL_setExtra_20 : decode cL_setExtra 20 = .ok (.ireturn, 1) := by decide +kernel
theorem dL_setExtra_22 : decode cL_setExtra 22 = .ok (.ireturn, 1) := by decide +kernel
theorem qL_addSeason_0 : decB cL_addSeason 0 [.aload 5, .iconst 0, .aload_n 0, .iload_n 1, .iload_n 2, .iload_n 3, .iload 4] 9 = true := by decide +kernel
theorem qL_addSeason_14 : decB cL_addSeason 14 [.goto 11] 25 = true := by decide +kernel
theorem qL_addSeason_21 : decB cL_addSeason 21 [.astore 6, .iconst 2] 24 = true := by decide +kernel
theorem qL_addSeason_25 : decB cL_addSeason 25 [.iconst 0] 26 = true := by decide +kernel
theorem dL_addSeason_9 : decode cL_addSeason 9 = .ok (.invokevirtual 26, 3) := by decide +kernel
theorem dL_addSeason_12 : decode cL_addSeason 12 = .ok (.i2l, 1) := by decide +kernel
theorem dL_addSeason_13 : decode cL_addSeason 13 = .ok (.lastore, 1) := by decide +kernel
theorem dL_addSeason_20 : decode cL_addSeason 20 = .ok (.ireturn, 1) := by decide +kernel
theorem dL_addSeason_24 : decode cL_addSeason 24 = .ok (.ireturn, 1) := by decide +kernel
theorem dL_addSeason_26 : decode cL_addSeason 26 = .ok (.ireturn, 1) := by decide +kernel
theorem qL_setWeekend_0 : decB cL_setWeekend 0 [.aload_n 3, .iconst 0, .aload_n 0, .iload_n 1, .iload_n 2] 5 = true := by decide +kernel
theorem qL_setWeekend_10 : decB cL_setWeekend 10 [.goto 7] 17 = true := by decide +kernel
theorem qL_setWeekend_17 : decB cL_setWeekend 17 [.iconst 0] 18 = true := by decide +kernel
theorem dL_setWeekend_5 : decode cL_setWeekend 5 = .ok (.invokevirtual 30, 3) := by decide +kernel
theorem dL_setWeekend_8 : decode cL_setWeekend 8 = .ok (.i2l, 1) := by decide +kernel
theorem dL_setWeekend_9 : decode cL_setWeekend 9 = .ok (.lastore, 1) := by decide +kernel
theorem dL_setWeekend_16 : decode cL_setWeekend 16 = .ok (.ireturn, 1) := by decide +kernel
theorem dL_setWeekend_18 : decode cL_setWeekend 18 = .ok (.ireturn, 1) := by decide +kernel
theorem qL_ask_0 : decB cL_ask 0 [.aload 7, .iconst 0, .aload_n 0, .iload_n 1, .iload_n 2, .iload_n 3, .iload 4, .iload 5, .iload 6] 13 = true := by decide +kernel
theorem qL_ask_18 : decB cL_ask 18 [.goto 15] 33 = true := by decide +kernel
theorem qL_ask_25 : decB cL_ask 25 [.astore 8, .iconst 2] 28 = true := by decide +kernel
theorem qL_ask_29 : decB cL_ask 29 [.astore 8, .iconst 3] 32 = true := by decide +kernel
theorem qL_ask_33 : decB cL_ask 33 [.iconst 0] 34 = true := by decide +kernel
theorem dL_ask_13 : decode cL_ask 13 = .ok (.invokevirtual 33, 3) := by decide +kernel
theorem dL_ask_16 : decode cL_ask 16 = .ok (.i2l, 1) := by decide +kernel
theorem dL_ask_17 : decode cL_ask 17 = .ok (.lastore, 1) := by decide +kernel
theorem dL_ask_24 : decode cL_ask 24 = .ok (.ireturn, 1) := by decide +kernel
theorem dL_ask_28 : decode cL_ask 28 = .ok (.ireturn, 1) := by decide +kernel
theorem dL_ask_32 : decode cL_ask 32 = .ok (.ireturn, 1) := by decide +kernel
theorem dL_ask_34 : decode cL_ask 34 = .ok (.ireturn, 1) := by decide +kernel
theorem qL_group_0 : decB cL_group 0 [.aload 6, .iconst 0, .aload_n 0, .iload_n 1, .iload_n 2, .iload_n 3, .iload 4, .iload 5] 11 = true := by decide +kernel
theorem qL_group_16 : decB cL_group 16 [.goto 15] 31 = true := by decide +kernel
theorem qL_group_23 : decB cL_group 23 [.astore 7, .iconst 2] 26 = true := by decide +kernel
theorem qL_group_27 : decB cL_group 27 [.astore 7, .iconst 3] 30 = true := by decide +kernel
theorem qL_group_31 : decB cL_group 31 [.iconst 0] 32 = true := by decide +kernel
theorem dL_group_11 : decode cL_group 11 = .ok (.invokevirtual 37, 3) := by decide +kernel
theorem dL_group_14 : decode cL_group 14 = .ok (.i2l, 1) := by decide +kernel
theorem dL_group_15 : decode cL_group 15 = .ok (.lastore, 1) := by decide +kernel
theorem dL_group_22 : decode cL_group 22 = .ok (.ireturn, 1) := by decide +kernel
theorem dL_group_26 : decode cL_group 26 = .ok (.ireturn, 1) := by decide +kernel
theorem dL_group_30 : decode cL_group 30 = .ok (.ireturn, 1) := by decide +kernel
theorem dL_group_32 : decode cL_group 32 = .ok (.ireturn, 1) := by decide +kernel
theorem qL_letGo_0 : decB cL_letGo 0 [.aload_n 2, .iconst 0, .aload_n 0, .iload_n 1] 4 = true := by decide +kernel
theorem qL_letGo_9 : decB cL_letGo 9 [.goto 6] 15 = true := by decide +kernel
theorem qL_letGo_15 : decB cL_letGo 15 [.iconst 0] 16 = true := by decide +kernel
theorem dL_letGo_4 : decode cL_letGo 4 = .ok (.invokevirtual 41, 3) := by decide +kernel
theorem dL_letGo_7 : decode cL_letGo 7 = .ok (.i2l, 1) := by decide +kernel
theorem dL_letGo_8 : decode cL_letGo 8 = .ok (.lastore, 1) := by decide +kernel
theorem dL_letGo_14 : decode cL_letGo 14 = .ok (.ireturn, 1) := by decide +kernel
theorem dL_letGo_16 : decode cL_letGo 16 = .ok (.ireturn, 1) := by decide +kernel
theorem qL_waitFor_0 : decB cL_waitFor 0 [.aload 6, .iconst 0, .aload_n 0, .iload_n 1, .iload_n 2, .iload_n 3, .iload 4, .iload 5] 11 = true := by decide +kernel
theorem qL_waitFor_16 : decB cL_waitFor 16 [.goto 15] 31 = true := by decide +kernel
theorem qL_waitFor_23 : decB cL_waitFor 23 [.astore 7, .iconst 2] 26 = true := by decide +kernel
theorem qL_waitFor_27 : decB cL_waitFor 27 [.astore 7, .iconst 3] 30 = true := by decide +kernel
theorem qL_waitFor_31 : decB cL_waitFor 31 [.iconst 0] 32 = true := by decide +kernel
theorem dL_waitFor_11 : decode cL_waitFor 11 = .ok (.invokevirtual 45, 3) := by decide +kernel
theorem dL_waitFor_14 : decode cL_waitFor 14 = .ok (.i2l, 1) := by decide +kernel
theorem dL_waitFor_15 : decode cL_waitFor 15 = .ok (.lastore, 1) := by decide +kernel
theorem dL_waitFor_22 : decode cL_waitFor 22 = .ok (.ireturn, 1) := by decide +kernel
theorem dL_waitFor_26 : decode cL_waitFor 26 = .ok (.ireturn, 1) := by decide +kernel
theorem dL_waitFor_30 : decode cL_waitFor 30 = .ok (.ireturn, 1) := by decide +kernel
theorem dL_waitFor_32 : decode cL_waitFor 32 = .ok (.ireturn, 1) := by decide +kernel
theorem qL_pay_0 : decB cL_pay 0 [.aload_n 2, .iconst 0, .aload_n 0, .iload_n 1] 4 = true := by decide +kernel
theorem qL_pay_9 : decB cL_pay 9 [.goto 9] 18 = true := by decide +kernel
theorem qL_pay_15 : decB cL_pay 15 [.astore_n 3, .iconst 2] 17 = true := by decide +kernel
theorem qL_pay_18 : decB cL_pay 18 [.iconst 0] 19 = true := by decide +kernel
theorem dL_pay_4 : decode cL_pay 4 = .ok (.invokevirtual 48, 3) := by decide +kernel
theorem dL_pay_7 : decode cL_pay 7 = .ok (.i2l, 1) := by decide +kernel
theorem dL_pay_8 : decode cL_pay 8 = .ok (.lastore, 1) := by decide +kernel
theorem dL_pay_14 : decode cL_pay 14 = .ok (.ireturn, 1) := by decide +kernel
theorem dL_pay_17 : decode cL_pay 17 = .ok (.ireturn, 1) := by decide +kernel
theorem dL_pay_19 : decode cL_pay 19 = .ok (.ireturn, 1) := by decide +kernel
theorem qL_cancel_0 : decB cL_cancel 0 [.aload_n 2, .iconst 0, .aload_n 0, .iload_n 1] 4 = true := by decide +kernel
theorem qL_cancel_9 : decB cL_cancel 9 [.goto 9] 18 = true := by decide +kernel
theorem qL_cancel_15 : decB cL_cancel 15 [.astore_n 3, .iconst 2] 17 = true := by decide +kernel
theorem qL_cancel_18 : decB cL_cancel 18 [.iconst 0] 19 = true := by decide +kernel
theorem dL_cancel_4 : decode cL_cancel 4 = .ok (.invokevirtual 51, 3) := by decide +kernel
theorem dL_cancel_7 : decode cL_cancel 7 = .ok (.i2l, 1) := by decide +kernel
theorem dL_cancel_8 : decode cL_cancel 8 = .ok (.lastore, 1) := by decide +kernel
theorem dL_cancel_14 : decode cL_cancel 14 = .ok (.ireturn, 1) := by decide +kernel
theorem dL_cancel_17 : decode cL_cancel 17 = .ok (.ireturn, 1) := by decide +kernel
theorem dL_cancel_19 : decode cL_cancel 19 = .ok (.ireturn, 1) := by decide +kernel
theorem qL_longer_0 : decB cL_longer 0 [.aload_n 3, .iconst 0, .aload_n 0, .iload_n 1, .iload_n 2] 5 = true := by decide +kernel
theorem qL_longer_10 : decB cL_longer 10 [.goto 15] 25 = true := by decide +kernel
theorem qL_longer_17 : decB cL_longer 17 [.astore 4, .iconst 2] 20 = true := by decide +kernel
theorem qL_longer_21 : decB cL_longer 21 [.astore 4, .iconst 3] 24 = true := by decide +kernel
theorem qL_longer_25 : decB cL_longer 25 [.iconst 0] 26 = true := by decide +kernel
theorem dL_longer_5 : decode cL_longer 5 = .ok (.invokevirtual 54, 3) := by decide +kernel
theorem dL_longer_8 : decode cL_longer 8 = .ok (.i2l, 1) := by decide +kernel
theorem dL_longer_9 : decode cL_longer 9 = .ok (.lastore, 1) := by decide +kernel
theorem dL_longer_16 : decode cL_longer 16 = .ok (.ireturn, 1) := by decide +kernel
theorem dL_longer_20 : decode cL_longer 20 = .ok (.ireturn, 1) := by decide +kernel
theorem dL_longer_24 : decode cL_longer 24 = .ok (.ireturn, 1) := by decide +kernel
theorem dL_longer_26 : decode cL_longer 26 = .ok (.ireturn, 1) := by decide +kernel
theorem qL_shorter_0 : decB cL_shorter 0 [.aload_n 3, .iconst 0, .aload_n 0, .iload_n 1, .iload_n 2] 5 = true := by decide +kernel
theorem qL_shorter_10 : decB cL_shorter 10 [.goto 15] 25 = true := by decide +kernel
theorem qL_shorter_17 : decB cL_shorter 17 [.astore 4, .iconst 2] 20 = true := by decide +kernel
theorem qL_shorter_21 : decB cL_shorter 21 [.astore 4, .iconst 3] 24 = true := by decide +kernel
theorem qL_shorter_25 : decB cL_shorter 25 [.iconst 0] 26 = true := by decide +kernel
theorem dL_shorter_5 : decode cL_shorter 5 = .ok (.invokevirtual 57, 3) := by decide +kernel
theorem dL_shorter_8 : decode cL_shorter 8 = .ok (.i2l, 1) := by decide +kernel
theorem dL_shorter_9 : decode cL_shorter 9 = .ok (.lastore, 1) := by decide +kernel
theorem dL_shorter_16 : decode cL_shorter 16 = .ok (.ireturn, 1) := by decide +kernel
theorem dL_shorter_20 : decode cL_shorter 20 = .ok (.ireturn, 1) := by decide +kernel
theorem dL_shorter_24 : decode cL_shorter 24 = .ok (.ireturn, 1) := by decide +kernel
theorem dL_shorter_26 : decode cL_shorter 26 = .ok (.ireturn, 1) := by decide +kernel
theorem qL_passes_0 : decB cL_passes 0 [.aload_n 2, .iconst 0, .aload_n 0, .iload_n 1] 4 = true := by decide +kernel
theorem qL_passes_9 : decB cL_passes 9 [.goto 6] 15 = true := by decide +kernel
theorem qL_passes_15 : decB cL_passes 15 [.iconst 0] 16 = true := by decide +kernel
theorem dL_passes_4 : decode cL_passes 4 = .ok (.invokevirtual 60, 3) := by decide +kernel
theorem dL_passes_7 : decode cL_passes 7 = .ok (.i2l, 1) := by decide +kernel
theorem dL_passes_8 : decode cL_passes 8 = .ok (.lastore, 1) := by decide +kernel
theorem dL_passes_14 : decode cL_passes 14 = .ok (.ireturn, 1) := by decide +kernel
theorem dL_passes_16 : decode cL_passes 16 = .ok (.ireturn, 1) := by decide +kernel
theorem qL_setOdds_0 : decB cL_setOdds 0 [.aload 4, .iconst 0, .aload_n 0, .iload_n 1, .iload_n 2, .iload_n 3] 7 = true := by decide +kernel
theorem qL_setOdds_12 : decB cL_setOdds 12 [.goto 11] 23 = true := by decide +kernel
theorem qL_setOdds_19 : decB cL_setOdds 19 [.astore 5, .iconst 2] 22 = true := by decide +kernel
theorem qL_setOdds_23 : decB cL_setOdds 23 [.iconst 0] 24 = true := by decide +kernel
theorem dL_setOdds_7 : decode cL_setOdds 7 = .ok (.invokevirtual 63, 3) := by decide +kernel
theorem dL_setOdds_10 : decode cL_setOdds 10 = .ok (.i2l, 1) := by decide +kernel
theorem dL_setOdds_11 : decode cL_setOdds 11 = .ok (.lastore, 1) := by decide +kernel
theorem dL_setOdds_18 : decode cL_setOdds 18 = .ok (.ireturn, 1) := by decide +kernel
theorem dL_setOdds_22 : decode cL_setOdds 22 = .ok (.ireturn, 1) := by decide +kernel
theorem dL_setOdds_24 : decode cL_setOdds 24 = .ok (.ireturn, 1) := by decide +kernel
theorem qL_sell_0 : decB cL_sell 0 [.aload_n 3, .iconst 0, .aload_n 0, .iload_n 1, .iload_n 2] 5 = true := by decide +kernel
theorem qL_sell_10 : decB cL_sell 10 [.goto 7] 17 = true := by decide +kernel
theorem qL_sell_17 : decB cL_sell 17 [.iconst 0] 18 = true := by decide +kernel
theorem dL_sell_5 : decode cL_sell 5 = .ok (.invokevirtual 67, 3) := by decide +kernel
theorem dL_sell_8 : decode cL_sell 8 = .ok (.i2l, 1) := by decide +kernel
theorem dL_sell_9 : decode cL_sell 9 = .ok (.lastore, 1) := by decide +kernel
theorem dL_sell_16 : decode cL_sell 16 = .ok (.ireturn, 1) := by decide +kernel
theorem dL_sell_18 : decode cL_sell 18 = .ok (.ireturn, 1) := by decide +kernel
theorem qL_offer_0 : decB cL_offer 0 [.aload_n 2, .iconst 0, .aload_n 0, .iload_n 1] 4 = true := by decide +kernel
theorem qL_offer_9 : decB cL_offer 9 [.goto 9] 18 = true := by decide +kernel
theorem qL_offer_15 : decB cL_offer 15 [.astore_n 3, .iconst 2] 17 = true := by decide +kernel
theorem qL_offer_18 : decB cL_offer 18 [.iconst 0] 19 = true := by decide +kernel
theorem dL_offer_4 : decode cL_offer 4 = .ok (.invokevirtual 70, 3) := by decide +kernel
theorem dL_offer_7 : decode cL_offer 7 = .ok (.i2l, 1) := by decide +kernel
theorem dL_offer_8 : decode cL_offer 8 = .ok (.lastore, 1) := by decide +kernel
theorem dL_offer_14 : decode cL_offer 14 = .ok (.ireturn, 1) := by decide +kernel
theorem dL_offer_17 : decode cL_offer 17 = .ok (.ireturn, 1) := by decide +kernel
theorem dL_offer_19 : decode cL_offer 19 = .ok (.ireturn, 1) := by decide +kernel
theorem qL_dayOfWeek_0 : decB cL_dayOfWeek 0 [.aload_n 2, .iconst 0, .aload_n 0, .iload_n 1] 4 = true := by decide +kernel
theorem qL_dayOfWeek_9 : decB cL_dayOfWeek 9 [.goto 6] 15 = true := by decide +kernel
theorem qL_dayOfWeek_15 : decB cL_dayOfWeek 15 [.iconst 0] 16 = true := by decide +kernel
theorem dL_dayOfWeek_4 : decode cL_dayOfWeek 4 = .ok (.invokevirtual 73, 3) := by decide +kernel
theorem dL_dayOfWeek_7 : decode cL_dayOfWeek 7 = .ok (.i2l, 1) := by decide +kernel
theorem dL_dayOfWeek_8 : decode cL_dayOfWeek 8 = .ok (.lastore, 1) := by decide +kernel
theorem dL_dayOfWeek_14 : decode cL_dayOfWeek 14 = .ok (.ireturn, 1) := by decide +kernel
theorem dL_dayOfWeek_16 : decode cL_dayOfWeek 16 = .ok (.ireturn, 1) := by decide +kernel
theorem qL_addDays_0 : decB cL_addDays 0 [.aload_n 3, .iconst 0, .aload_n 0, .iload_n 1, .iload_n 2] 5 = true := by decide +kernel
theorem qL_addDays_10 : decB cL_addDays 10 [.goto 7] 17 = true := by decide +kernel
theorem qL_addDays_17 : decB cL_addDays 17 [.iconst 0] 18 = true := by decide +kernel
theorem dL_addDays_5 : decode cL_addDays 5 = .ok (.invokevirtual 76, 3) := by decide +kernel
theorem dL_addDays_8 : decode cL_addDays 8 = .ok (.i2l, 1) := by decide +kernel
theorem dL_addDays_9 : decode cL_addDays 9 = .ok (.lastore, 1) := by decide +kernel
theorem dL_addDays_16 : decode cL_addDays 16 = .ok (.ireturn, 1) := by decide +kernel
theorem dL_addDays_18 : decode cL_addDays 18 = .ok (.ireturn, 1) := by decide +kernel
theorem qL_count_0 : decB cL_count 0 [.aload_n 3, .iconst 0, .aload_n 0, .iload_n 1, .iload_n 2] 5 = true := by decide +kernel
theorem qL_count_10 : decB cL_count 10 [.goto 11] 21 = true := by decide +kernel
theorem qL_count_17 : decB cL_count 17 [.astore 4, .iconst 2] 20 = true := by decide +kernel
theorem qL_count_21 : decB cL_count 21 [.iconst 0] 22 = true := by decide +kernel
theorem dL_count_5 : decode cL_count 5 = .ok (.invokevirtual 79, 3) := by decide +kernel
theorem dL_count_8 : decode cL_count 8 = .ok (.i2l, 1) := by decide +kernel
theorem dL_count_9 : decode cL_count 9 = .ok (.lastore, 1) := by decide +kernel
theorem dL_count_16 : decode cL_count 16 = .ok (.ireturn, 1) := by decide +kernel
theorem dL_count_20 : decode cL_count 20 = .ok (.ireturn, 1) := by decide +kernel
theorem dL_count_22 : decode cL_count 22 = .ok (.ireturn, 1) := by decide +kernel
theorem qL_greatest_0 : decB cL_greatest 0 [.aload 4, .iconst 0, .aload_n 0, .iload_n 1, .iload_n 2, .iload_n 3] 7 = true := by decide +kernel
theorem qL_greatest_12 : decB cL_greatest 12 [.goto 11] 23 = true := by decide +kernel
theorem qL_greatest_19 : decB cL_greatest 19 [.astore 5, .iconst 2] 22 = true := by decide +kernel
theorem qL_greatest_23 : decB cL_greatest 23 [.iconst 0] 24 = true := by decide +kernel
theorem dL_greatest_7 : decode cL_greatest 7 = .ok (.invokevirtual 82, 3) := by decide +kernel
theorem dL_greatest_10 : decode cL_greatest 10 = .ok (.i2l, 1) := by decide +kernel
theorem dL_greatest_11 : decode cL_greatest 11 = .ok (.lastore, 1) := by decide +kernel
theorem dL_greatest_18 : decode cL_greatest 18 = .ok (.ireturn, 1) := by decide +kernel
theorem dL_greatest_22 : decode cL_greatest 22 = .ok (.ireturn, 1) := by decide +kernel
theorem dL_greatest_24 : decode cL_greatest 24 = .ok (.ireturn, 1) := by decide +kernel
theorem qL_needed_0 : decB cL_needed 0 [.aload_n 2, .iconst 0, .aload_n 0, .iload_n 1] 4 = true := by decide +kernel
theorem qL_needed_9 : decB cL_needed 9 [.goto 6] 15 = true := by decide +kernel
theorem qL_needed_15 : decB cL_needed 15 [.iconst 0] 16 = true := by decide +kernel
theorem dL_needed_4 : decode cL_needed 4 = .ok (.invokevirtual 85, 3) := by decide +kernel
theorem dL_needed_7 : decode cL_needed 7 = .ok (.i2l, 1) := by decide +kernel
theorem dL_needed_8 : decode cL_needed 8 = .ok (.lastore, 1) := by decide +kernel
theorem dL_needed_14 : decode cL_needed 14 = .ok (.ireturn, 1) := by decide +kernel
theorem dL_needed_16 : decode cL_needed 16 = .ok (.ireturn, 1) := by decide +kernel
theorem qL_stayAt_0 : decB cL_stayAt 0 [.aload_n 3, .iconst 0, .aload_n 0, .iload_n 1, .iload_n 2] 5 = true := by decide +kernel
theorem qL_stayAt_10 : decB cL_stayAt 10 [.goto 11] 21 = true := by decide +kernel
theorem qL_stayAt_17 : decB cL_stayAt 17 [.astore 4, .iconst 2] 20 = true := by decide +kernel
theorem qL_stayAt_21 : decB cL_stayAt 21 [.iconst 0] 22 = true := by decide +kernel
theorem dL_stayAt_5 : decode cL_stayAt 5 = .ok (.invokevirtual 88, 3) := by decide +kernel
theorem dL_stayAt_8 : decode cL_stayAt 8 = .ok (.i2l, 1) := by decide +kernel
theorem dL_stayAt_9 : decode cL_stayAt 9 = .ok (.lastore, 1) := by decide +kernel
theorem dL_stayAt_16 : decode cL_stayAt 16 = .ok (.ireturn, 1) := by decide +kernel
theorem dL_stayAt_20 : decode cL_stayAt 20 = .ok (.ireturn, 1) := by decide +kernel
theorem dL_stayAt_22 : decode cL_stayAt 22 = .ok (.ireturn, 1) := by decide +kernel
theorem qL_roomOf_0 : decB cL_roomOf 0 [.aload_n 2, .iconst 0, .aload_n 0, .iload_n 1] 4 = true := by decide +kernel
theorem qL_roomOf_9 : decB cL_roomOf 9 [.goto 9] 18 = true := by decide +kernel
theorem qL_roomOf_15 : decB cL_roomOf 15 [.astore_n 3, .iconst 2] 17 = true := by decide +kernel
theorem qL_roomOf_18 : decB cL_roomOf 18 [.iconst 0] 19 = true := by decide +kernel
theorem dL_roomOf_4 : decode cL_roomOf 4 = .ok (.invokevirtual 91, 3) := by decide +kernel
theorem dL_roomOf_7 : decode cL_roomOf 7 = .ok (.i2l, 1) := by decide +kernel
theorem dL_roomOf_8 : decode cL_roomOf 8 = .ok (.lastore, 1) := by decide +kernel
theorem dL_roomOf_14 : decode cL_roomOf 14 = .ok (.ireturn, 1) := by decide +kernel
theorem dL_roomOf_17 : decode cL_roomOf 17 = .ok (.ireturn, 1) := by decide +kernel
theorem dL_roomOf_19 : decode cL_roomOf 19 = .ok (.ireturn, 1) := by decide +kernel
theorem qL_priceOf_0 : decB cL_priceOf 0 [.aload_n 3, .iconst 0, .aload_n 0, .iload_n 1, .iload_n 2] 5 = true := by decide +kernel
theorem qL_priceOf_10 : decB cL_priceOf 10 [.goto 11] 21 = true := by decide +kernel
theorem qL_priceOf_17 : decB cL_priceOf 17 [.astore 4, .iconst 2] 20 = true := by decide +kernel
theorem qL_priceOf_21 : decB cL_priceOf 21 [.iconst 0] 22 = true := by decide +kernel
theorem dL_priceOf_5 : decode cL_priceOf 5 = .ok (.invokevirtual 94, 3) := by decide +kernel
theorem dL_priceOf_8 : decode cL_priceOf 8 = .ok (.i2l, 1) := by decide +kernel
theorem dL_priceOf_9 : decode cL_priceOf 9 = .ok (.lastore, 1) := by decide +kernel
theorem dL_priceOf_16 : decode cL_priceOf 16 = .ok (.ireturn, 1) := by decide +kernel
theorem dL_priceOf_20 : decode cL_priceOf 20 = .ok (.ireturn, 1) := by decide +kernel
theorem dL_priceOf_22 : decode cL_priceOf 22 = .ok (.ireturn, 1) := by decide +kernel
theorem qL_refund_0 : decB cL_refund 0 [.aload_n 2, .iconst 0, .aload_n 0, .iload_n 1] 4 = true := by decide +kernel
theorem qL_refund_9 : decB cL_refund 9 [.goto 6] 15 = true := by decide +kernel
theorem qL_refund_15 : decB cL_refund 15 [.iconst 0] 16 = true := by decide +kernel
theorem dL_refund_4 : decode cL_refund 4 = .ok (.invokevirtual 97, 3) := by decide +kernel
theorem dL_refund_7 : decode cL_refund 7 = .ok (.i2l, 1) := by decide +kernel
theorem dL_refund_8 : decode cL_refund 8 = .ok (.lastore, 1) := by decide +kernel
theorem dL_refund_14 : decode cL_refund 14 = .ok (.ireturn, 1) := by decide +kernel
theorem dL_refund_16 : decode cL_refund 16 = .ok (.ireturn, 1) := by decide +kernel
theorem qL_book_0 : decB cL_book 0 [.aload_n 2, .iconst 0, .aload_n 0, .iload_n 1] 4 = true := by decide +kernel
theorem qL_book_8 : decB cL_book 8 [.goto 6] 14 = true := by decide +kernel
theorem qL_book_14 : decB cL_book 14 [.iconst 0] 15 = true := by decide +kernel
theorem dL_book_4 : decode cL_book 4 = .ok (.invokevirtual 100, 3) := by decide +kernel
theorem dL_book_7 : decode cL_book 7 = .ok (.lastore, 1) := by decide +kernel
theorem dL_book_13 : decode cL_book 13 = .ok (.ireturn, 1) := by decide +kernel
theorem dL_book_15 : decode cL_book 15 = .ok (.ireturn, 1) := by decide +kernel
theorem qL_awaited_0 : decB cL_awaited 0 [.aload_n 3, .iconst 0, .aload_n 0, .iload_n 1, .iload_n 2] 5 = true := by decide +kernel
theorem qL_awaited_9 : decB cL_awaited 9 [.goto 7] 16 = true := by decide +kernel
theorem qL_awaited_16 : decB cL_awaited 16 [.iconst 0] 17 = true := by decide +kernel
theorem dL_awaited_5 : decode cL_awaited 5 = .ok (.invokevirtual 104, 3) := by decide +kernel
theorem dL_awaited_8 : decode cL_awaited 8 = .ok (.lastore, 1) := by decide +kernel
theorem dL_awaited_15 : decode cL_awaited 15 = .ok (.ireturn, 1) := by decide +kernel
theorem dL_awaited_17 : decode cL_awaited 17 = .ok (.ireturn, 1) := by decide +kernel
theorem qL_limit_0 : decB cL_limit 0 [.aload_n 3, .iconst 0, .aload_n 0, .iload_n 1, .iload_n 2] 5 = true := by decide +kernel
theorem qL_limit_10 : decB cL_limit 10 [.goto 7] 17 = true := by decide +kernel
theorem qL_limit_17 : decB cL_limit 17 [.iconst 0] 18 = true := by decide +kernel
theorem dL_limit_5 : decode cL_limit 5 = .ok (.invokevirtual 108, 3) := by decide +kernel
theorem dL_limit_8 : decode cL_limit 8 = .ok (.i2l, 1) := by decide +kernel
theorem dL_limit_9 : decode cL_limit 9 = .ok (.lastore, 1) := by decide +kernel
theorem dL_limit_16 : decode cL_limit 16 = .ok (.ireturn, 1) := by decide +kernel
theorem dL_limit_18 : decode cL_limit 18 = .ok (.ireturn, 1) := by decide +kernel
theorem qL_saleAt_0 : decB cL_saleAt 0 [.aload_n 2, .iconst 0, .aload_n 0, .iload_n 1] 4 = true := by decide +kernel
theorem qL_saleAt_9 : decB cL_saleAt 9 [.goto 9] 18 = true := by decide +kernel
theorem qL_saleAt_15 : decB cL_saleAt 15 [.astore_n 3, .iconst 2] 17 = true := by decide +kernel
theorem qL_saleAt_18 : decB cL_saleAt 18 [.iconst 0] 19 = true := by decide +kernel
theorem dL_saleAt_4 : decode cL_saleAt 4 = .ok (.invokevirtual 111, 3) := by decide +kernel
theorem dL_saleAt_7 : decode cL_saleAt 7 = .ok (.i2l, 1) := by decide +kernel
theorem dL_saleAt_8 : decode cL_saleAt 8 = .ok (.lastore, 1) := by decide +kernel
theorem dL_saleAt_14 : decode cL_saleAt 14 = .ok (.ireturn, 1) := by decide +kernel
theorem dL_saleAt_17 : decode cL_saleAt 17 = .ok (.ireturn, 1) := by decide +kernel
theorem dL_saleAt_19 : decode cL_saleAt 19 = .ok (.ireturn, 1) := by decide +kernel
theorem qL_moreToSell_0 : decB cL_moreToSell 0 [.aload 4, .iconst 0, .aload_n 0, .iload_n 1, .iload_n 2, .iload_n 3] 7 = true := by decide +kernel
theorem qL_moreToSell_12 : decB cL_moreToSell 12 [.goto 11] 23 = true := by decide +kernel
theorem qL_moreToSell_19 : decB cL_moreToSell 19 [.astore 5, .iconst 2] 22 = true := by decide +kernel
theorem qL_moreToSell_23 : decB cL_moreToSell 23 [.iconst 0] 24 = true := by decide +kernel
theorem dL_moreToSell_7 : decode cL_moreToSell 7 = .ok (.invokevirtual 114, 3) := by decide +kernel
theorem dL_moreToSell_10 : decode cL_moreToSell 10 = .ok (.i2l, 1) := by decide +kernel
theorem dL_moreToSell_11 : decode cL_moreToSell 11 = .ok (.lastore, 1) := by decide +kernel
theorem dL_moreToSell_18 : decode cL_moreToSell 18 = .ok (.ireturn, 1) := by decide +kernel
theorem dL_moreToSell_22 : decode cL_moreToSell 22 = .ok (.ireturn, 1) := by decide +kernel
theorem dL_moreToSell_24 : decode cL_moreToSell 24 = .ok (.ireturn, 1) := by decide +kernel
theorem qL_minutes_0 : decB cL_minutes 0 [.aload_n 2, .iconst 0, .aload_n 0, .iload_n 1] 4 = true := by decide +kernel
theorem qL_minutes_9 : decB cL_minutes 9 [.goto 6] 15 = true := by decide +kernel
theorem qL_minutes_15 : decB cL_minutes 15 [.iconst 0] 16 = true := by decide +kernel
theorem dL_minutes_4 : decode cL_minutes 4 = .ok (.invokevirtual 117, 3) := by decide +kernel
theorem dL_minutes_7 : decode cL_minutes 7 = .ok (.i2l, 1) := by decide +kernel
theorem dL_minutes_8 : decode cL_minutes 8 = .ok (.lastore, 1) := by decide +kernel
theorem dL_minutes_14 : decode cL_minutes 14 = .ok (.ireturn, 1) := by decide +kernel
theorem dL_minutes_16 : decode cL_minutes 16 = .ok (.ireturn, 1) := by decide +kernel
theorem qL_rounds_0 : decB cL_rounds 0 [.aload_n 2, .iconst 0, .aload_n 0, .iload_n 1] 4 = true := by decide +kernel
theorem qL_rounds_9 : decB cL_rounds 9 [.goto 6] 15 = true := by decide +kernel
theorem qL_rounds_15 : decB cL_rounds 15 [.iconst 0] 16 = true := by decide +kernel
theorem dL_rounds_4 : decode cL_rounds 4 = .ok (.invokevirtual 120, 3) := by decide +kernel
theorem dL_rounds_7 : decode cL_rounds 7 = .ok (.i2l, 1) := by decide +kernel
theorem dL_rounds_8 : decode cL_rounds 8 = .ok (.lastore, 1) := by decide +kernel
theorem dL_rounds_14 : decode cL_rounds 14 = .ok (.ireturn, 1) := by decide +kernel
theorem dL_rounds_16 : decode cL_rounds 16 = .ok (.ireturn, 1) := by decide +kernel
theorem qL_monthNights_0 : decB cL_monthNights 0 [.aload_n 2, .iconst 0, .aload_n 0, .iload_n 1] 4 = true := by decide +kernel
theorem qL_monthNights_9 : decB cL_monthNights 9 [.goto 6] 15 = true := by decide +kernel
theorem qL_monthNights_15 : decB cL_monthNights 15 [.iconst 0] 16 = true := by decide +kernel
theorem dL_monthNights_4 : decode cL_monthNights 4 = .ok (.invokevirtual 123, 3) := by decide +kernel
theorem dL_monthNights_7 : decode cL_monthNights 7 = .ok (.i2l, 1) := by decide +kernel
theorem dL_monthNights_8 : decode cL_monthNights 8 = .ok (.lastore, 1) := by decide +kernel
theorem dL_monthNights_14 : decode cL_monthNights 14 = .ok (.ireturn, 1) := by decide +kernel
theorem dL_monthNights_16 : decode cL_monthNights 16 = .ok (.ireturn, 1) := by decide +kernel
theorem qL_monthIncome_0 : decB cL_monthIncome 0 [.aload_n 2, .iconst 0, .aload_n 0, .iload_n 1] 4 = true := by decide +kernel
theorem qL_monthIncome_8 : decB cL_monthIncome 8 [.goto 6] 14 = true := by decide +kernel
theorem qL_monthIncome_14 : decB cL_monthIncome 14 [.iconst 0] 15 = true := by decide +kernel
theorem dL_monthIncome_4 : decode cL_monthIncome 4 = .ok (.invokevirtual 126, 3) := by decide +kernel
theorem dL_monthIncome_7 : decode cL_monthIncome 7 = .ok (.lastore, 1) := by decide +kernel
theorem dL_monthIncome_13 : decode cL_monthIncome 13 = .ok (.ireturn, 1) := by decide +kernel
theorem dL_monthIncome_15 : decode cL_monthIncome 15 = .ok (.ireturn, 1) := by decide +kernel
theorem qL_share_0 : decB cL_share 0 [.aload_n 3, .iconst 0, .aload_n 0, .iload_n 1, .iload_n 2] 5 = true := by decide +kernel
theorem qL_share_10 : decB cL_share 10 [.goto 11] 21 = true := by decide +kernel
theorem qL_share_17 : decB cL_share 17 [.astore 4, .iconst 2] 20 = true := by decide +kernel
theorem qL_share_21 : decB cL_share 21 [.iconst 0] 22 = true := by decide +kernel
theorem dL_share_5 : decode cL_share 5 = .ok (.invokevirtual 129, 3) := by decide +kernel
theorem dL_share_8 : decode cL_share 8 = .ok (.f2d, 1) := by decide +kernel
theorem dL_share_9 : decode cL_share 9 = .ok (.dastore, 1) := by decide +kernel
theorem dL_share_16 : decode cL_share 16 = .ok (.ireturn, 1) := by decide +kernel
theorem dL_share_20 : decode cL_share 20 = .ok (.ireturn, 1) := by decide +kernel
theorem dL_share_22 : decode cL_share 22 = .ok (.ireturn, 1) := by decide +kernel
theorem qL_law_3 : decB cL_law 3 [.dup] 4 = true := by decide +kernel
theorem qL_law_7 : decB cL_law 7 [.astore_n 1] 8 = true := by decide +kernel
theorem qL_law_11 : decB cL_law 11 [.dup] 12 = true := by decide +kernel
theorem qL_law_15 : decB cL_law 15 [.astore_n 2, .iconst 1] 17 = true := by decide +kernel
theorem qL_law_19 : decB cL_law 19 [.astore_n 3, .iconst 1] 21 = true := by decide +kernel
theorem qL_law_23 : decB cL_law 23 [.astore 4, .iconst 0, .istore 5] 28 = true := by decide +kernel
theorem qL_law_28 : decB cL_law 28 [.iload 5, .aload_n 0] 31 = true := by decide +kernel
theorem qL_law_32 : decB cL_law 32 [.bipush 7, .isub] 35 = true := by decide +kernel
theorem qL_law_38 : decB cL_law 38 [.aload_n 0, .iload 5] 41 = true := by decide +kernel
theorem qL_law_42 : decB cL_law 42 [.bipush 63] 44 = true := by decide +kernel
theorem qL_law_236 : decB cL_law 236 [.aload_n 1, .aload_n 0, .iload 5, .iconst 1, .iadd] 242 = true := by decide +kernel
theorem qL_law_243 : decB cL_law 243 [.aload_n 0, .iload 5, .iconst 2, .iadd] 248 = true := by decide +kernel
theorem qL_law_249 : decB cL_law 249 [.aload_n 3] 250 = true := by decide +kernel
theorem qL_law_253 : decB cL_law 253 [.istore 6, .aload_n 2, .aload_n 0, .iload 5, .iconst 1, .iadd] 261 = true := by decide +kernel
theorem qL_law_262 : decB cL_law 262 [.aload_n 0, .iload 5, .iconst 2, .iadd] 267 = true := by decide +kernel
theorem qL_law_271 : decB cL_law 271 [.istore 7, .aload_n 2] 274 = true := by decide +kernel
theorem qL_law_277 : decB cL_law 277 [.iload 6] 279 = true := by decide +kernel
theorem qL_law_282 : decB cL_law 282 [.iconst 0] 283 = true := by decide +kernel
theorem qL_law_284 : decB cL_law 284 [.iload 6] 286 = true := by decide +kernel
theorem qL_law_289 : decB cL_law 289 [.aload_n 3, .iconst 0] 291 = true := by decide +kernel
theorem qL_law_292 : decB cL_law 292 [.iload 7] 294 = true := by decide +kernel
theorem qL_law_299 : decB cL_law 299 [.iconst 0] 300 = true := by decide +kernel
theorem qL_law_301 : decB cL_law 301 [.goto 2564] 2865 = true := by decide +kernel
theorem qL_law_304 : decB cL_law 304 [.aload_n 1, .aload_n 0, .iload 5, .iconst 1, .iadd] 310 = true := by decide +kernel
theorem qL_law_311 : decB cL_law 311 [.aload_n 0, .iload 5, .iconst 2, .iadd] 316 = true := by decide +kernel
theorem qL_law_317 : decB cL_law 317 [.aload_n 0, .iload 5, .iconst 3, .iadd] 322 = true := by decide +kernel
theorem qL_law_326 : decB cL_law 326 [.iconst 1, .goto 4] 331 = true := by decide +kernel
theorem qL_law_330 : decB cL_law 330 [.iconst 0] 331 = true := by decide +kernel
theorem qL_law_331 : decB cL_law 331 [.aload_n 3] 332 = true := by decide +kernel
theorem qL_law_335 : decB cL_law 335 [.istore 6, .aload_n 2, .aload_n 0, .iload 5, .iconst 1, .iadd] 343 = true := by decide +kernel
theorem qL_law_344 : decB cL_law 344 [.aload_n 0, .iload 5, .iconst 2, .iadd] 349 = true := by decide +kernel
theorem qL_law_350 : decB cL_law 350 [.aload_n 0, .iload 5, .iconst 3, .iadd] 355 = true := by decide +kernel
theorem qL_law_359 : decB cL_law 359 [.iconst 1, .goto 4] 364 = true := by decide +kernel
theorem qL_law_363 : decB cL_law 363 [.iconst 0] 364 = true := by decide +kernel
theorem qL_law_367 : decB cL_law 367 [.istore 7, .aload_n 2] 370 = true := by decide +kernel
theorem qL_law_373 : decB cL_law 373 [.iload 6] 375 = true := by decide +kernel
theorem qL_law_378 : decB cL_law 378 [.iconst 0] 379 = true := by decide +kernel
theorem qL_law_380 : decB cL_law 380 [.iload 6] 382 = true := by decide +kernel
theorem qL_law_385 : decB cL_law 385 [.aload_n 3, .iconst 0] 387 = true := by decide +kernel
theorem qL_law_388 : decB cL_law 388 [.iload 7] 390 = true := by decide +kernel
theorem qL_law_395 : decB cL_law 395 [.iconst 0] 396 = true := by decide +kernel
theorem qL_law_397 : decB cL_law 397 [.goto 2468] 2865 = true := by decide +kernel
theorem qL_law_400 : decB cL_law 400 [.aload_n 1, .aload_n 0, .iload 5, .iconst 1, .iadd] 406 = true := by decide +kernel
theorem qL_law_407 : decB cL_law 407 [.aload_n 0, .iload 5, .iconst 2, .iadd] 412 = true := by decide +kernel
theorem qL_law_413 : decB cL_law 413 [.aload_n 3] 414 = true := by decide +kernel
theorem qL_law_417 : decB cL_law 417 [.istore 6, .aload_n 2, .aload_n 0, .iload 5, .iconst 1, .iadd] 425 = true := by decide +kernel
theorem qL_law_426 : decB cL_law 426 [.aload_n 0, .iload 5, .iconst 2, .iadd] 431 = true := by decide +kernel
theorem qL_law_435 : decB cL_law 435 [.istore 7, .aload_n 2] 438 = true := by decide +kernel
theorem qL_law_441 : decB cL_law 441 [.iload 6] 443 = true := by decide +kernel
theorem qL_law_446 : decB cL_law 446 [.iconst 0] 447 = true := by decide +kernel
theorem qL_law_448 : decB cL_law 448 [.iload 6] 450 = true := by decide +kernel
theorem qL_law_453 : decB cL_law 453 [.aload_n 3, .iconst 0] 455 = true := by decide +kernel
theorem qL_law_456 : decB cL_law 456 [.iload 7] 458 = true := by decide +kernel
theorem qL_law_463 : decB cL_law 463 [.iconst 0] 464 = true := by decide +kernel
theorem qL_law_465 : decB cL_law 465 [.goto 2400] 2865 = true := by decide +kernel
theorem qL_law_468 : decB cL_law 468 [.aload_n 1, .aload_n 0, .iload 5, .iconst 1, .iadd] 474 = true := by decide +kernel
theorem qL_law_475 : decB cL_law 475 [.aload_n 0, .iload 5, .iconst 2, .iadd] 480 = true := by decide +kernel
theorem qL_law_481 : decB cL_law 481 [.aload_n 0, .iload 5, .iconst 3, .iadd] 486 = true := by decide +kernel
theorem qL_law_487 : decB cL_law 487 [.aload_n 0, .iload 5, .iconst 4, .iadd] 492 = true := by decide +kernel
theorem qL_law_493 : decB cL_law 493 [.aload_n 3] 494 = true := by decide +kernel
theorem qL_law_497 : decB cL_law 497 [.istore 6, .aload_n 2, .aload_n 0, .iload 5, .iconst 1, .iadd] 505 = true := by decide +kernel
theorem qL_law_506 : decB cL_law 506 [.aload_n 0, .iload 5, .iconst 2, .iadd] 511 = true := by decide +kernel
theorem qL_law_512 : decB cL_law 512 [.aload_n 0, .iload 5, .iconst 3, .iadd] 517 = true := by decide +kernel
theorem qL_law_518 : decB cL_law 518 [.aload_n 0, .iload 5, .iconst 4, .iadd] 523 = true := by decide +kernel
theorem qL_law_527 : decB cL_law 527 [.istore 7, .aload_n 2] 530 = true := by decide +kernel
theorem qL_law_533 : decB cL_law 533 [.iload 6] 535 = true := by decide +kernel
theorem qL_law_538 : decB cL_law 538 [.iconst 0] 539 = true := by decide +kernel
theorem qL_law_540 : decB cL_law 540 [.iload 6] 542 = true := by decide +kernel
theorem qL_law_545 : decB cL_law 545 [.aload_n 3, .iconst 0] 547 = true := by decide +kernel
theorem qL_law_548 : decB cL_law 548 [.iload 7] 550 = true := by decide +kernel
theorem qL_law_555 : decB cL_law 555 [.iconst 0] 556 = true := by decide +kernel
theorem qL_law_557 : decB cL_law 557 [.goto 2308] 2865 = true := by decide +kernel
theorem qL_law_560 : decB cL_law 560 [.aload_n 1, .aload_n 0, .iload 5, .iconst 1, .iadd] 566 = true := by decide +kernel
theorem qL_law_567 : decB cL_law 567 [.aload_n 0, .iload 5, .iconst 2, .iadd] 572 = true := by decide +kernel
theorem qL_law_573 : decB cL_law 573 [.aload_n 3] 574 = true := by decide +kernel
theorem qL_law_577 : decB cL_law 577 [.istore 6, .aload_n 2, .aload_n 0, .iload 5, .iconst 1, .iadd] 585 = true := by decide +kernel
theorem qL_law_586 : decB cL_law 586 [.aload_n 0, .iload 5, .iconst 2, .iadd] 591 = true := by decide +kernel
theorem qL_law_595 : decB cL_law 595 [.istore 7, .aload_n 2] 598 = true := by decide +kernel
theorem qL_law_601 : decB cL_law 601 [.iload 6] 603 = true := by decide +kernel
theorem qL_law_606 : decB cL_law 606 [.iconst 0] 607 = true := by decide +kernel
theorem qL_law_608 : decB cL_law 608 [.iload 6] 610 = true := by decide +kernel
theorem qL_law_613 : decB cL_law 613 [.aload_n 3, .iconst 0] 615 = true := by decide +kernel
theorem qL_law_616 : decB cL_law 616 [.iload 7] 618 = true := by decide +kernel
theorem qL_law_623 : decB cL_law 623 [.iconst 0] 624 = true := by decide +kernel
theorem qL_law_625 : decB cL_law 625 [.goto 2240] 2865 = true := by decide +kernel
theorem qL_law_628 : decB cL_law 628 [.aload_n 1, .aload_n 0, .iload 5, .iconst 1, .iadd] 634 = true := by decide +kernel
theorem qL_law_635 : decB cL_law 635 [.aload_n 0, .iload 5, .iconst 2, .iadd] 640 = true := by decide +kernel
theorem qL_law_641 : decB cL_law 641 [.aload_n 0, .iload 5, .iconst 3, .iadd] 646 = true := by decide +kernel
theorem qL_law_647 : decB cL_law 647 [.aload_n 0, .iload 5, .iconst 4, .iadd] 652 = true := by decide +kernel
theorem qL_law_653 : decB cL_law 653 [.aload_n 0, .iload 5, .iconst 5, .iadd] 658 = true := by decide +kernel
theorem qL_law_659 : decB cL_law 659 [.aload_n 0, .iload 5, .bipush 6, .iadd] 665 = true := by decide +kernel
theorem qL_law_666 : decB cL_law 666 [.aload_n 3] 667 = true := by decide +kernel
theorem qL_law_670 : decB cL_law 670 [.istore 6, .aload_n 2, .aload_n 0, .iload 5, .iconst 1, .iadd] 678 = true := by decide +kernel
theorem qL_law_679 : decB cL_law 679 [.aload_n 0, .iload 5, .iconst 2, .iadd] 684 = true := by decide +kernel
theorem qL_law_685 : decB cL_law 685 [.aload_n 0, .iload 5, .iconst 3, .iadd] 690 = true := by decide +kernel
theorem qL_law_691 : decB cL_law 691 [.aload_n 0, .iload 5, .iconst 4, .iadd] 696 = true := by decide +kernel
theorem qL_law_697 : decB cL_law 697 [.aload_n 0, .iload 5, .iconst 5, .iadd] 702 = true := by decide +kernel
theorem qL_law_703 : decB cL_law 703 [.aload_n 0, .iload 5, .bipush 6, .iadd] 709 = true := by decide +kernel
theorem qL_law_713 : decB cL_law 713 [.istore 7, .aload_n 2] 716 = true := by decide +kernel
theorem qL_law_719 : decB cL_law 719 [.iload 6] 721 = true := by decide +kernel
theorem qL_law_724 : decB cL_law 724 [.iconst 0] 725 = true := by decide +kernel
theorem qL_law_726 : decB cL_law 726 [.iload 6] 728 = true := by decide +kernel
theorem qL_law_731 : decB cL_law 731 [.aload_n 3, .iconst 0] 733 = true := by decide +kernel
theorem qL_law_734 : decB cL_law 734 [.iload 7] 736 = true := by decide +kernel
theorem qL_law_741 : decB cL_law 741 [.iconst 0] 742 = true := by decide +kernel
theorem qL_law_743 : decB cL_law 743 [.goto 2122] 2865 = true := by decide +kernel
theorem qL_law_746 : decB cL_law 746 [.aload_n 1, .aload_n 0, .iload 5, .iconst 1, .iadd] 752 = true := by decide +kernel
theorem qL_law_753 : decB cL_law 753 [.aload_n 0, .iload 5, .iconst 2, .iadd] 758 = true := by decide +kernel
theorem qL_law_759 : decB cL_law 759 [.aload_n 0, .iload 5, .iconst 3, .iadd] 764 = true := by decide +kernel
theorem qL_law_765 : decB cL_law 765 [.aload_n 0, .iload 5, .iconst 4, .iadd] 770 = true := by decide +kernel
theorem qL_law_771 : decB cL_law 771 [.aload_n 0, .iload 5, .iconst 5, .iadd] 776 = true := by decide +kernel
theorem qL_law_777 : decB cL_law 777 [.aload_n 3] 778 = true := by decide +kernel
theorem qL_law_781 : decB cL_law 781 [.istore 6, .aload_n 2, .aload_n 0, .iload 5, .iconst 1, .iadd] 789 = true := by decide +kernel
theorem qL_law_790 : decB cL_law 790 [.aload_n 0, .iload 5, .iconst 2, .iadd] 795 = true := by decide +kernel
theorem qL_law_796 : decB cL_law 796 [.aload_n 0, .iload 5, .iconst 3, .iadd] 801 = true := by decide +kernel
theorem qL_law_802 : decB cL_law 802 [.aload_n 0, .iload 5, .iconst 4, .iadd] 807 = true := by decide +kernel
theorem qL_law_808 : decB cL_law 808 [.aload_n 0, .iload 5, .iconst 5, .iadd] 813 = true := by decide +kernel
theorem qL_law_817 : decB cL_law 817 [.istore 7, .aload_n 2] 820 = true := by decide +kernel
theorem qL_law_823 : decB cL_law 823 [.iload 6] 825 = true := by decide +kernel
theorem qL_law_828 : decB cL_law 828 [.iconst 0] 829 = true := by decide +kernel
theorem qL_law_830 : decB cL_law 830 [.iload 6] 832 = true := by decide +kernel
theorem qL_law_835 : decB cL_law 835 [.aload_n 3, .iconst 0] 837 = true := by decide +kernel
theorem qL_law_838 : decB cL_law 838 [.iload 7] 840 = true := by decide +kernel
theorem qL_law_845 : decB cL_law 845 [.iconst 0] 846 = true := by decide +kernel
theorem qL_law_847 : decB cL_law 847 [.goto 2018] 2865 = true := by decide +kernel
theorem qL_law_850 : decB cL_law 850 [.aload_n 1, .aload_n 0, .iload 5, .iconst 1, .iadd] 856 = true := by decide +kernel
theorem qL_law_857 : decB cL_law 857 [.aload_n 3] 858 = true := by decide +kernel
theorem qL_law_861 : decB cL_law 861 [.istore 6, .aload_n 2, .aload_n 0, .iload 5, .iconst 1, .iadd] 869 = true := by decide +kernel
theorem qL_law_873 : decB cL_law 873 [.istore 7, .aload_n 2] 876 = true := by decide +kernel
theorem qL_law_879 : decB cL_law 879 [.iload 6] 881 = true := by decide +kernel
theorem qL_law_884 : decB cL_law 884 [.iconst 0] 885 = true := by decide +kernel
theorem qL_law_886 : decB cL_law 886 [.iload 6] 888 = true := by decide +kernel
theorem qL_law_891 : decB cL_law 891 [.aload_n 3, .iconst 0] 893 = true := by decide +kernel
theorem qL_law_894 : decB cL_law 894 [.iload 7] 896 = true := by decide +kernel
theorem qL_law_901 : decB cL_law 901 [.iconst 0] 902 = true := by decide +kernel
theorem qL_law_903 : decB cL_law 903 [.goto 1962] 2865 = true := by decide +kernel
theorem qL_law_906 : decB cL_law 906 [.aload_n 1, .aload_n 0, .iload 5, .iconst 1, .iadd] 912 = true := by decide +kernel
theorem qL_law_913 : decB cL_law 913 [.aload_n 0, .iload 5, .iconst 2, .iadd] 918 = true := by decide +kernel
theorem qL_law_919 : decB cL_law 919 [.aload_n 0, .iload 5, .iconst 3, .iadd] 924 = true := by decide +kernel
theorem qL_law_925 : decB cL_law 925 [.aload_n 0, .iload 5, .iconst 4, .iadd] 930 = true := by decide +kernel
theorem qL_law_931 : decB cL_law 931 [.aload_n 0, .iload 5, .iconst 5, .iadd] 936 = true := by decide +kernel
theorem qL_law_937 : decB cL_law 937 [.aload_n 3] 938 = true := by decide +kernel
theorem qL_law_941 : decB cL_law 941 [.istore 6, .aload_n 2, .aload_n 0, .iload 5, .iconst 1, .iadd] 949 = true := by decide +kernel
theorem qL_law_950 : decB cL_law 950 [.aload_n 0, .iload 5, .iconst 2, .iadd] 955 = true := by decide +kernel
theorem qL_law_956 : decB cL_law 956 [.aload_n 0, .iload 5, .iconst 3, .iadd] 961 = true := by decide +kernel
theorem qL_law_962 : decB cL_law 962 [.aload_n 0, .iload 5, .iconst 4, .iadd] 967 = true := by decide +kernel
theorem qL_law_968 : decB cL_law 968 [.aload_n 0, .iload 5, .iconst 5, .iadd] 973 = true := by decide +kernel
theorem qL_law_977 : decB cL_law 977 [.istore 7, .aload_n 2] 980 = true := by decide +kernel
theorem qL_law_983 : decB cL_law 983 [.iload 6] 985 = true := by decide +kernel
theorem qL_law_988 : decB cL_law 988 [.iconst 0] 989 = true := by decide +kernel
theorem qL_law_990 : decB cL_law 990 [.iload 6] 992 = true := by decide +kernel
theorem qL_law_995 : decB cL_law 995 [.aload_n 3, .iconst 0] 997 = true := by decide +kernel
theorem qL_law_998 : decB cL_law 998 [.iload 7] 1000 = true := by decide +kernel
theorem qL_law_1005 : decB cL_law 1005 [.iconst 0] 1006 = true := by decide +kernel
theorem qL_law_1007 : decB cL_law 1007 [.goto 1858] 2865 = true := by decide +kernel
theorem qL_law_1010 : decB cL_law 1010 [.aload_n 1, .aload_n 0, .iload 5, .iconst 1, .iadd] 1016 = true := by decide +kernel
theorem qL_law_1017 : decB cL_law 1017 [.aload_n 3] 1018 = true := by decide +kernel
theorem qL_law_1021 : decB cL_law 1021 [.istore 6, .aload_n 2, .aload_n 0, .iload 5, .iconst 1, .iadd] 1029 = true := by decide +kernel
theorem qL_law_1033 : decB cL_law 1033 [.istore 7, .aload_n 2] 1036 = true := by decide +kernel
theorem qL_law_1039 : decB cL_law 1039 [.iload 6] 1041 = true := by decide +kernel
theorem qL_law_1044 : decB cL_law 1044 [.iconst 0] 1045 = true := by decide +kernel
theorem qL_law_1046 : decB cL_law 1046 [.iload 6] 1048 = true := by decide +kernel
theorem qL_law_1051 : decB cL_law 1051 [.aload_n 3, .iconst 0] 1053 = true := by decide +kernel
theorem qL_law_1054 : decB cL_law 1054 [.iload 7] 1056 = true := by decide +kernel
theorem qL_law_1061 : decB cL_law 1061 [.iconst 0] 1062 = true := by decide +kernel
theorem qL_law_1063 : decB cL_law 1063 [.goto 1802] 2865 = true := by decide +kernel
theorem qL_law_1066 : decB cL_law 1066 [.aload_n 1, .aload_n 0, .iload 5, .iconst 1, .iadd] 1072 = true := by decide +kernel
theorem qL_law_1073 : decB cL_law 1073 [.aload_n 3] 1074 = true := by decide +kernel
theorem qL_law_1077 : decB cL_law 1077 [.istore 6, .aload_n 2, .aload_n 0, .iload 5, .iconst 1, .iadd] 1085 = true := by decide +kernel
theorem qL_law_1089 : decB cL_law 1089 [.istore 7, .aload_n 2] 1092 = true := by decide +kernel
theorem qL_law_1095 : decB cL_law 1095 [.iload 6] 1097 = true := by decide +kernel
theorem qL_law_1100 : decB cL_law 1100 [.iconst 0] 1101 = true := by decide +kernel
theorem qL_law_1102 : decB cL_law 1102 [.iload 6] 1104 = true := by decide +kernel
theorem qL_law_1107 : decB cL_law 1107 [.aload_n 3, .iconst 0] 1109 = true := by decide +kernel
theorem qL_law_1110 : decB cL_law 1110 [.iload 7] 1112 = true := by decide +kernel
theorem qL_law_1117 : decB cL_law 1117 [.iconst 0] 1118 = true := by decide +kernel
theorem qL_law_1119 : decB cL_law 1119 [.goto 1746] 2865 = true := by decide +kernel
theorem qL_law_1122 : decB cL_law 1122 [.aload_n 1, .aload_n 0, .iload 5, .iconst 1, .iadd] 1128 = true := by decide +kernel
theorem qL_law_1129 : decB cL_law 1129 [.aload_n 0, .iload 5, .iconst 2, .iadd] 1134 = true := by decide +kernel
theorem qL_law_1135 : decB cL_law 1135 [.aload_n 3] 1136 = true := by decide +kernel
theorem qL_law_1139 : decB cL_law 1139 [.istore 6, .aload_n 2, .aload_n 0, .iload 5, .iconst 1, .iadd] 1147 = true := by decide +kernel
theorem qL_law_1148 : decB cL_law 1148 [.aload_n 0, .iload 5, .iconst 2, .iadd] 1153 = true := by decide +kernel
theorem qL_law_1157 : decB cL_law 1157 [.istore 7, .aload_n 2] 1160 = true := by decide +kernel
theorem qL_law_1163 : decB cL_law 1163 [.iload 6] 1165 = true := by decide +kernel
theorem qL_law_1168 : decB cL_law 1168 [.iconst 0] 1169 = true := by decide +kernel
theorem qL_law_1170 : decB cL_law 1170 [.iload 6] 1172 = true := by decide +kernel
theorem qL_law_1175 : decB cL_law 1175 [.aload_n 3, .iconst 0] 1177 = true := by decide +kernel
theorem qL_law_1178 : decB cL_law 1178 [.iload 7] 1180 = true := by decide +kernel
theorem qL_law_1185 : decB cL_law 1185 [.iconst 0] 1186 = true := by decide +kernel
theorem qL_law_1187 : decB cL_law 1187 [.goto 1678] 2865 = true := by decide +kernel
theorem qL_law_1190 : decB cL_law 1190 [.aload_n 1, .aload_n 0, .iload 5, .iconst 1, .iadd] 1196 = true := by decide +kernel
theorem qL_law_1197 : decB cL_law 1197 [.aload_n 0, .iload 5, .iconst 2, .iadd] 1202 = true := by decide +kernel
theorem qL_law_1203 : decB cL_law 1203 [.aload_n 3] 1204 = true := by decide +kernel
theorem qL_law_1207 : decB cL_law 1207 [.istore 6, .aload_n 2, .aload_n 0, .iload 5, .iconst 1, .iadd] 1215 = true := by decide +kernel
theorem qL_law_1216 : decB cL_law 1216 [.aload_n 0, .iload 5, .iconst 2, .iadd] 1221 = true := by decide +kernel
theorem qL_law_1225 : decB cL_law 1225 [.istore 7, .aload_n 2] 1228 = true := by decide +kernel
theorem qL_law_1231 : decB cL_law 1231 [.iload 6] 1233 = true := by decide +kernel
theorem qL_law_1236 : decB cL_law 1236 [.iconst 0] 1237 = true := by decide +kernel
theorem qL_law_1238 : decB cL_law 1238 [.iload 6] 1240 = true := by decide +kernel
theorem qL_law_1243 : decB cL_law 1243 [.aload_n 3, .iconst 0] 1245 = true := by decide +kernel
theorem qL_law_1246 : decB cL_law 1246 [.iload 7] 1248 = true := by decide +kernel
theorem qL_law_1253 : decB cL_law 1253 [.iconst 0] 1254 = true := by decide +kernel
theorem qL_law_1255 : decB cL_law 1255 [.goto 1610] 2865 = true := by decide +kernel
theorem qL_law_1258 : decB cL_law 1258 [.aload_n 1, .aload_n 0, .iload 5, .iconst 1, .iadd] 1264 = true := by decide +kernel
theorem qL_law_1265 : decB cL_law 1265 [.aload_n 3] 1266 = true := by decide +kernel
theorem qL_law_1269 : decB cL_law 1269 [.istore 6, .aload_n 2, .aload_n 0, .iload 5, .iconst 1, .iadd] 1277 = true := by decide +kernel
theorem qL_law_1281 : decB cL_law 1281 [.istore 7, .aload_n 2] 1284 = true := by decide +kernel
theorem qL_law_1287 : decB cL_law 1287 [.iload 6] 1289 = true := by decide +kernel
theorem qL_law_1292 : decB cL_law 1292 [.iconst 0] 1293 = true := by decide +kernel
theorem qL_law_1294 : decB cL_law 1294 [.iload 6] 1296 = true := by decide +kernel
theorem qL_law_1299 : decB cL_law 1299 [.aload_n 3, .iconst 0] 1301 = true := by decide +kernel
theorem qL_law_1302 : decB cL_law 1302 [.iload 7] 1304 = true := by decide +kernel
theorem qL_law_1309 : decB cL_law 1309 [.iconst 0] 1310 = true := by decide +kernel
theorem qL_law_1311 : decB cL_law 1311 [.goto 1554] 2865 = true := by decide +kernel
theorem qL_law_1314 : decB cL_law 1314 [.aload_n 1, .aload_n 0, .iload 5, .iconst 1, .iadd] 1320 = true := by decide +kernel
theorem qL_law_1321 : decB cL_law 1321 [.aload_n 0, .iload 5, .iconst 2, .iadd] 1326 = true := by decide +kernel
theorem qL_law_1327 : decB cL_law 1327 [.aload_n 0, .iload 5, .iconst 3, .iadd] 1332 = true := by decide +kernel
theorem qL_law_1333 : decB cL_law 1333 [.aload_n 3] 1334 = true := by decide +kernel
theorem qL_law_1337 : decB cL_law 1337 [.istore 6, .aload_n 2, .aload_n 0, .iload 5, .iconst 1, .iadd] 1345 = true := by decide +kernel
theorem qL_law_1346 : decB cL_law 1346 [.aload_n 0, .iload 5, .iconst 2, .iadd] 1351 = true := by decide +kernel
theorem qL_law_1352 : decB cL_law 1352 [.aload_n 0, .iload 5, .iconst 3, .iadd] 1357 = true := by decide +kernel
theorem qL_law_1361 : decB cL_law 1361 [.istore 7, .aload_n 2] 1364 = true := by decide +kernel
theorem qL_law_1367 : decB cL_law 1367 [.iload 6] 1369 = true := by decide +kernel
theorem qL_law_1372 : decB cL_law 1372 [.iconst 0] 1373 = true := by decide +kernel
theorem qL_law_1374 : decB cL_law 1374 [.iload 6] 1376 = true := by decide +kernel
theorem qL_law_1379 : decB cL_law 1379 [.aload_n 3, .iconst 0] 1381 = true := by decide +kernel
theorem qL_law_1382 : decB cL_law 1382 [.iload 7] 1384 = true := by decide +kernel
theorem qL_law_1389 : decB cL_law 1389 [.iconst 0] 1390 = true := by decide +kernel
theorem qL_law_1391 : decB cL_law 1391 [.goto 1474] 2865 = true := by decide +kernel
theorem qL_law_1394 : decB cL_law 1394 [.aload_n 1, .aload_n 0, .iload 5, .iconst 1, .iadd] 1400 = true := by decide +kernel
theorem qL_law_1401 : decB cL_law 1401 [.aload_n 0, .iload 5, .iconst 2, .iadd] 1406 = true := by decide +kernel
theorem qL_law_1407 : decB cL_law 1407 [.aload_n 3] 1408 = true := by decide +kernel
theorem qL_law_1411 : decB cL_law 1411 [.istore 6, .aload_n 2, .aload_n 0, .iload 5, .iconst 1, .iadd] 1419 = true := by decide +kernel
theorem qL_law_1420 : decB cL_law 1420 [.aload_n 0, .iload 5, .iconst 2, .iadd] 1425 = true := by decide +kernel
theorem qL_law_1429 : decB cL_law 1429 [.istore 7, .aload_n 2] 1432 = true := by decide +kernel
theorem qL_law_1435 : decB cL_law 1435 [.iload 6] 1437 = true := by decide +kernel
theorem qL_law_1440 : decB cL_law 1440 [.iconst 0] 1441 = true := by decide +kernel
theorem qL_law_1442 : decB cL_law 1442 [.iload 6] 1444 = true := by decide +kernel
theorem qL_law_1447 : decB cL_law 1447 [.aload_n 3, .iconst 0] 1449 = true := by decide +kernel
theorem qL_law_1450 : decB cL_law 1450 [.iload 7] 1452 = true := by decide +kernel
theorem qL_law_1457 : decB cL_law 1457 [.iconst 0] 1458 = true := by decide +kernel
theorem qL_law_1459 : decB cL_law 1459 [.goto 1406] 2865 = true := by decide +kernel
theorem qL_law_1462 : decB cL_law 1462 [.aload_n 1, .aload_n 0, .iload 5, .iconst 1, .iadd] 1468 = true := by decide +kernel
theorem qL_law_1469 : decB cL_law 1469 [.aload_n 3] 1470 = true := by decide +kernel
theorem qL_law_1473 : decB cL_law 1473 [.istore 6, .aload_n 2, .aload_n 0, .iload 5, .iconst 1, .iadd] 1481 = true := by decide +kernel
theorem qL_law_1485 : decB cL_law 1485 [.istore 7, .aload_n 2] 1488 = true := by decide +kernel
theorem qL_law_1491 : decB cL_law 1491 [.iload 6] 1493 = true := by decide +kernel
theorem qL_law_1496 : decB cL_law 1496 [.iconst 0] 1497 = true := by decide +kernel
theorem qL_law_1498 : decB cL_law 1498 [.iload 6] 1500 = true := by decide +kernel
theorem qL_law_1503 : decB cL_law 1503 [.aload_n 3, .iconst 0] 1505 = true := by decide +kernel
theorem qL_law_1506 : decB cL_law 1506 [.iload 7] 1508 = true := by decide +kernel
theorem qL_law_1513 : decB cL_law 1513 [.iconst 0] 1514 = true := by decide +kernel
theorem qL_law_1515 : decB cL_law 1515 [.goto 1350] 2865 = true := by decide +kernel
theorem qL_law_1518 : decB cL_law 1518 [.aload_n 1] 1519 = true := by decide +kernel
theorem qL_law_1522 : decB cL_law 1522 [.aload_n 2] 1523 = true := by decide +kernel
theorem qL_law_1529 : decB cL_law 1529 [.iconst 0] 1530 = true := by decide +kernel
theorem qL_law_1531 : decB cL_law 1531 [.aload_n 1] 1532 = true := by decide +kernel
theorem qL_law_1535 : decB cL_law 1535 [.aload_n 2] 1536 = true := by decide +kernel
theorem qL_law_1542 : decB cL_law 1542 [.iconst 0] 1543 = true := by decide +kernel
theorem qL_law_1544 : decB cL_law 1544 [.aload_n 1, .aload_n 0, .iload 5, .iconst 1, .iadd] 1550 = true := by decide +kernel
theorem qL_law_1551 : decB cL_law 1551 [.aload_n 3] 1552 = true := by decide +kernel
theorem qL_law_1555 : decB cL_law 1555 [.istore 6, .aload_n 2, .aload_n 0, .iload 5, .iconst 1, .iadd] 1563 = true := by decide +kernel
theorem qL_law_1567 : decB cL_law 1567 [.istore 7, .aload_n 2] 1570 = true := by decide +kernel
theorem qL_law_1573 : decB cL_law 1573 [.iload 6] 1575 = true := by decide +kernel
theorem qL_law_1578 : decB cL_law 1578 [.iconst 0] 1579 = true := by decide +kernel
theorem qL_law_1580 : decB cL_law 1580 [.iload 6] 1582 = true := by decide +kernel
theorem qL_law_1585 : decB cL_law 1585 [.aload_n 3, .iconst 0] 1587 = true := by decide +kernel
theorem qL_law_1588 : decB cL_law 1588 [.iload 7] 1590 = true := by decide +kernel
theorem qL_law_1595 : decB cL_law 1595 [.iconst 0] 1596 = true := by decide +kernel
theorem qL_law_1597 : decB cL_law 1597 [.goto 1268] 2865 = true := by decide +kernel
theorem qL_law_1600 : decB cL_law 1600 [.aload_n 1, .aload_n 0, .iload 5, .iconst 1, .iadd] 1606 = true := by decide +kernel
theorem qL_law_1607 : decB cL_law 1607 [.aload_n 0, .iload 5, .iconst 2, .iadd] 1612 = true := by decide +kernel
theorem qL_law_1613 : decB cL_law 1613 [.aload_n 3] 1614 = true := by decide +kernel
theorem qL_law_1617 : decB cL_law 1617 [.istore 6, .aload_n 2, .aload_n 0, .iload 5, .iconst 1, .iadd] 1625 = true := by decide +kernel
theorem qL_law_1626 : decB cL_law 1626 [.aload_n 0, .iload 5, .iconst 2, .iadd] 1631 = true := by decide +kernel
theorem qL_law_1635 : decB cL_law 1635 [.istore 7, .aload_n 2] 1638 = true := by decide +kernel
theorem qL_law_1641 : decB cL_law 1641 [.iload 6] 1643 = true := by decide +kernel
theorem qL_law_1646 : decB cL_law 1646 [.iconst 0] 1647 = true := by decide +kernel
theorem qL_law_1648 : decB cL_law 1648 [.iload 6] 1650 = true := by decide +kernel
theorem qL_law_1653 : decB cL_law 1653 [.aload_n 3, .iconst 0] 1655 = true := by decide +kernel
theorem qL_law_1656 : decB cL_law 1656 [.iload 7] 1658 = true := by decide +kernel
theorem qL_law_1663 : decB cL_law 1663 [.iconst 0] 1664 = true := by decide +kernel
theorem qL_law_1665 : decB cL_law 1665 [.goto 1200] 2865 = true := by decide +kernel
theorem qL_law_1668 : decB cL_law 1668 [.aload_n 1] 1669 = true := by decide +kernel
theorem qL_law_1672 : decB cL_law 1672 [.aload_n 2] 1673 = true := by decide +kernel
theorem qL_law_1679 : decB cL_law 1679 [.iconst 0] 1680 = true := by decide +kernel
theorem qL_law_1681 : decB cL_law 1681 [.aload_n 1, .aload_n 0, .iload 5, .iconst 1, .iadd] 1687 = true := by decide +kernel
theorem qL_law_1688 : decB cL_law 1688 [.aload_n 0, .iload 5, .iconst 2, .iadd] 1693 = true := by decide +kernel
theorem qL_law_1694 : decB cL_law 1694 [.aload_n 3] 1695 = true := by decide +kernel
theorem qL_law_1698 : decB cL_law 1698 [.istore 6, .aload_n 2, .aload_n 0, .iload 5, .iconst 1, .iadd] 1706 = true := by decide +kernel
theorem qL_law_1707 : decB cL_law 1707 [.aload_n 0, .iload 5, .iconst 2, .iadd] 1712 = true := by decide +kernel
theorem qL_law_1716 : decB cL_law 1716 [.istore 7, .aload_n 2] 1719 = true := by decide +kernel
theorem qL_law_1722 : decB cL_law 1722 [.iload 6] 1724 = true := by decide +kernel
theorem qL_law_1727 : decB cL_law 1727 [.iconst 0] 1728 = true := by decide +kernel
theorem qL_law_1729 : decB cL_law 1729 [.iload 6] 1731 = true := by decide +kernel
theorem qL_law_1734 : decB cL_law 1734 [.aload_n 3, .iconst 0] 1736 = true := by decide +kernel
theorem qL_law_1737 : decB cL_law 1737 [.iload 7] 1739 = true := by decide +kernel
theorem qL_law_1744 : decB cL_law 1744 [.iconst 0] 1745 = true := by decide +kernel
theorem qL_law_1746 : decB cL_law 1746 [.goto 1119] 2865 = true := by decide +kernel
theorem qL_law_1749 : decB cL_law 1749 [.aload_n 1, .aload_n 0, .iload 5, .iconst 1, .iadd] 1755 = true := by decide +kernel
theorem qL_law_1756 : decB cL_law 1756 [.aload_n 0, .iload 5, .iconst 2, .iadd] 1761 = true := by decide +kernel
theorem qL_law_1762 : decB cL_law 1762 [.aload_n 0, .iload 5, .iconst 3, .iadd] 1767 = true := by decide +kernel
theorem qL_law_1768 : decB cL_law 1768 [.aload_n 3] 1769 = true := by decide +kernel
theorem qL_law_1772 : decB cL_law 1772 [.istore 6, .aload_n 2, .aload_n 0, .iload 5, .iconst 1, .iadd] 1780 = true := by decide +kernel
theorem qL_law_1781 : decB cL_law 1781 [.aload_n 0, .iload 5, .iconst 2, .iadd] 1786 = true := by decide +kernel
theorem qL_law_1787 : decB cL_law 1787 [.aload_n 0, .iload 5, .iconst 3, .iadd] 1792 = true := by decide +kernel
theorem qL_law_1796 : decB cL_law 1796 [.istore 7, .aload_n 2] 1799 = true := by decide +kernel
theorem qL_law_1802 : decB cL_law 1802 [.iload 6] 1804 = true := by decide +kernel
theorem qL_law_1807 : decB cL_law 1807 [.iconst 0] 1808 = true := by decide +kernel
theorem qL_law_1809 : decB cL_law 1809 [.iload 6] 1811 = true := by decide +kernel
theorem qL_law_1814 : decB cL_law 1814 [.aload_n 3, .iconst 0] 1816 = true := by decide +kernel
theorem qL_law_1817 : decB cL_law 1817 [.iload 7] 1819 = true := by decide +kernel
theorem qL_law_1824 : decB cL_law 1824 [.iconst 0] 1825 = true := by decide +kernel
theorem qL_law_1826 : decB cL_law 1826 [.goto 1039] 2865 = true := by decide +kernel
theorem qL_law_1829 : decB cL_law 1829 [.aload_n 1, .aload_n 0, .iload 5, .iconst 1, .iadd] 1835 = true := by decide +kernel
theorem qL_law_1836 : decB cL_law 1836 [.aload_n 3] 1837 = true := by decide +kernel
theorem qL_law_1840 : decB cL_law 1840 [.istore 6, .aload_n 2, .aload_n 0, .iload 5, .iconst 1, .iadd] 1848 = true := by decide +kernel
theorem qL_law_1852 : decB cL_law 1852 [.istore 7, .aload_n 2] 1855 = true := by decide +kernel
theorem qL_law_1858 : decB cL_law 1858 [.iload 6] 1860 = true := by decide +kernel
theorem qL_law_1863 : decB cL_law 1863 [.iconst 0] 1864 = true := by decide +kernel
theorem qL_law_1865 : decB cL_law 1865 [.iload 6] 1867 = true := by decide +kernel
theorem qL_law_1870 : decB cL_law 1870 [.aload_n 3, .iconst 0] 1872 = true := by decide +kernel
theorem qL_law_1873 : decB cL_law 1873 [.iload 7] 1875 = true := by decide +kernel
theorem qL_law_1880 : decB cL_law 1880 [.iconst 0] 1881 = true := by decide +kernel
theorem qL_law_1882 : decB cL_law 1882 [.goto 983] 2865 = true := by decide +kernel
theorem qL_law_1885 : decB cL_law 1885 [.aload_n 1] 1886 = true := by decide +kernel
theorem qL_law_1889 : decB cL_law 1889 [.aload_n 2] 1890 = true := by decide +kernel
theorem qL_law_1896 : decB cL_law 1896 [.iconst 0] 1897 = true := by decide +kernel
theorem qL_law_1898 : decB cL_law 1898 [.aload_n 1, .aload_n 0, .iload 5, .iconst 1, .iadd] 1904 = true := by decide +kernel
theorem qL_law_1905 : decB cL_law 1905 [.aload_n 0, .iload 5, .iconst 2, .iadd] 1910 = true := by decide +kernel
theorem qL_law_1911 : decB cL_law 1911 [.aload_n 3] 1912 = true := by decide +kernel
theorem qL_law_1915 : decB cL_law 1915 [.istore 6, .aload_n 2, .aload_n 0, .iload 5, .iconst 1, .iadd] 1923 = true := by decide +kernel
theorem qL_law_1924 : decB cL_law 1924 [.aload_n 0, .iload 5, .iconst 2, .iadd] 1929 = true := by decide +kernel
theorem qL_law_1933 : decB cL_law 1933 [.istore 7, .aload_n 2] 1936 = true := by decide +kernel
theorem qL_law_1939 : decB cL_law 1939 [.iload 6] 1941 = true := by decide +kernel
theorem qL_law_1944 : decB cL_law 1944 [.iconst 0] 1945 = true := by decide +kernel
theorem qL_law_1946 : decB cL_law 1946 [.iload 6] 1948 = true := by decide +kernel
theorem qL_law_1951 : decB cL_law 1951 [.aload_n 3, .iconst 0] 1953 = true := by decide +kernel
theorem qL_law_1954 : decB cL_law 1954 [.iload 7] 1956 = true := by decide +kernel
theorem qL_law_1961 : decB cL_law 1961 [.iconst 0] 1962 = true := by decide +kernel
theorem qL_law_1963 : decB cL_law 1963 [.goto 902] 2865 = true := by decide +kernel
theorem qL_law_1966 : decB cL_law 1966 [.aload_n 1, .aload_n 0, .iload 5, .iconst 1, .iadd] 1972 = true := by decide +kernel
theorem qL_law_1973 : decB cL_law 1973 [.aload_n 3] 1974 = true := by decide +kernel
theorem qL_law_1977 : decB cL_law 1977 [.istore 6, .aload_n 2, .aload_n 0, .iload 5, .iconst 1, .iadd] 1985 = true := by decide +kernel
theorem qL_law_1989 : decB cL_law 1989 [.istore 7, .aload_n 2] 1992 = true := by decide +kernel
theorem qL_law_1995 : decB cL_law 1995 [.iload 6] 1997 = true := by decide +kernel
theorem qL_law_2000 : decB cL_law 2000 [.iconst 0] 2001 = true := by decide +kernel
theorem qL_law_2002 : decB cL_law 2002 [.iload 6] 2004 = true := by decide +kernel
theorem qL_law_2007 : decB cL_law 2007 [.aload_n 3, .iconst 0] 2009 = true := by decide +kernel
theorem qL_law_2010 : decB cL_law 2010 [.iload 7] 2012 = true := by decide +kernel
theorem qL_law_2017 : decB cL_law 2017 [.iconst 0] 2018 = true := by decide +kernel
theorem qL_law_2019 : decB cL_law 2019 [.goto 846] 2865 = true := by decide +kernel
theorem qL_law_2022 : decB cL_law 2022 [.aload_n 1, .aload_n 0, .iload 5, .iconst 1, .iadd] 2028 = true := by decide +kernel
theorem qL_law_2029 : decB cL_law 2029 [.aload_n 0, .iload 5, .iconst 2, .iadd] 2034 = true := by decide +kernel
theorem qL_law_2035 : decB cL_law 2035 [.aload_n 3] 2036 = true := by decide +kernel
theorem qL_law_2039 : decB cL_law 2039 [.istore 6, .aload_n 2, .aload_n 0, .iload 5, .iconst 1, .iadd] 2047 = true := by decide +kernel
theorem qL_law_2048 : decB cL_law 2048 [.aload_n 0, .iload 5, .iconst 2, .iadd] 2053 = true := by decide +kernel
theorem qL_law_2057 : decB cL_law 2057 [.istore 7, .aload_n 2] 2060 = true := by decide +kernel
theorem qL_law_2063 : decB cL_law 2063 [.iload 6] 2065 = true := by decide +kernel
theorem qL_law_2068 : decB cL_law 2068 [.iconst 0] 2069 = true := by decide +kernel
theorem qL_law_2070 : decB cL_law 2070 [.iload 6] 2072 = true := by decide +kernel
theorem qL_law_2075 : decB cL_law 2075 [.aload_n 3, .iconst 0] 2077 = true := by decide +kernel
theorem qL_law_2078 : decB cL_law 2078 [.iload 7] 2080 = true := by decide +kernel
theorem qL_law_2085 : decB cL_law 2085 [.iconst 0] 2086 = true := by decide +kernel
theorem qL_law_2087 : decB cL_law 2087 [.goto 778] 2865 = true := by decide +kernel
theorem qL_law_2090 : decB cL_law 2090 [.aload_n 1, .aload_n 0, .iload 5, .iconst 1, .iadd] 2096 = true := by decide +kernel
theorem qL_law_2097 : decB cL_law 2097 [.aload_n 3] 2098 = true := by decide +kernel
theorem qL_law_2101 : decB cL_law 2101 [.istore 6, .aload_n 2, .aload_n 0, .iload 5, .iconst 1, .iadd] 2109 = true := by decide +kernel
theorem qL_law_2113 : decB cL_law 2113 [.istore 7, .aload_n 2] 2116 = true := by decide +kernel
theorem qL_law_2119 : decB cL_law 2119 [.iload 6] 2121 = true := by decide +kernel
theorem qL_law_2124 : decB cL_law 2124 [.iconst 0] 2125 = true := by decide +kernel
theorem qL_law_2126 : decB cL_law 2126 [.iload 6] 2128 = true := by decide +kernel
theorem qL_law_2131 : decB cL_law 2131 [.aload_n 3, .iconst 0] 2133 = true := by decide +kernel
theorem qL_law_2134 : decB cL_law 2134 [.iload 7] 2136 = true := by decide +kernel
theorem qL_law_2141 : decB cL_law 2141 [.iconst 0] 2142 = true := by decide +kernel
theorem qL_law_2143 : decB cL_law 2143 [.goto 722] 2865 = true := by decide +kernel
theorem qL_law_2146 : decB cL_law 2146 [.aload_n 1, .aload_n 0, .iload 5, .iconst 1, .iadd] 2152 = true := by decide +kernel
theorem qL_law_2153 : decB cL_law 2153 [.aload_n 3] 2154 = true := by decide +kernel
theorem qL_law_2157 : decB cL_law 2157 [.istore 6, .aload_n 2, .aload_n 0, .iload 5, .iconst 1, .iadd] 2165 = true := by decide +kernel
theorem qL_law_2169 : decB cL_law 2169 [.lstore 7, .aload_n 2] 2172 = true := by decide +kernel
theorem qL_law_2175 : decB cL_law 2175 [.iload 6] 2177 = true := by decide +kernel
theorem qL_law_2180 : decB cL_law 2180 [.iconst 0] 2181 = true := by decide +kernel
theorem qL_law_2182 : decB cL_law 2182 [.iload 6] 2184 = true := by decide +kernel
theorem qL_law_2187 : decB cL_law 2187 [.aload_n 3, .iconst 0] 2189 = true := by decide +kernel
theorem qL_law_2190 : decB cL_law 2190 [.lload 7] 2192 = true := by decide +kernel
theorem qL_law_2196 : decB cL_law 2196 [.iconst 0] 2197 = true := by decide +kernel
theorem qL_law_2198 : decB cL_law 2198 [.goto 667] 2865 = true := by decide +kernel
theorem qL_law_2201 : decB cL_law 2201 [.aload_n 1] 2202 = true := by decide +kernel
theorem qL_law_2205 : decB cL_law 2205 [.aload_n 2] 2206 = true := by decide +kernel
theorem qL_law_2212 : decB cL_law 2212 [.iconst 0] 2213 = true := by decide +kernel
theorem qL_law_2214 : decB cL_law 2214 [.aload_n 1, .aload_n 0, .iload 5, .iconst 1, .iadd] 2220 = true := by decide +kernel
theorem qL_law_2221 : decB cL_law 2221 [.aload_n 0, .iload 5, .iconst 2, .iadd] 2226 = true := by decide +kernel
theorem qL_law_2227 : decB cL_law 2227 [.aload_n 3] 2228 = true := by decide +kernel
theorem qL_law_2231 : decB cL_law 2231 [.istore 6, .aload_n 2, .aload_n 0, .iload 5, .iconst 1, .iadd] 2239 = true := by decide +kernel
theorem qL_law_2240 : decB cL_law 2240 [.aload_n 0, .iload 5, .iconst 2, .iadd] 2245 = true := by decide +kernel
theorem qL_law_2249 : decB cL_law 2249 [.lstore 7, .aload_n 2] 2252 = true := by decide +kernel
theorem qL_law_2255 : decB cL_law 2255 [.iload 6] 2257 = true := by decide +kernel
theorem qL_law_2260 : decB cL_law 2260 [.iconst 0] 2261 = true := by decide +kernel
theorem qL_law_2262 : decB cL_law 2262 [.iload 6] 2264 = true := by decide +kernel
theorem qL_law_2267 : decB cL_law 2267 [.aload_n 3, .iconst 0] 2269 = true := by decide +kernel
theorem qL_law_2270 : decB cL_law 2270 [.lload 7] 2272 = true := by decide +kernel
theorem qL_law_2276 : decB cL_law 2276 [.iconst 0] 2277 = true := by decide +kernel
theorem qL_law_2278 : decB cL_law 2278 [.goto 587] 2865 = true := by decide +kernel
theorem qL_law_2281 : decB cL_law 2281 [.aload_n 1, .aload_n 0, .iload 5, .iconst 1, .iadd] 2287 = true := by decide +kernel
theorem qL_law_2288 : decB cL_law 2288 [.aload_n 0, .iload 5, .iconst 2, .iadd] 2293 = true := by decide +kernel
theorem qL_law_2294 : decB cL_law 2294 [.aload_n 3] 2295 = true := by decide +kernel
theorem qL_law_2298 : decB cL_law 2298 [.istore 6, .aload_n 2, .aload_n 0, .iload 5, .iconst 1, .iadd] 2306 = true := by decide +kernel
theorem qL_law_2307 : decB cL_law 2307 [.aload_n 0, .iload 5, .iconst 2, .iadd] 2312 = true := by decide +kernel
theorem qL_law_2316 : decB cL_law 2316 [.istore 7, .aload_n 2] 2319 = true := by decide +kernel
theorem qL_law_2322 : decB cL_law 2322 [.iload 6] 2324 = true := by decide +kernel
theorem qL_law_2327 : decB cL_law 2327 [.iconst 0] 2328 = true := by decide +kernel
theorem qL_law_2329 : decB cL_law 2329 [.iload 6] 2331 = true := by decide +kernel
theorem qL_law_2334 : decB cL_law 2334 [.aload_n 3, .iconst 0] 2336 = true := by decide +kernel
theorem qL_law_2337 : decB cL_law 2337 [.iload 7] 2339 = true := by decide +kernel
theorem qL_law_2344 : decB cL_law 2344 [.iconst 0] 2345 = true := by decide +kernel
theorem qL_law_2346 : decB cL_law 2346 [.goto 519] 2865 = true := by decide +kernel
theorem qL_law_2349 : decB cL_law 2349 [.aload_n 1, .aload_n 0, .iload 5, .iconst 1, .iadd] 2355 = true := by decide +kernel
theorem qL_law_2356 : decB cL_law 2356 [.aload_n 3] 2357 = true := by decide +kernel
theorem qL_law_2360 : decB cL_law 2360 [.istore 6, .aload_n 2, .aload_n 0, .iload 5, .iconst 1, .iadd] 2368 = true := by decide +kernel
theorem qL_law_2372 : decB cL_law 2372 [.istore 7, .aload_n 2] 2375 = true := by decide +kernel
theorem qL_law_2378 : decB cL_law 2378 [.iload 6] 2380 = true := by decide +kernel
theorem qL_law_2383 : decB cL_law 2383 [.iconst 0] 2384 = true := by decide +kernel
theorem qL_law_2385 : decB cL_law 2385 [.iload 6] 2387 = true := by decide +kernel
theorem qL_law_2390 : decB cL_law 2390 [.aload_n 3, .iconst 0] 2392 = true := by decide +kernel
theorem qL_law_2393 : decB cL_law 2393 [.iload 7] 2395 = true := by decide +kernel
theorem qL_law_2400 : decB cL_law 2400 [.iconst 0] 2401 = true := by decide +kernel
theorem qL_law_2402 : decB cL_law 2402 [.goto 463] 2865 = true := by decide +kernel
theorem qL_law_2405 : decB cL_law 2405 [.aload_n 1, .aload_n 0, .iload 5, .iconst 1, .iadd] 2411 = true := by decide +kernel
theorem qL_law_2412 : decB cL_law 2412 [.aload_n 0, .iload 5, .iconst 2, .iadd] 2417 = true := by decide +kernel
theorem qL_law_2418 : decB cL_law 2418 [.aload_n 0, .iload 5, .iconst 3, .iadd] 2423 = true := by decide +kernel
theorem qL_law_2424 : decB cL_law 2424 [.aload_n 3] 2425 = true := by decide +kernel
theorem qL_law_2428 : decB cL_law 2428 [.istore 6, .aload_n 2, .aload_n 0, .iload 5, .iconst 1, .iadd] 2436 = true := by decide +kernel
theorem qL_law_2437 : decB cL_law 2437 [.aload_n 0, .iload 5, .iconst 2, .iadd] 2442 = true := by decide +kernel
theorem qL_law_2443 : decB cL_law 2443 [.aload_n 0, .iload 5, .iconst 3, .iadd] 2448 = true := by decide +kernel
theorem qL_law_2452 : decB cL_law 2452 [.istore 7, .aload_n 2] 2455 = true := by decide +kernel
theorem qL_law_2458 : decB cL_law 2458 [.iload 6] 2460 = true := by decide +kernel
theorem qL_law_2463 : decB cL_law 2463 [.iconst 0] 2464 = true := by decide +kernel
theorem qL_law_2465 : decB cL_law 2465 [.iload 6] 2467 = true := by decide +kernel
theorem qL_law_2470 : decB cL_law 2470 [.aload_n 3, .iconst 0] 2472 = true := by decide +kernel
theorem qL_law_2473 : decB cL_law 2473 [.iload 7] 2475 = true := by decide +kernel
theorem qL_law_2480 : decB cL_law 2480 [.iconst 0] 2481 = true := by decide +kernel
theorem qL_law_2482 : decB cL_law 2482 [.goto 383] 2865 = true := by decide +kernel
theorem qL_law_2485 : decB cL_law 2485 [.aload_n 1, .aload_n 0, .iload 5, .iconst 1, .iadd] 2491 = true := by decide +kernel
theorem qL_law_2492 : decB cL_law 2492 [.aload_n 3] 2493 = true := by decide +kernel
theorem qL_law_2496 : decB cL_law 2496 [.istore 6, .aload_n 2, .aload_n 0, .iload 5, .iconst 1, .iadd] 2504 = true := by decide +kernel
theorem qL_law_2508 : decB cL_law 2508 [.istore 7, .aload_n 2] 2511 = true := by decide +kernel
theorem qL_law_2514 : decB cL_law 2514 [.iload 6] 2516 = true := by decide +kernel
theorem qL_law_2519 : decB cL_law 2519 [.iconst 0] 2520 = true := by decide +kernel
theorem qL_law_2521 : decB cL_law 2521 [.iload 6] 2523 = true := by decide +kernel
theorem qL_law_2526 : decB cL_law 2526 [.aload_n 3, .iconst 0] 2528 = true := by decide +kernel
theorem qL_law_2529 : decB cL_law 2529 [.iload 7] 2531 = true := by decide +kernel
theorem qL_law_2536 : decB cL_law 2536 [.iconst 0] 2537 = true := by decide +kernel
theorem qL_law_2538 : decB cL_law 2538 [.goto 327] 2865 = true := by decide +kernel
theorem qL_law_2541 : decB cL_law 2541 [.aload_n 1, .aload_n 0, .iload 5, .iconst 1, .iadd] 2547 = true := by decide +kernel
theorem qL_law_2548 : decB cL_law 2548 [.aload_n 3] 2549 = true := by decide +kernel
theorem qL_law_2552 : decB cL_law 2552 [.istore 6, .aload_n 2, .aload_n 0, .iload 5, .iconst 1, .iadd] 2560 = true := by decide +kernel
theorem qL_law_2564 : decB cL_law 2564 [.istore 7, .aload_n 2] 2567 = true := by decide +kernel
theorem qL_law_2570 : decB cL_law 2570 [.iload 6] 2572 = true := by decide +kernel
theorem qL_law_2575 : decB cL_law 2575 [.iconst 0] 2576 = true := by decide +kernel
theorem qL_law_2577 : decB cL_law 2577 [.iload 6] 2579 = true := by decide +kernel
theorem qL_law_2582 : decB cL_law 2582 [.aload_n 3, .iconst 0] 2584 = true := by decide +kernel
theorem qL_law_2585 : decB cL_law 2585 [.iload 7] 2587 = true := by decide +kernel
theorem qL_law_2592 : decB cL_law 2592 [.iconst 0] 2593 = true := by decide +kernel
theorem qL_law_2594 : decB cL_law 2594 [.goto 271] 2865 = true := by decide +kernel
theorem qL_law_2597 : decB cL_law 2597 [.aload_n 1, .aload_n 0, .iload 5, .iconst 1, .iadd] 2603 = true := by decide +kernel
theorem qL_law_2604 : decB cL_law 2604 [.aload_n 3] 2605 = true := by decide +kernel
theorem qL_law_2608 : decB cL_law 2608 [.istore 6, .aload_n 2, .aload_n 0, .iload 5, .iconst 1, .iadd] 2616 = true := by decide +kernel
theorem qL_law_2620 : decB cL_law 2620 [.istore 7, .aload_n 2] 2623 = true := by decide +kernel
theorem qL_law_2626 : decB cL_law 2626 [.iload 6] 2628 = true := by decide +kernel
theorem qL_law_2631 : decB cL_law 2631 [.iconst 0] 2632 = true := by decide +kernel
theorem qL_law_2633 : decB cL_law 2633 [.iload 6] 2635 = true := by decide +kernel
theorem qL_law_2638 : decB cL_law 2638 [.aload_n 3, .iconst 0] 2640 = true := by decide +kernel
theorem qL_law_2641 : decB cL_law 2641 [.iload 7] 2643 = true := by decide +kernel
theorem qL_law_2648 : decB cL_law 2648 [.iconst 0] 2649 = true := by decide +kernel
theorem qL_law_2650 : decB cL_law 2650 [.goto 215] 2865 = true := by decide +kernel
theorem qL_law_2653 : decB cL_law 2653 [.aload_n 1, .aload_n 0, .iload 5, .iconst 1, .iadd] 2659 = true := by decide +kernel
theorem qL_law_2660 : decB cL_law 2660 [.aload_n 3] 2661 = true := by decide +kernel
theorem qL_law_2664 : decB cL_law 2664 [.istore 6, .aload_n 2, .aload_n 0, .iload 5, .iconst 1, .iadd] 2672 = true := by decide +kernel
theorem qL_law_2676 : decB cL_law 2676 [.lstore 7, .aload_n 2] 2679 = true := by decide +kernel
theorem qL_law_2682 : decB cL_law 2682 [.iload 6] 2684 = true := by decide +kernel
theorem qL_law_2687 : decB cL_law 2687 [.iconst 0] 2688 = true := by decide +kernel
theorem qL_law_2689 : decB cL_law 2689 [.iload 6] 2691 = true := by decide +kernel
theorem qL_law_2694 : decB cL_law 2694 [.aload_n 3, .iconst 0] 2696 = true := by decide +kernel
theorem qL_law_2697 : decB cL_law 2697 [.lload 7] 2699 = true := by decide +kernel
theorem qL_law_2703 : decB cL_law 2703 [.iconst 0] 2704 = true := by decide +kernel
theorem qL_law_2705 : decB cL_law 2705 [.goto 160] 2865 = true := by decide +kernel
theorem qL_law_2708 : decB cL_law 2708 [.aload_n 1] 2709 = true := by decide +kernel
theorem qL_law_2714 : decB cL_law 2714 [.aload_n 2] 2715 = true := by decide +kernel
theorem qL_law_2744 : decB cL_law 2744 [.iconst 0] 2745 = true := by decide +kernel
theorem qL_law_2746 : decB cL_law 2746 [.goto 119] 2865 = true := by decide +kernel
theorem qL_law_2749 : decB cL_law 2749 [.aload_n 1, .aload_n 0, .iload 5, .iconst 1, .iadd] 2755 = true := by decide +kernel
theorem qL_law_2756 : decB cL_law 2756 [.aload_n 0, .iload 5, .iconst 2, .iadd] 2761 = true := by decide +kernel
theorem qL_law_2762 : decB cL_law 2762 [.aload 4] 2764 = true := by decide +kernel
theorem qL_law_2767 : decB cL_law 2767 [.istore 6, .aload_n 2, .aload_n 0, .iload 5, .iconst 1, .iadd] 2775 = true := by decide +kernel
theorem qL_law_2776 : decB cL_law 2776 [.aload_n 0, .iload 5, .iconst 2, .iadd] 2781 = true := by decide +kernel
theorem qL_law_2787 : decB cL_law 2787 [.aload_n 2] 2788 = true := by decide +kernel
theorem qL_law_2791 : decB cL_law 2791 [.iload 6] 2793 = true := by decide +kernel
theorem qL_law_2796 : decB cL_law 2796 [.iconst 0] 2797 = true := by decide +kernel
theorem qL_law_2798 : decB cL_law 2798 [.iload 6] 2800 = true := by decide +kernel
theorem qL_law_2803 : decB cL_law 2803 [.aload 4, .iconst 0] 2806 = true := by decide +kernel
theorem qL_law_2814 : decB cL_law 2814 [.aload 4, .iconst 0] 2817 = true := by decide +kernel
theorem qL_law_2818 : decB cL_law 2818 [.aload 4, .iconst 0] 2821 = true := by decide +kernel
theorem qL_law_2834 : decB cL_law 2834 [.iconst 0] 2835 = true := by decide +kernel
theorem qL_law_2836 : decB cL_law 2836 [.goto 29] 2865 = true := by decide +kernel
theorem qL_law_2839 : decB cL_law 2839 [.aload_n 1] 2840 = true := by decide +kernel
theorem qL_law_2843 : decB cL_law 2843 [.aload_n 2] 2844 = true := by decide +kernel
theorem qL_law_2850 : decB cL_law 2850 [.iconst 0] 2851 = true := by decide +kernel
theorem qL_law_2852 : decB cL_law 2852 [.aload_n 1] 2853 = true := by decide +kernel
theorem qL_law_2856 : decB cL_law 2856 [.aload_n 2] 2857 = true := by decide +kernel
theorem qL_law_2863 : decB cL_law 2863 [.iconst 0] 2864 = true := by decide +kernel
theorem qL_law_2865 : decB cL_law 2865 [.iinc 5 7, .goto (-2840)] 28 = true := by decide +kernel
theorem qL_law_2871 : decB cL_law 2871 [.iconst 1] 2872 = true := by decide +kernel
theorem dL_law_0 : decode cL_law 0 = .ok (.new 8, 3) := by decide +kernel
theorem dL_law_4 : decode cL_law 4 = .ok (.invokespecial 133, 3) := by decide +kernel
theorem dL_law_8 : decode cL_law 8 = .ok (.new 134, 3) := by decide +kernel
theorem dL_law_12 : decode cL_law 12 = .ok (.invokespecial 136, 3) := by decide +kernel
theorem dL_law_17 : decode cL_law 17 = .ok (.newarray .long, 2) := by decide +kernel
theorem dL_law_21 : decode cL_law 21 = .ok (.newarray .double, 2) := by decide +kernel
theorem dL_law_31 : decode cL_law 31 = .ok (.arraylength, 1) := by decide +kernel
theorem dL_law_35 : decode cL_law 35 = .ok (.if_icmp .gt 2836, 3) := by decide +kernel
theorem dL_law_41 : decode cL_law 41 = .ok (.iaload, 1) := by decide +kernel
theorem dL_law_44 : decode cL_law 44 = .ok (.iand, 1) := by decide +kernel
theorem dL_law_45 : decode cL_law 45 = .ok (.tableswitch 2820 0 43 #[191, 259, 355, 423, 515, 583, 701, 805, 861, 965, 1021, 1077, 1145, 1213, 1269, 1349, 1417, 1473, 1486, 1499, 1555, 1623, 1636, 1704, 1784, 1840, 1853, 1921, 1977, 2045, 2101, 2156, 2169, 2236, 2304, 2360, 2440, 2496, 2552, 2608, 2663, 2704, 2794, 2807], 191) := by decide +kernel
theorem dL_law_242 : decode cL_law 242 = .ok (.iaload, 1) := by decide +kernel
theorem dL_law_248 : decode cL_law 248 = .ok (.iaload, 1) := by decide +kernel
theorem dL_law_250 : decode cL_law 250 = .ok (.invokestatic 137, 3) := by decide +kernel
theorem dL_law_261 : decode cL_law 261 = .ok (.iaload, 1) := by decide +kernel
theorem dL_law_267 : decode cL_law 267 = .ok (.iaload, 1) := by decide +kernel
theorem dL_law_268 : decode cL_law 268 = .ok (.invokevirtual 142, 3) := by decide +kernel
theorem dL_law_274 : decode cL_law 274 = .ok (.invokevirtual 143, 3) := by decide +kernel
theorem dL_law_279 : decode cL_law 279 = .ok (.if_icmp .eq 5, 3) := by decide +kernel
theorem dL_law_283 : decode cL_law 283 = .ok (.ireturn, 1) := by decide +kernel
theorem dL_law_286 : decode cL_law 286 = .ok (.ifCond .ne 15, 3) := by decide +kernel
theorem dL_law_291 : decode cL_law 291 = .ok (.laload, 1) := by decide +kernel
theorem dL_law_294 : decode cL_law 294 = .ok (.i2l, 1) := by decide +kernel
theorem dL_law_295 : decode cL_law 295 = .ok (.lcmp, 1) := by decide +kernel
theorem dL_law_296 : decode cL_law 296 = .ok (.ifCond .eq 5, 3) := by decide +kernel
theorem dL_law_300 : decode cL_law 300 = .ok (.ireturn, 1) := by decide +kernel
theorem dL_law_310 : decode cL_law 310 = .ok (.iaload, 1) := by decide +kernel
theorem dL_law_316 : decode cL_law 316 = .ok (.iaload, 1) := by decide +kernel
theorem dL_law_322 : decode cL_law 322 = .ok (.iaload, 1) := by decide +kernel
theorem dL_law_323 : decode cL_law 323 = .ok (.ifCond .eq 7, 3) := by decide +kernel
theorem dL_law_332 : decode cL_law 332 = .ok (.invokestatic 147, 3) := by decide +kernel
theorem dL_law_343 : decode cL_law 343 = .ok (.iaload, 1) := by decide +kernel
theorem dL_law_349 : decode cL_law 349 = .ok (.iaload, 1) := by decide +kernel
theorem dL_law_355 : decode cL_law 355 = .ok (.iaload, 1) := by decide +kernel
theorem dL_law_356 : decode cL_law 356 = .ok (.ifCond .eq 7, 3) := by decide +kernel
theorem dL_law_364 : decode cL_law 364 = .ok (.invokevirtual 150, 3) := by decide +kernel
theorem dL_law_370 : decode cL_law 370 = .ok (.invokevirtual 143, 3) := by decide +kernel
theorem dL_law_375 : decode cL_law 375 = .ok (.if_icmp .eq 5, 3) := by decide +kernel
theorem dL_law_379 : decode cL_law 379 = .ok (.ireturn, 1) := by decide +kernel
theorem dL_law_382 : decode cL_law 382 = .ok (.ifCond .ne 15, 3) := by decide +kernel
theorem dL_law_387 : decode cL_law 387 = .ok (.laload, 1) := by decide +kernel
theorem dL_law_390 : decode cL_law 390 = .ok (.i2l, 1) := by decide +kernel
theorem dL_law_391 : decode cL_law 391 = .ok (.lcmp, 1) := by decide +kernel
theorem dL_law_392 : decode cL_law 392 = .ok (.ifCond .eq 5, 3) := by decide +kernel
theorem dL_law_396 : decode cL_law 396 = .ok (.ireturn, 1) := by decide +kernel
theorem dL_law_406 : decode cL_law 406 = .ok (.iaload, 1) := by decide +kernel
theorem dL_law_412 : decode cL_law 412 = .ok (.iaload, 1) := by decide +kernel
theorem dL_law_414 : decode cL_law 414 = .ok (.invokestatic 151, 3) := by decide +kernel
theorem dL_law_425 : decode cL_law 425 = .ok (.iaload, 1) := by decide +kernel
theorem dL_law_431 : decode cL_law 431 = .ok (.iaload, 1) := by decide +kernel
theorem dL_law_432 : decode cL_law 432 = .ok (.invokevirtual 153, 3) := by decide +kernel
theorem dL_law_438 : decode cL_law 438 = .ok (.invokevirtual 143, 3) := by decide +kernel
theorem dL_law_443 : decode cL_law 443 = .ok (.if_icmp .eq 5, 3) := by decide +kernel
theorem dL_law_447 : decode cL_law 447 = .ok (.ireturn, 1) := by decide +kernel
theorem dL_law_450 : decode cL_law 450 = .ok (.ifCond .ne 15, 3) := by decide +kernel
theorem dL_law_455 : decode cL_law 455 = .ok (.laload, 1) := by decide +kernel
theorem dL_law_458 : decode cL_law 458 = .ok (.i2l, 1) := by decide +kernel
theorem dL_law_459 : decode cL_law 459 = .ok (.lcmp, 1) := by decide +kernel
theorem dL_law_460 : decode cL_law 460 = .ok (.ifCond .eq 5, 3) := by decide +kernel
theorem dL_law_464 : decode cL_law 464 = .ok (.ireturn, 1) := by decide +kernel
theorem dL_law_474 : decode cL_law 474 = .ok (.iaload, 1) := by decide +kernel
theorem dL_law_480 : decode cL_law 480 = .ok (.iaload, 1) := by decide +kernel
theorem dL_law_486 : decode cL_law 486 = .ok (.iaload, 1) := by decide +kernel
theorem dL_law_492 : decode cL_law 492 = .ok (.iaload, 1) := by decide +kernel
theorem dL_law_494 : decode cL_law 494 = .ok (.invokestatic 154, 3) := by decide +kernel
theorem dL_law_505 : decode cL_law 505 = .ok (.iaload, 1) := by decide +kernel
theorem dL_law_511 : decode cL_law 511 = .ok (.iaload, 1) := by decide +kernel
theorem dL_law_517 : decode cL_law 517 = .ok (.iaload, 1) := by decide +kernel
theorem dL_law_523 : decode cL_law 523 = .ok (.iaload, 1) := by decide +kernel
theorem dL_law_524 : decode cL_law 524 = .ok (.invokevirtual 157, 3) := by decide +kernel
theorem dL_law_530 : decode cL_law 530 = .ok (.invokevirtual 143, 3) := by decide +kernel
theorem dL_law_535 : decode cL_law 535 = .ok (.if_icmp .eq 5, 3) := by decide +kernel
theorem dL_law_539 : decode cL_law 539 = .ok (.ireturn, 1) := by decide +kernel
theorem dL_law_542 : decode cL_law 542 = .ok (.ifCond .ne 15, 3) := by decide +kernel
theorem dL_law_547 : decode cL_law 547 = .ok (.laload, 1) := by decide +kernel
theorem dL_law_550 : decode cL_law 550 = .ok (.i2l, 1) := by decide +kernel
theorem dL_law_551 : decode cL_law 551 = .ok (.lcmp, 1) := by decide +kernel
theorem dL_law_552 : decode cL_law 552 = .ok (.ifCond .eq 5, 3) := by decide +kernel
theorem dL_law_556 : decode cL_law 556 = .ok (.ireturn, 1) := by decide +kernel
theorem dL_law_566 : decode cL_law 566 = .ok (.iaload, 1) := by decide +kernel
theorem dL_law_572 : decode cL_law 572 = .ok (.iaload, 1) := by decide +kernel
theorem dL_law_574 : decode cL_law 574 = .ok (.invokestatic 158, 3) := by decide +kernel
theorem dL_law_585 : decode cL_law 585 = .ok (.iaload, 1) := by decide +kernel
theorem dL_law_591 : decode cL_law 591 = .ok (.iaload, 1) := by decide +kernel
theorem dL_law_592 : decode cL_law 592 = .ok (.invokevirtual 160, 3) := by decide +kernel
theorem dL_law_598 : decode cL_law 598 = .ok (.invokevirtual 143, 3) := by decide +kernel
theorem dL_law_603 : decode cL_law 603 = .ok (.if_icmp .eq 5, 3) := by decide +kernel
theorem dL_law_607 : decode cL_law 607 = .ok (.ireturn, 1) := by decide +kernel
theorem dL_law_610 : decode cL_law 610 = .ok (.ifCond .ne 15, 3) := by decide +kernel
theorem dL_law_615 : decode cL_law 615 = .ok (.laload, 1) := by decide +kernel
theorem dL_law_618 : decode cL_law 618 = .ok (.i2l, 1) := by decide +kernel
theorem dL_law_619 : decode cL_law 619 = .ok (.lcmp, 1) := by decide +kernel
theorem dL_law_620 : decode cL_law 620 = .ok (.ifCond .eq 5, 3) := by decide +kernel
theorem dL_law_624 : decode cL_law 624 = .ok (.ireturn, 1) := by decide +kernel
theorem dL_law_634 : decode cL_law 634 = .ok (.iaload, 1) := by decide +kernel
theorem dL_law_640 : decode cL_law 640 = .ok (.iaload, 1) := by decide +kernel
theorem dL_law_646 : decode cL_law 646 = .ok (.iaload, 1) := by decide +kernel
theorem dL_law_652 : decode cL_law 652 = .ok (.iaload, 1) := by decide +kernel
theorem dL_law_658 : decode cL_law 658 = .ok (.iaload, 1) := by decide +kernel
theorem dL_law_665 : decode cL_law 665 = .ok (.iaload, 1) := by decide +kernel
theorem dL_law_667 : decode cL_law 667 = .ok (.invokestatic 161, 3) := by decide +kernel
theorem dL_law_678 : decode cL_law 678 = .ok (.iaload, 1) := by decide +kernel
theorem dL_law_684 : decode cL_law 684 = .ok (.iaload, 1) := by decide +kernel
theorem dL_law_690 : decode cL_law 690 = .ok (.iaload, 1) := by decide +kernel
theorem dL_law_696 : decode cL_law 696 = .ok (.iaload, 1) := by decide +kernel
theorem dL_law_702 : decode cL_law 702 = .ok (.iaload, 1) := by decide +kernel
theorem dL_law_709 : decode cL_law 709 = .ok (.iaload, 1) := by decide +kernel
theorem dL_law_710 : decode cL_law 710 = .ok (.invokevirtual 164, 3) := by decide +kernel
theorem dL_law_716 : decode cL_law 716 = .ok (.invokevirtual 143, 3) := by decide +kernel
theorem dL_law_721 : decode cL_law 721 = .ok (.if_icmp .eq 5, 3) := by decide +kernel
theorem dL_law_725 : decode cL_law 725 = .ok (.ireturn, 1) := by decide +kernel
theorem dL_law_728 : decode cL_law 728 = .ok (.ifCond .ne 15, 3) := by decide +kernel
theorem dL_law_733 : decode cL_law 733 = .ok (.laload, 1) := by decide +kernel
theorem dL_law_736 : decode cL_law 736 = .ok (.i2l, 1) := by decide +kernel
theorem dL_law_737 : decode cL_law 737 = .ok (.lcmp, 1) := by decide +kernel
theorem dL_law_738 : decode cL_law 738 = .ok (.ifCond .eq 5, 3) := by decide +kernel
theorem dL_law_742 : decode cL_law 742 = .ok (.ireturn, 1) := by decide +kernel
theorem dL_law_752 : decode cL_law 752 = .ok (.iaload, 1) := by decide +kernel
theorem dL_law_758 : decode cL_law 758 = .ok (.iaload, 1) := by decide +kernel
theorem dL_law_764 : decode cL_law 764 = .ok (.iaload, 1) := by decide +kernel
theorem dL_law_770 : decode cL_law 770 = .ok (.iaload, 1) := by decide +kernel
theorem dL_law_776 : decode cL_law 776 = .ok (.iaload, 1) := by decide +kernel
theorem dL_law_778 : decode cL_law 778 = .ok (.invokestatic 165, 3) := by decide +kernel
theorem dL_law_789 : decode cL_law 789 = .ok (.iaload, 1) := by decide +kernel
theorem dL_law_795 : decode cL_law 795 = .ok (.iaload, 1) := by decide +kernel
theorem dL_law_801 : decode cL_law 801 = .ok (.iaload, 1) := by decide +kernel
theorem dL_law_807 : decode cL_law 807 = .ok (.iaload, 1) := by decide +kernel
theorem dL_law_813 : decode cL_law 813 = .ok (.iaload, 1) := by decide +kernel
theorem dL_law_814 : decode cL_law 814 = .ok (.invokevirtual 168, 3) := by decide +kernel
theorem dL_law_820 : decode cL_law 820 = .ok (.invokevirtual 143, 3) := by decide +kernel
theorem dL_law_825 : decode cL_law 825 = .ok (.if_icmp .eq 5, 3) := by decide +kernel
theorem dL_law_829 : decode cL_law 829 = .ok (.ireturn, 1) := by decide +kernel
theorem dL_law_832 : decode cL_law 832 = .ok (.ifCond .ne 15, 3) := by decide +kernel
theorem dL_law_837 : decode cL_law 837 = .ok (.laload, 1) := by decide +kernel
theorem dL_law_840 : decode cL_law 840 = .ok (.i2l, 1) := by decide +kernel
theorem dL_law_841 : decode cL_law 841 = .ok (.lcmp, 1) := by decide +kernel
theorem dL_law_842 : decode cL_law 842 = .ok (.ifCond .eq 5, 3) := by decide +kernel
theorem dL_law_846 : decode cL_law 846 = .ok (.ireturn, 1) := by decide +kernel
theorem dL_law_856 : decode cL_law 856 = .ok (.iaload, 1) := by decide +kernel
theorem dL_law_858 : decode cL_law 858 = .ok (.invokestatic 169, 3) := by decide +kernel
theorem dL_law_869 : decode cL_law 869 = .ok (.iaload, 1) := by decide +kernel
theorem dL_law_870 : decode cL_law 870 = .ok (.invokevirtual 172, 3) := by decide +kernel
theorem dL_law_876 : decode cL_law 876 = .ok (.invokevirtual 143, 3) := by decide +kernel
theorem dL_law_881 : decode cL_law 881 = .ok (.if_icmp .eq 5, 3) := by decide +kernel
theorem dL_law_885 : decode cL_law 885 = .ok (.ireturn, 1) := by decide +kernel
theorem dL_law_888 : decode cL_law 888 = .ok (.ifCond .ne 15, 3) := by decide +kernel
theorem dL_law_893 : decode cL_law 893 = .ok (.laload, 1) := by decide +kernel
theorem dL_law_896 : decode cL_law 896 = .ok (.i2l, 1) := by decide +kernel
theorem dL_law_897 : decode cL_law 897 = .ok (.lcmp, 1) := by decide +kernel
theorem dL_law_898 : decode cL_law 898 = .ok (.ifCond .eq 5, 3) := by decide +kernel
theorem dL_law_902 : decode cL_law 902 = .ok (.ireturn, 1) := by decide +kernel
theorem dL_law_912 : decode cL_law 912 = .ok (.iaload, 1) := by decide +kernel
theorem dL_law_918 : decode cL_law 918 = .ok (.iaload, 1) := by decide +kernel
theorem dL_law_924 : decode cL_law 924 = .ok (.iaload, 1) := by decide +kernel
theorem dL_law_930 : decode cL_law 930 = .ok (.iaload, 1) := by decide +kernel
theorem dL_law_936 : decode cL_law 936 = .ok (.iaload, 1) := by decide +kernel
theorem dL_law_938 : decode cL_law 938 = .ok (.invokestatic 173, 3) := by decide +kernel
theorem dL_law_949 : decode cL_law 949 = .ok (.iaload, 1) := by decide +kernel
theorem dL_law_955 : decode cL_law 955 = .ok (.iaload, 1) := by decide +kernel
theorem dL_law_961 : decode cL_law 961 = .ok (.iaload, 1) := by decide +kernel
theorem dL_law_967 : decode cL_law 967 = .ok (.iaload, 1) := by decide +kernel
theorem dL_law_973 : decode cL_law 973 = .ok (.iaload, 1) := by decide +kernel
theorem dL_law_974 : decode cL_law 974 = .ok (.invokevirtual 175, 3) := by decide +kernel
theorem dL_law_980 : decode cL_law 980 = .ok (.invokevirtual 143, 3) := by decide +kernel
theorem dL_law_985 : decode cL_law 985 = .ok (.if_icmp .eq 5, 3) := by decide +kernel
theorem dL_law_989 : decode cL_law 989 = .ok (.ireturn, 1) := by decide +kernel
theorem dL_law_992 : decode cL_law 992 = .ok (.ifCond .ne 15, 3) := by decide +kernel
theorem dL_law_997 : decode cL_law 997 = .ok (.laload, 1) := by decide +kernel
theorem dL_law_1000 : decode cL_law 1000 = .ok (.i2l, 1) := by decide +kernel
theorem dL_law_1001 : decode cL_law 1001 = .ok (.lcmp, 1) := by decide +kernel
theorem dL_law_1002 : decode cL_law 1002 = .ok (.ifCond .eq 5, 3) := by decide +kernel
theorem dL_law_1006 : decode cL_law 1006 = .ok (.ireturn, 1) := by decide +kernel
theorem dL_law_1016 : decode cL_law 1016 = .ok (.iaload, 1) := by decide +kernel
theorem dL_law_1018 : decode cL_law 1018 = .ok (.invokestatic 176, 3) := by decide +kernel
theorem dL_law_1029 : decode cL_law 1029 = .ok (.iaload, 1) := by decide +kernel
theorem dL_law_1030 : decode cL_law 1030 = .ok (.invokevirtual 178, 3) := by decide +kernel
theorem dL_law_1036 : decode cL_law 1036 = .ok (.invokevirtual 143, 3) := by decide +kernel
theorem dL_law_1041 : decode cL_law 1041 = .ok (.if_icmp .eq 5, 3) := by decide +kernel
theorem dL_law_1045 : decode cL_law 1045 = .ok (.ireturn, 1) := by decide +kernel
theorem dL_law_1048 : decode cL_law 1048 = .ok (.ifCond .ne 15, 3) := by decide +kernel
theorem dL_law_1053 : decode cL_law 1053 = .ok (.laload, 1) := by decide +kernel
theorem dL_law_1056 : decode cL_law 1056 = .ok (.i2l, 1) := by decide +kernel
theorem dL_law_1057 : decode cL_law 1057 = .ok (.lcmp, 1) := by decide +kernel
theorem dL_law_1058 : decode cL_law 1058 = .ok (.ifCond .eq 5, 3) := by decide +kernel
theorem dL_law_1062 : decode cL_law 1062 = .ok (.ireturn, 1) := by decide +kernel
theorem dL_law_1072 : decode cL_law 1072 = .ok (.iaload, 1) := by decide +kernel
theorem dL_law_1074 : decode cL_law 1074 = .ok (.invokestatic 179, 3) := by decide +kernel
theorem dL_law_1085 : decode cL_law 1085 = .ok (.iaload, 1) := by decide +kernel
theorem dL_law_1086 : decode cL_law 1086 = .ok (.invokevirtual 181, 3) := by decide +kernel
theorem dL_law_1092 : decode cL_law 1092 = .ok (.invokevirtual 143, 3) := by decide +kernel
theorem dL_law_1097 : decode cL_law 1097 = .ok (.if_icmp .eq 5, 3) := by decide +kernel
theorem dL_law_1101 : decode cL_law 1101 = .ok (.ireturn, 1) := by decide +kernel
theorem dL_law_1104 : decode cL_law 1104 = .ok (.ifCond .ne 15, 3) := by decide +kernel
theorem dL_law_1109 : decode cL_law 1109 = .ok (.laload, 1) := by decide +kernel
theorem dL_law_1112 : decode cL_law 1112 = .ok (.i2l, 1) := by decide +kernel
theorem dL_law_1113 : decode cL_law 1113 = .ok (.lcmp, 1) := by decide +kernel
theorem dL_law_1114 : decode cL_law 1114 = .ok (.ifCond .eq 5, 3) := by decide +kernel
theorem dL_law_1118 : decode cL_law 1118 = .ok (.ireturn, 1) := by decide +kernel
theorem dL_law_1128 : decode cL_law 1128 = .ok (.iaload, 1) := by decide +kernel
theorem dL_law_1134 : decode cL_law 1134 = .ok (.iaload, 1) := by decide +kernel
theorem dL_law_1136 : decode cL_law 1136 = .ok (.invokestatic 182, 3) := by decide +kernel
theorem dL_law_1147 : decode cL_law 1147 = .ok (.iaload, 1) := by decide +kernel
theorem dL_law_1153 : decode cL_law 1153 = .ok (.iaload, 1) := by decide +kernel
theorem dL_law_1154 : decode cL_law 1154 = .ok (.invokevirtual 184, 3) := by decide +kernel
theorem dL_law_1160 : decode cL_law 1160 = .ok (.invokevirtual 143, 3) := by decide +kernel
theorem dL_law_1165 : decode cL_law 1165 = .ok (.if_icmp .eq 5, 3) := by decide +kernel
theorem dL_law_1169 : decode cL_law 1169 = .ok (.ireturn, 1) := by decide +kernel
theorem dL_law_1172 : decode cL_law 1172 = .ok (.ifCond .ne 15, 3) := by decide +kernel
theorem dL_law_1177 : decode cL_law 1177 = .ok (.laload, 1) := by decide +kernel
theorem dL_law_1180 : decode cL_law 1180 = .ok (.i2l, 1) := by decide +kernel
theorem dL_law_1181 : decode cL_law 1181 = .ok (.lcmp, 1) := by decide +kernel
theorem dL_law_1182 : decode cL_law 1182 = .ok (.ifCond .eq 5, 3) := by decide +kernel
theorem dL_law_1186 : decode cL_law 1186 = .ok (.ireturn, 1) := by decide +kernel
theorem dL_law_1196 : decode cL_law 1196 = .ok (.iaload, 1) := by decide +kernel
theorem dL_law_1202 : decode cL_law 1202 = .ok (.iaload, 1) := by decide +kernel
theorem dL_law_1204 : decode cL_law 1204 = .ok (.invokestatic 185, 3) := by decide +kernel
theorem dL_law_1215 : decode cL_law 1215 = .ok (.iaload, 1) := by decide +kernel
theorem dL_law_1221 : decode cL_law 1221 = .ok (.iaload, 1) := by decide +kernel
theorem dL_law_1222 : decode cL_law 1222 = .ok (.invokevirtual 187, 3) := by decide +kernel
theorem dL_law_1228 : decode cL_law 1228 = .ok (.invokevirtual 143, 3) := by decide +kernel
theorem dL_law_1233 : decode cL_law 1233 = .ok (.if_icmp .eq 5, 3) := by decide +kernel
theorem dL_law_1237 : decode cL_law 1237 = .ok (.ireturn, 1) := by decide +kernel
theorem dL_law_1240 : decode cL_law 1240 = .ok (.ifCond .ne 15, 3) := by decide +kernel
theorem dL_law_1245 : decode cL_law 1245 = .ok (.laload, 1) := by decide +kernel
theorem dL_law_1248 : decode cL_law 1248 = .ok (.i2l, 1) := by decide +kernel
theorem dL_law_1249 : decode cL_law 1249 = .ok (.lcmp, 1) := by decide +kernel
theorem dL_law_1250 : decode cL_law 1250 = .ok (.ifCond .eq 5, 3) := by decide +kernel
theorem dL_law_1254 : decode cL_law 1254 = .ok (.ireturn, 1) := by decide +kernel
theorem dL_law_1264 : decode cL_law 1264 = .ok (.iaload, 1) := by decide +kernel
theorem dL_law_1266 : decode cL_law 1266 = .ok (.invokestatic 188, 3) := by decide +kernel
theorem dL_law_1277 : decode cL_law 1277 = .ok (.iaload, 1) := by decide +kernel
theorem dL_law_1278 : decode cL_law 1278 = .ok (.invokevirtual 190, 3) := by decide +kernel
theorem dL_law_1284 : decode cL_law 1284 = .ok (.invokevirtual 143, 3) := by decide +kernel
theorem dL_law_1289 : decode cL_law 1289 = .ok (.if_icmp .eq 5, 3) := by decide +kernel
theorem dL_law_1293 : decode cL_law 1293 = .ok (.ireturn, 1) := by decide +kernel
theorem dL_law_1296 : decode cL_law 1296 = .ok (.ifCond .ne 15, 3) := by decide +kernel
theorem dL_law_1301 : decode cL_law 1301 = .ok (.laload, 1) := by decide +kernel
theorem dL_law_1304 : decode cL_law 1304 = .ok (.i2l, 1) := by decide +kernel
theorem dL_law_1305 : decode cL_law 1305 = .ok (.lcmp, 1) := by decide +kernel
theorem dL_law_1306 : decode cL_law 1306 = .ok (.ifCond .eq 5, 3) := by decide +kernel
theorem dL_law_1310 : decode cL_law 1310 = .ok (.ireturn, 1) := by decide +kernel
theorem dL_law_1320 : decode cL_law 1320 = .ok (.iaload, 1) := by decide +kernel
theorem dL_law_1326 : decode cL_law 1326 = .ok (.iaload, 1) := by decide +kernel
theorem dL_law_1332 : decode cL_law 1332 = .ok (.iaload, 1) := by decide +kernel
theorem dL_law_1334 : decode cL_law 1334 = .ok (.invokestatic 191, 3) := by decide +kernel
theorem dL_law_1345 : decode cL_law 1345 = .ok (.iaload, 1) := by decide +kernel
theorem dL_law_1351 : decode cL_law 1351 = .ok (.iaload, 1) := by decide +kernel
theorem dL_law_1357 : decode cL_law 1357 = .ok (.iaload, 1) := by decide +kernel
theorem dL_law_1358 : decode cL_law 1358 = .ok (.invokevirtual 194, 3) := by decide +kernel
theorem dL_law_1364 : decode cL_law 1364 = .ok (.invokevirtual 143, 3) := by decide +kernel
theorem dL_law_1369 : decode cL_law 1369 = .ok (.if_icmp .eq 5, 3) := by decide +kernel
theorem dL_law_1373 : decode cL_law 1373 = .ok (.ireturn, 1) := by decide +kernel
theorem dL_law_1376 : decode cL_law 1376 = .ok (.ifCond .ne 15, 3) := by decide +kernel
theorem dL_law_1381 : decode cL_law 1381 = .ok (.laload, 1) := by decide +kernel
theorem dL_law_1384 : decode cL_law 1384 = .ok (.i2l, 1) := by decide +kernel
theorem dL_law_1385 : decode cL_law 1385 = .ok (.lcmp, 1) := by decide +kernel
theorem dL_law_1386 : decode cL_law 1386 = .ok (.ifCond .eq 5, 3) := by decide +kernel
theorem dL_law_1390 : decode cL_law 1390 = .ok (.ireturn, 1) := by decide +kernel
theorem dL_law_1400 : decode cL_law 1400 = .ok (.iaload, 1) := by decide +kernel
theorem dL_law_1406 : decode cL_law 1406 = .ok (.iaload, 1) := by decide +kernel
theorem dL_law_1408 : decode cL_law 1408 = .ok (.invokestatic 195, 3) := by decide +kernel
theorem dL_law_1419 : decode cL_law 1419 = .ok (.iaload, 1) := by decide +kernel
theorem dL_law_1425 : decode cL_law 1425 = .ok (.iaload, 1) := by decide +kernel
theorem dL_law_1426 : decode cL_law 1426 = .ok (.invokevirtual 197, 3) := by decide +kernel
theorem dL_law_1432 : decode cL_law 1432 = .ok (.invokevirtual 143, 3) := by decide +kernel
theorem dL_law_1437 : decode cL_law 1437 = .ok (.if_icmp .eq 5, 3) := by decide +kernel
theorem dL_law_1441 : decode cL_law 1441 = .ok (.ireturn, 1) := by decide +kernel
theorem dL_law_1444 : decode cL_law 1444 = .ok (.ifCond .ne 15, 3) := by decide +kernel
theorem dL_law_1449 : decode cL_law 1449 = .ok (.laload, 1) := by decide +kernel
theorem dL_law_1452 : decode cL_law 1452 = .ok (.i2l, 1) := by decide +kernel
theorem dL_law_1453 : decode cL_law 1453 = .ok (.lcmp, 1) := by decide +kernel
theorem dL_law_1454 : decode cL_law 1454 = .ok (.ifCond .eq 5, 3) := by decide +kernel
theorem dL_law_1458 : decode cL_law 1458 = .ok (.ireturn, 1) := by decide +kernel
theorem dL_law_1468 : decode cL_law 1468 = .ok (.iaload, 1) := by decide +kernel
theorem dL_law_1470 : decode cL_law 1470 = .ok (.invokestatic 198, 3) := by decide +kernel
theorem dL_law_1481 : decode cL_law 1481 = .ok (.iaload, 1) := by decide +kernel
theorem dL_law_1482 : decode cL_law 1482 = .ok (.invokevirtual 200, 3) := by decide +kernel
theorem dL_law_1488 : decode cL_law 1488 = .ok (.invokevirtual 143, 3) := by decide +kernel
theorem dL_law_1493 : decode cL_law 1493 = .ok (.if_icmp .eq 5, 3) := by decide +kernel
theorem dL_law_1497 : decode cL_law 1497 = .ok (.ireturn, 1) := by decide +kernel
theorem dL_law_1500 : decode cL_law 1500 = .ok (.ifCond .ne 15, 3) := by decide +kernel
theorem dL_law_1505 : decode cL_law 1505 = .ok (.laload, 1) := by decide +kernel
theorem dL_law_1508 : decode cL_law 1508 = .ok (.i2l, 1) := by decide +kernel
theorem dL_law_1509 : decode cL_law 1509 = .ok (.lcmp, 1) := by decide +kernel
theorem dL_law_1510 : decode cL_law 1510 = .ok (.ifCond .eq 5, 3) := by decide +kernel
theorem dL_law_1514 : decode cL_law 1514 = .ok (.ireturn, 1) := by decide +kernel
theorem dL_law_1519 : decode cL_law 1519 = .ok (.invokevirtual 201, 3) := by decide +kernel
theorem dL_law_1523 : decode cL_law 1523 = .ok (.invokevirtual 204, 3) := by decide +kernel
theorem dL_law_1526 : decode cL_law 1526 = .ok (.if_icmp .eq 1339, 3) := by decide +kernel
theorem dL_law_1530 : decode cL_law 1530 = .ok (.ireturn, 1) := by decide +kernel
theorem dL_law_1532 : decode cL_law 1532 = .ok (.invokevirtual 205, 3) := by decide +kernel
theorem dL_law_1536 : decode cL_law 1536 = .ok (.invokevirtual 208, 3) := by decide +kernel
theorem dL_law_1539 : decode cL_law 1539 = .ok (.if_icmp .eq 1326, 3) := by decide +kernel
theorem dL_law_1543 : decode cL_law 1543 = .ok (.ireturn, 1) := by decide +kernel
theorem dL_law_1550 : decode cL_law 1550 = .ok (.iaload, 1) := by decide +kernel
theorem dL_law_1552 : decode cL_law 1552 = .ok (.invokestatic 209, 3) := by decide +kernel
theorem dL_law_1563 : decode cL_law 1563 = .ok (.iaload, 1) := by decide +kernel
theorem dL_law_1564 : decode cL_law 1564 = .ok (.invokevirtual 211, 3) := by decide +kernel
theorem dL_law_1570 : decode cL_law 1570 = .ok (.invokevirtual 143, 3) := by decide +kernel
theorem dL_law_1575 : decode cL_law 1575 = .ok (.if_icmp .eq 5, 3) := by decide +kernel
theorem dL_law_1579 : decode cL_law 1579 = .ok (.ireturn, 1) := by decide +kernel
theorem dL_law_1582 : decode cL_law 1582 = .ok (.ifCond .ne 15, 3) := by decide +kernel
theorem dL_law_1587 : decode cL_law 1587 = .ok (.laload, 1) := by decide +kernel
theorem dL_law_1590 : decode cL_law 1590 = .ok (.i2l, 1) := by decide +kernel
theorem dL_law_1591 : decode cL_law 1591 = .ok (.lcmp, 1) := by decide +kernel
theorem dL_law_1592 : decode cL_law 1592 = .ok (.ifCond .eq 5, 3) := by decide +kernel
theorem dL_law_1596 : decode cL_law 1596 = .ok (.ireturn, 1) := by decide +kernel
theorem dL_law_1606 : decode cL_law 1606 = .ok (.iaload, 1) := by decide +kernel
theorem dL_law_1612 : decode cL_law 1612 = .ok (.iaload, 1) := by decide +kernel
theorem dL_law_1614 : decode cL_law 1614 = .ok (.invokestatic 212, 3) := by decide +kernel
theorem dL_law_1625 : decode cL_law 1625 = .ok (.iaload, 1) := by decide +kernel
theorem dL_law_1631 : decode cL_law 1631 = .ok (.iaload, 1) := by decide +kernel
theorem dL_law_1632 : decode cL_law 1632 = .ok (.invokevirtual 214, 3) := by decide +kernel
theorem dL_law_1638 : decode cL_law 1638 = .ok (.invokevirtual 143, 3) := by decide +kernel
theorem dL_law_1643 : decode cL_law 1643 = .ok (.if_icmp .eq 5, 3) := by decide +kernel
theorem dL_law_1647 : decode cL_law 1647 = .ok (.ireturn, 1) := by decide +kernel
theorem dL_law_1650 : decode cL_law 1650 = .ok (.ifCond .ne 15, 3) := by decide +kernel
theorem dL_law_1655 : decode cL_law 1655 = .ok (.laload, 1) := by decide +kernel
theorem dL_law_1658 : decode cL_law 1658 = .ok (.i2l, 1) := by decide +kernel
theorem dL_law_1659 : decode cL_law 1659 = .ok (.lcmp, 1) := by decide +kernel
theorem dL_law_1660 : decode cL_law 1660 = .ok (.ifCond .eq 5, 3) := by decide +kernel
theorem dL_law_1664 : decode cL_law 1664 = .ok (.ireturn, 1) := by decide +kernel
theorem dL_law_1669 : decode cL_law 1669 = .ok (.invokevirtual 215, 3) := by decide +kernel
theorem dL_law_1673 : decode cL_law 1673 = .ok (.invokevirtual 218, 3) := by decide +kernel
theorem dL_law_1676 : decode cL_law 1676 = .ok (.if_icmp .eq 1189, 3) := by decide +kernel
theorem dL_law_1680 : decode cL_law 1680 = .ok (.ireturn, 1) := by decide +kernel
theorem dL_law_1687 : decode cL_law 1687 = .ok (.iaload, 1) := by decide +kernel
theorem dL_law_1693 : decode cL_law 1693 = .ok (.iaload, 1) := by decide +kernel
theorem dL_law_1695 : decode cL_law 1695 = .ok (.invokestatic 219, 3) := by decide +kernel
theorem dL_law_1706 : decode cL_law 1706 = .ok (.iaload, 1) := by decide +kernel
theorem dL_law_1712 : decode cL_law 1712 = .ok (.iaload, 1) := by decide +kernel
theorem dL_law_1713 : decode cL_law 1713 = .ok (.invokevirtual 221, 3) := by decide +kernel
theorem dL_law_1719 : decode cL_law 1719 = .ok (.invokevirtual 143, 3) := by decide +kernel
theorem dL_law_1724 : decode cL_law 1724 = .ok (.if_icmp .eq 5, 3) := by decide +kernel
theorem dL_law_1728 : decode cL_law 1728 = .ok (.ireturn, 1) := by decide +kernel
theorem dL_law_1731 : decode cL_law 1731 = .ok (.ifCond .ne 15, 3) := by decide +kernel
theorem dL_law_1736 : decode cL_law 1736 = .ok (.laload, 1) := by decide +kernel
theorem dL_law_1739 : decode cL_law 1739 = .ok (.i2l, 1) := by decide +kernel
theorem dL_law_1740 : decode cL_law 1740 = .ok (.lcmp, 1) := by decide +kernel
theorem dL_law_1741 : decode cL_law 1741 = .ok (.ifCond .eq 5, 3) := by decide +kernel
theorem dL_law_1745 : decode cL_law 1745 = .ok (.ireturn, 1) := by decide +kernel
theorem dL_law_1755 : decode cL_law 1755 = .ok (.iaload, 1) := by decide +kernel
theorem dL_law_1761 : decode cL_law 1761 = .ok (.iaload, 1) := by decide +kernel
theorem dL_law_1767 : decode cL_law 1767 = .ok (.iaload, 1) := by decide +kernel
theorem dL_law_1769 : decode cL_law 1769 = .ok (.invokestatic 222, 3) := by decide +kernel
theorem dL_law_1780 : decode cL_law 1780 = .ok (.iaload, 1) := by decide +kernel
theorem dL_law_1786 : decode cL_law 1786 = .ok (.iaload, 1) := by decide +kernel
theorem dL_law_1792 : decode cL_law 1792 = .ok (.iaload, 1) := by decide +kernel
theorem dL_law_1793 : decode cL_law 1793 = .ok (.invokevirtual 224, 3) := by decide +kernel
theorem dL_law_1799 : decode cL_law 1799 = .ok (.invokevirtual 143, 3) := by decide +kernel
theorem dL_law_1804 : decode cL_law 1804 = .ok (.if_icmp .eq 5, 3) := by decide +kernel
theorem dL_law_1808 : decode cL_law 1808 = .ok (.ireturn, 1) := by decide +kernel
theorem dL_law_1811 : decode cL_law 1811 = .ok (.ifCond .ne 15, 3) := by decide +kernel
theorem dL_law_1816 : decode cL_law 1816 = .ok (.laload, 1) := by decide +kernel
theorem dL_law_1819 : decode cL_law 1819 = .ok (.i2l, 1) := by decide +kernel
theorem dL_law_1820 : decode cL_law 1820 = .ok (.lcmp, 1) := by decide +kernel
theorem dL_law_1821 : decode cL_law 1821 = .ok (.ifCond .eq 5, 3) := by decide +kernel
theorem dL_law_1825 : decode cL_law 1825 = .ok (.ireturn, 1) := by decide +kernel
theorem dL_law_1835 : decode cL_law 1835 = .ok (.iaload, 1) := by decide +kernel
theorem dL_law_1837 : decode cL_law 1837 = .ok (.invokestatic 225, 3) := by decide +kernel
theorem dL_law_1848 : decode cL_law 1848 = .ok (.iaload, 1) := by decide +kernel
theorem dL_law_1849 : decode cL_law 1849 = .ok (.invokevirtual 227, 3) := by decide +kernel
theorem dL_law_1855 : decode cL_law 1855 = .ok (.invokevirtual 143, 3) := by decide +kernel
theorem dL_law_1860 : decode cL_law 1860 = .ok (.if_icmp .eq 5, 3) := by decide +kernel
theorem dL_law_1864 : decode cL_law 1864 = .ok (.ireturn, 1) := by decide +kernel
theorem dL_law_1867 : decode cL_law 1867 = .ok (.ifCond .ne 15, 3) := by decide +kernel
theorem dL_law_1872 : decode cL_law 1872 = .ok (.laload, 1) := by decide +kernel
theorem dL_law_1875 : decode cL_law 1875 = .ok (.i2l, 1) := by decide +kernel
theorem dL_law_1876 : decode cL_law 1876 = .ok (.lcmp, 1) := by decide +kernel
theorem dL_law_1877 : decode cL_law 1877 = .ok (.ifCond .eq 5, 3) := by decide +kernel
theorem dL_law_1881 : decode cL_law 1881 = .ok (.ireturn, 1) := by decide +kernel
theorem dL_law_1886 : decode cL_law 1886 = .ok (.invokevirtual 228, 3) := by decide +kernel
theorem dL_law_1890 : decode cL_law 1890 = .ok (.invokevirtual 231, 3) := by decide +kernel
theorem dL_law_1893 : decode cL_law 1893 = .ok (.if_icmp .eq 972, 3) := by decide +kernel
theorem dL_law_1897 : decode cL_law 1897 = .ok (.ireturn, 1) := by decide +kernel
theorem dL_law_1904 : decode cL_law 1904 = .ok (.iaload, 1) := by decide +kernel
theorem dL_law_1910 : decode cL_law 1910 = .ok (.iaload, 1) := by decide +kernel
theorem dL_law_1912 : decode cL_law 1912 = .ok (.invokestatic 232, 3) := by decide +kernel
theorem dL_law_1923 : decode cL_law 1923 = .ok (.iaload, 1) := by decide +kernel
theorem dL_law_1929 : decode cL_law 1929 = .ok (.iaload, 1) := by decide +kernel
theorem dL_law_1930 : decode cL_law 1930 = .ok (.invokevirtual 234, 3) := by decide +kernel
theorem dL_law_1936 : decode cL_law 1936 = .ok (.invokevirtual 143, 3) := by decide +kernel
theorem dL_law_1941 : decode cL_law 1941 = .ok (.if_icmp .eq 5, 3) := by decide +kernel
theorem dL_law_1945 : decode cL_law 1945 = .ok (.ireturn, 1) := by decide +kernel
theorem dL_law_1948 : decode cL_law 1948 = .ok (.ifCond .ne 15, 3) := by decide +kernel
theorem dL_law_1953 : decode cL_law 1953 = .ok (.laload, 1) := by decide +kernel
theorem dL_law_1956 : decode cL_law 1956 = .ok (.i2l, 1) := by decide +kernel
theorem dL_law_1957 : decode cL_law 1957 = .ok (.lcmp, 1) := by decide +kernel
theorem dL_law_1958 : decode cL_law 1958 = .ok (.ifCond .eq 5, 3) := by decide +kernel
theorem dL_law_1962 : decode cL_law 1962 = .ok (.ireturn, 1) := by decide +kernel
theorem dL_law_1972 : decode cL_law 1972 = .ok (.iaload, 1) := by decide +kernel
theorem dL_law_1974 : decode cL_law 1974 = .ok (.invokestatic 235, 3) := by decide +kernel
theorem dL_law_1985 : decode cL_law 1985 = .ok (.iaload, 1) := by decide +kernel
theorem dL_law_1986 : decode cL_law 1986 = .ok (.invokevirtual 237, 3) := by decide +kernel
theorem dL_law_1992 : decode cL_law 1992 = .ok (.invokevirtual 143, 3) := by decide +kernel
theorem dL_law_1997 : decode cL_law 1997 = .ok (.if_icmp .eq 5, 3) := by decide +kernel
theorem dL_law_2001 : decode cL_law 2001 = .ok (.ireturn, 1) := by decide +kernel
theorem dL_law_2004 : decode cL_law 2004 = .ok (.ifCond .ne 15, 3) := by decide +kernel
theorem dL_law_2009 : decode cL_law 2009 = .ok (.laload, 1) := by decide +kernel
theorem dL_law_2012 : decode cL_law 2012 = .ok (.i2l, 1) := by decide +kernel
theorem dL_law_2013 : decode cL_law 2013 = .ok (.lcmp, 1) := by decide +kernel
theorem dL_law_2014 : decode cL_law 2014 = .ok (.ifCond .eq 5, 3) := by decide +kernel
theorem dL_law_2018 : decode cL_law 2018 = .ok (.ireturn, 1) := by decide +kernel
theorem dL_law_2028 : decode cL_law 2028 = .ok (.iaload, 1) := by decide +kernel
theorem dL_law_2034 : decode cL_law 2034 = .ok (.iaload, 1) := by decide +kernel
theorem dL_law_2036 : decode cL_law 2036 = .ok (.invokestatic 238, 3) := by decide +kernel
theorem dL_law_2047 : decode cL_law 2047 = .ok (.iaload, 1) := by decide +kernel
theorem dL_law_2053 : decode cL_law 2053 = .ok (.iaload, 1) := by decide +kernel
theorem dL_law_2054 : decode cL_law 2054 = .ok (.invokevirtual 240, 3) := by decide +kernel
theorem dL_law_2060 : decode cL_law 2060 = .ok (.invokevirtual 143, 3) := by decide +kernel
theorem dL_law_2065 : decode cL_law 2065 = .ok (.if_icmp .eq 5, 3) := by decide +kernel
theorem dL_law_2069 : decode cL_law 2069 = .ok (.ireturn, 1) := by decide +kernel
theorem dL_law_2072 : decode cL_law 2072 = .ok (.ifCond .ne 15, 3) := by decide +kernel
theorem dL_law_2077 : decode cL_law 2077 = .ok (.laload, 1) := by decide +kernel
theorem dL_law_2080 : decode cL_law 2080 = .ok (.i2l, 1) := by decide +kernel
theorem dL_law_2081 : decode cL_law 2081 = .ok (.lcmp, 1) := by decide +kernel
theorem dL_law_2082 : decode cL_law 2082 = .ok (.ifCond .eq 5, 3) := by decide +kernel
theorem dL_law_2086 : decode cL_law 2086 = .ok (.ireturn, 1) := by decide +kernel
theorem dL_law_2096 : decode cL_law 2096 = .ok (.iaload, 1) := by decide +kernel
theorem dL_law_2098 : decode cL_law 2098 = .ok (.invokestatic 241, 3) := by decide +kernel
theorem dL_law_2109 : decode cL_law 2109 = .ok (.iaload, 1) := by decide +kernel
theorem dL_law_2110 : decode cL_law 2110 = .ok (.invokevirtual 243, 3) := by decide +kernel
theorem dL_law_2116 : decode cL_law 2116 = .ok (.invokevirtual 143, 3) := by decide +kernel
theorem dL_law_2121 : decode cL_law 2121 = .ok (.if_icmp .eq 5, 3) := by decide +kernel
theorem dL_law_2125 : decode cL_law 2125 = .ok (.ireturn, 1) := by decide +kernel
theorem dL_law_2128 : decode cL_law 2128 = .ok (.ifCond .ne 15, 3) := by decide +kernel
theorem dL_law_2133 : decode cL_law 2133 = .ok (.laload, 1) := by decide +kernel
theorem dL_law_2136 : decode cL_law 2136 = .ok (.i2l, 1) := by decide +kernel
theorem dL_law_2137 : decode cL_law 2137 = .ok (.lcmp, 1) := by decide +kernel
theorem dL_law_2138 : decode cL_law 2138 = .ok (.ifCond .eq 5, 3) := by decide +kernel
theorem dL_law_2142 : decode cL_law 2142 = .ok (.ireturn, 1) := by decide +kernel
theorem dL_law_2152 : decode cL_law 2152 = .ok (.iaload, 1) := by decide +kernel
theorem dL_law_2154 : decode cL_law 2154 = .ok (.invokestatic 244, 3) := by decide +kernel
theorem dL_law_2165 : decode cL_law 2165 = .ok (.iaload, 1) := by decide +kernel
theorem dL_law_2166 : decode cL_law 2166 = .ok (.invokevirtual 246, 3) := by decide +kernel
theorem dL_law_2172 : decode cL_law 2172 = .ok (.invokevirtual 143, 3) := by decide +kernel
theorem dL_law_2177 : decode cL_law 2177 = .ok (.if_icmp .eq 5, 3) := by decide +kernel
theorem dL_law_2181 : decode cL_law 2181 = .ok (.ireturn, 1) := by decide +kernel
theorem dL_law_2184 : decode cL_law 2184 = .ok (.ifCond .ne 14, 3) := by decide +kernel
theorem dL_law_2189 : decode cL_law 2189 = .ok (.laload, 1) := by decide +kernel
theorem dL_law_2192 : decode cL_law 2192 = .ok (.lcmp, 1) := by decide +kernel
theorem dL_law_2193 : decode cL_law 2193 = .ok (.ifCond .eq 5, 3) := by decide +kernel
theorem dL_law_2197 : decode cL_law 2197 = .ok (.ireturn, 1) := by decide +kernel
theorem dL_law_2202 : decode cL_law 2202 = .ok (.invokevirtual 247, 3) := by decide +kernel
theorem dL_law_2206 : decode cL_law 2206 = .ok (.invokevirtual 250, 3) := by decide +kernel
theorem dL_law_2209 : decode cL_law 2209 = .ok (.if_icmp .eq 656, 3) := by decide +kernel
theorem dL_law_2213 : decode cL_law 2213 = .ok (.ireturn, 1) := by decide +kernel
theorem dL_law_2220 : decode cL_law 2220 = .ok (.iaload, 1) := by decide +kernel
theorem dL_law_2226 : decode cL_law 2226 = .ok (.iaload, 1) := by decide +kernel
theorem dL_law_2228 : decode cL_law 2228 = .ok (.invokestatic 251, 3) := by decide +kernel
theorem dL_law_2239 : decode cL_law 2239 = .ok (.iaload, 1) := by decide +kernel
theorem dL_law_2245 : decode cL_law 2245 = .ok (.iaload, 1) := by decide +kernel
theorem dL_law_2246 : decode cL_law 2246 = .ok (.invokevirtual 253, 3) := by decide +kernel
theorem dL_law_2252 : decode cL_law 2252 = .ok (.invokevirtual 143, 3) := by decide +kernel
theorem dL_law_2257 : decode cL_law 2257 = .ok (.if_icmp .eq 5, 3) := by decide +kernel
theorem dL_law_2261 : decode cL_law 2261 = .ok (.ireturn, 1) := by decide +kernel
theorem dL_law_2264 : decode cL_law 2264 = .ok (.ifCond .ne 14, 3) := by decide +kernel
theorem dL_law_2269 : decode cL_law 2269 = .ok (.laload, 1) := by decide +kernel
theorem dL_law_2272 : decode cL_law 2272 = .ok (.lcmp, 1) := by decide +kernel
theorem dL_law_2273 : decode cL_law 2273 = .ok (.ifCond .eq 5, 3) := by decide +kernel
theorem dL_law_2277 : decode cL_law 2277 = .ok (.ireturn, 1) := by decide +kernel
theorem dL_law_2287 : decode cL_law 2287 = .ok (.iaload, 1) := by decide +kernel
theorem dL_law_2293 : decode cL_law 2293 = .ok (.iaload, 1) := by decide +kernel
theorem dL_law_2295 : decode cL_law 2295 = .ok (.invokestatic 254, 3) := by decide +kernel
theorem dL_law_2306 : decode cL_law 2306 = .ok (.iaload, 1) := by decide +kernel
theorem dL_law_2312 : decode cL_law 2312 = .ok (.iaload, 1) := by decide +kernel
theorem dL_law_2313 : decode cL_law 2313 = .ok (.invokevirtual 256, 3) := by decide +kernel
theorem dL_law_2319 : decode cL_law 2319 = .ok (.invokevirtual 143, 3) := by decide +kernel
theorem dL_law_2324 : decode cL_law 2324 = .ok (.if_icmp .eq 5, 3) := by decide +kernel
theorem dL_law_2328 : decode cL_law 2328 = .ok (.ireturn, 1) := by decide +kernel
theorem dL_law_2331 : decode cL_law 2331 = .ok (.ifCond .ne 15, 3) := by decide +kernel
theorem dL_law_2336 : decode cL_law 2336 = .ok (.laload, 1) := by decide +kernel
theorem dL_law_2339 : decode cL_law 2339 = .ok (.i2l, 1) := by decide +kernel
theorem dL_law_2340 : decode cL_law 2340 = .ok (.lcmp, 1) := by decide +kernel
theorem dL_law_2341 : decode cL_law 2341 = .ok (.ifCond .eq 5, 3) := by decide +kernel
theorem dL_law_2345 : decode cL_law 2345 = .ok (.ireturn, 1) := by decide +kernel
theorem dL_law_2355 : decode cL_law 2355 = .ok (.iaload, 1) := by decide +kernel
theorem dL_law_2357 : decode cL_law 2357 = .ok (.invokestatic 257, 3) := by decide +kernel
theorem dL_law_2368 : decode cL_law 2368 = .ok (.iaload, 1) := by decide +kernel
theorem dL_law_2369 : decode cL_law 2369 = .ok (.invokevirtual 259, 3) := by decide +kernel
theorem dL_law_2375 : decode cL_law 2375 = .ok (.invokevirtual 143, 3) := by decide +kernel
theorem dL_law_2380 : decode cL_law 2380 = .ok (.if_icmp .eq 5, 3) := by decide +kernel
theorem dL_law_2384 : decode cL_law 2384 = .ok (.ireturn, 1) := by decide +kernel
theorem dL_law_2387 : decode cL_law 2387 = .ok (.ifCond .ne 15, 3) := by decide +kernel
theorem dL_law_2392 : decode cL_law 2392 = .ok (.laload, 1) := by decide +kernel
theorem dL_law_2395 : decode cL_law 2395 = .ok (.i2l, 1) := by decide +kernel
theorem dL_law_2396 : decode cL_law 2396 = .ok (.lcmp, 1) := by decide +kernel
theorem dL_law_2397 : decode cL_law 2397 = .ok (.ifCond .eq 5, 3) := by decide +kernel
theorem dL_law_2401 : decode cL_law 2401 = .ok (.ireturn, 1) := by decide +kernel
theorem dL_law_2411 : decode cL_law 2411 = .ok (.iaload, 1) := by decide +kernel
theorem dL_law_2417 : decode cL_law 2417 = .ok (.iaload, 1) := by decide +kernel
theorem dL_law_2423 : decode cL_law 2423 = .ok (.iaload, 1) := by decide +kernel
theorem dL_law_2425 : decode cL_law 2425 = .ok (.invokestatic 260, 3) := by decide +kernel
theorem dL_law_2436 : decode cL_law 2436 = .ok (.iaload, 1) := by decide +kernel
theorem dL_law_2442 : decode cL_law 2442 = .ok (.iaload, 1) := by decide +kernel
theorem dL_law_2448 : decode cL_law 2448 = .ok (.iaload, 1) := by decide +kernel
theorem dL_law_2449 : decode cL_law 2449 = .ok (.invokevirtual 262, 3) := by decide +kernel
theorem dL_law_2455 : decode cL_law 2455 = .ok (.invokevirtual 143, 3) := by decide +kernel
theorem dL_law_2460 : decode cL_law 2460 = .ok (.if_icmp .eq 5, 3) := by decide +kernel
theorem dL_law_2464 : decode cL_law 2464 = .ok (.ireturn, 1) := by decide +kernel
theorem dL_law_2467 : decode cL_law 2467 = .ok (.ifCond .ne 15, 3) := by decide +kernel
theorem dL_law_2472 : decode cL_law 2472 = .ok (.laload, 1) := by decide +kernel
theorem dL_law_2475 : decode cL_law 2475 = .ok (.i2l, 1) := by decide +kernel
theorem dL_law_2476 : decode cL_law 2476 = .ok (.lcmp, 1) := by decide +kernel
theorem dL_law_2477 : decode cL_law 2477 = .ok (.ifCond .eq 5, 3) := by decide +kernel
theorem dL_law_2481 : decode cL_law 2481 = .ok (.ireturn, 1) := by decide +kernel
theorem dL_law_2491 : decode cL_law 2491 = .ok (.iaload, 1) := by decide +kernel
theorem dL_law_2493 : decode cL_law 2493 = .ok (.invokestatic 263, 3) := by decide +kernel
theorem dL_law_2504 : decode cL_law 2504 = .ok (.iaload, 1) := by decide +kernel
theorem dL_law_2505 : decode cL_law 2505 = .ok (.invokevirtual 265, 3) := by decide +kernel
theorem dL_law_2511 : decode cL_law 2511 = .ok (.invokevirtual 143, 3) := by decide +kernel
theorem dL_law_2516 : decode cL_law 2516 = .ok (.if_icmp .eq 5, 3) := by decide +kernel
theorem dL_law_2520 : decode cL_law 2520 = .ok (.ireturn, 1) := by decide +kernel
theorem dL_law_2523 : decode cL_law 2523 = .ok (.ifCond .ne 15, 3) := by decide +kernel
theorem dL_law_2528 : decode cL_law 2528 = .ok (.laload, 1) := by decide +kernel
theorem dL_law_2531 : decode cL_law 2531 = .ok (.i2l, 1) := by decide +kernel
theorem dL_law_2532 : decode cL_law 2532 = .ok (.lcmp, 1) := by decide +kernel
theorem dL_law_2533 : decode cL_law 2533 = .ok (.ifCond .eq 5, 3) := by decide +kernel
theorem dL_law_2537 : decode cL_law 2537 = .ok (.ireturn, 1) := by decide +kernel
theorem dL_law_2547 : decode cL_law 2547 = .ok (.iaload, 1) := by decide +kernel
theorem dL_law_2549 : decode cL_law 2549 = .ok (.invokestatic 266, 3) := by decide +kernel
theorem dL_law_2560 : decode cL_law 2560 = .ok (.iaload, 1) := by decide +kernel
theorem dL_law_2561 : decode cL_law 2561 = .ok (.invokevirtual 268, 3) := by decide +kernel
theorem dL_law_2567 : decode cL_law 2567 = .ok (.invokevirtual 143, 3) := by decide +kernel
theorem dL_law_2572 : decode cL_law 2572 = .ok (.if_icmp .eq 5, 3) := by decide +kernel
theorem dL_law_2576 : decode cL_law 2576 = .ok (.ireturn, 1) := by decide +kernel
theorem dL_law_2579 : decode cL_law 2579 = .ok (.ifCond .ne 15, 3) := by decide +kernel
theorem dL_law_2584 : decode cL_law 2584 = .ok (.laload, 1) := by decide +kernel
theorem dL_law_2587 : decode cL_law 2587 = .ok (.i2l, 1) := by decide +kernel
theorem dL_law_2588 : decode cL_law 2588 = .ok (.lcmp, 1) := by decide +kernel
theorem dL_law_2589 : decode cL_law 2589 = .ok (.ifCond .eq 5, 3) := by decide +kernel
theorem dL_law_2593 : decode cL_law 2593 = .ok (.ireturn, 1) := by decide +kernel
theorem dL_law_2603 : decode cL_law 2603 = .ok (.iaload, 1) := by decide +kernel
theorem dL_law_2605 : decode cL_law 2605 = .ok (.invokestatic 269, 3) := by decide +kernel
theorem dL_law_2616 : decode cL_law 2616 = .ok (.iaload, 1) := by decide +kernel
theorem dL_law_2617 : decode cL_law 2617 = .ok (.invokevirtual 271, 3) := by decide +kernel
theorem dL_law_2623 : decode cL_law 2623 = .ok (.invokevirtual 143, 3) := by decide +kernel
theorem dL_law_2628 : decode cL_law 2628 = .ok (.if_icmp .eq 5, 3) := by decide +kernel
theorem dL_law_2632 : decode cL_law 2632 = .ok (.ireturn, 1) := by decide +kernel
theorem dL_law_2635 : decode cL_law 2635 = .ok (.ifCond .ne 15, 3) := by decide +kernel
theorem dL_law_2640 : decode cL_law 2640 = .ok (.laload, 1) := by decide +kernel
theorem dL_law_2643 : decode cL_law 2643 = .ok (.i2l, 1) := by decide +kernel
theorem dL_law_2644 : decode cL_law 2644 = .ok (.lcmp, 1) := by decide +kernel
theorem dL_law_2645 : decode cL_law 2645 = .ok (.ifCond .eq 5, 3) := by decide +kernel
theorem dL_law_2649 : decode cL_law 2649 = .ok (.ireturn, 1) := by decide +kernel
theorem dL_law_2659 : decode cL_law 2659 = .ok (.iaload, 1) := by decide +kernel
theorem dL_law_2661 : decode cL_law 2661 = .ok (.invokestatic 272, 3) := by decide +kernel
theorem dL_law_2672 : decode cL_law 2672 = .ok (.iaload, 1) := by decide +kernel
theorem dL_law_2673 : decode cL_law 2673 = .ok (.invokevirtual 274, 3) := by decide +kernel
theorem dL_law_2679 : decode cL_law 2679 = .ok (.invokevirtual 143, 3) := by decide +kernel
theorem dL_law_2684 : decode cL_law 2684 = .ok (.if_icmp .eq 5, 3) := by decide +kernel
theorem dL_law_2688 : decode cL_law 2688 = .ok (.ireturn, 1) := by decide +kernel
theorem dL_law_2691 : decode cL_law 2691 = .ok (.ifCond .ne 14, 3) := by decide +kernel
theorem dL_law_2696 : decode cL_law 2696 = .ok (.laload, 1) := by decide +kernel
theorem dL_law_2699 : decode cL_law 2699 = .ok (.lcmp, 1) := by decide +kernel
theorem dL_law_2700 : decode cL_law 2700 = .ok (.ifCond .eq 5, 3) := by decide +kernel
theorem dL_law_2704 : decode cL_law 2704 = .ok (.ireturn, 1) := by decide +kernel
theorem dL_law_2709 : decode cL_law 2709 = .ok (.invokevirtual 275, 3) := by decide +kernel
theorem dL_law_2712 : decode cL_law 2712 = .ok (.dstore 6, 2) := by decide +kernel
theorem dL_law_2715 : decode cL_law 2715 = .ok (.invokevirtual 279, 3) := by decide +kernel
theorem dL_law_2718 : decode cL_law 2718 = .ok (.dstore 8, 2) := by decide +kernel
theorem dL_law_2720 : decode cL_law 2720 = .ok (.dload 6, 2) := by decide +kernel
theorem dL_law_2722 : decode cL_law 2722 = .ok (.dload 8, 2) := by decide +kernel
theorem dL_law_2724 : decode cL_law 2724 = .ok (.dcmp .l, 1) := by decide +kernel
theorem dL_law_2725 : decode cL_law 2725 = .ok (.ifCond .eq 21, 3) := by decide +kernel
theorem dL_law_2728 : decode cL_law 2728 = .ok (.dload 6, 2) := by decide +kernel
theorem dL_law_2730 : decode cL_law 2730 = .ok (.dload 6, 2) := by decide +kernel
theorem dL_law_2732 : decode cL_law 2732 = .ok (.dcmp .l, 1) := by decide +kernel
theorem dL_law_2733 : decode cL_law 2733 = .ok (.ifCond .eq 11, 3) := by decide +kernel
theorem dL_law_2736 : decode cL_law 2736 = .ok (.dload 8, 2) := by decide +kernel
theorem dL_law_2738 : decode cL_law 2738 = .ok (.dload 8, 2) := by decide +kernel
theorem dL_law_2740 : decode cL_law 2740 = .ok (.dcmp .l, 1) := by decide +kernel
theorem dL_law_2741 : decode cL_law 2741 = .ok (.ifCond .ne 5, 3) := by decide +kernel
theorem dL_law_2745 : decode cL_law 2745 = .ok (.ireturn, 1) := by decide +kernel
theorem dL_law_2755 : decode cL_law 2755 = .ok (.iaload, 1) := by decide +kernel
theorem dL_law_2761 : decode cL_law 2761 = .ok (.iaload, 1) := by decide +kernel
theorem dL_law_2764 : decode cL_law 2764 = .ok (.invokestatic 280, 3) := by decide +kernel
theorem dL_law_2775 : decode cL_law 2775 = .ok (.iaload, 1) := by decide +kernel
theorem dL_law_2781 : decode cL_law 2781 = .ok (.iaload, 1) := by decide +kernel
theorem dL_law_2782 : decode cL_law 2782 = .ok (.invokevirtual 283, 3) := by decide +kernel
theorem dL_law_2785 : decode cL_law 2785 = .ok (.fstore 7, 2) := by decide +kernel
theorem dL_law_2788 : decode cL_law 2788 = .ok (.invokevirtual 143, 3) := by decide +kernel
theorem dL_law_2793 : decode cL_law 2793 = .ok (.if_icmp .eq 5, 3) := by decide +kernel
theorem dL_law_2797 : decode cL_law 2797 = .ok (.ireturn, 1) := by decide +kernel
theorem dL_law_2800 : decode cL_law 2800 = .ok (.ifCond .ne 36, 3) := by decide +kernel
theorem dL_law_2806 : decode cL_law 2806 = .ok (.daload, 1) := by decide +kernel
theorem dL_law_2807 : decode cL_law 2807 = .ok (.fload 7, 2) := by decide +kernel
theorem dL_law_2809 : decode cL_law 2809 = .ok (.f2d, 1) := by decide +kernel
theorem dL_law_2810 : decode cL_law 2810 = .ok (.dcmp .l, 1) := by decide +kernel
theorem dL_law_2811 : decode cL_law 2811 = .ok (.ifCond .eq 25, 3) := by decide +kernel
theorem dL_law_2817 : decode cL_law 2817 = .ok (.daload, 1) := by decide +kernel
theorem dL_law_2821 : decode cL_law 2821 = .ok (.daload, 1) := by decide +kernel
theorem dL_law_2822 : decode cL_law 2822 = .ok (.dcmp .l, 1) := by decide +kernel
theorem dL_law_2823 : decode cL_law 2823 = .ok (.ifCond .eq 11, 3) := by decide +kernel
theorem dL_law_2826 : decode cL_law 2826 = .ok (.fload 7, 2) := by decide +kernel
theorem dL_law_2828 : decode cL_law 2828 = .ok (.fload 7, 2) := by decide +kernel
theorem dL_law_2830 : decode cL_law 2830 = .ok (.fcmp .l, 1) := by decide +kernel
theorem dL_law_2831 : decode cL_law 2831 = .ok (.ifCond .ne 5, 3) := by decide +kernel
theorem dL_law_2835 : decode cL_law 2835 = .ok (.ireturn, 1) := by decide +kernel
theorem dL_law_2840 : decode cL_law 2840 = .ok (.invokevirtual 284, 3) := by decide +kernel
theorem dL_law_2844 : decode cL_law 2844 = .ok (.invokevirtual 287, 3) := by decide +kernel
theorem dL_law_2847 : decode cL_law 2847 = .ok (.if_icmp .eq 18, 3) := by decide +kernel
theorem dL_law_2851 : decode cL_law 2851 = .ok (.ireturn, 1) := by decide +kernel
theorem dL_law_2853 : decode cL_law 2853 = .ok (.invokevirtual 288, 3) := by decide +kernel
theorem dL_law_2857 : decode cL_law 2857 = .ok (.invokevirtual 291, 3) := by decide +kernel
theorem dL_law_2860 : decode cL_law 2860 = .ok (.if_icmp .eq 5, 3) := by decide +kernel
theorem dL_law_2864 : decode cL_law 2864 = .ok (.ireturn, 1) := by decide +kernel
theorem dL_law_2872 : decode cL_law 2872 = .ok (.ireturn, 1) := by decide +kernel
