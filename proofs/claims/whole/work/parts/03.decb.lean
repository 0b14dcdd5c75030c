theorem d_cr_init_0 : decode b_cr_init 0 = .ok (.aload_n 0, 1) := by decide +kernel
theorem d_cr_init_1 : decode b_cr_init 1 = .ok (.invokespecial 3, 3) := by decide +kernel
theorem d_cr_init_4 : decode b_cr_init 4 = .ok (.aload_n 0, 1) := by decide +kernel
theorem d_cr_init_5 : decode b_cr_init 5 = .ok (.new 9, 3) := by decide +kernel
theorem d_cr_init_8 : decode b_cr_init 8 = .ok (.dup, 1) := by decide +kernel
theorem d_cr_init_9 : decode b_cr_init 9 = .ok (.invokespecial 11, 3) := by decide +kernel
theorem d_cr_init_12 : decode b_cr_init 12 = .ok (.putfield 12, 3) := by decide +kernel
theorem d_cr_init_15 : decode b_cr_init 15 = .ok (.aload_n 0, 1) := by decide +kernel
theorem d_cr_init_16 : decode b_cr_init 16 = .ok (.new 16, 3) := by decide +kernel
theorem d_cr_init_19 : decode b_cr_init 19 = .ok (.dup, 1) := by decide +kernel
theorem d_cr_init_20 : decode b_cr_init 20 = .ok (.invokespecial 18, 3) := by decide +kernel
theorem d_cr_init_23 : decode b_cr_init 23 = .ok (.putfield 19, 3) := by decide +kernel
theorem d_cr_init_26 : decode b_cr_init 26 = .ok (.aload_n 0, 1) := by decide +kernel
theorem d_cr_init_27 : decode b_cr_init 27 = .ok (.new 23, 3) := by decide +kernel
theorem d_cr_init_30 : decode b_cr_init 30 = .ok (.dup, 1) := by decide +kernel
theorem d_cr_init_31 : decode b_cr_init 31 = .ok (.invokespecial 25, 3) := by decide +kernel
theorem d_cr_init_34 : decode b_cr_init 34 = .ok (.putfield 26, 3) := by decide +kernel
theorem d_cr_init_37 : decode b_cr_init 37 = .ok (.aload_n 0, 1) := by decide +kernel
theorem d_cr_init_38 : decode b_cr_init 38 = .ok (.bipush 8, 2) := by decide +kernel
theorem d_cr_init_40 : decode b_cr_init 40 = .ok (.newarray .int, 2) := by decide +kernel
theorem d_cr_init_42 : decode b_cr_init 42 = .ok (.putfield 30, 3) := by decide +kernel
theorem d_cr_init_45 : decode b_cr_init 45 = .ok (.aload_n 0, 1) := by decide +kernel
theorem d_cr_init_46 : decode b_cr_init 46 = .ok (.iconst 4, 1) := by decide +kernel
theorem d_cr_init_47 : decode b_cr_init 47 = .ok (.newarray .int, 2) := by decide +kernel
theorem d_cr_init_49 : decode b_cr_init 49 = .ok (.putfield 34, 3) := by decide +kernel
theorem d_cr_init_52 : decode b_cr_init 52 = .ok (.aload_n 0, 1) := by decide +kernel
theorem d_cr_init_53 : decode b_cr_init 53 = .ok (.iconst 0, 1) := by decide +kernel
theorem d_cr_init_54 : decode b_cr_init 54 = .ok (.putfield 37, 3) := by decide +kernel
theorem d_cr_init_57 : decode b_cr_init 57 = .ok (.aload_n 0, 1) := by decide +kernel
theorem d_cr_init_58 : decode b_cr_init 58 = .ok (.iconst 0, 1) := by decide +kernel
theorem d_cr_init_59 : decode b_cr_init 59 = .ok (.putfield 41, 3) := by decide +kernel
theorem d_cr_init_62 : decode b_cr_init 62 = .ok (.return_, 1) := by decide +kernel
theorem d_cr_rule_0 : decode b_cr_rule 0 = .ok (.aload_n 0, 1) := by decide +kernel
theorem d_cr_rule_1 : decode b_cr_rule 1 = .ok (.getfield 12, 3) := by decide +kernel
theorem d_cr_rule_4 : decode b_cr_rule 4 = .ok (.iload_n 1, 1) := by decide +kernel
theorem d_cr_rule_5 : decode b_cr_rule 5 = .ok (.invokevirtual 74, 3) := by decide +kernel
theorem d_cr_rule_8 : decode b_cr_rule 8 = .ok (.ifCond .eq 25, 3) := by decide +kernel
theorem d_cr_rule_11 : decode b_cr_rule 11 = .ok (.iload_n 2, 1) := by decide +kernel
theorem d_cr_rule_12 : decode b_cr_rule 12 = .ok (.iconst 0, 1) := by decide +kernel
theorem d_cr_rule_13 : decode b_cr_rule 13 = .ok (.iconst 4, 1) := by decide +kernel
theorem d_cr_rule_14 : decode b_cr_rule 14 = .ok (.invokestatic 56, 3) := by decide +kernel
theorem d_cr_rule_17 : decode b_cr_rule 17 = .ok (.ifCond .eq 16, 3) := by decide +kernel
theorem d_cr_rule_20 : decode b_cr_rule 20 = .ok (.iload_n 3, 1) := by decide +kernel
theorem d_cr_rule_21 : decode b_cr_rule 21 = .ok (.iconst 0, 1) := by decide +kernel
theorem d_cr_rule_22 : decode b_cr_rule 22 = .ok (.getstatic 77, 3) := by decide +kernel
theorem d_cr_rule_25 : decode b_cr_rule 25 = .ok (.iload_n 2, 1) := by decide +kernel
theorem d_cr_rule_26 : decode b_cr_rule 26 = .ok (.iaload, 1) := by decide +kernel
theorem d_cr_rule_27 : decode b_cr_rule 27 = .ok (.invokestatic 56, 3) := by decide +kernel
theorem d_cr_rule_30 : decode b_cr_rule 30 = .ok (.ifCond .ne 5, 3) := by decide +kernel
theorem d_cr_rule_33 : decode b_cr_rule 33 = .ok (.iconst 0, 1) := by decide +kernel
theorem d_cr_rule_34 : decode b_cr_rule 34 = .ok (.ireturn, 1) := by decide +kernel
theorem d_cr_rule_35 : decode b_cr_rule 35 = .ok (.aload_n 0, 1) := by decide +kernel
theorem d_cr_rule_36 : decode b_cr_rule 36 = .ok (.getfield 12, 3) := by decide +kernel
theorem d_cr_rule_39 : decode b_cr_rule 39 = .ok (.iload_n 1, 1) := by decide +kernel
theorem d_cr_rule_40 : decode b_cr_rule 40 = .ok (.iload_n 2, 1) := by decide +kernel
theorem d_cr_rule_41 : decode b_cr_rule 41 = .ok (.iload_n 3, 1) := by decide +kernel
theorem d_cr_rule_42 : decode b_cr_rule 42 = .ok (.invokevirtual 80, 3) := by decide +kernel
theorem d_cr_rule_45 : decode b_cr_rule 45 = .ok (.iconst 1, 1) := by decide +kernel
theorem d_cr_rule_46 : decode b_cr_rule 46 = .ok (.ireturn, 1) := by decide +kernel
theorem d_cr_isWithin_0 : decode b_cr_isWithin 0 = .ok (.iload_n 0, 1) := by decide +kernel
theorem d_cr_isWithin_1 : decode b_cr_isWithin 1 = .ok (.iload_n 1, 1) := by decide +kernel
theorem d_cr_isWithin_2 : decode b_cr_isWithin 2 = .ok (.if_icmp .lt 12, 3) := by decide +kernel
theorem d_cr_isWithin_5 : decode b_cr_isWithin 5 = .ok (.iload_n 0, 1) := by decide +kernel
theorem d_cr_isWithin_6 : decode b_cr_isWithin 6 = .ok (.iload_n 2, 1) := by decide +kernel
theorem d_cr_isWithin_7 : decode b_cr_isWithin 7 = .ok (.if_icmp .gt 7, 3) := by decide +kernel
theorem d_cr_isWithin_10 : decode b_cr_isWithin 10 = .ok (.iconst 1, 1) := by decide +kernel
theorem d_cr_isWithin_11 : decode b_cr_isWithin 11 = .ok (.goto 4, 3) := by decide +kernel
theorem d_cr_isWithin_14 : decode b_cr_isWithin 14 = .ok (.iconst 0, 1) := by decide +kernel
theorem d_cr_isWithin_15 : decode b_cr_isWithin 15 = .ok (.ireturn, 1) := by decide +kernel
theorem d_cr_wind_0 : decode b_cr_wind 0 = .ok (.aload_n 0, 1) := by decide +kernel
theorem d_cr_wind_1 : decode b_cr_wind 1 = .ok (.getfield 37, 3) := by decide +kernel
theorem d_cr_wind_4 : decode b_cr_wind 4 = .ok (.iload_n 1, 1) := by decide +kernel
theorem d_cr_wind_5 : decode b_cr_wind 5 = .ok (.if_icmp .ne 5, 3) := by decide +kernel
theorem d_cr_wind_8 : decode b_cr_wind 8 = .ok (.iconst 0, 1) := by decide +kernel
theorem d_cr_wind_9 : decode b_cr_wind 9 = .ok (.ireturn, 1) := by decide +kernel
theorem d_cr_wind_10 : decode b_cr_wind 10 = .ok (.aload_n 0, 1) := by decide +kernel
theorem d_cr_wind_11 : decode b_cr_wind 11 = .ok (.iload_n 1, 1) := by decide +kernel
theorem d_cr_wind_12 : decode b_cr_wind 12 = .ok (.putfield 37, 3) := by decide +kernel
theorem d_cr_wind_15 : decode b_cr_wind 15 = .ok (.iconst 1, 1) := by decide +kernel
theorem d_cr_wind_16 : decode b_cr_wind 16 = .ok (.ireturn, 1) := by decide +kernel
theorem d_cr_back_0 : decode b_cr_back 0 = .ok (.aload_n 0, 1) := by decide +kernel
theorem d_cr_back_1 : decode b_cr_back 1 = .ok (.getfield 26, 3) := by decide +kernel
theorem d_cr_back_4 : decode b_cr_back 4 = .ok (.iload_n 1, 1) := by decide +kernel
theorem d_cr_back_5 : decode b_cr_back 5 = .ok (.invokevirtual 134, 3) := by decide +kernel
theorem d_cr_back_8 : decode b_cr_back 8 = .ok (.ifCond .eq 11, 3) := by decide +kernel
theorem d_cr_back_11 : decode b_cr_back 11 = .ok (.aload_n 0, 1) := by decide +kernel
theorem d_cr_back_12 : decode b_cr_back 12 = .ok (.iload_n 1, 1) := by decide +kernel
theorem d_cr_back_13 : decode b_cr_back 13 = .ok (.invokevirtual 139, 3) := by decide +kernel
theorem d_cr_back_16 : decode b_cr_back 16 = .ok (.ifCond .ne 5, 3) := by decide +kernel
theorem d_cr_back_19 : decode b_cr_back 19 = .ok (.iconst 0, 1) := by decide +kernel
theorem d_cr_back_20 : decode b_cr_back 20 = .ok (.ireturn, 1) := by decide +kernel
theorem d_cr_back_21 : decode b_cr_back 21 = .ok (.aload_n 0, 1) := by decide +kernel
theorem d_cr_back_22 : decode b_cr_back 22 = .ok (.getfield 26, 3) := by decide +kernel
theorem d_cr_back_25 : decode b_cr_back 25 = .ok (.getfield 142, 3) := by decide +kernel
theorem d_cr_back_28 : decode b_cr_back 28 = .ok (.iload_n 1, 1) := by decide +kernel
theorem d_cr_back_29 : decode b_cr_back 29 = .ok (.iconst 0, 1) := by decide +kernel
theorem d_cr_back_30 : decode b_cr_back 30 = .ok (.bastore, 1) := by decide +kernel
theorem d_cr_back_31 : decode b_cr_back 31 = .ok (.iconst 1, 1) := by decide +kernel
theorem d_cr_back_32 : decode b_cr_back 32 = .ok (.ireturn, 1) := by decide +kernel
theorem d_cr_isStillToBegin_0 : decode b_cr_isStillToBegin 0 = .ok (.aload_n 0, 1) := by decide +kernel
theorem d_cr_isStillToBegin_1 : decode b_cr_isStillToBegin 1 = .ok (.getfield 26, 3) := by decide +kernel
theorem d_cr_isStillToBegin_4 : decode b_cr_isStillToBegin 4 = .ok (.getfield 142, 3) := by decide +kernel
theorem d_cr_isStillToBegin_7 : decode b_cr_isStillToBegin 7 = .ok (.iload_n 1, 1) := by decide +kernel
theorem d_cr_isStillToBegin_8 : decode b_cr_isStillToBegin 8 = .ok (.baload, 1) := by decide +kernel
theorem d_cr_isStillToBegin_9 : decode b_cr_isStillToBegin 9 = .ok (.ifCond .eq 23, 3) := by decide +kernel
theorem d_cr_isStillToBegin_12 : decode b_cr_isStillToBegin 12 = .ok (.aload_n 0, 1) := by decide +kernel
theorem d_cr_isStillToBegin_13 : decode b_cr_isStillToBegin 13 = .ok (.getfield 26, 3) := by decide +kernel
theorem d_cr_isStillToBegin_16 : decode b_cr_isStillToBegin 16 = .ok (.getfield 115, 3) := by decide +kernel
theorem d_cr_isStillToBegin_19 : decode b_cr_isStillToBegin 19 = .ok (.iload_n 1, 1) := by decide +kernel
theorem d_cr_isStillToBegin_20 : decode b_cr_isStillToBegin 20 = .ok (.iaload, 1) := by decide +kernel
theorem d_cr_isStillToBegin_21 : decode b_cr_isStillToBegin 21 = .ok (.aload_n 0, 1) := by decide +kernel
theorem d_cr_isStillToBegin_22 : decode b_cr_isStillToBegin 22 = .ok (.getfield 41, 3) := by decide +kernel
theorem d_cr_isStillToBegin_25 : decode b_cr_isStillToBegin 25 = .ok (.if_icmp .le 7, 3) := by decide +kernel
theorem d_cr_isStillToBegin_28 : decode b_cr_isStillToBegin 28 = .ok (.iconst 1, 1) := by decide +kernel
theorem d_cr_isStillToBegin_29 : decode b_cr_isStillToBegin 29 = .ok (.goto 4, 3) := by decide +kernel
theorem d_cr_isStillToBegin_32 : decode b_cr_isStillToBegin 32 = .ok (.iconst 0, 1) := by decide +kernel
theorem d_cr_isStillToBegin_33 : decode b_cr_isStillToBegin 33 = .ok (.ireturn, 1) := by decide +kernel
theorem d_cr_tick_0 : decode b_cr_tick 0 = .ok (.iload_n 1, 1) := by decide +kernel
theorem d_cr_tick_1 : decode b_cr_tick 1 = .ok (.aload_n 0, 1) := by decide +kernel
theorem d_cr_tick_2 : decode b_cr_tick 2 = .ok (.getfield 41, 3) := by decide +kernel
theorem d_cr_tick_5 : decode b_cr_tick 5 = .ok (.ldc 107, 2) := by decide +kernel
theorem d_cr_tick_7 : decode b_cr_tick 7 = .ok (.invokestatic 56, 3) := by decide +kernel
theorem d_cr_tick_10 : decode b_cr_tick 10 = .ok (.ifCond .ne 5, 3) := by decide +kernel
theorem d_cr_tick_13 : decode b_cr_tick 13 = .ok (.iconst 0, 1) := by decide +kernel
theorem d_cr_tick_14 : decode b_cr_tick 14 = .ok (.ireturn, 1) := by decide +kernel
theorem d_cr_tick_15 : decode b_cr_tick 15 = .ok (.aload_n 0, 1) := by decide +kernel
theorem d_cr_tick_16 : decode b_cr_tick 16 = .ok (.iload_n 1, 1) := by decide +kernel
theorem d_cr_tick_17 : decode b_cr_tick 17 = .ok (.putfield 41, 3) := by decide +kernel
theorem d_cr_tick_20 : decode b_cr_tick 20 = .ok (.iconst 1, 1) := by decide +kernel
theorem d_cr_tick_21 : decode b_cr_tick 21 = .ok (.ireturn, 1) := by decide +kernel
theorem d_cr_count_0 : decode b_cr_count 0 = .ok (.iload_n 1, 1) := by decide +kernel
theorem d_cr_count_1 : decode b_cr_count 1 = .ok (.tableswitch 99 0 6 #[43, 51, 59, 67, 75, 80, 86], 43) := by decide +kernel
theorem d_cr_count_44 : decode b_cr_count 44 = .ok (.aload_n 0, 1) := by decide +kernel
theorem d_cr_count_45 : decode b_cr_count 45 = .ok (.getfield 12, 3) := by decide +kernel
theorem d_cr_count_48 : decode b_cr_count 48 = .ok (.getfield 62, 3) := by decide +kernel
theorem d_cr_count_51 : decode b_cr_count 51 = .ok (.ireturn, 1) := by decide +kernel
theorem d_cr_count_52 : decode b_cr_count 52 = .ok (.aload_n 0, 1) := by decide +kernel
theorem d_cr_count_53 : decode b_cr_count 53 = .ok (.getfield 19, 3) := by decide +kernel
theorem d_cr_count_56 : decode b_cr_count 56 = .ok (.getfield 86, 3) := by decide +kernel
theorem d_cr_count_59 : decode b_cr_count 59 = .ok (.ireturn, 1) := by decide +kernel
theorem d_cr_count_60 : decode b_cr_count 60 = .ok (.aload_n 0, 1) := by decide +kernel
theorem d_cr_count_61 : decode b_cr_count 61 = .ok (.getfield 26, 3) := by decide +kernel
theorem d_cr_count_64 : decode b_cr_count 64 = .ok (.getfield 110, 3) := by decide +kernel
theorem d_cr_count_67 : decode b_cr_count 67 = .ok (.ireturn, 1) := by decide +kernel
theorem d_cr_count_68 : decode b_cr_count 68 = .ok (.aload_n 0, 1) := by decide +kernel
theorem d_cr_count_69 : decode b_cr_count 69 = .ok (.getfield 26, 3) := by decide +kernel
theorem d_cr_count_72 : decode b_cr_count 72 = .ok (.invokevirtual 179, 3) := by decide +kernel
theorem d_cr_count_75 : decode b_cr_count 75 = .ok (.ireturn, 1) := by decide +kernel
theorem d_cr_count_76 : decode b_cr_count 76 = .ok (.aload_n 0, 1) := by decide +kernel
theorem d_cr_count_77 : decode b_cr_count 77 = .ok (.getfield 41, 3) := by decide +kernel
theorem d_cr_count_80 : decode b_cr_count 80 = .ok (.ireturn, 1) := by decide +kernel
theorem d_cr_count_81 : decode b_cr_count 81 = .ok (.aload_n 0, 1) := by decide +kernel
theorem d_cr_count_82 : decode b_cr_count 82 = .ok (.iconst (-1), 1) := by decide +kernel
theorem d_cr_count_83 : decode b_cr_count 83 = .ok (.invokevirtual 161, 3) := by decide +kernel
theorem d_cr_count_86 : decode b_cr_count 86 = .ok (.ireturn, 1) := by decide +kernel
theorem d_cr_count_87 : decode b_cr_count 87 = .ok (.aload_n 0, 1) := by decide +kernel
theorem d_cr_count_88 : decode b_cr_count 88 = .ok (.getfield 37, 3) := by decide +kernel
theorem d_cr_count_91 : decode b_cr_count 91 = .ok (.ifCond .eq 7, 3) := by decide +kernel
theorem d_cr_count_94 : decode b_cr_count 94 = .ok (.iconst 1, 1) := by decide +kernel
theorem d_cr_count_95 : decode b_cr_count 95 = .ok (.goto 4, 3) := by decide +kernel
theorem d_cr_count_98 : decode b_cr_count 98 = .ok (.iconst 0, 1) := by decide +kernel
theorem d_cr_count_99 : decode b_cr_count 99 = .ok (.ireturn, 1) := by decide +kernel
theorem d_cr_count_100 : decode b_cr_count 100 = .ok (.iload_n 1, 1) := by decide +kernel
theorem d_cr_count_101 : decode b_cr_count 101 = .ok (.bipush 20, 2) := by decide +kernel
theorem d_cr_count_103 : decode b_cr_count 103 = .ok (.if_icmp .ge 7, 3) := by decide +kernel
theorem d_cr_count_106 : decode b_cr_count 106 = .ok (.iconst (-1), 1) := by decide +kernel
theorem d_cr_count_107 : decode b_cr_count 107 = .ok (.goto 11, 3) := by decide +kernel
theorem d_cr_count_110 : decode b_cr_count 110 = .ok (.aload_n 0, 1) := by decide +kernel
theorem d_cr_count_111 : decode b_cr_count 111 = .ok (.iload_n 1, 1) := by decide +kernel
theorem d_cr_count_112 : decode b_cr_count 112 = .ok (.bipush 20, 2) := by decide +kernel
theorem d_cr_count_114 : decode b_cr_count 114 = .ok (.isub, 1) := by decide +kernel
theorem d_cr_count_115 : decode b_cr_count 115 = .ok (.invokevirtual 182, 3) := by decide +kernel
theorem d_cr_count_118 : decode b_cr_count 118 = .ok (.ireturn, 1) := by decide +kernel
theorem d_cr_seekConflict_0 : decode b_cr_seekConflict 0 = .ok (.iconst 0, 1) := by decide +kernel
theorem d_cr_seekConflict_1 : decode b_cr_seekConflict 1 = .ok (.istore_n 2, 1) := by decide +kernel
theorem d_cr_seekConflict_2 : decode b_cr_seekConflict 2 = .ok (.iconst 1, 1) := by decide +kernel
theorem d_cr_seekConflict_3 : decode b_cr_seekConflict 3 = .ok (.istore_n 3, 1) := by decide +kernel
theorem d_cr_seekConflict_4 : decode b_cr_seekConflict 4 = .ok (.iload_n 3, 1) := by decide +kernel
theorem d_cr_seekConflict_5 : decode b_cr_seekConflict 5 = .ok (.aload_n 0, 1) := by decide +kernel
theorem d_cr_seekConflict_6 : decode b_cr_seekConflict 6 = .ok (.getfield 26, 3) := by decide +kernel
theorem d_cr_seekConflict_9 : decode b_cr_seekConflict 9 = .ok (.getfield 110, 3) := by decide +kernel
theorem d_cr_seekConflict_12 : decode b_cr_seekConflict 12 = .ok (.if_icmp .gt 67, 3) := by decide +kernel
theorem d_cr_seekConflict_15 : decode b_cr_seekConflict 15 = .ok (.iload_n 3, 1) := by decide +kernel
theorem d_cr_seekConflict_16 : decode b_cr_seekConflict 16 = .ok (.iconst 1, 1) := by decide +kernel
theorem d_cr_seekConflict_17 : decode b_cr_seekConflict 17 = .ok (.iadd, 1) := by decide +kernel
theorem d_cr_seekConflict_18 : decode b_cr_seekConflict 18 = .ok (.istore 4, 2) := by decide +kernel
theorem d_cr_seekConflict_20 : decode b_cr_seekConflict 20 = .ok (.iload 4, 2) := by decide +kernel
theorem d_cr_seekConflict_22 : decode b_cr_seekConflict 22 = .ok (.aload_n 0, 1) := by decide +kernel
theorem d_cr_seekConflict_23 : decode b_cr_seekConflict 23 = .ok (.getfield 26, 3) := by decide +kernel
theorem d_cr_seekConflict_26 : decode b_cr_seekConflict 26 = .ok (.getfield 110, 3) := by decide +kernel
theorem d_cr_seekConflict_29 : decode b_cr_seekConflict 29 = .ok (.if_icmp .gt 44, 3) := by decide +kernel
theorem d_cr_seekConflict_32 : decode b_cr_seekConflict 32 = .ok (.aload_n 0, 1) := by decide +kernel
theorem d_cr_seekConflict_33 : decode b_cr_seekConflict 33 = .ok (.getfield 26, 3) := by decide +kernel
theorem d_cr_seekConflict_36 : decode b_cr_seekConflict 36 = .ok (.getfield 142, 3) := by decide +kernel
theorem d_cr_seekConflict_39 : decode b_cr_seekConflict 39 = .ok (.iload_n 3, 1) := by decide +kernel
theorem d_cr_seekConflict_40 : decode b_cr_seekConflict 40 = .ok (.baload, 1) := by decide +kernel
theorem d_cr_seekConflict_41 : decode b_cr_seekConflict 41 = .ok (.ifCond .eq 26, 3) := by decide +kernel
theorem d_cr_seekConflict_44 : decode b_cr_seekConflict 44 = .ok (.aload_n 0, 1) := by decide +kernel
theorem d_cr_seekConflict_45 : decode b_cr_seekConflict 45 = .ok (.getfield 26, 3) := by decide +kernel
theorem d_cr_seekConflict_48 : decode b_cr_seekConflict 48 = .ok (.getfield 142, 3) := by decide +kernel
theorem d_cr_seekConflict_51 : decode b_cr_seekConflict 51 = .ok (.iload 4, 2) := by decide +kernel
theorem d_cr_seekConflict_53 : decode b_cr_seekConflict 53 = .ok (.baload, 1) := by decide +kernel
theorem d_cr_seekConflict_54 : decode b_cr_seekConflict 54 = .ok (.ifCond .eq 13, 3) := by decide +kernel
theorem d_cr_seekConflict_57 : decode b_cr_seekConflict 57 = .ok (.aload_n 0, 1) := by decide +kernel
theorem d_cr_seekConflict_58 : decode b_cr_seekConflict 58 = .ok (.iload_n 3, 1) := by decide +kernel
theorem d_cr_seekConflict_59 : decode b_cr_seekConflict 59 = .ok (.iload 4, 2) := by decide +kernel
theorem d_cr_seekConflict_61 : decode b_cr_seekConflict 61 = .ok (.iload_n 2, 1) := by decide +kernel
theorem d_cr_seekConflict_62 : decode b_cr_seekConflict 62 = .ok (.iload_n 1, 1) := by decide +kernel
theorem d_cr_seekConflict_63 : decode b_cr_seekConflict 63 = .ok (.invokevirtual 288, 3) := by decide +kernel
theorem d_cr_seekConflict_66 : decode b_cr_seekConflict 66 = .ok (.istore_n 2, 1) := by decide +kernel
theorem d_cr_seekConflict_67 : decode b_cr_seekConflict 67 = .ok (.iinc 4 1, 3) := by decide +kernel
theorem d_cr_seekConflict_70 : decode b_cr_seekConflict 70 = .ok (.goto (-50), 3) := by decide +kernel
theorem d_cr_seekConflict_73 : decode b_cr_seekConflict 73 = .ok (.iinc 3 1, 3) := by decide +kernel
theorem d_cr_seekConflict_76 : decode b_cr_seekConflict 76 = .ok (.goto (-72), 3) := by decide +kernel
theorem d_cr_seekConflict_79 : decode b_cr_seekConflict 79 = .ok (.iload_n 2, 1) := by decide +kernel
theorem d_cr_seekConflict_80 : decode b_cr_seekConflict 80 = .ok (.ireturn, 1) := by decide +kernel
theorem d_cr_seekConflictOfPair_0 : decode b_cr_seekConflictOfPair 0 = .ok (.iload_n 3, 1) := by decide +kernel
theorem d_cr_seekConflictOfPair_1 : decode b_cr_seekConflictOfPair 1 = .ok (.istore 5, 2) := by decide +kernel
theorem d_cr_seekConflictOfPair_3 : decode b_cr_seekConflictOfPair 3 = .ok (.iconst 0, 1) := by decide +kernel
theorem d_cr_seekConflictOfPair_4 : decode b_cr_seekConflictOfPair 4 = .ok (.istore 6, 2) := by decide +kernel
theorem d_cr_seekConflictOfPair_6 : decode b_cr_seekConflictOfPair 6 = .ok (.iload 6, 2) := by decide +kernel
theorem d_cr_seekConflictOfPair_8 : decode b_cr_seekConflictOfPair 8 = .ok (.aload_n 0, 1) := by decide +kernel
theorem d_cr_seekConflictOfPair_9 : decode b_cr_seekConflictOfPair 9 = .ok (.getfield 26, 3) := by decide +kernel
theorem d_cr_seekConflictOfPair_12 : decode b_cr_seekConflictOfPair 12 = .ok (.getfield 104, 3) := by decide +kernel
theorem d_cr_seekConflictOfPair_15 : decode b_cr_seekConflictOfPair 15 = .ok (.iload_n 1, 1) := by decide +kernel
theorem d_cr_seekConflictOfPair_16 : decode b_cr_seekConflictOfPair 16 = .ok (.iaload, 1) := by decide +kernel
theorem d_cr_seekConflictOfPair_17 : decode b_cr_seekConflictOfPair 17 = .ok (.if_icmp .ge 75, 3) := by decide +kernel
theorem d_cr_seekConflictOfPair_20 : decode b_cr_seekConflictOfPair 20 = .ok (.aload_n 0, 1) := by decide +kernel
theorem d_cr_seekConflictOfPair_21 : decode b_cr_seekConflictOfPair 21 = .ok (.iload_n 2, 1) := by decide +kernel
theorem d_cr_seekConflictOfPair_22 : decode b_cr_seekConflictOfPair 22 = .ok (.iload_n 1, 1) := by decide +kernel
theorem d_cr_seekConflictOfPair_23 : decode b_cr_seekConflictOfPair 23 = .ok (.iload 6, 2) := by decide +kernel
theorem d_cr_seekConflictOfPair_25 : decode b_cr_seekConflictOfPair 25 = .ok (.invokevirtual 257, 3) := by decide +kernel
theorem d_cr_seekConflictOfPair_28 : decode b_cr_seekConflictOfPair 28 = .ok (.istore 7, 2) := by decide +kernel
theorem d_cr_seekConflictOfPair_30 : decode b_cr_seekConflictOfPair 30 = .ok (.iload 7, 2) := by decide +kernel
theorem d_cr_seekConflictOfPair_32 : decode b_cr_seekConflictOfPair 32 = .ok (.ifCond .ne 6, 3) := by decide +kernel
theorem d_cr_seekConflictOfPair_35 : decode b_cr_seekConflictOfPair 35 = .ok (.goto 51, 3) := by decide +kernel
theorem d_cr_seekConflictOfPair_38 : decode b_cr_seekConflictOfPair 38 = .ok (.iload 5, 2) := by decide +kernel
theorem d_cr_seekConflictOfPair_40 : decode b_cr_seekConflictOfPair 40 = .ok (.iload 4, 2) := by decide +kernel
theorem d_cr_seekConflictOfPair_42 : decode b_cr_seekConflictOfPair 42 = .ok (.if_icmp .ne 41, 3) := by decide +kernel
theorem d_cr_seekConflictOfPair_45 : decode b_cr_seekConflictOfPair 45 = .ok (.aload_n 0, 1) := by decide +kernel
theorem d_cr_seekConflictOfPair_46 : decode b_cr_seekConflictOfPair 46 = .ok (.getfield 34, 3) := by decide +kernel
theorem d_cr_seekConflictOfPair_49 : decode b_cr_seekConflictOfPair 49 = .ok (.iconst 0, 1) := by decide +kernel
theorem d_cr_seekConflictOfPair_50 : decode b_cr_seekConflictOfPair 50 = .ok (.iload_n 1, 1) := by decide +kernel
theorem d_cr_seekConflictOfPair_51 : decode b_cr_seekConflictOfPair 51 = .ok (.iastore, 1) := by decide +kernel
theorem d_cr_seekConflictOfPair_52 : decode b_cr_seekConflictOfPair 52 = .ok (.aload_n 0, 1) := by decide +kernel
theorem d_cr_seekConflictOfPair_53 : decode b_cr_seekConflictOfPair 53 = .ok (.getfield 34, 3) := by decide +kernel
theorem d_cr_seekConflictOfPair_56 : decode b_cr_seekConflictOfPair 56 = .ok (.iconst 1, 1) := by decide +kernel
theorem d_cr_seekConflictOfPair_57 : decode b_cr_seekConflictOfPair 57 = .ok (.iload_n 2, 1) := by decide +kernel
theorem d_cr_seekConflictOfPair_58 : decode b_cr_seekConflictOfPair 58 = .ok (.iastore, 1) := by decide +kernel
theorem d_cr_seekConflictOfPair_59 : decode b_cr_seekConflictOfPair 59 = .ok (.aload_n 0, 1) := by decide +kernel
theorem d_cr_seekConflictOfPair_60 : decode b_cr_seekConflictOfPair 60 = .ok (.getfield 34, 3) := by decide +kernel
theorem d_cr_seekConflictOfPair_63 : decode b_cr_seekConflictOfPair 63 = .ok (.iconst 2, 1) := by decide +kernel
theorem d_cr_seekConflictOfPair_64 : decode b_cr_seekConflictOfPair 64 = .ok (.aload_n 0, 1) := by decide +kernel
theorem d_cr_seekConflictOfPair_65 : decode b_cr_seekConflictOfPair 65 = .ok (.getfield 26, 3) := by decide +kernel
theorem d_cr_seekConflictOfPair_68 : decode b_cr_seekConflictOfPair 68 = .ok (.iload_n 1, 1) := by decide +kernel
theorem d_cr_seekConflictOfPair_69 : decode b_cr_seekConflictOfPair 69 = .ok (.iload 6, 2) := by decide +kernel
theorem d_cr_seekConflictOfPair_71 : decode b_cr_seekConflictOfPair 71 = .ok (.invokevirtual 100, 3) := by decide +kernel
theorem d_cr_seekConflictOfPair_74 : decode b_cr_seekConflictOfPair 74 = .ok (.iastore, 1) := by decide +kernel
theorem d_cr_seekConflictOfPair_75 : decode b_cr_seekConflictOfPair 75 = .ok (.aload_n 0, 1) := by decide +kernel
theorem d_cr_seekConflictOfPair_76 : decode b_cr_seekConflictOfPair 76 = .ok (.getfield 34, 3) := by decide +kernel
theorem d_cr_seekConflictOfPair_79 : decode b_cr_seekConflictOfPair 79 = .ok (.iconst 3, 1) := by decide +kernel
theorem d_cr_seekConflictOfPair_80 : decode b_cr_seekConflictOfPair 80 = .ok (.iload 7, 2) := by decide +kernel
theorem d_cr_seekConflictOfPair_82 : decode b_cr_seekConflictOfPair 82 = .ok (.iastore, 1) := by decide +kernel
theorem d_cr_seekConflictOfPair_83 : decode b_cr_seekConflictOfPair 83 = .ok (.iinc 5 1, 3) := by decide +kernel
theorem d_cr_seekConflictOfPair_86 : decode b_cr_seekConflictOfPair 86 = .ok (.iinc 6 1, 3) := by decide +kernel
theorem d_cr_seekConflictOfPair_89 : decode b_cr_seekConflictOfPair 89 = .ok (.goto (-83), 3) := by decide +kernel
theorem d_cr_seekConflictOfPair_92 : decode b_cr_seekConflictOfPair 92 = .ok (.iload 5, 2) := by decide +kernel
theorem d_cr_seekConflictOfPair_94 : decode b_cr_seekConflictOfPair 94 = .ok (.ireturn, 1) := by decide +kernel
theorem d_cr_conflictWith_0 : decode b_cr_conflictWith 0 = .ok (.aload_n 0, 1) := by decide +kernel
theorem d_cr_conflictWith_1 : decode b_cr_conflictWith 1 = .ok (.getfield 26, 3) := by decide +kernel
theorem d_cr_conflictWith_4 : decode b_cr_conflictWith 4 = .ok (.iload_n 2, 1) := by decide +kernel
theorem d_cr_conflictWith_5 : decode b_cr_conflictWith 5 = .ok (.iload_n 3, 1) := by decide +kernel
theorem d_cr_conflictWith_6 : decode b_cr_conflictWith 6 = .ok (.invokevirtual 100, 3) := by decide +kernel
theorem d_cr_conflictWith_9 : decode b_cr_conflictWith 9 = .ok (.istore 4, 2) := by decide +kernel
theorem d_cr_conflictWith_11 : decode b_cr_conflictWith 11 = .ok (.aload_n 0, 1) := by decide +kernel
theorem d_cr_conflictWith_12 : decode b_cr_conflictWith 12 = .ok (.getfield 26, 3) := by decide +kernel
theorem d_cr_conflictWith_15 : decode b_cr_conflictWith 15 = .ok (.iload_n 1, 1) := by decide +kernel
theorem d_cr_conflictWith_16 : decode b_cr_conflictWith 16 = .ok (.iload 4, 2) := by decide +kernel
theorem d_cr_conflictWith_18 : decode b_cr_conflictWith 18 = .ok (.invokevirtual 260, 3) := by decide +kernel
theorem d_cr_conflictWith_21 : decode b_cr_conflictWith 21 = .ok (.istore 5, 2) := by decide +kernel
theorem d_cr_conflictWith_23 : decode b_cr_conflictWith 23 = .ok (.iload 5, 2) := by decide +kernel
theorem d_cr_conflictWith_25 : decode b_cr_conflictWith 25 = .ok (.iconst (-1), 1) := by decide +kernel
theorem d_cr_conflictWith_26 : decode b_cr_conflictWith 26 = .ok (.if_icmp .eq 47, 3) := by decide +kernel
theorem d_cr_conflictWith_29 : decode b_cr_conflictWith 29 = .ok (.aload_n 0, 1) := by decide +kernel
theorem d_cr_conflictWith_30 : decode b_cr_conflictWith 30 = .ok (.getfield 26, 3) := by decide +kernel
theorem d_cr_conflictWith_33 : decode b_cr_conflictWith 33 = .ok (.iload_n 2, 1) := by decide +kernel
theorem d_cr_conflictWith_34 : decode b_cr_conflictWith 34 = .ok (.iload_n 3, 1) := by decide +kernel
theorem d_cr_conflictWith_35 : decode b_cr_conflictWith 35 = .ok (.invokevirtual 169, 3) := by decide +kernel
theorem d_cr_conflictWith_38 : decode b_cr_conflictWith 38 = .ok (.aload_n 0, 1) := by decide +kernel
theorem d_cr_conflictWith_39 : decode b_cr_conflictWith 39 = .ok (.getfield 26, 3) := by decide +kernel
theorem d_cr_conflictWith_42 : decode b_cr_conflictWith 42 = .ok (.iload_n 2, 1) := by decide +kernel
theorem d_cr_conflictWith_43 : decode b_cr_conflictWith 43 = .ok (.iload_n 3, 1) := by decide +kernel
theorem d_cr_conflictWith_44 : decode b_cr_conflictWith 44 = .ok (.invokevirtual 172, 3) := by decide +kernel
theorem d_cr_conflictWith_47 : decode b_cr_conflictWith 47 = .ok (.aload_n 0, 1) := by decide +kernel
theorem d_cr_conflictWith_48 : decode b_cr_conflictWith 48 = .ok (.getfield 26, 3) := by decide +kernel
theorem d_cr_conflictWith_51 : decode b_cr_conflictWith 51 = .ok (.iload_n 1, 1) := by decide +kernel
theorem d_cr_conflictWith_52 : decode b_cr_conflictWith 52 = .ok (.iload 5, 2) := by decide +kernel
theorem d_cr_conflictWith_54 : decode b_cr_conflictWith 54 = .ok (.invokevirtual 169, 3) := by decide +kernel
theorem d_cr_conflictWith_57 : decode b_cr_conflictWith 57 = .ok (.aload_n 0, 1) := by decide +kernel
theorem d_cr_conflictWith_58 : decode b_cr_conflictWith 58 = .ok (.getfield 26, 3) := by decide +kernel
theorem d_cr_conflictWith_61 : decode b_cr_conflictWith 61 = .ok (.iload_n 1, 1) := by decide +kernel
theorem d_cr_conflictWith_62 : decode b_cr_conflictWith 62 = .ok (.iload 5, 2) := by decide +kernel
theorem d_cr_conflictWith_64 : decode b_cr_conflictWith 64 = .ok (.invokevirtual 172, 3) := by decide +kernel
theorem d_cr_conflictWith_67 : decode b_cr_conflictWith 67 = .ok (.invokestatic 263, 3) := by decide +kernel
theorem d_cr_conflictWith_70 : decode b_cr_conflictWith 70 = .ok (.ifCond .ne 5, 3) := by decide +kernel
theorem d_cr_conflictWith_73 : decode b_cr_conflictWith 73 = .ok (.iconst 0, 1) := by decide +kernel
theorem d_cr_conflictWith_74 : decode b_cr_conflictWith 74 = .ok (.ireturn, 1) := by decide +kernel
theorem d_cr_conflictWith_75 : decode b_cr_conflictWith 75 = .ok (.aload_n 0, 1) := by decide +kernel
theorem d_cr_conflictWith_76 : decode b_cr_conflictWith 76 = .ok (.getfield 26, 3) := by decide +kernel
theorem d_cr_conflictWith_79 : decode b_cr_conflictWith 79 = .ok (.getfield 254, 3) := by decide +kernel
theorem d_cr_conflictWith_82 : decode b_cr_conflictWith 82 = .ok (.iload_n 2, 1) := by decide +kernel
theorem d_cr_conflictWith_83 : decode b_cr_conflictWith 83 = .ok (.iaload, 1) := by decide +kernel
theorem d_cr_conflictWith_84 : decode b_cr_conflictWith 84 = .ok (.istore 6, 2) := by decide +kernel
theorem d_cr_conflictWith_86 : decode b_cr_conflictWith 86 = .ok (.aload_n 0, 1) := by decide +kernel
theorem d_cr_conflictWith_87 : decode b_cr_conflictWith 87 = .ok (.getfield 26, 3) := by decide +kernel
theorem d_cr_conflictWith_90 : decode b_cr_conflictWith 90 = .ok (.getfield 254, 3) := by decide +kernel
theorem d_cr_conflictWith_93 : decode b_cr_conflictWith 93 = .ok (.iload_n 1, 1) := by decide +kernel
theorem d_cr_conflictWith_94 : decode b_cr_conflictWith 94 = .ok (.iaload, 1) := by decide +kernel
theorem d_cr_conflictWith_95 : decode b_cr_conflictWith 95 = .ok (.istore 7, 2) := by decide +kernel
theorem d_cr_conflictWith_97 : decode b_cr_conflictWith 97 = .ok (.aload_n 0, 1) := by decide +kernel
theorem d_cr_conflictWith_98 : decode b_cr_conflictWith 98 = .ok (.getfield 19, 3) := by decide +kernel
theorem d_cr_conflictWith_101 : decode b_cr_conflictWith 101 = .ok (.getfield 251, 3) := by decide +kernel
theorem d_cr_conflictWith_104 : decode b_cr_conflictWith 104 = .ok (.iload 6, 2) := by decide +kernel
theorem d_cr_conflictWith_106 : decode b_cr_conflictWith 106 = .ok (.iaload, 1) := by decide +kernel
theorem d_cr_conflictWith_107 : decode b_cr_conflictWith 107 = .ok (.iconst 2, 1) := by decide +kernel
theorem d_cr_conflictWith_108 : decode b_cr_conflictWith 108 = .ok (.if_icmp .eq 17, 3) := by decide +kernel
theorem d_cr_conflictWith_111 : decode b_cr_conflictWith 111 = .ok (.aload_n 0, 1) := by decide +kernel
theorem d_cr_conflictWith_112 : decode b_cr_conflictWith 112 = .ok (.getfield 19, 3) := by decide +kernel
theorem d_cr_conflictWith_115 : decode b_cr_conflictWith 115 = .ok (.getfield 251, 3) := by decide +kernel
theorem d_cr_conflictWith_118 : decode b_cr_conflictWith 118 = .ok (.iload 7, 2) := by decide +kernel
theorem d_cr_conflictWith_120 : decode b_cr_conflictWith 120 = .ok (.iaload, 1) := by decide +kernel
theorem d_cr_conflictWith_121 : decode b_cr_conflictWith 121 = .ok (.iconst 2, 1) := by decide +kernel
theorem d_cr_conflictWith_122 : decode b_cr_conflictWith 122 = .ok (.if_icmp .ne 5, 3) := by decide +kernel
theorem d_cr_conflictWith_125 : decode b_cr_conflictWith 125 = .ok (.iconst 5, 1) := by decide +kernel
theorem d_cr_conflictWith_126 : decode b_cr_conflictWith 126 = .ok (.ireturn, 1) := by decide +kernel
theorem d_cr_conflictWith_127 : decode b_cr_conflictWith 127 = .ok (.aload_n 0, 1) := by decide +kernel
theorem d_cr_conflictWith_128 : decode b_cr_conflictWith 128 = .ok (.getfield 19, 3) := by decide +kernel
theorem d_cr_conflictWith_131 : decode b_cr_conflictWith 131 = .ok (.getfield 223, 3) := by decide +kernel
theorem d_cr_conflictWith_134 : decode b_cr_conflictWith 134 = .ok (.iload 6, 2) := by decide +kernel
theorem d_cr_conflictWith_136 : decode b_cr_conflictWith 136 = .ok (.iaload, 1) := by decide +kernel
theorem d_cr_conflictWith_137 : decode b_cr_conflictWith 137 = .ok (.aload_n 0, 1) := by decide +kernel
theorem d_cr_conflictWith_138 : decode b_cr_conflictWith 138 = .ok (.getfield 19, 3) := by decide +kernel
theorem d_cr_conflictWith_141 : decode b_cr_conflictWith 141 = .ok (.getfield 223, 3) := by decide +kernel
theorem d_cr_conflictWith_144 : decode b_cr_conflictWith 144 = .ok (.iload 7, 2) := by decide +kernel
theorem d_cr_conflictWith_146 : decode b_cr_conflictWith 146 = .ok (.iaload, 1) := by decide +kernel
theorem d_cr_conflictWith_147 : decode b_cr_conflictWith 147 = .ok (.iadd, 1) := by decide +kernel
theorem d_cr_conflictWith_148 : decode b_cr_conflictWith 148 = .ok (.aload_n 0, 1) := by decide +kernel
theorem d_cr_conflictWith_149 : decode b_cr_conflictWith 149 = .ok (.getfield 12, 3) := by decide +kernel
theorem d_cr_conflictWith_152 : decode b_cr_conflictWith 152 = .ok (.getfield 220, 3) := by decide +kernel
theorem d_cr_conflictWith_155 : decode b_cr_conflictWith 155 = .ok (.iload 4, 2) := by decide +kernel
theorem d_cr_conflictWith_157 : decode b_cr_conflictWith 157 = .ok (.iaload, 1) := by decide +kernel
theorem d_cr_conflictWith_158 : decode b_cr_conflictWith 158 = .ok (.if_icmp .le 7, 3) := by decide +kernel
theorem d_cr_conflictWith_161 : decode b_cr_conflictWith 161 = .ok (.iconst 1, 1) := by decide +kernel
theorem d_cr_conflictWith_162 : decode b_cr_conflictWith 162 = .ok (.goto 4, 3) := by decide +kernel
theorem d_cr_conflictWith_165 : decode b_cr_conflictWith 165 = .ok (.iconst 0, 1) := by decide +kernel
theorem d_cr_conflictWith_166 : decode b_cr_conflictWith 166 = .ok (.istore 8, 2) := by decide +kernel
theorem d_cr_conflictWith_168 : decode b_cr_conflictWith 168 = .ok (.aload_n 0, 1) := by decide +kernel
theorem d_cr_conflictWith_169 : decode b_cr_conflictWith 169 = .ok (.getfield 26, 3) := by decide +kernel
theorem d_cr_conflictWith_172 : decode b_cr_conflictWith 172 = .ok (.iload_n 2, 1) := by decide +kernel
theorem d_cr_conflictWith_173 : decode b_cr_conflictWith 173 = .ok (.iload_n 3, 1) := by decide +kernel
theorem d_cr_conflictWith_174 : decode b_cr_conflictWith 174 = .ok (.invokevirtual 175, 3) := by decide +kernel
theorem d_cr_conflictWith_177 : decode b_cr_conflictWith 177 = .ok (.aload_n 0, 1) := by decide +kernel
theorem d_cr_conflictWith_178 : decode b_cr_conflictWith 178 = .ok (.getfield 26, 3) := by decide +kernel
theorem d_cr_conflictWith_181 : decode b_cr_conflictWith 181 = .ok (.iload_n 1, 1) := by decide +kernel
theorem d_cr_conflictWith_182 : decode b_cr_conflictWith 182 = .ok (.iload 5, 2) := by decide +kernel
theorem d_cr_conflictWith_184 : decode b_cr_conflictWith 184 = .ok (.invokevirtual 175, 3) := by decide +kernel
theorem d_cr_conflictWith_187 : decode b_cr_conflictWith 187 = .ok (.if_icmp .eq 41, 3) := by decide +kernel
theorem d_cr_conflictWith_190 : decode b_cr_conflictWith 190 = .ok (.aload_n 0, 1) := by decide +kernel
theorem d_cr_conflictWith_191 : decode b_cr_conflictWith 191 = .ok (.getfield 12, 3) := by decide +kernel
theorem d_cr_conflictWith_194 : decode b_cr_conflictWith 194 = .ok (.iload 4, 2) := by decide +kernel
theorem d_cr_conflictWith_196 : decode b_cr_conflictWith 196 = .ok (.iconst 3, 1) := by decide +kernel
theorem d_cr_conflictWith_197 : decode b_cr_conflictWith 197 = .ok (.invokevirtual 248, 3) := by decide +kernel
theorem d_cr_conflictWith_200 : decode b_cr_conflictWith 200 = .ok (.iconst 1, 1) := by decide +kernel
theorem d_cr_conflictWith_201 : decode b_cr_conflictWith 201 = .ok (.if_icmp .ne 7, 3) := by decide +kernel
theorem d_cr_conflictWith_204 : decode b_cr_conflictWith 204 = .ok (.iconst 1, 1) := by decide +kernel
theorem d_cr_conflictWith_205 : decode b_cr_conflictWith 205 = .ok (.goto 4, 3) := by decide +kernel
theorem d_cr_conflictWith_208 : decode b_cr_conflictWith 208 = .ok (.iconst 0, 1) := by decide +kernel
theorem d_cr_conflictWith_209 : decode b_cr_conflictWith 209 = .ok (.istore 9, 2) := by decide +kernel
theorem d_cr_conflictWith_211 : decode b_cr_conflictWith 211 = .ok (.iload 9, 2) := by decide +kernel
theorem d_cr_conflictWith_213 : decode b_cr_conflictWith 213 = .ok (.ifCond .ne 8, 3) := by decide +kernel
theorem d_cr_conflictWith_216 : decode b_cr_conflictWith 216 = .ok (.iload 8, 2) := by decide +kernel
theorem d_cr_conflictWith_218 : decode b_cr_conflictWith 218 = .ok (.ifCond .eq 8, 3) := by decide +kernel
theorem d_cr_conflictWith_221 : decode b_cr_conflictWith 221 = .ok (.bipush 6, 2) := by decide +kernel
theorem d_cr_conflictWith_223 : decode b_cr_conflictWith 223 = .ok (.goto 4, 3) := by decide +kernel
theorem d_cr_conflictWith_226 : decode b_cr_conflictWith 226 = .ok (.iconst 0, 1) := by decide +kernel
theorem d_cr_conflictWith_227 : decode b_cr_conflictWith 227 = .ok (.ireturn, 1) := by decide +kernel
theorem d_cr_conflictWith_228 : decode b_cr_conflictWith 228 = .ok (.aload_n 0, 1) := by decide +kernel
theorem d_cr_conflictWith_229 : decode b_cr_conflictWith 229 = .ok (.getfield 12, 3) := by decide +kernel
theorem d_cr_conflictWith_232 : decode b_cr_conflictWith 232 = .ok (.iload 4, 2) := by decide +kernel
theorem d_cr_conflictWith_234 : decode b_cr_conflictWith 234 = .ok (.iconst 4, 1) := by decide +kernel
theorem d_cr_conflictWith_235 : decode b_cr_conflictWith 235 = .ok (.invokevirtual 248, 3) := by decide +kernel
theorem d_cr_conflictWith_238 : decode b_cr_conflictWith 238 = .ok (.iconst 1, 1) := by decide +kernel
theorem d_cr_conflictWith_239 : decode b_cr_conflictWith 239 = .ok (.if_icmp .ne 7, 3) := by decide +kernel
theorem d_cr_conflictWith_242 : decode b_cr_conflictWith 242 = .ok (.iconst 1, 1) := by decide +kernel
theorem d_cr_conflictWith_243 : decode b_cr_conflictWith 243 = .ok (.goto 4, 3) := by decide +kernel
theorem d_cr_conflictWith_246 : decode b_cr_conflictWith 246 = .ok (.iconst 0, 1) := by decide +kernel
theorem d_cr_conflictWith_247 : decode b_cr_conflictWith 247 = .ok (.istore 9, 2) := by decide +kernel
theorem d_cr_conflictWith_249 : decode b_cr_conflictWith 249 = .ok (.aload_n 0, 1) := by decide +kernel
theorem d_cr_conflictWith_250 : decode b_cr_conflictWith 250 = .ok (.getfield 26, 3) := by decide +kernel
theorem d_cr_conflictWith_253 : decode b_cr_conflictWith 253 = .ok (.iload_n 2, 1) := by decide +kernel
theorem d_cr_conflictWith_254 : decode b_cr_conflictWith 254 = .ok (.iload_n 3, 1) := by decide +kernel
theorem d_cr_conflictWith_255 : decode b_cr_conflictWith 255 = .ok (.iload_n 1, 1) := by decide +kernel
theorem d_cr_conflictWith_256 : decode b_cr_conflictWith 256 = .ok (.iload 5, 2) := by decide +kernel
theorem d_cr_conflictWith_258 : decode b_cr_conflictWith 258 = .ok (.invokevirtual 267, 3) := by decide +kernel
theorem d_cr_conflictWith_261 : decode b_cr_conflictWith 261 = .ok (.ifCond .eq 18, 3) := by decide +kernel
theorem d_cr_conflictWith_264 : decode b_cr_conflictWith 264 = .ok (.iload 9, 2) := by decide +kernel
theorem d_cr_conflictWith_266 : decode b_cr_conflictWith 266 = .ok (.ifCond .eq 8, 3) := by decide +kernel
theorem d_cr_conflictWith_269 : decode b_cr_conflictWith 269 = .ok (.iload 8, 2) := by decide +kernel
theorem d_cr_conflictWith_271 : decode b_cr_conflictWith 271 = .ok (.ifCond .eq 8, 3) := by decide +kernel
theorem d_cr_conflictWith_274 : decode b_cr_conflictWith 274 = .ok (.bipush 7, 2) := by decide +kernel
theorem d_cr_conflictWith_276 : decode b_cr_conflictWith 276 = .ok (.goto 4, 3) := by decide +kernel
theorem d_cr_conflictWith_279 : decode b_cr_conflictWith 279 = .ok (.iconst 0, 1) := by decide +kernel
theorem d_cr_conflictWith_280 : decode b_cr_conflictWith 280 = .ok (.ireturn, 1) := by decide +kernel
theorem d_cr_shareMinute_0 : decode b_cr_shareMinute 0 = .ok (.iload_n 0, 1) := by decide +kernel
theorem d_cr_shareMinute_1 : decode b_cr_shareMinute 1 = .ok (.iload_n 3, 1) := by decide +kernel
theorem d_cr_shareMinute_2 : decode b_cr_shareMinute 2 = .ok (.if_icmp .ge 12, 3) := by decide +kernel
theorem d_cr_shareMinute_5 : decode b_cr_shareMinute 5 = .ok (.iload_n 2, 1) := by decide +kernel
theorem d_cr_shareMinute_6 : decode b_cr_shareMinute 6 = .ok (.iload_n 1, 1) := by decide +kernel
theorem d_cr_shareMinute_7 : decode b_cr_shareMinute 7 = .ok (.if_icmp .ge 7, 3) := by decide +kernel
theorem d_cr_shareMinute_10 : decode b_cr_shareMinute 10 = .ok (.iconst 1, 1) := by decide +kernel
theorem d_cr_shareMinute_11 : decode b_cr_shareMinute 11 = .ok (.goto 4, 3) := by decide +kernel
theorem d_cr_shareMinute_14 : decode b_cr_shareMinute 14 = .ok (.iconst 0, 1) := by decide +kernel
theorem d_cr_shareMinute_15 : decode b_cr_shareMinute 15 = .ok (.ireturn, 1) := by decide +kernel
theorem d_cr_givenMark_0 : decode b_cr_givenMark 0 = .ok (.aload_n 0, 1) := by decide +kernel
theorem d_cr_givenMark_1 : decode b_cr_givenMark 1 = .ok (.getfield 26, 3) := by decide +kernel
theorem d_cr_givenMark_4 : decode b_cr_givenMark 4 = .ok (.iload_n 1, 1) := by decide +kernel
theorem d_cr_givenMark_5 : decode b_cr_givenMark 5 = .ok (.invokevirtual 134, 3) := by decide +kernel
theorem d_cr_givenMark_8 : decode b_cr_givenMark 8 = .ok (.ifCond .ne 5, 3) := by decide +kernel
theorem d_cr_givenMark_11 : decode b_cr_givenMark 11 = .ok (.iconst (-1), 1) := by decide +kernel
theorem d_cr_givenMark_12 : decode b_cr_givenMark 12 = .ok (.ireturn, 1) := by decide +kernel
theorem d_cr_givenMark_13 : decode b_cr_givenMark 13 = .ok (.aload_n 0, 1) := by decide +kernel
theorem d_cr_givenMark_14 : decode b_cr_givenMark 14 = .ok (.getfield 26, 3) := by decide +kernel
theorem d_cr_givenMark_17 : decode b_cr_givenMark 17 = .ok (.getfield 142, 3) := by decide +kernel
theorem d_cr_givenMark_20 : decode b_cr_givenMark 20 = .ok (.iload_n 1, 1) := by decide +kernel
theorem d_cr_givenMark_21 : decode b_cr_givenMark 21 = .ok (.baload, 1) := by decide +kernel
theorem d_cr_givenMark_22 : decode b_cr_givenMark 22 = .ok (.ifCond .eq 7, 3) := by decide +kernel
theorem d_cr_givenMark_25 : decode b_cr_givenMark 25 = .ok (.iconst 1, 1) := by decide +kernel
theorem d_cr_givenMark_26 : decode b_cr_givenMark 26 = .ok (.goto 4, 3) := by decide +kernel
theorem d_cr_givenMark_29 : decode b_cr_givenMark 29 = .ok (.iconst 0, 1) := by decide +kernel
theorem d_cr_givenMark_30 : decode b_cr_givenMark 30 = .ok (.ireturn, 1) := by decide +kernel
theorem d_cr_piece_0 : decode b_cr_piece 0 = .ok (.iload_n 1, 1) := by decide +kernel
theorem d_cr_piece_1 : decode b_cr_piece 1 = .ok (.invokestatic 45, 3) := by decide +kernel
theorem d_cr_piece_4 : decode b_cr_piece 4 = .ok (.ifCond .eq 15, 3) := by decide +kernel
theorem d_cr_piece_7 : decode b_cr_piece 7 = .ok (.iload_n 2, 1) := by decide +kernel
theorem d_cr_piece_8 : decode b_cr_piece 8 = .ok (.invokestatic 45, 3) := by decide +kernel
theorem d_cr_piece_11 : decode b_cr_piece 11 = .ok (.ifCond .eq 8, 3) := by decide +kernel
theorem d_cr_piece_14 : decode b_cr_piece 14 = .ok (.iload_n 1, 1) := by decide +kernel
theorem d_cr_piece_15 : decode b_cr_piece 15 = .ok (.iload_n 2, 1) := by decide +kernel
theorem d_cr_piece_16 : decode b_cr_piece 16 = .ok (.if_icmp .ne 13, 3) := by decide +kernel
theorem d_cr_piece_19 : decode b_cr_piece 19 = .ok (.new 49, 3) := by decide +kernel
theorem d_cr_piece_22 : decode b_cr_piece 22 = .ok (.dup, 1) := by decide +kernel
theorem d_cr_piece_23 : decode b_cr_piece 23 = .ok (.ldc 51, 2) := by decide +kernel
theorem d_cr_piece_25 : decode b_cr_piece 25 = .ok (.invokespecial 53, 3) := by decide +kernel
theorem d_cr_piece_28 : decode b_cr_piece 28 = .ok (.athrow, 1) := by decide +kernel
theorem d_cr_piece_29 : decode b_cr_piece 29 = .ok (.iload_n 3, 1) := by decide +kernel
theorem d_cr_piece_30 : decode b_cr_piece 30 = .ok (.iconst 1, 1) := by decide +kernel
theorem d_cr_piece_31 : decode b_cr_piece 31 = .ok (.bipush 100, 2) := by decide +kernel
theorem d_cr_piece_33 : decode b_cr_piece 33 = .ok (.invokestatic 56, 3) := by decide +kernel
theorem d_cr_piece_36 : decode b_cr_piece 36 = .ok (.ifCond .eq 14, 3) := by decide +kernel
theorem d_cr_piece_39 : decode b_cr_piece 39 = .ok (.iload 4, 2) := by decide +kernel
theorem d_cr_piece_41 : decode b_cr_piece 41 = .ok (.iconst 1, 1) := by decide +kernel
theorem d_cr_piece_42 : decode b_cr_piece 42 = .ok (.bipush 100, 2) := by decide +kernel
theorem d_cr_piece_44 : decode b_cr_piece 44 = .ok (.invokestatic 56, 3) := by decide +kernel
theorem d_cr_piece_47 : decode b_cr_piece 47 = .ok (.ifCond .ne 13, 3) := by decide +kernel
theorem d_cr_piece_50 : decode b_cr_piece 50 = .ok (.new 49, 3) := by decide +kernel
theorem d_cr_piece_53 : decode b_cr_piece 53 = .ok (.dup, 1) := by decide +kernel
theorem d_cr_piece_54 : decode b_cr_piece 54 = .ok (.ldc 60, 2) := by decide +kernel
theorem d_cr_piece_56 : decode b_cr_piece 56 = .ok (.invokespecial 53, 3) := by decide +kernel
theorem d_cr_piece_59 : decode b_cr_piece 59 = .ok (.athrow, 1) := by decide +kernel
theorem d_cr_piece_60 : decode b_cr_piece 60 = .ok (.aload_n 0, 1) := by decide +kernel
theorem d_cr_piece_61 : decode b_cr_piece 61 = .ok (.getfield 12, 3) := by decide +kernel
theorem d_cr_piece_64 : decode b_cr_piece 64 = .ok (.getfield 62, 3) := by decide +kernel
theorem d_cr_piece_67 : decode b_cr_piece 67 = .ok (.bipush 12, 2) := by decide +kernel
theorem d_cr_piece_69 : decode b_cr_piece 69 = .ok (.if_icmp .lt 13, 3) := by decide +kernel
theorem d_cr_piece_72 : decode b_cr_piece 72 = .ok (.new 65, 3) := by decide +kernel
theorem d_cr_piece_75 : decode b_cr_piece 75 = .ok (.dup, 1) := by decide +kernel
theorem d_cr_piece_76 : decode b_cr_piece 76 = .ok (.ldc 67, 2) := by decide +kernel
theorem d_cr_piece_78 : decode b_cr_piece 78 = .ok (.invokespecial 69, 3) := by decide +kernel
theorem d_cr_piece_81 : decode b_cr_piece 81 = .ok (.athrow, 1) := by decide +kernel
theorem d_cr_piece_82 : decode b_cr_piece 82 = .ok (.aload_n 0, 1) := by decide +kernel
theorem d_cr_piece_83 : decode b_cr_piece 83 = .ok (.getfield 12, 3) := by decide +kernel
theorem d_cr_piece_86 : decode b_cr_piece 86 = .ok (.iload_n 1, 1) := by decide +kernel
theorem d_cr_piece_87 : decode b_cr_piece 87 = .ok (.iload_n 2, 1) := by decide +kernel
theorem d_cr_piece_88 : decode b_cr_piece 88 = .ok (.iload_n 3, 1) := by decide +kernel
theorem d_cr_piece_89 : decode b_cr_piece 89 = .ok (.iload 4, 2) := by decide +kernel
theorem d_cr_piece_91 : decode b_cr_piece 91 = .ok (.invokevirtual 70, 3) := by decide +kernel
theorem d_cr_piece_94 : decode b_cr_piece 94 = .ok (.ireturn, 1) := by decide +kernel
theorem d_cr_isPoint_0 : decode b_cr_isPoint 0 = .ok (.iload_n 0, 1) := by decide +kernel
theorem d_cr_isPoint_1 : decode b_cr_isPoint 1 = .ok (.iconst 0, 1) := by decide +kernel
theorem d_cr_isPoint_2 : decode b_cr_isPoint 2 = .ok (.bipush 7, 2) := by decide +kernel
theorem d_cr_isPoint_4 : decode b_cr_isPoint 4 = .ok (.invokestatic 56, 3) := by decide +kernel
theorem d_cr_isPoint_7 : decode b_cr_isPoint 7 = .ok (.ireturn, 1) := by decide +kernel
theorem d_cr_ship_0 : decode b_cr_ship 0 = .ok (.iload_n 1, 1) := by decide +kernel
theorem d_cr_ship_1 : decode b_cr_ship 1 = .ok (.iconst 1, 1) := by decide +kernel
theorem d_cr_ship_2 : decode b_cr_ship 2 = .ok (.bipush 100, 2) := by decide +kernel
theorem d_cr_ship_4 : decode b_cr_ship 4 = .ok (.invokestatic 56, 3) := by decide +kernel
theorem d_cr_ship_7 : decode b_cr_ship 7 = .ok (.ifCond .eq 22, 3) := by decide +kernel
theorem d_cr_ship_10 : decode b_cr_ship 10 = .ok (.iload_n 2, 1) := by decide +kernel
theorem d_cr_ship_11 : decode b_cr_ship 11 = .ok (.iconst 1, 1) := by decide +kernel
theorem d_cr_ship_12 : decode b_cr_ship 12 = .ok (.bipush 20, 2) := by decide +kernel
theorem d_cr_ship_14 : decode b_cr_ship 14 = .ok (.invokestatic 56, 3) := by decide +kernel
theorem d_cr_ship_17 : decode b_cr_ship 17 = .ok (.ifCond .eq 12, 3) := by decide +kernel
theorem d_cr_ship_20 : decode b_cr_ship 20 = .ok (.iload_n 3, 1) := by decide +kernel
theorem d_cr_ship_21 : decode b_cr_ship 21 = .ok (.iconst 0, 1) := by decide +kernel
theorem d_cr_ship_22 : decode b_cr_ship 22 = .ok (.iconst 2, 1) := by decide +kernel
theorem d_cr_ship_23 : decode b_cr_ship 23 = .ok (.invokestatic 56, 3) := by decide +kernel
theorem d_cr_ship_26 : decode b_cr_ship 26 = .ok (.ifCond .ne 13, 3) := by decide +kernel
theorem d_cr_ship_29 : decode b_cr_ship 29 = .ok (.new 49, 3) := by decide +kernel
theorem d_cr_ship_32 : decode b_cr_ship 32 = .ok (.dup, 1) := by decide +kernel
theorem d_cr_ship_33 : decode b_cr_ship 33 = .ok (.ldc 84, 2) := by decide +kernel
theorem d_cr_ship_35 : decode b_cr_ship 35 = .ok (.invokespecial 53, 3) := by decide +kernel
theorem d_cr_ship_38 : decode b_cr_ship 38 = .ok (.athrow, 1) := by decide +kernel
theorem d_cr_ship_39 : decode b_cr_ship 39 = .ok (.aload_n 0, 1) := by decide +kernel
theorem d_cr_ship_40 : decode b_cr_ship 40 = .ok (.getfield 19, 3) := by decide +kernel
theorem d_cr_ship_43 : decode b_cr_ship 43 = .ok (.getfield 86, 3) := by decide +kernel
theorem d_cr_ship_46 : decode b_cr_ship 46 = .ok (.bipush 12, 2) := by decide +kernel
theorem d_cr_ship_48 : decode b_cr_ship 48 = .ok (.if_icmp .lt 13, 3) := by decide +kernel
theorem d_cr_ship_51 : decode b_cr_ship 51 = .ok (.new 65, 3) := by decide +kernel
theorem d_cr_ship_54 : decode b_cr_ship 54 = .ok (.dup, 1) := by decide +kernel
theorem d_cr_ship_55 : decode b_cr_ship 55 = .ok (.ldc 87, 2) := by decide +kernel
theorem d_cr_ship_57 : decode b_cr_ship 57 = .ok (.invokespecial 69, 3) := by decide +kernel
theorem d_cr_ship_60 : decode b_cr_ship 60 = .ok (.athrow, 1) := by decide +kernel
theorem d_cr_ship_61 : decode b_cr_ship 61 = .ok (.aload_n 0, 1) := by decide +kernel
theorem d_cr_ship_62 : decode b_cr_ship 62 = .ok (.getfield 19, 3) := by decide +kernel
theorem d_cr_ship_65 : decode b_cr_ship 65 = .ok (.iload_n 1, 1) := by decide +kernel
theorem d_cr_ship_66 : decode b_cr_ship 66 = .ok (.iload_n 2, 1) := by decide +kernel
theorem d_cr_ship_67 : decode b_cr_ship 67 = .ok (.iload_n 3, 1) := by decide +kernel
theorem d_cr_ship_68 : decode b_cr_ship 68 = .ok (.invokevirtual 89, 3) := by decide +kernel
theorem d_cr_ship_71 : decode b_cr_ship 71 = .ok (.ireturn, 1) := by decide +kernel
theorem d_cr_route_0 : decode b_cr_route 0 = .ok (.aload_n 0, 1) := by decide +kernel
theorem d_cr_route_1 : decode b_cr_route 1 = .ok (.iload_n 1, 1) := by decide +kernel
theorem d_cr_route_2 : decode b_cr_route 2 = .ok (.iload_n 2, 1) := by decide +kernel
theorem d_cr_route_3 : decode b_cr_route 3 = .ok (.iload_n 3, 1) := by decide +kernel
theorem d_cr_route_4 : decode b_cr_route 4 = .ok (.invokevirtual 92, 3) := by decide +kernel
theorem d_cr_route_7 : decode b_cr_route 7 = .ok (.ifCond .eq 13, 3) := by decide +kernel
theorem d_cr_route_10 : decode b_cr_route 10 = .ok (.iload 4, 2) := by decide +kernel
theorem d_cr_route_12 : decode b_cr_route 12 = .ok (.iconst 0, 1) := by decide +kernel
theorem d_cr_route_13 : decode b_cr_route 13 = .ok (.iconst 2, 1) := by decide +kernel
theorem d_cr_route_14 : decode b_cr_route 14 = .ok (.invokestatic 56, 3) := by decide +kernel
theorem d_cr_route_17 : decode b_cr_route 17 = .ok (.ifCond .ne 13, 3) := by decide +kernel
theorem d_cr_route_20 : decode b_cr_route 20 = .ok (.new 49, 3) := by decide +kernel
theorem d_cr_route_23 : decode b_cr_route 23 = .ok (.dup, 1) := by decide +kernel
theorem d_cr_route_24 : decode b_cr_route 24 = .ok (.ldc 95, 2) := by decide +kernel
theorem d_cr_route_26 : decode b_cr_route 26 = .ok (.invokespecial 53, 3) := by decide +kernel
theorem d_cr_route_29 : decode b_cr_route 29 = .ok (.athrow, 1) := by decide +kernel
theorem d_cr_route_30 : decode b_cr_route 30 = .ok (.aload_n 0, 1) := by decide +kernel
theorem d_cr_route_31 : decode b_cr_route 31 = .ok (.iload_n 1, 1) := by decide +kernel
theorem d_cr_route_32 : decode b_cr_route 32 = .ok (.iload_n 2, 1) := by decide +kernel
theorem d_cr_route_33 : decode b_cr_route 33 = .ok (.iload_n 3, 1) := by decide +kernel
theorem d_cr_route_34 : decode b_cr_route 34 = .ok (.invokevirtual 97, 3) := by decide +kernel
theorem d_cr_route_37 : decode b_cr_route 37 = .ok (.ifCond .ne 5, 3) := by decide +kernel
theorem d_cr_route_40 : decode b_cr_route 40 = .ok (.iconst (-1), 1) := by decide +kernel
theorem d_cr_route_41 : decode b_cr_route 41 = .ok (.ireturn, 1) := by decide +kernel
theorem d_cr_route_42 : decode b_cr_route 42 = .ok (.iload 4, 2) := by decide +kernel
theorem d_cr_route_44 : decode b_cr_route 44 = .ok (.lookupswitch 45 #[(0, 28), (1, 35)], 28) := by decide +kernel
theorem d_cr_route_72 : decode b_cr_route 72 = .ok (.aload_n 0, 1) := by decide +kernel
theorem d_cr_route_73 : decode b_cr_route 73 = .ok (.getfield 30, 3) := by decide +kernel
theorem d_cr_route_76 : decode b_cr_route 76 = .ok (.iload_n 2, 1) := by decide +kernel
theorem d_cr_route_77 : decode b_cr_route 77 = .ok (.iaload, 1) := by decide +kernel
theorem d_cr_route_78 : decode b_cr_route 78 = .ok (.ireturn, 1) := by decide +kernel
theorem d_cr_route_79 : decode b_cr_route 79 = .ok (.aload_n 0, 1) := by decide +kernel
theorem d_cr_route_80 : decode b_cr_route 80 = .ok (.getfield 26, 3) := by decide +kernel
theorem d_cr_route_83 : decode b_cr_route 83 = .ok (.iconst 0, 1) := by decide +kernel
theorem d_cr_route_84 : decode b_cr_route 84 = .ok (.iconst 0, 1) := by decide +kernel
theorem d_cr_route_85 : decode b_cr_route 85 = .ok (.invokevirtual 100, 3) := by decide +kernel
theorem d_cr_route_88 : decode b_cr_route 88 = .ok (.ireturn, 1) := by decide +kernel
theorem d_cr_route_89 : decode b_cr_route 89 = .ok (.aload_n 0, 1) := by decide +kernel
theorem d_cr_route_90 : decode b_cr_route 90 = .ok (.getfield 26, 3) := by decide +kernel
theorem d_cr_route_93 : decode b_cr_route 93 = .ok (.getfield 104, 3) := by decide +kernel
theorem d_cr_route_96 : decode b_cr_route 96 = .ok (.iconst 0, 1) := by decide +kernel
theorem d_cr_route_97 : decode b_cr_route 97 = .ok (.iaload, 1) := by decide +kernel
theorem d_cr_route_98 : decode b_cr_route 98 = .ok (.ireturn, 1) := by decide +kernel
theorem d_cr_isVoyage_0 : decode b_cr_isVoyage 0 = .ok (.aload_n 0, 1) := by decide +kernel
theorem d_cr_isVoyage_1 : decode b_cr_isVoyage 1 = .ok (.getfield 19, 3) := by decide +kernel
theorem d_cr_isVoyage_4 : decode b_cr_isVoyage 4 = .ok (.iload_n 1, 1) := by decide +kernel
theorem d_cr_isVoyage_5 : decode b_cr_isVoyage 5 = .ok (.invokevirtual 185, 3) := by decide +kernel
theorem d_cr_isVoyage_8 : decode b_cr_isVoyage 8 = .ok (.ifCond .eq 21, 3) := by decide +kernel
theorem d_cr_isVoyage_11 : decode b_cr_isVoyage 11 = .ok (.iload_n 2, 1) := by decide +kernel
theorem d_cr_isVoyage_12 : decode b_cr_isVoyage 12 = .ok (.invokestatic 45, 3) := by decide +kernel
theorem d_cr_isVoyage_15 : decode b_cr_isVoyage 15 = .ok (.ifCond .eq 14, 3) := by decide +kernel
theorem d_cr_isVoyage_18 : decode b_cr_isVoyage 18 = .ok (.iload_n 3, 1) := by decide +kernel
theorem d_cr_isVoyage_19 : decode b_cr_isVoyage 19 = .ok (.invokestatic 45, 3) := by decide +kernel
theorem d_cr_isVoyage_22 : decode b_cr_isVoyage 22 = .ok (.ifCond .eq 7, 3) := by decide +kernel
theorem d_cr_isVoyage_25 : decode b_cr_isVoyage 25 = .ok (.iconst 1, 1) := by decide +kernel
theorem d_cr_isVoyage_26 : decode b_cr_isVoyage 26 = .ok (.goto 4, 3) := by decide +kernel
theorem d_cr_isVoyage_29 : decode b_cr_isVoyage 29 = .ok (.iconst 0, 1) := by decide +kernel
theorem d_cr_isVoyage_30 : decode b_cr_isVoyage 30 = .ok (.ireturn, 1) := by decide +kernel
theorem d_cr_planRoute_0 : decode b_cr_planRoute 0 = .ok (.aload_n 0, 1) := by decide +kernel
theorem d_cr_planRoute_1 : decode b_cr_planRoute 1 = .ok (.getfield 26, 3) := by decide +kernel
theorem d_cr_planRoute_4 : decode b_cr_planRoute 4 = .ok (.iload_n 1, 1) := by decide +kernel
theorem d_cr_planRoute_5 : decode b_cr_planRoute 5 = .ok (.invokevirtual 186, 3) := by decide +kernel
theorem d_cr_planRoute_8 : decode b_cr_planRoute 8 = .ok (.iload_n 2, 1) := by decide +kernel
theorem d_cr_planRoute_9 : decode b_cr_planRoute 9 = .ok (.iload_n 3, 1) := by decide +kernel
theorem d_cr_planRoute_10 : decode b_cr_planRoute 10 = .ok (.if_icmp .ne 5, 3) := by decide +kernel
theorem d_cr_planRoute_13 : decode b_cr_planRoute 13 = .ok (.iconst 0, 1) := by decide +kernel
theorem d_cr_planRoute_14 : decode b_cr_planRoute 14 = .ok (.ireturn, 1) := by decide +kernel
theorem d_cr_planRoute_15 : decode b_cr_planRoute 15 = .ok (.aload_n 0, 1) := by decide +kernel
theorem d_cr_planRoute_16 : decode b_cr_planRoute 16 = .ok (.iload_n 1, 1) := by decide +kernel
theorem d_cr_planRoute_17 : decode b_cr_planRoute 17 = .ok (.iload_n 3, 1) := by decide +kernel
theorem d_cr_planRoute_18 : decode b_cr_planRoute 18 = .ok (.invokevirtual 190, 3) := by decide +kernel
theorem d_cr_planRoute_21 : decode b_cr_planRoute 21 = .ok (.iload_n 2, 1) := by decide +kernel
theorem d_cr_planRoute_22 : decode b_cr_planRoute 22 = .ok (.istore 4, 2) := by decide +kernel
theorem d_cr_planRoute_24 : decode b_cr_planRoute 24 = .ok (.iconst 0, 1) := by decide +kernel
theorem d_cr_planRoute_25 : decode b_cr_planRoute 25 = .ok (.istore 5, 2) := by decide +kernel
theorem d_cr_planRoute_27 : decode b_cr_planRoute 27 = .ok (.iload 5, 2) := by decide +kernel
theorem d_cr_planRoute_29 : decode b_cr_planRoute 29 = .ok (.bipush 7, 2) := by decide +kernel
theorem d_cr_planRoute_31 : decode b_cr_planRoute 31 = .ok (.if_icmp .ge 81, 3) := by decide +kernel
theorem d_cr_planRoute_34 : decode b_cr_planRoute 34 = .ok (.iload 4, 2) := by decide +kernel
theorem d_cr_planRoute_36 : decode b_cr_planRoute 36 = .ok (.iload_n 3, 1) := by decide +kernel
theorem d_cr_planRoute_37 : decode b_cr_planRoute 37 = .ok (.if_icmp .eq 75, 3) := by decide +kernel
theorem d_cr_planRoute_40 : decode b_cr_planRoute 40 = .ok (.aload_n 0, 1) := by decide +kernel
theorem d_cr_planRoute_41 : decode b_cr_planRoute 41 = .ok (.iload_n 1, 1) := by decide +kernel
theorem d_cr_planRoute_42 : decode b_cr_planRoute 42 = .ok (.iload 4, 2) := by decide +kernel
theorem d_cr_planRoute_44 : decode b_cr_planRoute 44 = .ok (.invokevirtual 194, 3) := by decide +kernel
theorem d_cr_planRoute_47 : decode b_cr_planRoute 47 = .ok (.istore 6, 2) := by decide +kernel
theorem d_cr_planRoute_49 : decode b_cr_planRoute 49 = .ok (.iload 6, 2) := by decide +kernel
theorem d_cr_planRoute_51 : decode b_cr_planRoute 51 = .ok (.iconst (-1), 1) := by decide +kernel
theorem d_cr_planRoute_52 : decode b_cr_planRoute 52 = .ok (.if_icmp .ne 5, 3) := by decide +kernel
theorem d_cr_planRoute_55 : decode b_cr_planRoute 55 = .ok (.iconst 0, 1) := by decide +kernel
theorem d_cr_planRoute_56 : decode b_cr_planRoute 56 = .ok (.ireturn, 1) := by decide +kernel
theorem d_cr_planRoute_57 : decode b_cr_planRoute 57 = .ok (.aload_n 0, 1) := by decide +kernel
theorem d_cr_planRoute_58 : decode b_cr_planRoute 58 = .ok (.getfield 26, 3) := by decide +kernel
theorem d_cr_planRoute_61 : decode b_cr_planRoute 61 = .ok (.iload 6, 2) := by decide +kernel
theorem d_cr_planRoute_63 : decode b_cr_planRoute 63 = .ok (.aload_n 0, 1) := by decide +kernel
theorem d_cr_planRoute_64 : decode b_cr_planRoute 64 = .ok (.getfield 12, 3) := by decide +kernel
theorem d_cr_planRoute_67 : decode b_cr_planRoute 67 = .ok (.getfield 197, 3) := by decide +kernel
theorem d_cr_planRoute_70 : decode b_cr_planRoute 70 = .ok (.iload 6, 2) := by decide +kernel
theorem d_cr_planRoute_72 : decode b_cr_planRoute 72 = .ok (.iaload, 1) := by decide +kernel
theorem d_cr_planRoute_73 : decode b_cr_planRoute 73 = .ok (.iload 4, 2) := by decide +kernel
theorem d_cr_planRoute_75 : decode b_cr_planRoute 75 = .ok (.if_icmp .ne 7, 3) := by decide +kernel
theorem d_cr_planRoute_78 : decode b_cr_planRoute 78 = .ok (.iconst 1, 1) := by decide +kernel
theorem d_cr_planRoute_79 : decode b_cr_planRoute 79 = .ok (.goto 4, 3) := by decide +kernel
theorem d_cr_planRoute_82 : decode b_cr_planRoute 82 = .ok (.iconst 0, 1) := by decide +kernel
theorem d_cr_planRoute_83 : decode b_cr_planRoute 83 = .ok (.aload_n 0, 1) := by decide +kernel
theorem d_cr_planRoute_84 : decode b_cr_planRoute 84 = .ok (.iload_n 1, 1) := by decide +kernel
theorem d_cr_planRoute_85 : decode b_cr_planRoute 85 = .ok (.iload 6, 2) := by decide +kernel
theorem d_cr_planRoute_87 : decode b_cr_planRoute 87 = .ok (.invokevirtual 200, 3) := by decide +kernel
theorem d_cr_planRoute_90 : decode b_cr_planRoute 90 = .ok (.invokevirtual 203, 3) := by decide +kernel
theorem d_cr_planRoute_93 : decode b_cr_planRoute 93 = .ok (.aload_n 0, 1) := by decide +kernel
theorem d_cr_planRoute_94 : decode b_cr_planRoute 94 = .ok (.getfield 12, 3) := by decide +kernel
theorem d_cr_planRoute_97 : decode b_cr_planRoute 97 = .ok (.iload 6, 2) := by decide +kernel
theorem d_cr_planRoute_99 : decode b_cr_planRoute 99 = .ok (.iload 4, 2) := by decide +kernel
theorem d_cr_planRoute_101 : decode b_cr_planRoute 101 = .ok (.invokevirtual 207, 3) := by decide +kernel
theorem d_cr_planRoute_104 : decode b_cr_planRoute 104 = .ok (.istore 4, 2) := by decide +kernel
theorem d_cr_planRoute_106 : decode b_cr_planRoute 106 = .ok (.iinc 5 1, 3) := by decide +kernel
theorem d_cr_planRoute_109 : decode b_cr_planRoute 109 = .ok (.goto (-82), 3) := by decide +kernel
theorem d_cr_planRoute_112 : decode b_cr_planRoute 112 = .ok (.iload 4, 2) := by decide +kernel
theorem d_cr_planRoute_114 : decode b_cr_planRoute 114 = .ok (.iload_n 3, 1) := by decide +kernel
theorem d_cr_planRoute_115 : decode b_cr_planRoute 115 = .ok (.if_icmp .ne 7, 3) := by decide +kernel
theorem d_cr_planRoute_118 : decode b_cr_planRoute 118 = .ok (.iconst 1, 1) := by decide +kernel
theorem d_cr_planRoute_119 : decode b_cr_planRoute 119 = .ok (.goto 4, 3) := by decide +kernel
theorem d_cr_planRoute_122 : decode b_cr_planRoute 122 = .ok (.iconst 0, 1) := by decide +kernel
theorem d_cr_planRoute_123 : decode b_cr_planRoute 123 = .ok (.ireturn, 1) := by decide +kernel
theorem d_cr_measureTimeLeft_0 : decode b_cr_measureTimeLeft 0 = .ok (.iconst 0, 1) := by decide +kernel
theorem d_cr_measureTimeLeft_1 : decode b_cr_measureTimeLeft 1 = .ok (.istore_n 3, 1) := by decide +kernel
theorem d_cr_measureTimeLeft_2 : decode b_cr_measureTimeLeft 2 = .ok (.iload_n 3, 1) := by decide +kernel
theorem d_cr_measureTimeLeft_3 : decode b_cr_measureTimeLeft 3 = .ok (.bipush 8, 2) := by decide +kernel
theorem d_cr_measureTimeLeft_5 : decode b_cr_measureTimeLeft 5 = .ok (.if_icmp .ge 26, 3) := by decide +kernel
theorem d_cr_measureTimeLeft_8 : decode b_cr_measureTimeLeft 8 = .ok (.aload_n 0, 1) := by decide +kernel
theorem d_cr_measureTimeLeft_9 : decode b_cr_measureTimeLeft 9 = .ok (.getfield 30, 3) := by decide +kernel
theorem d_cr_measureTimeLeft_12 : decode b_cr_measureTimeLeft 12 = .ok (.iload_n 3, 1) := by decide +kernel
theorem d_cr_measureTimeLeft_13 : decode b_cr_measureTimeLeft 13 = .ok (.iload_n 3, 1) := by decide +kernel
theorem d_cr_measureTimeLeft_14 : decode b_cr_measureTimeLeft 14 = .ok (.iload_n 2, 1) := by decide +kernel
theorem d_cr_measureTimeLeft_15 : decode b_cr_measureTimeLeft 15 = .ok (.if_icmp .ne 7, 3) := by decide +kernel
theorem d_cr_measureTimeLeft_18 : decode b_cr_measureTimeLeft 18 = .ok (.iconst 0, 1) := by decide +kernel
theorem d_cr_measureTimeLeft_19 : decode b_cr_measureTimeLeft 19 = .ok (.goto 5, 3) := by decide +kernel
theorem d_cr_measureTimeLeft_22 : decode b_cr_measureTimeLeft 22 = .ok (.ldc 210, 2) := by decide +kernel
theorem d_cr_measureTimeLeft_24 : decode b_cr_measureTimeLeft 24 = .ok (.iastore, 1) := by decide +kernel
theorem d_cr_measureTimeLeft_25 : decode b_cr_measureTimeLeft 25 = .ok (.iinc 3 1, 3) := by decide +kernel
theorem d_cr_measureTimeLeft_28 : decode b_cr_measureTimeLeft 28 = .ok (.goto (-26), 3) := by decide +kernel
theorem d_cr_measureTimeLeft_31 : decode b_cr_measureTimeLeft 31 = .ok (.iconst 0, 1) := by decide +kernel
theorem d_cr_measureTimeLeft_32 : decode b_cr_measureTimeLeft 32 = .ok (.istore_n 3, 1) := by decide +kernel
theorem d_cr_measureTimeLeft_33 : decode b_cr_measureTimeLeft 33 = .ok (.iload_n 3, 1) := by decide +kernel
theorem d_cr_measureTimeLeft_34 : decode b_cr_measureTimeLeft 34 = .ok (.bipush 7, 2) := by decide +kernel
theorem d_cr_measureTimeLeft_36 : decode b_cr_measureTimeLeft 36 = .ok (.if_icmp .ge 53, 3) := by decide +kernel
theorem d_cr_measureTimeLeft_39 : decode b_cr_measureTimeLeft 39 = .ok (.iconst 0, 1) := by decide +kernel
theorem d_cr_measureTimeLeft_40 : decode b_cr_measureTimeLeft 40 = .ok (.istore 4, 2) := by decide +kernel
theorem d_cr_measureTimeLeft_42 : decode b_cr_measureTimeLeft 42 = .ok (.iload 4, 2) := by decide +kernel
theorem d_cr_measureTimeLeft_44 : decode b_cr_measureTimeLeft 44 = .ok (.aload_n 0, 1) := by decide +kernel
theorem d_cr_measureTimeLeft_45 : decode b_cr_measureTimeLeft 45 = .ok (.getfield 12, 3) := by decide +kernel
theorem d_cr_measureTimeLeft_48 : decode b_cr_measureTimeLeft 48 = .ok (.getfield 62, 3) := by decide +kernel
theorem d_cr_measureTimeLeft_51 : decode b_cr_measureTimeLeft 51 = .ok (.if_icmp .ge 32, 3) := by decide +kernel
theorem d_cr_measureTimeLeft_54 : decode b_cr_measureTimeLeft 54 = .ok (.aload_n 0, 1) := by decide +kernel
theorem d_cr_measureTimeLeft_55 : decode b_cr_measureTimeLeft 55 = .ok (.iload_n 1, 1) := by decide +kernel
theorem d_cr_measureTimeLeft_56 : decode b_cr_measureTimeLeft 56 = .ok (.iload 4, 2) := by decide +kernel
theorem d_cr_measureTimeLeft_58 : decode b_cr_measureTimeLeft 58 = .ok (.invokevirtual 211, 3) := by decide +kernel
theorem d_cr_measureTimeLeft_61 : decode b_cr_measureTimeLeft 61 = .ok (.ifCond .eq 16, 3) := by decide +kernel
theorem d_cr_measureTimeLeft_64 : decode b_cr_measureTimeLeft 64 = .ok (.aload_n 0, 1) := by decide +kernel
theorem d_cr_measureTimeLeft_65 : decode b_cr_measureTimeLeft 65 = .ok (.iload 4, 2) := by decide +kernel
theorem d_cr_measureTimeLeft_67 : decode b_cr_measureTimeLeft 67 = .ok (.aload_n 0, 1) := by decide +kernel
theorem d_cr_measureTimeLeft_68 : decode b_cr_measureTimeLeft 68 = .ok (.iload_n 1, 1) := by decide +kernel
theorem d_cr_measureTimeLeft_69 : decode b_cr_measureTimeLeft 69 = .ok (.iload 4, 2) := by decide +kernel
theorem d_cr_measureTimeLeft_71 : decode b_cr_measureTimeLeft 71 = .ok (.invokevirtual 200, 3) := by decide +kernel
theorem d_cr_measureTimeLeft_74 : decode b_cr_measureTimeLeft 74 = .ok (.invokevirtual 214, 3) := by decide +kernel
theorem d_cr_measureTimeLeft_77 : decode b_cr_measureTimeLeft 77 = .ok (.iinc 4 1, 3) := by decide +kernel
theorem d_cr_measureTimeLeft_80 : decode b_cr_measureTimeLeft 80 = .ok (.goto (-38), 3) := by decide +kernel
theorem d_cr_measureTimeLeft_83 : decode b_cr_measureTimeLeft 83 = .ok (.iinc 3 1, 3) := by decide +kernel
theorem d_cr_measureTimeLeft_86 : decode b_cr_measureTimeLeft 86 = .ok (.goto (-53), 3) := by decide +kernel
theorem d_cr_measureTimeLeft_89 : decode b_cr_measureTimeLeft 89 = .ok (.return_, 1) := by decide +kernel
theorem d_cr_fits_0 : decode b_cr_fits 0 = .ok (.aload_n 0, 1) := by decide +kernel
theorem d_cr_fits_1 : decode b_cr_fits 1 = .ok (.getfield 12, 3) := by decide +kernel
theorem d_cr_fits_4 : decode b_cr_fits 4 = .ok (.getfield 220, 3) := by decide +kernel
theorem d_cr_fits_7 : decode b_cr_fits 7 = .ok (.iload_n 2, 1) := by decide +kernel
theorem d_cr_fits_8 : decode b_cr_fits 8 = .ok (.iaload, 1) := by decide +kernel
theorem d_cr_fits_9 : decode b_cr_fits 9 = .ok (.aload_n 0, 1) := by decide +kernel
theorem d_cr_fits_10 : decode b_cr_fits 10 = .ok (.getfield 19, 3) := by decide +kernel
theorem d_cr_fits_13 : decode b_cr_fits 13 = .ok (.getfield 223, 3) := by decide +kernel
theorem d_cr_fits_16 : decode b_cr_fits 16 = .ok (.iload_n 1, 1) := by decide +kernel
theorem d_cr_fits_17 : decode b_cr_fits 17 = .ok (.iaload, 1) := by decide +kernel
theorem d_cr_fits_18 : decode b_cr_fits 18 = .ok (.if_icmp .lt 7, 3) := by decide +kernel
theorem d_cr_fits_21 : decode b_cr_fits 21 = .ok (.iconst 1, 1) := by decide +kernel
theorem d_cr_fits_22 : decode b_cr_fits 22 = .ok (.goto 4, 3) := by decide +kernel
theorem d_cr_fits_25 : decode b_cr_fits 25 = .ok (.iconst 0, 1) := by decide +kernel
theorem d_cr_fits_26 : decode b_cr_fits 26 = .ok (.ireturn, 1) := by decide +kernel
theorem d_cr_travelTime_0 : decode b_cr_travelTime 0 = .ok (.aload_n 0, 1) := by decide +kernel
theorem d_cr_travelTime_1 : decode b_cr_travelTime 1 = .ok (.getfield 19, 3) := by decide +kernel
theorem d_cr_travelTime_4 : decode b_cr_travelTime 4 = .ok (.getfield 224, 3) := by decide +kernel
theorem d_cr_travelTime_7 : decode b_cr_travelTime 7 = .ok (.iload_n 1, 1) := by decide +kernel
theorem d_cr_travelTime_8 : decode b_cr_travelTime 8 = .ok (.iaload, 1) := by decide +kernel
theorem d_cr_travelTime_9 : decode b_cr_travelTime 9 = .ok (.istore_n 3, 1) := by decide +kernel
theorem d_cr_travelTime_10 : decode b_cr_travelTime 10 = .ok (.iload_n 3, 1) := by decide +kernel
theorem d_cr_travelTime_11 : decode b_cr_travelTime 11 = .ok (.iconst 1, 1) := by decide +kernel
theorem d_cr_travelTime_12 : decode b_cr_travelTime 12 = .ok (.if_icmp .ge 6, 3) := by decide +kernel
theorem d_cr_travelTime_15 : decode b_cr_travelTime 15 = .ok (.ldc 210, 2) := by decide +kernel
theorem d_cr_travelTime_17 : decode b_cr_travelTime 17 = .ok (.ireturn, 1) := by decide +kernel
theorem d_cr_travelTime_18 : decode b_cr_travelTime 18 = .ok (.aload_n 0, 1) := by decide +kernel
theorem d_cr_travelTime_19 : decode b_cr_travelTime 19 = .ok (.getfield 12, 3) := by decide +kernel
theorem d_cr_travelTime_22 : decode b_cr_travelTime 22 = .ok (.getfield 227, 3) := by decide +kernel
theorem d_cr_travelTime_25 : decode b_cr_travelTime 25 = .ok (.iload_n 2, 1) := by decide +kernel
theorem d_cr_travelTime_26 : decode b_cr_travelTime 26 = .ok (.iaload, 1) := by decide +kernel
theorem d_cr_travelTime_27 : decode b_cr_travelTime 27 = .ok (.iload_n 3, 1) := by decide +kernel
theorem d_cr_travelTime_28 : decode b_cr_travelTime 28 = .ok (.iadd, 1) := by decide +kernel
theorem d_cr_travelTime_29 : decode b_cr_travelTime 29 = .ok (.iconst 1, 1) := by decide +kernel
theorem d_cr_travelTime_30 : decode b_cr_travelTime 30 = .ok (.isub, 1) := by decide +kernel
theorem d_cr_travelTime_31 : decode b_cr_travelTime 31 = .ok (.iload_n 3, 1) := by decide +kernel
theorem d_cr_travelTime_32 : decode b_cr_travelTime 32 = .ok (.idiv, 1) := by decide +kernel
theorem d_cr_travelTime_33 : decode b_cr_travelTime 33 = .ok (.ireturn, 1) := by decide +kernel
theorem d_cr_shortenBy_0 : decode b_cr_shortenBy 0 = .ok (.aload_n 0, 1) := by decide +kernel
theorem d_cr_shortenBy_1 : decode b_cr_shortenBy 1 = .ok (.getfield 12, 3) := by decide +kernel
theorem d_cr_shortenBy_4 : decode b_cr_shortenBy 4 = .ok (.getfield 197, 3) := by decide +kernel
theorem d_cr_shortenBy_7 : decode b_cr_shortenBy 7 = .ok (.iload_n 1, 1) := by decide +kernel
theorem d_cr_shortenBy_8 : decode b_cr_shortenBy 8 = .ok (.iaload, 1) := by decide +kernel
theorem d_cr_shortenBy_9 : decode b_cr_shortenBy 9 = .ok (.istore_n 3, 1) := by decide +kernel
theorem d_cr_shortenBy_10 : decode b_cr_shortenBy 10 = .ok (.aload_n 0, 1) := by decide +kernel
theorem d_cr_shortenBy_11 : decode b_cr_shortenBy 11 = .ok (.getfield 12, 3) := by decide +kernel
theorem d_cr_shortenBy_14 : decode b_cr_shortenBy 14 = .ok (.getfield 217, 3) := by decide +kernel
theorem d_cr_shortenBy_17 : decode b_cr_shortenBy 17 = .ok (.iload_n 1, 1) := by decide +kernel
theorem d_cr_shortenBy_18 : decode b_cr_shortenBy 18 = .ok (.iaload, 1) := by decide +kernel
theorem d_cr_shortenBy_19 : decode b_cr_shortenBy 19 = .ok (.istore 4, 2) := by decide +kernel
theorem d_cr_shortenBy_21 : decode b_cr_shortenBy 21 = .ok (.aload_n 0, 1) := by decide +kernel
theorem d_cr_shortenBy_22 : decode b_cr_shortenBy 22 = .ok (.getfield 30, 3) := by decide +kernel
theorem d_cr_shortenBy_25 : decode b_cr_shortenBy 25 = .ok (.iload_n 3, 1) := by decide +kernel
theorem d_cr_shortenBy_26 : decode b_cr_shortenBy 26 = .ok (.aload_n 0, 1) := by decide +kernel
theorem d_cr_shortenBy_27 : decode b_cr_shortenBy 27 = .ok (.getfield 30, 3) := by decide +kernel
theorem d_cr_shortenBy_30 : decode b_cr_shortenBy 30 = .ok (.iload_n 3, 1) := by decide +kernel
theorem d_cr_shortenBy_31 : decode b_cr_shortenBy 31 = .ok (.iaload, 1) := by decide +kernel
theorem d_cr_shortenBy_32 : decode b_cr_shortenBy 32 = .ok (.aload_n 0, 1) := by decide +kernel
theorem d_cr_shortenBy_33 : decode b_cr_shortenBy 33 = .ok (.getfield 30, 3) := by decide +kernel
theorem d_cr_shortenBy_36 : decode b_cr_shortenBy 36 = .ok (.iload 4, 2) := by decide +kernel
theorem d_cr_shortenBy_38 : decode b_cr_shortenBy 38 = .ok (.iaload, 1) := by decide +kernel
theorem d_cr_shortenBy_39 : decode b_cr_shortenBy 39 = .ok (.iload_n 2, 1) := by decide +kernel
theorem d_cr_shortenBy_40 : decode b_cr_shortenBy 40 = .ok (.iadd, 1) := by decide +kernel
theorem d_cr_shortenBy_41 : decode b_cr_shortenBy 41 = .ok (.invokestatic 126, 3) := by decide +kernel
theorem d_cr_shortenBy_44 : decode b_cr_shortenBy 44 = .ok (.iastore, 1) := by decide +kernel
theorem d_cr_shortenBy_45 : decode b_cr_shortenBy 45 = .ok (.aload_n 0, 1) := by decide +kernel
theorem d_cr_shortenBy_46 : decode b_cr_shortenBy 46 = .ok (.getfield 30, 3) := by decide +kernel
theorem d_cr_shortenBy_49 : decode b_cr_shortenBy 49 = .ok (.iload 4, 2) := by decide +kernel
theorem d_cr_shortenBy_51 : decode b_cr_shortenBy 51 = .ok (.aload_n 0, 1) := by decide +kernel
theorem d_cr_shortenBy_52 : decode b_cr_shortenBy 52 = .ok (.getfield 30, 3) := by decide +kernel
theorem d_cr_shortenBy_55 : decode b_cr_shortenBy 55 = .ok (.iload 4, 2) := by decide +kernel
theorem d_cr_shortenBy_57 : decode b_cr_shortenBy 57 = .ok (.iaload, 1) := by decide +kernel
theorem d_cr_shortenBy_58 : decode b_cr_shortenBy 58 = .ok (.aload_n 0, 1) := by decide +kernel
theorem d_cr_shortenBy_59 : decode b_cr_shortenBy 59 = .ok (.getfield 30, 3) := by decide +kernel
theorem d_cr_shortenBy_62 : decode b_cr_shortenBy 62 = .ok (.iload_n 3, 1) := by decide +kernel
theorem d_cr_shortenBy_63 : decode b_cr_shortenBy 63 = .ok (.iaload, 1) := by decide +kernel
theorem d_cr_shortenBy_64 : decode b_cr_shortenBy 64 = .ok (.iload_n 2, 1) := by decide +kernel
theorem d_cr_shortenBy_65 : decode b_cr_shortenBy 65 = .ok (.iadd, 1) := by decide +kernel
theorem d_cr_shortenBy_66 : decode b_cr_shortenBy 66 = .ok (.invokestatic 126, 3) := by decide +kernel
theorem d_cr_shortenBy_69 : decode b_cr_shortenBy 69 = .ok (.iastore, 1) := by decide +kernel
theorem d_cr_shortenBy_70 : decode b_cr_shortenBy 70 = .ok (.return_, 1) := by decide +kernel
theorem d_cr_nextPiece_0 : decode b_cr_nextPiece 0 = .ok (.aload_n 0, 1) := by decide +kernel
theorem d_cr_nextPiece_1 : decode b_cr_nextPiece 1 = .ok (.getfield 30, 3) := by decide +kernel
theorem d_cr_nextPiece_4 : decode b_cr_nextPiece 4 = .ok (.iload_n 2, 1) := by decide +kernel
theorem d_cr_nextPiece_5 : decode b_cr_nextPiece 5 = .ok (.iaload, 1) := by decide +kernel
theorem d_cr_nextPiece_6 : decode b_cr_nextPiece 6 = .ok (.ldc 210, 2) := by decide +kernel
theorem d_cr_nextPiece_8 : decode b_cr_nextPiece 8 = .ok (.if_icmp .lt 5, 3) := by decide +kernel
theorem d_cr_nextPiece_11 : decode b_cr_nextPiece 11 = .ok (.iconst (-1), 1) := by decide +kernel
theorem d_cr_nextPiece_12 : decode b_cr_nextPiece 12 = .ok (.ireturn, 1) := by decide +kernel
theorem d_cr_nextPiece_13 : decode b_cr_nextPiece 13 = .ok (.iconst 0, 1) := by decide +kernel
theorem d_cr_nextPiece_14 : decode b_cr_nextPiece 14 = .ok (.istore_n 3, 1) := by decide +kernel
theorem d_cr_nextPiece_15 : decode b_cr_nextPiece 15 = .ok (.iload_n 3, 1) := by decide +kernel
theorem d_cr_nextPiece_16 : decode b_cr_nextPiece 16 = .ok (.aload_n 0, 1) := by decide +kernel
theorem d_cr_nextPiece_17 : decode b_cr_nextPiece 17 = .ok (.getfield 12, 3) := by decide +kernel
theorem d_cr_nextPiece_20 : decode b_cr_nextPiece 20 = .ok (.getfield 62, 3) := by decide +kernel
theorem d_cr_nextPiece_23 : decode b_cr_nextPiece 23 = .ok (.if_icmp .ge 60, 3) := by decide +kernel
theorem d_cr_nextPiece_26 : decode b_cr_nextPiece 26 = .ok (.aload_n 0, 1) := by decide +kernel
theorem d_cr_nextPiece_27 : decode b_cr_nextPiece 27 = .ok (.getfield 12, 3) := by decide +kernel
theorem d_cr_nextPiece_30 : decode b_cr_nextPiece 30 = .ok (.iload_n 3, 1) := by decide +kernel
theorem d_cr_nextPiece_31 : decode b_cr_nextPiece 31 = .ok (.iload_n 2, 1) := by decide +kernel
theorem d_cr_nextPiece_32 : decode b_cr_nextPiece 32 = .ok (.invokevirtual 207, 3) := by decide +kernel
theorem d_cr_nextPiece_35 : decode b_cr_nextPiece 35 = .ok (.istore 4, 2) := by decide +kernel
theorem d_cr_nextPiece_37 : decode b_cr_nextPiece 37 = .ok (.iload 4, 2) := by decide +kernel
theorem d_cr_nextPiece_39 : decode b_cr_nextPiece 39 = .ok (.iconst (-1), 1) := by decide +kernel
theorem d_cr_nextPiece_40 : decode b_cr_nextPiece 40 = .ok (.if_icmp .eq 37, 3) := by decide +kernel
theorem d_cr_nextPiece_43 : decode b_cr_nextPiece 43 = .ok (.aload_n 0, 1) := by decide +kernel
theorem d_cr_nextPiece_44 : decode b_cr_nextPiece 44 = .ok (.iload_n 1, 1) := by decide +kernel
theorem d_cr_nextPiece_45 : decode b_cr_nextPiece 45 = .ok (.iload_n 3, 1) := by decide +kernel
theorem d_cr_nextPiece_46 : decode b_cr_nextPiece 46 = .ok (.invokevirtual 211, 3) := by decide +kernel
theorem d_cr_nextPiece_49 : decode b_cr_nextPiece 49 = .ok (.ifCond .eq 28, 3) := by decide +kernel
theorem d_cr_nextPiece_52 : decode b_cr_nextPiece 52 = .ok (.aload_n 0, 1) := by decide +kernel
theorem d_cr_nextPiece_53 : decode b_cr_nextPiece 53 = .ok (.getfield 30, 3) := by decide +kernel
theorem d_cr_nextPiece_56 : decode b_cr_nextPiece 56 = .ok (.iload_n 2, 1) := by decide +kernel
theorem d_cr_nextPiece_57 : decode b_cr_nextPiece 57 = .ok (.iaload, 1) := by decide +kernel
theorem d_cr_nextPiece_58 : decode b_cr_nextPiece 58 = .ok (.aload_n 0, 1) := by decide +kernel
theorem d_cr_nextPiece_59 : decode b_cr_nextPiece 59 = .ok (.iload_n 1, 1) := by decide +kernel
theorem d_cr_nextPiece_60 : decode b_cr_nextPiece 60 = .ok (.iload_n 3, 1) := by decide +kernel
theorem d_cr_nextPiece_61 : decode b_cr_nextPiece 61 = .ok (.invokevirtual 200, 3) := by decide +kernel
theorem d_cr_nextPiece_64 : decode b_cr_nextPiece 64 = .ok (.aload_n 0, 1) := by decide +kernel
theorem d_cr_nextPiece_65 : decode b_cr_nextPiece 65 = .ok (.getfield 30, 3) := by decide +kernel
theorem d_cr_nextPiece_68 : decode b_cr_nextPiece 68 = .ok (.iload 4, 2) := by decide +kernel
theorem d_cr_nextPiece_70 : decode b_cr_nextPiece 70 = .ok (.iaload, 1) := by decide +kernel
theorem d_cr_nextPiece_71 : decode b_cr_nextPiece 71 = .ok (.iadd, 1) := by decide +kernel
theorem d_cr_nextPiece_72 : decode b_cr_nextPiece 72 = .ok (.if_icmp .ne 5, 3) := by decide +kernel
theorem d_cr_nextPiece_75 : decode b_cr_nextPiece 75 = .ok (.iload_n 3, 1) := by decide +kernel
theorem d_cr_nextPiece_76 : decode b_cr_nextPiece 76 = .ok (.ireturn, 1) := by decide +kernel
theorem d_cr_nextPiece_77 : decode b_cr_nextPiece 77 = .ok (.iinc 3 1, 3) := by decide +kernel
theorem d_cr_nextPiece_80 : decode b_cr_nextPiece 80 = .ok (.goto (-65), 3) := by decide +kernel
theorem d_cr_nextPiece_83 : decode b_cr_nextPiece 83 = .ok (.iconst (-1), 1) := by decide +kernel
theorem d_cr_nextPiece_84 : decode b_cr_nextPiece 84 = .ok (.ireturn, 1) := by decide +kernel
theorem d_cr_ask_0 : decode b_cr_ask 0 = .ok (.aload_n 0, 1) := by decide +kernel
theorem d_cr_ask_1 : decode b_cr_ask 1 = .ok (.iload_n 1, 1) := by decide +kernel
theorem d_cr_ask_2 : decode b_cr_ask 2 = .ok (.iload_n 2, 1) := by decide +kernel
theorem d_cr_ask_3 : decode b_cr_ask 3 = .ok (.iload_n 3, 1) := by decide +kernel
theorem d_cr_ask_4 : decode b_cr_ask 4 = .ok (.invokevirtual 92, 3) := by decide +kernel
theorem d_cr_ask_7 : decode b_cr_ask 7 = .ok (.ifCond .eq 17, 3) := by decide +kernel
theorem d_cr_ask_10 : decode b_cr_ask 10 = .ok (.iload 4, 2) := by decide +kernel
theorem d_cr_ask_12 : decode b_cr_ask 12 = .ok (.aload_n 0, 1) := by decide +kernel
theorem d_cr_ask_13 : decode b_cr_ask 13 = .ok (.getfield 41, 3) := by decide +kernel
theorem d_cr_ask_16 : decode b_cr_ask 16 = .ok (.ldc 107, 2) := by decide +kernel
theorem d_cr_ask_18 : decode b_cr_ask 18 = .ok (.invokestatic 56, 3) := by decide +kernel
theorem d_cr_ask_21 : decode b_cr_ask 21 = .ok (.ifCond .ne 13, 3) := by decide +kernel
theorem d_cr_ask_24 : decode b_cr_ask 24 = .ok (.new 49, 3) := by decide +kernel
theorem d_cr_ask_27 : decode b_cr_ask 27 = .ok (.dup, 1) := by decide +kernel
theorem d_cr_ask_28 : decode b_cr_ask 28 = .ok (.ldc 108, 2) := by decide +kernel
theorem d_cr_ask_30 : decode b_cr_ask 30 = .ok (.invokespecial 53, 3) := by decide +kernel
theorem d_cr_ask_33 : decode b_cr_ask 33 = .ok (.athrow, 1) := by decide +kernel
theorem d_cr_ask_34 : decode b_cr_ask 34 = .ok (.aload_n 0, 1) := by decide +kernel
theorem d_cr_ask_35 : decode b_cr_ask 35 = .ok (.getfield 26, 3) := by decide +kernel
theorem d_cr_ask_38 : decode b_cr_ask 38 = .ok (.getfield 110, 3) := by decide +kernel
theorem d_cr_ask_41 : decode b_cr_ask 41 = .ok (.bipush 30, 2) := by decide +kernel
theorem d_cr_ask_43 : decode b_cr_ask 43 = .ok (.if_icmp .lt 13, 3) := by decide +kernel
theorem d_cr_ask_46 : decode b_cr_ask 46 = .ok (.new 65, 3) := by decide +kernel
theorem d_cr_ask_49 : decode b_cr_ask 49 = .ok (.dup, 1) := by decide +kernel
theorem d_cr_ask_50 : decode b_cr_ask 50 = .ok (.ldc 113, 2) := by decide +kernel
theorem d_cr_ask_52 : decode b_cr_ask 52 = .ok (.invokespecial 69, 3) := by decide +kernel
theorem d_cr_ask_55 : decode b_cr_ask 55 = .ok (.athrow, 1) := by decide +kernel
theorem d_cr_ask_56 : decode b_cr_ask 56 = .ok (.aload_n 0, 1) := by decide +kernel
theorem d_cr_ask_57 : decode b_cr_ask 57 = .ok (.iload_n 1, 1) := by decide +kernel
theorem d_cr_ask_58 : decode b_cr_ask 58 = .ok (.iload_n 2, 1) := by decide +kernel
theorem d_cr_ask_59 : decode b_cr_ask 59 = .ok (.iload_n 3, 1) := by decide +kernel
theorem d_cr_ask_60 : decode b_cr_ask 60 = .ok (.invokevirtual 97, 3) := by decide +kernel
theorem d_cr_ask_63 : decode b_cr_ask 63 = .ok (.ifCond .ne 5, 3) := by decide +kernel
theorem d_cr_ask_66 : decode b_cr_ask 66 = .ok (.iconst 0, 1) := by decide +kernel
theorem d_cr_ask_67 : decode b_cr_ask 67 = .ok (.ireturn, 1) := by decide +kernel
theorem d_cr_ask_68 : decode b_cr_ask 68 = .ok (.aload_n 0, 1) := by decide +kernel
theorem d_cr_ask_69 : decode b_cr_ask 69 = .ok (.getfield 26, 3) := by decide +kernel
theorem d_cr_ask_72 : decode b_cr_ask 72 = .ok (.getfield 115, 3) := by decide +kernel
theorem d_cr_ask_75 : decode b_cr_ask 75 = .ok (.iconst 0, 1) := by decide +kernel
theorem d_cr_ask_76 : decode b_cr_ask 76 = .ok (.iload 4, 2) := by decide +kernel
theorem d_cr_ask_78 : decode b_cr_ask 78 = .ok (.iastore, 1) := by decide +kernel
theorem d_cr_ask_79 : decode b_cr_ask 79 = .ok (.aload_n 0, 1) := by decide +kernel
theorem d_cr_ask_80 : decode b_cr_ask 80 = .ok (.iconst 0, 1) := by decide +kernel
theorem d_cr_ask_81 : decode b_cr_ask 81 = .ok (.invokevirtual 118, 3) := by decide +kernel
theorem d_cr_ask_84 : decode b_cr_ask 84 = .ok (.istore 5, 2) := by decide +kernel
theorem d_cr_ask_86 : decode b_cr_ask 86 = .ok (.iload 5, 2) := by decide +kernel
theorem d_cr_ask_88 : decode b_cr_ask 88 = .ok (.ifCond .ne 13, 3) := by decide +kernel
theorem d_cr_ask_91 : decode b_cr_ask 91 = .ok (.aload_n 0, 1) := by decide +kernel
theorem d_cr_ask_92 : decode b_cr_ask 92 = .ok (.getfield 26, 3) := by decide +kernel
theorem d_cr_ask_95 : decode b_cr_ask 95 = .ok (.invokevirtual 122, 3) := by decide +kernel
theorem d_cr_ask_98 : decode b_cr_ask 98 = .ok (.goto 7, 3) := by decide +kernel
theorem d_cr_ask_101 : decode b_cr_ask 101 = .ok (.iconst (-1), 1) := by decide +kernel
theorem d_cr_ask_102 : decode b_cr_ask 102 = .ok (.iload 5, 2) := by decide +kernel
theorem d_cr_ask_104 : decode b_cr_ask 104 = .ok (.isub, 1) := by decide +kernel
theorem d_cr_ask_105 : decode b_cr_ask 105 = .ok (.ireturn, 1) := by decide +kernel
theorem d_cr_firstBar_0 : decode b_cr_firstBar 0 = .ok (.iconst 0, 1) := by decide +kernel
theorem d_cr_firstBar_1 : decode b_cr_firstBar 1 = .ok (.istore_n 2, 1) := by decide +kernel
theorem d_cr_firstBar_2 : decode b_cr_firstBar 2 = .ok (.iload_n 2, 1) := by decide +kernel
theorem d_cr_firstBar_3 : decode b_cr_firstBar 3 = .ok (.aload_n 0, 1) := by decide +kernel
theorem d_cr_firstBar_4 : decode b_cr_firstBar 4 = .ok (.getfield 26, 3) := by decide +kernel
theorem d_cr_firstBar_7 : decode b_cr_firstBar 7 = .ok (.getfield 104, 3) := by decide +kernel
theorem d_cr_firstBar_10 : decode b_cr_firstBar 10 = .ok (.iload_n 1, 1) := by decide +kernel
theorem d_cr_firstBar_11 : decode b_cr_firstBar 11 = .ok (.iaload, 1) := by decide +kernel
theorem d_cr_firstBar_12 : decode b_cr_firstBar 12 = .ok (.if_icmp .ge 33, 3) := by decide +kernel
theorem d_cr_firstBar_15 : decode b_cr_firstBar 15 = .ok (.aload_n 0, 1) := by decide +kernel
theorem d_cr_firstBar_16 : decode b_cr_firstBar 16 = .ok (.iload_n 1, 1) := by decide +kernel
theorem d_cr_firstBar_17 : decode b_cr_firstBar 17 = .ok (.iload_n 2, 1) := by decide +kernel
theorem d_cr_firstBar_18 : decode b_cr_firstBar 18 = .ok (.invokevirtual 230, 3) := by decide +kernel
theorem d_cr_firstBar_21 : decode b_cr_firstBar 21 = .ok (.istore_n 3, 1) := by decide +kernel
theorem d_cr_firstBar_22 : decode b_cr_firstBar 22 = .ok (.iload_n 3, 1) := by decide +kernel
theorem d_cr_firstBar_23 : decode b_cr_firstBar 23 = .ok (.ifCond .ne 10, 3) := by decide +kernel
theorem d_cr_firstBar_26 : decode b_cr_firstBar 26 = .ok (.aload_n 0, 1) := by decide +kernel
theorem d_cr_firstBar_27 : decode b_cr_firstBar 27 = .ok (.iload_n 1, 1) := by decide +kernel
theorem d_cr_firstBar_28 : decode b_cr_firstBar 28 = .ok (.iload_n 2, 1) := by decide +kernel
theorem d_cr_firstBar_29 : decode b_cr_firstBar 29 = .ok (.invokevirtual 233, 3) := by decide +kernel
theorem d_cr_firstBar_32 : decode b_cr_firstBar 32 = .ok (.istore_n 3, 1) := by decide +kernel
theorem d_cr_firstBar_33 : decode b_cr_firstBar 33 = .ok (.iload_n 3, 1) := by decide +kernel
theorem d_cr_firstBar_34 : decode b_cr_firstBar 34 = .ok (.ifCond .eq 5, 3) := by decide +kernel
theorem d_cr_firstBar_37 : decode b_cr_firstBar 37 = .ok (.iload_n 3, 1) := by decide +kernel
theorem d_cr_firstBar_38 : decode b_cr_firstBar 38 = .ok (.ireturn, 1) := by decide +kernel
theorem d_cr_firstBar_39 : decode b_cr_firstBar 39 = .ok (.iinc 2 1, 3) := by decide +kernel
theorem d_cr_firstBar_42 : decode b_cr_firstBar 42 = .ok (.goto (-40), 3) := by decide +kernel
theorem d_cr_firstBar_45 : decode b_cr_firstBar 45 = .ok (.iconst 0, 1) := by decide +kernel
theorem d_cr_firstBar_46 : decode b_cr_firstBar 46 = .ok (.ireturn, 1) := by decide +kernel
theorem d_cr_barByPiece_0 : decode b_cr_barByPiece 0 = .ok (.aload_n 0, 1) := by decide +kernel
theorem d_cr_barByPiece_1 : decode b_cr_barByPiece 1 = .ok (.iload_n 1, 1) := by decide +kernel
theorem d_cr_barByPiece_2 : decode b_cr_barByPiece 2 = .ok (.iload_n 2, 1) := by decide +kernel
theorem d_cr_barByPiece_3 : decode b_cr_barByPiece 3 = .ok (.invokevirtual 236, 3) := by decide +kernel
theorem d_cr_barByPiece_6 : decode b_cr_barByPiece 6 = .ok (.ifCond .eq 5, 3) := by decide +kernel
theorem d_cr_barByPiece_9 : decode b_cr_barByPiece 9 = .ok (.iconst 1, 1) := by decide +kernel
theorem d_cr_barByPiece_10 : decode b_cr_barByPiece 10 = .ok (.ireturn, 1) := by decide +kernel
theorem d_cr_barByPiece_11 : decode b_cr_barByPiece 11 = .ok (.aload_n 0, 1) := by decide +kernel
theorem d_cr_barByPiece_12 : decode b_cr_barByPiece 12 = .ok (.iload_n 1, 1) := by decide +kernel
theorem d_cr_barByPiece_13 : decode b_cr_barByPiece 13 = .ok (.iload_n 2, 1) := by decide +kernel
theorem d_cr_barByPiece_14 : decode b_cr_barByPiece 14 = .ok (.invokevirtual 239, 3) := by decide +kernel
theorem d_cr_barByPiece_17 : decode b_cr_barByPiece 17 = .ok (.ifCond .eq 5, 3) := by decide +kernel
theorem d_cr_barByPiece_20 : decode b_cr_barByPiece 20 = .ok (.iconst 2, 1) := by decide +kernel
theorem d_cr_barByPiece_21 : decode b_cr_barByPiece 21 = .ok (.ireturn, 1) := by decide +kernel
theorem d_cr_barByPiece_22 : decode b_cr_barByPiece 22 = .ok (.aload_n 0, 1) := by decide +kernel
theorem d_cr_barByPiece_23 : decode b_cr_barByPiece 23 = .ok (.iload_n 1, 1) := by decide +kernel
theorem d_cr_barByPiece_24 : decode b_cr_barByPiece 24 = .ok (.iload_n 2, 1) := by decide +kernel
theorem d_cr_barByPiece_25 : decode b_cr_barByPiece 25 = .ok (.invokevirtual 242, 3) := by decide +kernel
theorem d_cr_barByPiece_28 : decode b_cr_barByPiece 28 = .ok (.ifCond .eq 5, 3) := by decide +kernel
theorem d_cr_barByPiece_31 : decode b_cr_barByPiece 31 = .ok (.iconst 3, 1) := by decide +kernel
theorem d_cr_barByPiece_32 : decode b_cr_barByPiece 32 = .ok (.ireturn, 1) := by decide +kernel
theorem d_cr_barByPiece_33 : decode b_cr_barByPiece 33 = .ok (.aload_n 0, 1) := by decide +kernel
theorem d_cr_barByPiece_34 : decode b_cr_barByPiece 34 = .ok (.getfield 26, 3) := by decide +kernel
theorem d_cr_barByPiece_37 : decode b_cr_barByPiece 37 = .ok (.iload_n 1, 1) := by decide +kernel
theorem d_cr_barByPiece_38 : decode b_cr_barByPiece 38 = .ok (.iload_n 2, 1) := by decide +kernel
theorem d_cr_barByPiece_39 : decode b_cr_barByPiece 39 = .ok (.invokevirtual 169, 3) := by decide +kernel
theorem d_cr_barByPiece_42 : decode b_cr_barByPiece 42 = .ok (.istore_n 3, 1) := by decide +kernel
theorem d_cr_barByPiece_43 : decode b_cr_barByPiece 43 = .ok (.aload_n 0, 1) := by decide +kernel
theorem d_cr_barByPiece_44 : decode b_cr_barByPiece 44 = .ok (.getfield 26, 3) := by decide +kernel
theorem d_cr_barByPiece_47 : decode b_cr_barByPiece 47 = .ok (.iload_n 1, 1) := by decide +kernel
theorem d_cr_barByPiece_48 : decode b_cr_barByPiece 48 = .ok (.iload_n 2, 1) := by decide +kernel
theorem d_cr_barByPiece_49 : decode b_cr_barByPiece 49 = .ok (.invokevirtual 172, 3) := by decide +kernel
theorem d_cr_barByPiece_52 : decode b_cr_barByPiece 52 = .ok (.istore 4, 2) := by decide +kernel
theorem d_cr_barByPiece_54 : decode b_cr_barByPiece 54 = .ok (.aload_n 0, 1) := by decide +kernel
theorem d_cr_barByPiece_55 : decode b_cr_barByPiece 55 = .ok (.getfield 12, 3) := by decide +kernel
theorem d_cr_barByPiece_58 : decode b_cr_barByPiece 58 = .ok (.aload_n 0, 1) := by decide +kernel
theorem d_cr_barByPiece_59 : decode b_cr_barByPiece 59 = .ok (.getfield 26, 3) := by decide +kernel
theorem d_cr_barByPiece_62 : decode b_cr_barByPiece 62 = .ok (.iload_n 1, 1) := by decide +kernel
theorem d_cr_barByPiece_63 : decode b_cr_barByPiece 63 = .ok (.iload_n 2, 1) := by decide +kernel
theorem d_cr_barByPiece_64 : decode b_cr_barByPiece 64 = .ok (.invokevirtual 100, 3) := by decide +kernel
theorem d_cr_barByPiece_67 : decode b_cr_barByPiece 67 = .ok (.iload_n 3, 1) := by decide +kernel
theorem d_cr_barByPiece_68 : decode b_cr_barByPiece 68 = .ok (.iload 4, 2) := by decide +kernel
theorem d_cr_barByPiece_70 : decode b_cr_barByPiece 70 = .ok (.invokevirtual 245, 3) := by decide +kernel
theorem d_cr_barByPiece_73 : decode b_cr_barByPiece 73 = .ok (.istore 5, 2) := by decide +kernel
theorem d_cr_barByPiece_75 : decode b_cr_barByPiece 75 = .ok (.iload 5, 2) := by decide +kernel
theorem d_cr_barByPiece_77 : decode b_cr_barByPiece 77 = .ok (.ifCond .le 7, 3) := by decide +kernel
theorem d_cr_barByPiece_80 : decode b_cr_barByPiece 80 = .ok (.iconst 4, 1) := by decide +kernel
theorem d_cr_barByPiece_81 : decode b_cr_barByPiece 81 = .ok (.goto 4, 3) := by decide +kernel
theorem d_cr_barByPiece_84 : decode b_cr_barByPiece 84 = .ok (.iconst 0, 1) := by decide +kernel
theorem d_cr_barByPiece_85 : decode b_cr_barByPiece 85 = .ok (.ireturn, 1) := by decide +kernel
theorem d_cr_isAgainstOneWay_0 : decode b_cr_isAgainstOneWay 0 = .ok (.aload_n 0, 1) := by decide +kernel
theorem d_cr_isAgainstOneWay_1 : decode b_cr_isAgainstOneWay 1 = .ok (.getfield 12, 3) := by decide +kernel
theorem d_cr_isAgainstOneWay_4 : decode b_cr_isAgainstOneWay 4 = .ok (.aload_n 0, 1) := by decide +kernel
theorem d_cr_isAgainstOneWay_5 : decode b_cr_isAgainstOneWay 5 = .ok (.getfield 26, 3) := by decide +kernel
theorem d_cr_isAgainstOneWay_8 : decode b_cr_isAgainstOneWay 8 = .ok (.iload_n 1, 1) := by decide +kernel
theorem d_cr_isAgainstOneWay_9 : decode b_cr_isAgainstOneWay 9 = .ok (.iload_n 2, 1) := by decide +kernel
theorem d_cr_isAgainstOneWay_10 : decode b_cr_isAgainstOneWay 10 = .ok (.invokevirtual 100, 3) := by decide +kernel
theorem d_cr_isAgainstOneWay_13 : decode b_cr_isAgainstOneWay 13 = .ok (.iconst 0, 1) := by decide +kernel
theorem d_cr_isAgainstOneWay_14 : decode b_cr_isAgainstOneWay 14 = .ok (.invokevirtual 248, 3) := by decide +kernel
theorem d_cr_isAgainstOneWay_17 : decode b_cr_isAgainstOneWay 17 = .ok (.istore_n 3, 1) := by decide +kernel
theorem d_cr_isAgainstOneWay_18 : decode b_cr_isAgainstOneWay 18 = .ok (.iload_n 3, 1) := by decide +kernel
theorem d_cr_isAgainstOneWay_19 : decode b_cr_isAgainstOneWay 19 = .ok (.aload_n 0, 1) := by decide +kernel
theorem d_cr_isAgainstOneWay_20 : decode b_cr_isAgainstOneWay 20 = .ok (.getfield 26, 3) := by decide +kernel
theorem d_cr_isAgainstOneWay_23 : decode b_cr_isAgainstOneWay 23 = .ok (.iload_n 1, 1) := by decide +kernel
theorem d_cr_isAgainstOneWay_24 : decode b_cr_isAgainstOneWay 24 = .ok (.iload_n 2, 1) := by decide +kernel
theorem d_cr_isAgainstOneWay_25 : decode b_cr_isAgainstOneWay 25 = .ok (.invokevirtual 175, 3) := by decide +kernel
theorem d_cr_isAgainstOneWay_28 : decode b_cr_isAgainstOneWay 28 = .ok (.ifCond .eq 7, 3) := by decide +kernel
theorem d_cr_isAgainstOneWay_31 : decode b_cr_isAgainstOneWay 31 = .ok (.iconst 2, 1) := by decide +kernel
theorem d_cr_isAgainstOneWay_32 : decode b_cr_isAgainstOneWay 32 = .ok (.goto 4, 3) := by decide +kernel
theorem d_cr_isAgainstOneWay_35 : decode b_cr_isAgainstOneWay 35 = .ok (.iconst 1, 1) := by decide +kernel
theorem d_cr_isAgainstOneWay_36 : decode b_cr_isAgainstOneWay 36 = .ok (.if_icmp .ne 7, 3) := by decide +kernel
theorem d_cr_isAgainstOneWay_39 : decode b_cr_isAgainstOneWay 39 = .ok (.iconst 1, 1) := by decide +kernel
theorem d_cr_isAgainstOneWay_40 : decode b_cr_isAgainstOneWay 40 = .ok (.goto 4, 3) := by decide +kernel
theorem d_cr_isAgainstOneWay_43 : decode b_cr_isAgainstOneWay 43 = .ok (.iconst 0, 1) := by decide +kernel
theorem d_cr_isAgainstOneWay_44 : decode b_cr_isAgainstOneWay 44 = .ok (.ireturn, 1) := by decide +kernel
theorem d_cr_isBarredAtNight_0 : decode b_cr_isBarredAtNight 0 = .ok (.aload_n 0, 1) := by decide +kernel
theorem d_cr_isBarredAtNight_1 : decode b_cr_isBarredAtNight 1 = .ok (.getfield 12, 3) := by decide +kernel
theorem d_cr_isBarredAtNight_4 : decode b_cr_isBarredAtNight 4 = .ok (.aload_n 0, 1) := by decide +kernel
theorem d_cr_isBarredAtNight_5 : decode b_cr_isBarredAtNight 5 = .ok (.getfield 26, 3) := by decide +kernel
theorem d_cr_isBarredAtNight_8 : decode b_cr_isBarredAtNight 8 = .ok (.iload_n 1, 1) := by decide +kernel
theorem d_cr_isBarredAtNight_9 : decode b_cr_isBarredAtNight 9 = .ok (.iload_n 2, 1) := by decide +kernel
theorem d_cr_isBarredAtNight_10 : decode b_cr_isBarredAtNight 10 = .ok (.invokevirtual 100, 3) := by decide +kernel
theorem d_cr_isBarredAtNight_13 : decode b_cr_isBarredAtNight 13 = .ok (.iconst 1, 1) := by decide +kernel
theorem d_cr_isBarredAtNight_14 : decode b_cr_isBarredAtNight 14 = .ok (.invokevirtual 248, 3) := by decide +kernel
theorem d_cr_isBarredAtNight_17 : decode b_cr_isBarredAtNight 17 = .ok (.istore_n 3, 1) := by decide +kernel
theorem d_cr_isBarredAtNight_18 : decode b_cr_isBarredAtNight 18 = .ok (.iload_n 3, 1) := by decide +kernel
theorem d_cr_isBarredAtNight_19 : decode b_cr_isBarredAtNight 19 = .ok (.ifCond .eq 24, 3) := by decide +kernel
theorem d_cr_isBarredAtNight_22 : decode b_cr_isBarredAtNight 22 = .ok (.aload_n 0, 1) := by decide +kernel
theorem d_cr_isBarredAtNight_23 : decode b_cr_isBarredAtNight 23 = .ok (.getfield 19, 3) := by decide +kernel
theorem d_cr_isBarredAtNight_26 : decode b_cr_isBarredAtNight 26 = .ok (.getfield 251, 3) := by decide +kernel
theorem d_cr_isBarredAtNight_29 : decode b_cr_isBarredAtNight 29 = .ok (.aload_n 0, 1) := by decide +kernel
theorem d_cr_isBarredAtNight_30 : decode b_cr_isBarredAtNight 30 = .ok (.getfield 26, 3) := by decide +kernel
theorem d_cr_isBarredAtNight_33 : decode b_cr_isBarredAtNight 33 = .ok (.getfield 254, 3) := by decide +kernel
theorem d_cr_isBarredAtNight_36 : decode b_cr_isBarredAtNight 36 = .ok (.iload_n 1, 1) := by decide +kernel
theorem d_cr_isBarredAtNight_37 : decode b_cr_isBarredAtNight 37 = .ok (.iaload, 1) := by decide +kernel
theorem d_cr_isBarredAtNight_38 : decode b_cr_isBarredAtNight 38 = .ok (.iaload, 1) := by decide +kernel
theorem d_cr_isBarredAtNight_39 : decode b_cr_isBarredAtNight 39 = .ok (.iload_n 3, 1) := by decide +kernel
theorem d_cr_isBarredAtNight_40 : decode b_cr_isBarredAtNight 40 = .ok (.if_icmp .ge 5, 3) := by decide +kernel
theorem d_cr_isBarredAtNight_43 : decode b_cr_isBarredAtNight 43 = .ok (.iconst 0, 1) := by decide +kernel
theorem d_cr_isBarredAtNight_44 : decode b_cr_isBarredAtNight 44 = .ok (.ireturn, 1) := by decide +kernel
theorem d_cr_isBarredAtNight_45 : decode b_cr_isBarredAtNight 45 = .ok (.aload_n 0, 1) := by decide +kernel
theorem d_cr_isBarredAtNight_46 : decode b_cr_isBarredAtNight 46 = .ok (.getfield 26, 3) := by decide +kernel
theorem d_cr_isBarredAtNight_49 : decode b_cr_isBarredAtNight 49 = .ok (.iload_n 1, 1) := by decide +kernel
theorem d_cr_isBarredAtNight_50 : decode b_cr_isBarredAtNight 50 = .ok (.iload_n 2, 1) := by decide +kernel
theorem d_cr_isBarredAtNight_51 : decode b_cr_isBarredAtNight 51 = .ok (.invokevirtual 169, 3) := by decide +kernel
theorem d_cr_isBarredAtNight_54 : decode b_cr_isBarredAtNight 54 = .ok (.istore 4, 2) := by decide +kernel
theorem d_cr_isBarredAtNight_56 : decode b_cr_isBarredAtNight 56 = .ok (.iload 4, 2) := by decide +kernel
theorem d_cr_isBarredAtNight_58 : decode b_cr_isBarredAtNight 58 = .ok (.sipush 1440, 3) := by decide +kernel
theorem d_cr_isBarredAtNight_61 : decode b_cr_isBarredAtNight 61 = .ok (.irem, 1) := by decide +kernel
theorem d_cr_isBarredAtNight_62 : decode b_cr_isBarredAtNight 62 = .ok (.istore 5, 2) := by decide +kernel
theorem d_cr_isBarredAtNight_64 : decode b_cr_isBarredAtNight 64 = .ok (.iload 5, 2) := by decide +kernel
theorem d_cr_isBarredAtNight_66 : decode b_cr_isBarredAtNight 66 = .ok (.aload_n 0, 1) := by decide +kernel
theorem d_cr_isBarredAtNight_67 : decode b_cr_isBarredAtNight 67 = .ok (.getfield 26, 3) := by decide +kernel
theorem d_cr_isBarredAtNight_70 : decode b_cr_isBarredAtNight 70 = .ok (.iload_n 1, 1) := by decide +kernel
theorem d_cr_isBarredAtNight_71 : decode b_cr_isBarredAtNight 71 = .ok (.iload_n 2, 1) := by decide +kernel
theorem d_cr_isBarredAtNight_72 : decode b_cr_isBarredAtNight 72 = .ok (.invokevirtual 172, 3) := by decide +kernel
theorem d_cr_isBarredAtNight_75 : decode b_cr_isBarredAtNight 75 = .ok (.iadd, 1) := by decide +kernel
theorem d_cr_isBarredAtNight_76 : decode b_cr_isBarredAtNight 76 = .ok (.iload 4, 2) := by decide +kernel
theorem d_cr_isBarredAtNight_78 : decode b_cr_isBarredAtNight 78 = .ok (.isub, 1) := by decide +kernel
theorem d_cr_isBarredAtNight_79 : decode b_cr_isBarredAtNight 79 = .ok (.iconst 1, 1) := by decide +kernel
theorem d_cr_isBarredAtNight_80 : decode b_cr_isBarredAtNight 80 = .ok (.isub, 1) := by decide +kernel
theorem d_cr_isBarredAtNight_81 : decode b_cr_isBarredAtNight 81 = .ok (.istore 6, 2) := by decide +kernel
theorem d_cr_isBarredAtNight_83 : decode b_cr_isBarredAtNight 83 = .ok (.iload 5, 2) := by decide +kernel
theorem d_cr_isBarredAtNight_85 : decode b_cr_isBarredAtNight 85 = .ok (.sipush 300, 3) := by decide +kernel
theorem d_cr_isBarredAtNight_88 : decode b_cr_isBarredAtNight 88 = .ok (.if_icmp .lt 11, 3) := by decide +kernel
theorem d_cr_isBarredAtNight_91 : decode b_cr_isBarredAtNight 91 = .ok (.iload 6, 2) := by decide +kernel
theorem d_cr_isBarredAtNight_93 : decode b_cr_isBarredAtNight 93 = .ok (.sipush 1200, 3) := by decide +kernel
theorem d_cr_isBarredAtNight_96 : decode b_cr_isBarredAtNight 96 = .ok (.if_icmp .lt 7, 3) := by decide +kernel
theorem d_cr_isBarredAtNight_99 : decode b_cr_isBarredAtNight 99 = .ok (.iconst 1, 1) := by decide +kernel
theorem d_cr_isBarredAtNight_100 : decode b_cr_isBarredAtNight 100 = .ok (.goto 4, 3) := by decide +kernel
theorem d_cr_isBarredAtNight_103 : decode b_cr_isBarredAtNight 103 = .ok (.iconst 0, 1) := by decide +kernel
theorem d_cr_isBarredAtNight_104 : decode b_cr_isBarredAtNight 104 = .ok (.ireturn, 1) := by decide +kernel
theorem d_cr_isBarredInWind_0 : decode b_cr_isBarredInWind 0 = .ok (.aload_n 0, 1) := by decide +kernel
theorem d_cr_isBarredInWind_1 : decode b_cr_isBarredInWind 1 = .ok (.getfield 12, 3) := by decide +kernel
theorem d_cr_isBarredInWind_4 : decode b_cr_isBarredInWind 4 = .ok (.aload_n 0, 1) := by decide +kernel
theorem d_cr_isBarredInWind_5 : decode b_cr_isBarredInWind 5 = .ok (.getfield 26, 3) := by decide +kernel
theorem d_cr_isBarredInWind_8 : decode b_cr_isBarredInWind 8 = .ok (.iload_n 1, 1) := by decide +kernel
theorem d_cr_isBarredInWind_9 : decode b_cr_isBarredInWind 9 = .ok (.iload_n 2, 1) := by decide +kernel
theorem d_cr_isBarredInWind_10 : decode b_cr_isBarredInWind 10 = .ok (.invokevirtual 100, 3) := by decide +kernel
theorem d_cr_isBarredInWind_13 : decode b_cr_isBarredInWind 13 = .ok (.iconst 2, 1) := by decide +kernel
theorem d_cr_isBarredInWind_14 : decode b_cr_isBarredInWind 14 = .ok (.invokevirtual 248, 3) := by decide +kernel
theorem d_cr_isBarredInWind_17 : decode b_cr_isBarredInWind 17 = .ok (.istore_n 3, 1) := by decide +kernel
theorem d_cr_isBarredInWind_18 : decode b_cr_isBarredInWind 18 = .ok (.aload_n 0, 1) := by decide +kernel
theorem d_cr_isBarredInWind_19 : decode b_cr_isBarredInWind 19 = .ok (.getfield 37, 3) := by decide +kernel
theorem d_cr_isBarredInWind_22 : decode b_cr_isBarredInWind 22 = .ok (.ifCond .eq 28, 3) := by decide +kernel
theorem d_cr_isBarredInWind_25 : decode b_cr_isBarredInWind 25 = .ok (.aload_n 0, 1) := by decide +kernel
theorem d_cr_isBarredInWind_26 : decode b_cr_isBarredInWind 26 = .ok (.getfield 19, 3) := by decide +kernel
theorem d_cr_isBarredInWind_29 : decode b_cr_isBarredInWind 29 = .ok (.getfield 223, 3) := by decide +kernel
theorem d_cr_isBarredInWind_32 : decode b_cr_isBarredInWind 32 = .ok (.aload_n 0, 1) := by decide +kernel
theorem d_cr_isBarredInWind_33 : decode b_cr_isBarredInWind 33 = .ok (.getfield 26, 3) := by decide +kernel
theorem d_cr_isBarredInWind_36 : decode b_cr_isBarredInWind 36 = .ok (.getfield 254, 3) := by decide +kernel
theorem d_cr_isBarredInWind_39 : decode b_cr_isBarredInWind 39 = .ok (.iload_n 1, 1) := by decide +kernel
theorem d_cr_isBarredInWind_40 : decode b_cr_isBarredInWind 40 = .ok (.iaload, 1) := by decide +kernel
theorem d_cr_isBarredInWind_41 : decode b_cr_isBarredInWind 41 = .ok (.iaload, 1) := by decide +kernel
theorem d_cr_isBarredInWind_42 : decode b_cr_isBarredInWind 42 = .ok (.iload_n 3, 1) := by decide +kernel
theorem d_cr_isBarredInWind_43 : decode b_cr_isBarredInWind 43 = .ok (.if_icmp .le 7, 3) := by decide +kernel
theorem d_cr_isBarredInWind_46 : decode b_cr_isBarredInWind 46 = .ok (.iconst 1, 1) := by decide +kernel
theorem d_cr_isBarredInWind_47 : decode b_cr_isBarredInWind 47 = .ok (.goto 4, 3) := by decide +kernel
theorem d_cr_isBarredInWind_50 : decode b_cr_isBarredInWind 50 = .ok (.iconst 0, 1) := by decide +kernel
theorem d_cr_isBarredInWind_51 : decode b_cr_isBarredInWind 51 = .ok (.ireturn, 1) := by decide +kernel
theorem d_cr_barBySlots_0 : decode b_cr_barBySlots 0 = .ok (.iconst 0, 1) := by decide +kernel
theorem d_cr_barBySlots_1 : decode b_cr_barBySlots 1 = .ok (.istore_n 3, 1) := by decide +kernel
theorem d_cr_barBySlots_2 : decode b_cr_barBySlots 2 = .ok (.iconst 1, 1) := by decide +kernel
theorem d_cr_barBySlots_3 : decode b_cr_barBySlots 3 = .ok (.istore 4, 2) := by decide +kernel
theorem d_cr_barBySlots_5 : decode b_cr_barBySlots 5 = .ok (.iload 4, 2) := by decide +kernel
theorem d_cr_barBySlots_7 : decode b_cr_barBySlots 7 = .ok (.aload_n 0, 1) := by decide +kernel
theorem d_cr_barBySlots_8 : decode b_cr_barBySlots 8 = .ok (.getfield 26, 3) := by decide +kernel
theorem d_cr_barBySlots_11 : decode b_cr_barBySlots 11 = .ok (.getfield 110, 3) := by decide +kernel
theorem d_cr_barBySlots_14 : decode b_cr_barBySlots 14 = .ok (.if_icmp .gt 56, 3) := by decide +kernel
theorem d_cr_barBySlots_17 : decode b_cr_barBySlots 17 = .ok (.iload 4, 2) := by decide +kernel
theorem d_cr_barBySlots_19 : decode b_cr_barBySlots 19 = .ok (.iload_n 1, 1) := by decide +kernel
theorem d_cr_barBySlots_20 : decode b_cr_barBySlots 20 = .ok (.if_icmp .eq 44, 3) := by decide +kernel
theorem d_cr_barBySlots_23 : decode b_cr_barBySlots 23 = .ok (.aload_n 0, 1) := by decide +kernel
theorem d_cr_barBySlots_24 : decode b_cr_barBySlots 24 = .ok (.getfield 26, 3) := by decide +kernel
theorem d_cr_barBySlots_27 : decode b_cr_barBySlots 27 = .ok (.getfield 142, 3) := by decide +kernel
theorem d_cr_barBySlots_30 : decode b_cr_barBySlots 30 = .ok (.iload 4, 2) := by decide +kernel
theorem d_cr_barBySlots_32 : decode b_cr_barBySlots 32 = .ok (.baload, 1) := by decide +kernel
theorem d_cr_barBySlots_33 : decode b_cr_barBySlots 33 = .ok (.ifCond .eq 31, 3) := by decide +kernel
theorem d_cr_barBySlots_36 : decode b_cr_barBySlots 36 = .ok (.aload_n 0, 1) := by decide +kernel
theorem d_cr_barBySlots_37 : decode b_cr_barBySlots 37 = .ok (.iload 4, 2) := by decide +kernel
theorem d_cr_barBySlots_39 : decode b_cr_barBySlots 39 = .ok (.iload_n 1, 1) := by decide +kernel
theorem d_cr_barBySlots_40 : decode b_cr_barBySlots 40 = .ok (.iload_n 2, 1) := by decide +kernel
theorem d_cr_barBySlots_41 : decode b_cr_barBySlots 41 = .ok (.invokevirtual 257, 3) := by decide +kernel
theorem d_cr_barBySlots_44 : decode b_cr_barBySlots 44 = .ok (.istore 5, 2) := by decide +kernel
theorem d_cr_barBySlots_46 : decode b_cr_barBySlots 46 = .ok (.iload 5, 2) := by decide +kernel
theorem d_cr_barBySlots_48 : decode b_cr_barBySlots 48 = .ok (.ifCond .eq 16, 3) := by decide +kernel
theorem d_cr_barBySlots_51 : decode b_cr_barBySlots 51 = .ok (.iload_n 3, 1) := by decide +kernel
theorem d_cr_barBySlots_52 : decode b_cr_barBySlots 52 = .ok (.ifCond .eq 9, 3) := by decide +kernel
theorem d_cr_barBySlots_55 : decode b_cr_barBySlots 55 = .ok (.iload 5, 2) := by decide +kernel
theorem d_cr_barBySlots_57 : decode b_cr_barBySlots 57 = .ok (.iload_n 3, 1) := by decide +kernel
theorem d_cr_barBySlots_58 : decode b_cr_barBySlots 58 = .ok (.if_icmp .ge 6, 3) := by decide +kernel
theorem d_cr_barBySlots_61 : decode b_cr_barBySlots 61 = .ok (.iload 5, 2) := by decide +kernel
theorem d_cr_barBySlots_63 : decode b_cr_barBySlots 63 = .ok (.istore_n 3, 1) := by decide +kernel
theorem d_cr_barBySlots_64 : decode b_cr_barBySlots 64 = .ok (.iinc 4 1, 3) := by decide +kernel
theorem d_cr_barBySlots_67 : decode b_cr_barBySlots 67 = .ok (.goto (-62), 3) := by decide +kernel
theorem d_cr_barBySlots_70 : decode b_cr_barBySlots 70 = .ok (.iload_n 3, 1) := by decide +kernel
theorem d_cr_barBySlots_71 : decode b_cr_barBySlots 71 = .ok (.ireturn, 1) := by decide +kernel
theorem d_cr_earliest_0 : decode b_cr_earliest 0 = .ok (.aload_n 0, 1) := by decide +kernel
theorem d_cr_earliest_1 : decode b_cr_earliest 1 = .ok (.iload_n 1, 1) := by decide +kernel
theorem d_cr_earliest_2 : decode b_cr_earliest 2 = .ok (.iload_n 2, 1) := by decide +kernel
theorem d_cr_earliest_3 : decode b_cr_earliest 3 = .ok (.iload_n 3, 1) := by decide +kernel
theorem d_cr_earliest_4 : decode b_cr_earliest 4 = .ok (.invokevirtual 92, 3) := by decide +kernel
theorem d_cr_earliest_7 : decode b_cr_earliest 7 = .ok (.ifCond .eq 17, 3) := by decide +kernel
theorem d_cr_earliest_10 : decode b_cr_earliest 10 = .ok (.iload 4, 2) := by decide +kernel
theorem d_cr_earliest_12 : decode b_cr_earliest 12 = .ok (.aload_n 0, 1) := by decide +kernel
theorem d_cr_earliest_13 : decode b_cr_earliest 13 = .ok (.getfield 41, 3) := by decide +kernel
theorem d_cr_earliest_16 : decode b_cr_earliest 16 = .ok (.ldc 107, 2) := by decide +kernel
theorem d_cr_earliest_18 : decode b_cr_earliest 18 = .ok (.invokestatic 56, 3) := by decide +kernel
theorem d_cr_earliest_21 : decode b_cr_earliest 21 = .ok (.ifCond .ne 13, 3) := by decide +kernel
theorem d_cr_earliest_24 : decode b_cr_earliest 24 = .ok (.new 49, 3) := by decide +kernel
theorem d_cr_earliest_27 : decode b_cr_earliest 27 = .ok (.dup, 1) := by decide +kernel
theorem d_cr_earliest_28 : decode b_cr_earliest 28 = .ok (.ldc 108, 2) := by decide +kernel
theorem d_cr_earliest_30 : decode b_cr_earliest 30 = .ok (.invokespecial 53, 3) := by decide +kernel
theorem d_cr_earliest_33 : decode b_cr_earliest 33 = .ok (.athrow, 1) := by decide +kernel
theorem d_cr_earliest_34 : decode b_cr_earliest 34 = .ok (.aload_n 0, 1) := by decide +kernel
theorem d_cr_earliest_35 : decode b_cr_earliest 35 = .ok (.iload_n 1, 1) := by decide +kernel
theorem d_cr_earliest_36 : decode b_cr_earliest 36 = .ok (.iload_n 2, 1) := by decide +kernel
theorem d_cr_earliest_37 : decode b_cr_earliest 37 = .ok (.iload_n 3, 1) := by decide +kernel
theorem d_cr_earliest_38 : decode b_cr_earliest 38 = .ok (.invokevirtual 97, 3) := by decide +kernel
theorem d_cr_earliest_41 : decode b_cr_earliest 41 = .ok (.ifCond .ne 5, 3) := by decide +kernel
theorem d_cr_earliest_44 : decode b_cr_earliest 44 = .ok (.iconst (-1), 1) := by decide +kernel
theorem d_cr_earliest_45 : decode b_cr_earliest 45 = .ok (.ireturn, 1) := by decide +kernel
theorem d_cr_earliest_46 : decode b_cr_earliest 46 = .ok (.iload 4, 2) := by decide +kernel
theorem d_cr_earliest_48 : decode b_cr_earliest 48 = .ok (.sipush 2880, 3) := by decide +kernel
theorem d_cr_earliest_51 : decode b_cr_earliest 51 = .ok (.iadd, 1) := by decide +kernel
theorem d_cr_earliest_52 : decode b_cr_earliest 52 = .ok (.ldc 107, 2) := by decide +kernel
theorem d_cr_earliest_54 : decode b_cr_earliest 54 = .ok (.invokestatic 126, 3) := by decide +kernel
theorem d_cr_earliest_57 : decode b_cr_earliest 57 = .ok (.istore 5, 2) := by decide +kernel
theorem d_cr_earliest_59 : decode b_cr_earliest 59 = .ok (.iload 4, 2) := by decide +kernel
theorem d_cr_earliest_61 : decode b_cr_earliest 61 = .ok (.istore 6, 2) := by decide +kernel
theorem d_cr_earliest_63 : decode b_cr_earliest 63 = .ok (.iload 6, 2) := by decide +kernel
theorem d_cr_earliest_65 : decode b_cr_earliest 65 = .ok (.iload 5, 2) := by decide +kernel
theorem d_cr_earliest_67 : decode b_cr_earliest 67 = .ok (.if_icmp .gt 38, 3) := by decide +kernel
theorem d_cr_earliest_70 : decode b_cr_earliest 70 = .ok (.aload_n 0, 1) := by decide +kernel
theorem d_cr_earliest_71 : decode b_cr_earliest 71 = .ok (.getfield 26, 3) := by decide +kernel
theorem d_cr_earliest_74 : decode b_cr_earliest 74 = .ok (.getfield 115, 3) := by decide +kernel
theorem d_cr_earliest_77 : decode b_cr_earliest 77 = .ok (.iconst 0, 1) := by decide +kernel
theorem d_cr_earliest_78 : decode b_cr_earliest 78 = .ok (.iload 6, 2) := by decide +kernel
theorem d_cr_earliest_80 : decode b_cr_earliest 80 = .ok (.iastore, 1) := by decide +kernel
theorem d_cr_earliest_81 : decode b_cr_earliest 81 = .ok (.aload_n 0, 1) := by decide +kernel
theorem d_cr_earliest_82 : decode b_cr_earliest 82 = .ok (.invokevirtual 131, 3) := by decide +kernel
theorem d_cr_earliest_85 : decode b_cr_earliest 85 = .ok (.istore 7, 2) := by decide +kernel
theorem d_cr_earliest_87 : decode b_cr_earliest 87 = .ok (.iload 7, 2) := by decide +kernel
theorem d_cr_earliest_89 : decode b_cr_earliest 89 = .ok (.ifCond .gt 6, 3) := by decide +kernel
theorem d_cr_earliest_92 : decode b_cr_earliest 92 = .ok (.iload 6, 2) := by decide +kernel
theorem d_cr_earliest_94 : decode b_cr_earliest 94 = .ok (.ireturn, 1) := by decide +kernel
theorem d_cr_earliest_95 : decode b_cr_earliest 95 = .ok (.iload 6, 2) := by decide +kernel
theorem d_cr_earliest_97 : decode b_cr_earliest 97 = .ok (.iload 7, 2) := by decide +kernel
theorem d_cr_earliest_99 : decode b_cr_earliest 99 = .ok (.iadd, 1) := by decide +kernel
theorem d_cr_earliest_100 : decode b_cr_earliest 100 = .ok (.istore 6, 2) := by decide +kernel
theorem d_cr_earliest_102 : decode b_cr_earliest 102 = .ok (.goto (-39), 3) := by decide +kernel
theorem d_cr_earliest_105 : decode b_cr_earliest 105 = .ok (.iconst (-1), 1) := by decide +kernel
theorem d_cr_earliest_106 : decode b_cr_earliest 106 = .ok (.ireturn, 1) := by decide +kernel
theorem d_cr_planWait_0 : decode b_cr_planWait 0 = .ok (.iconst 0, 1) := by decide +kernel
theorem d_cr_planWait_1 : decode b_cr_planWait 1 = .ok (.istore_n 1, 1) := by decide +kernel
theorem d_cr_planWait_2 : decode b_cr_planWait 2 = .ok (.iconst 0, 1) := by decide +kernel
theorem d_cr_planWait_3 : decode b_cr_planWait 3 = .ok (.istore_n 2, 1) := by decide +kernel
theorem d_cr_planWait_4 : decode b_cr_planWait 4 = .ok (.iload_n 2, 1) := by decide +kernel
theorem d_cr_planWait_5 : decode b_cr_planWait 5 = .ok (.aload_n 0, 1) := by decide +kernel
theorem d_cr_planWait_6 : decode b_cr_planWait 6 = .ok (.getfield 26, 3) := by decide +kernel
theorem d_cr_planWait_9 : decode b_cr_planWait 9 = .ok (.getfield 104, 3) := by decide +kernel
theorem d_cr_planWait_12 : decode b_cr_planWait 12 = .ok (.iconst 0, 1) := by decide +kernel
theorem d_cr_planWait_13 : decode b_cr_planWait 13 = .ok (.iaload, 1) := by decide +kernel
theorem d_cr_planWait_14 : decode b_cr_planWait 14 = .ok (.if_icmp .ge 27, 3) := by decide +kernel
theorem d_cr_planWait_17 : decode b_cr_planWait 17 = .ok (.iload_n 1, 1) := by decide +kernel
theorem d_cr_planWait_18 : decode b_cr_planWait 18 = .ok (.aload_n 0, 1) := by decide +kernel
theorem d_cr_planWait_19 : decode b_cr_planWait 19 = .ok (.iload_n 2, 1) := by decide +kernel
theorem d_cr_planWait_20 : decode b_cr_planWait 20 = .ok (.invokevirtual 270, 3) := by decide +kernel
theorem d_cr_planWait_23 : decode b_cr_planWait 23 = .ok (.aload_n 0, 1) := by decide +kernel
theorem d_cr_planWait_24 : decode b_cr_planWait 24 = .ok (.iload_n 2, 1) := by decide +kernel
theorem d_cr_planWait_25 : decode b_cr_planWait 25 = .ok (.invokevirtual 273, 3) := by decide +kernel
theorem d_cr_planWait_28 : decode b_cr_planWait 28 = .ok (.invokestatic 276, 3) := by decide +kernel
theorem d_cr_planWait_31 : decode b_cr_planWait 31 = .ok (.invokestatic 276, 3) := by decide +kernel
theorem d_cr_planWait_34 : decode b_cr_planWait 34 = .ok (.istore_n 1, 1) := by decide +kernel
theorem d_cr_planWait_35 : decode b_cr_planWait 35 = .ok (.iinc 2 1, 3) := by decide +kernel
theorem d_cr_planWait_38 : decode b_cr_planWait 38 = .ok (.goto (-34), 3) := by decide +kernel
theorem d_cr_planWait_41 : decode b_cr_planWait 41 = .ok (.iload_n 1, 1) := by decide +kernel
theorem d_cr_planWait_42 : decode b_cr_planWait 42 = .ok (.ireturn, 1) := by decide +kernel
theorem d_cr_planWaitByPiece_0 : decode b_cr_planWaitByPiece 0 = .ok (.aload_n 0, 1) := by decide +kernel
theorem d_cr_planWaitByPiece_1 : decode b_cr_planWaitByPiece 1 = .ok (.iconst 0, 1) := by decide +kernel
theorem d_cr_planWaitByPiece_2 : decode b_cr_planWaitByPiece 2 = .ok (.iload_n 1, 1) := by decide +kernel
theorem d_cr_planWaitByPiece_3 : decode b_cr_planWaitByPiece 3 = .ok (.invokevirtual 236, 3) := by decide +kernel
theorem d_cr_planWaitByPiece_6 : decode b_cr_planWaitByPiece 6 = .ok (.ifCond .ne 12, 3) := by decide +kernel
theorem d_cr_planWaitByPiece_9 : decode b_cr_planWaitByPiece 9 = .ok (.aload_n 0, 1) := by decide +kernel
theorem d_cr_planWaitByPiece_10 : decode b_cr_planWaitByPiece 10 = .ok (.iconst 0, 1) := by decide +kernel
theorem d_cr_planWaitByPiece_11 : decode b_cr_planWaitByPiece 11 = .ok (.iload_n 1, 1) := by decide +kernel
theorem d_cr_planWaitByPiece_12 : decode b_cr_planWaitByPiece 12 = .ok (.invokevirtual 242, 3) := by decide +kernel
theorem d_cr_planWaitByPiece_15 : decode b_cr_planWaitByPiece 15 = .ok (.ifCond .eq 6, 3) := by decide +kernel
theorem d_cr_planWaitByPiece_18 : decode b_cr_planWaitByPiece 18 = .ok (.ldc 210, 2) := by decide +kernel
theorem d_cr_planWaitByPiece_20 : decode b_cr_planWaitByPiece 20 = .ok (.ireturn, 1) := by decide +kernel
theorem d_cr_planWaitByPiece_21 : decode b_cr_planWaitByPiece 21 = .ok (.aload_n 0, 1) := by decide +kernel
theorem d_cr_planWaitByPiece_22 : decode b_cr_planWaitByPiece 22 = .ok (.getfield 26, 3) := by decide +kernel
theorem d_cr_planWaitByPiece_25 : decode b_cr_planWaitByPiece 25 = .ok (.iconst 0, 1) := by decide +kernel
theorem d_cr_planWaitByPiece_26 : decode b_cr_planWaitByPiece 26 = .ok (.iload_n 1, 1) := by decide +kernel
theorem d_cr_planWaitByPiece_27 : decode b_cr_planWaitByPiece 27 = .ok (.invokevirtual 169, 3) := by decide +kernel
theorem d_cr_planWaitByPiece_30 : decode b_cr_planWaitByPiece 30 = .ok (.istore_n 2, 1) := by decide +kernel
theorem d_cr_planWaitByPiece_31 : decode b_cr_planWaitByPiece 31 = .ok (.aload_n 0, 1) := by decide +kernel
theorem d_cr_planWaitByPiece_32 : decode b_cr_planWaitByPiece 32 = .ok (.getfield 26, 3) := by decide +kernel
theorem d_cr_planWaitByPiece_35 : decode b_cr_planWaitByPiece 35 = .ok (.iconst 0, 1) := by decide +kernel
theorem d_cr_planWaitByPiece_36 : decode b_cr_planWaitByPiece 36 = .ok (.iload_n 1, 1) := by decide +kernel
theorem d_cr_planWaitByPiece_37 : decode b_cr_planWaitByPiece 37 = .ok (.invokevirtual 172, 3) := by decide +kernel
theorem d_cr_planWaitByPiece_40 : decode b_cr_planWaitByPiece 40 = .ok (.istore_n 3, 1) := by decide +kernel
theorem d_cr_planWaitByPiece_41 : decode b_cr_planWaitByPiece 41 = .ok (.aload_n 0, 1) := by decide +kernel
theorem d_cr_planWaitByPiece_42 : decode b_cr_planWaitByPiece 42 = .ok (.getfield 12, 3) := by decide +kernel
theorem d_cr_planWaitByPiece_45 : decode b_cr_planWaitByPiece 45 = .ok (.aload_n 0, 1) := by decide +kernel
theorem d_cr_planWaitByPiece_46 : decode b_cr_planWaitByPiece 46 = .ok (.getfield 26, 3) := by decide +kernel
theorem d_cr_planWaitByPiece_49 : decode b_cr_planWaitByPiece 49 = .ok (.iconst 0, 1) := by decide +kernel
theorem d_cr_planWaitByPiece_50 : decode b_cr_planWaitByPiece 50 = .ok (.iload_n 1, 1) := by decide +kernel
theorem d_cr_planWaitByPiece_51 : decode b_cr_planWaitByPiece 51 = .ok (.invokevirtual 100, 3) := by decide +kernel
theorem d_cr_planWaitByPiece_54 : decode b_cr_planWaitByPiece 54 = .ok (.iload_n 2, 1) := by decide +kernel
theorem d_cr_planWaitByPiece_55 : decode b_cr_planWaitByPiece 55 = .ok (.iload_n 3, 1) := by decide +kernel
theorem d_cr_planWaitByPiece_56 : decode b_cr_planWaitByPiece 56 = .ok (.invokevirtual 245, 3) := by decide +kernel
theorem d_cr_planWaitByPiece_59 : decode b_cr_planWaitByPiece 59 = .ok (.istore 4, 2) := by decide +kernel
theorem d_cr_planWaitByPiece_61 : decode b_cr_planWaitByPiece 61 = .ok (.iload 4, 2) := by decide +kernel
theorem d_cr_planWaitByPiece_63 : decode b_cr_planWaitByPiece 63 = .ok (.aload_n 0, 1) := by decide +kernel
theorem d_cr_planWaitByPiece_64 : decode b_cr_planWaitByPiece 64 = .ok (.iconst 0, 1) := by decide +kernel
theorem d_cr_planWaitByPiece_65 : decode b_cr_planWaitByPiece 65 = .ok (.iload_n 1, 1) := by decide +kernel
theorem d_cr_planWaitByPiece_66 : decode b_cr_planWaitByPiece 66 = .ok (.invokevirtual 239, 3) := by decide +kernel
theorem d_cr_planWaitByPiece_69 : decode b_cr_planWaitByPiece 69 = .ok (.ifCond .eq 10, 3) := by decide +kernel
theorem d_cr_planWaitByPiece_72 : decode b_cr_planWaitByPiece 72 = .ok (.iload_n 2, 1) := by decide +kernel
theorem d_cr_planWaitByPiece_73 : decode b_cr_planWaitByPiece 73 = .ok (.invokestatic 279, 3) := by decide +kernel
theorem d_cr_planWaitByPiece_76 : decode b_cr_planWaitByPiece 76 = .ok (.goto 4, 3) := by decide +kernel
theorem d_cr_planWaitByPiece_79 : decode b_cr_planWaitByPiece 79 = .ok (.iconst 0, 1) := by decide +kernel
theorem d_cr_planWaitByPiece_80 : decode b_cr_planWaitByPiece 80 = .ok (.invokestatic 276, 3) := by decide +kernel
theorem d_cr_planWaitByPiece_83 : decode b_cr_planWaitByPiece 83 = .ok (.ireturn, 1) := by decide +kernel
theorem d_cr_minutesToMorning_0 : decode b_cr_minutesToMorning 0 = .ok (.sipush 300, 3) := by decide +kernel
theorem d_cr_minutesToMorning_3 : decode b_cr_minutesToMorning 3 = .ok (.iload_n 0, 1) := by decide +kernel
theorem d_cr_minutesToMorning_4 : decode b_cr_minutesToMorning 4 = .ok (.isub, 1) := by decide +kernel
theorem d_cr_minutesToMorning_5 : decode b_cr_minutesToMorning 5 = .ok (.sipush 1440, 3) := by decide +kernel
theorem d_cr_minutesToMorning_8 : decode b_cr_minutesToMorning 8 = .ok (.invokestatic 282, 3) := by decide +kernel
theorem d_cr_minutesToMorning_11 : decode b_cr_minutesToMorning 11 = .ok (.ireturn, 1) := by decide +kernel
theorem d_cr_planWaitBySlots_0 : decode b_cr_planWaitBySlots 0 = .ok (.iconst 0, 1) := by decide +kernel
theorem d_cr_planWaitBySlots_1 : decode b_cr_planWaitBySlots 1 = .ok (.istore_n 2, 1) := by decide +kernel
theorem d_cr_planWaitBySlots_2 : decode b_cr_planWaitBySlots 2 = .ok (.iconst 1, 1) := by decide +kernel
theorem d_cr_planWaitBySlots_3 : decode b_cr_planWaitBySlots 3 = .ok (.istore_n 3, 1) := by decide +kernel
theorem d_cr_planWaitBySlots_4 : decode b_cr_planWaitBySlots 4 = .ok (.iload_n 3, 1) := by decide +kernel
theorem d_cr_planWaitBySlots_5 : decode b_cr_planWaitBySlots 5 = .ok (.aload_n 0, 1) := by decide +kernel
theorem d_cr_planWaitBySlots_6 : decode b_cr_planWaitBySlots 6 = .ok (.getfield 26, 3) := by decide +kernel
theorem d_cr_planWaitBySlots_9 : decode b_cr_planWaitBySlots 9 = .ok (.getfield 110, 3) := by decide +kernel
theorem d_cr_planWaitBySlots_12 : decode b_cr_planWaitBySlots 12 = .ok (.if_icmp .gt 32, 3) := by decide +kernel
theorem d_cr_planWaitBySlots_15 : decode b_cr_planWaitBySlots 15 = .ok (.aload_n 0, 1) := by decide +kernel
theorem d_cr_planWaitBySlots_16 : decode b_cr_planWaitBySlots 16 = .ok (.getfield 26, 3) := by decide +kernel
theorem d_cr_planWaitBySlots_19 : decode b_cr_planWaitBySlots 19 = .ok (.getfield 142, 3) := by decide +kernel
theorem d_cr_planWaitBySlots_22 : decode b_cr_planWaitBySlots 22 = .ok (.iload_n 3, 1) := by decide +kernel
theorem d_cr_planWaitBySlots_23 : decode b_cr_planWaitBySlots 23 = .ok (.baload, 1) := by decide +kernel
theorem d_cr_planWaitBySlots_24 : decode b_cr_planWaitBySlots 24 = .ok (.ifCond .eq 14, 3) := by decide +kernel
theorem d_cr_planWaitBySlots_27 : decode b_cr_planWaitBySlots 27 = .ok (.iload_n 2, 1) := by decide +kernel
theorem d_cr_planWaitBySlots_28 : decode b_cr_planWaitBySlots 28 = .ok (.aload_n 0, 1) := by decide +kernel
theorem d_cr_planWaitBySlots_29 : decode b_cr_planWaitBySlots 29 = .ok (.iload_n 3, 1) := by decide +kernel
theorem d_cr_planWaitBySlots_30 : decode b_cr_planWaitBySlots 30 = .ok (.iload_n 1, 1) := by decide +kernel
theorem d_cr_planWaitBySlots_31 : decode b_cr_planWaitBySlots 31 = .ok (.invokevirtual 285, 3) := by decide +kernel
theorem d_cr_planWaitBySlots_34 : decode b_cr_planWaitBySlots 34 = .ok (.invokestatic 276, 3) := by decide +kernel
theorem d_cr_planWaitBySlots_37 : decode b_cr_planWaitBySlots 37 = .ok (.istore_n 2, 1) := by decide +kernel
theorem d_cr_planWaitBySlots_38 : decode b_cr_planWaitBySlots 38 = .ok (.iinc 3 1, 3) := by decide +kernel
theorem d_cr_planWaitBySlots_41 : decode b_cr_planWaitBySlots 41 = .ok (.goto (-37), 3) := by decide +kernel
theorem d_cr_planWaitBySlots_44 : decode b_cr_planWaitBySlots 44 = .ok (.iload_n 2, 1) := by decide +kernel
theorem d_cr_planWaitBySlots_45 : decode b_cr_planWaitBySlots 45 = .ok (.ireturn, 1) := by decide +kernel
theorem d_cr_planWaitFor_0 : decode b_cr_planWaitFor 0 = .ok (.aload_n 0, 1) := by decide +kernel
theorem d_cr_planWaitFor_1 : decode b_cr_planWaitFor 1 = .ok (.iload_n 1, 1) := by decide +kernel
theorem d_cr_planWaitFor_2 : decode b_cr_planWaitFor 2 = .ok (.iconst 0, 1) := by decide +kernel
theorem d_cr_planWaitFor_3 : decode b_cr_planWaitFor 3 = .ok (.iload_n 2, 1) := by decide +kernel
theorem d_cr_planWaitFor_4 : decode b_cr_planWaitFor 4 = .ok (.invokevirtual 257, 3) := by decide +kernel
theorem d_cr_planWaitFor_7 : decode b_cr_planWaitFor 7 = .ok (.istore_n 3, 1) := by decide +kernel
theorem d_cr_planWaitFor_8 : decode b_cr_planWaitFor 8 = .ok (.aload_n 0, 1) := by decide +kernel
theorem d_cr_planWaitFor_9 : decode b_cr_planWaitFor 9 = .ok (.getfield 26, 3) := by decide +kernel
theorem d_cr_planWaitFor_12 : decode b_cr_planWaitFor 12 = .ok (.iload_n 1, 1) := by decide +kernel
theorem d_cr_planWaitFor_13 : decode b_cr_planWaitFor 13 = .ok (.aload_n 0, 1) := by decide +kernel
theorem d_cr_planWaitFor_14 : decode b_cr_planWaitFor 14 = .ok (.getfield 26, 3) := by decide +kernel
theorem d_cr_planWaitFor_17 : decode b_cr_planWaitFor 17 = .ok (.iconst 0, 1) := by decide +kernel
theorem d_cr_planWaitFor_18 : decode b_cr_planWaitFor 18 = .ok (.iload_n 2, 1) := by decide +kernel
theorem d_cr_planWaitFor_19 : decode b_cr_planWaitFor 19 = .ok (.invokevirtual 100, 3) := by decide +kernel
theorem d_cr_planWaitFor_22 : decode b_cr_planWaitFor 22 = .ok (.invokevirtual 260, 3) := by decide +kernel
theorem d_cr_planWaitFor_25 : decode b_cr_planWaitFor 25 = .ok (.istore 4, 2) := by decide +kernel
theorem d_cr_planWaitFor_27 : decode b_cr_planWaitFor 27 = .ok (.iload_n 3, 1) := by decide +kernel
theorem d_cr_planWaitFor_28 : decode b_cr_planWaitFor 28 = .ok (.ifCond .eq 9, 3) := by decide +kernel
theorem d_cr_planWaitFor_31 : decode b_cr_planWaitFor 31 = .ok (.iload 4, 2) := by decide +kernel
theorem d_cr_planWaitFor_33 : decode b_cr_planWaitFor 33 = .ok (.iconst (-1), 1) := by decide +kernel
theorem d_cr_planWaitFor_34 : decode b_cr_planWaitFor 34 = .ok (.if_icmp .ne 5, 3) := by decide +kernel
theorem d_cr_planWaitFor_37 : decode b_cr_planWaitFor 37 = .ok (.iconst 0, 1) := by decide +kernel
theorem d_cr_planWaitFor_38 : decode b_cr_planWaitFor 38 = .ok (.ireturn, 1) := by decide +kernel
theorem d_cr_planWaitFor_39 : decode b_cr_planWaitFor 39 = .ok (.aload_n 0, 1) := by decide +kernel
theorem d_cr_planWaitFor_40 : decode b_cr_planWaitFor 40 = .ok (.getfield 26, 3) := by decide +kernel
theorem d_cr_planWaitFor_43 : decode b_cr_planWaitFor 43 = .ok (.iconst 0, 1) := by decide +kernel
theorem d_cr_planWaitFor_44 : decode b_cr_planWaitFor 44 = .ok (.iload_n 2, 1) := by decide +kernel
theorem d_cr_planWaitFor_45 : decode b_cr_planWaitFor 45 = .ok (.invokevirtual 169, 3) := by decide +kernel
theorem d_cr_planWaitFor_48 : decode b_cr_planWaitFor 48 = .ok (.istore 5, 2) := by decide +kernel
theorem d_cr_planWaitFor_50 : decode b_cr_planWaitFor 50 = .ok (.iload_n 3, 1) := by decide +kernel
theorem d_cr_planWaitFor_51 : decode b_cr_planWaitFor 51 = .ok (.bipush 7, 2) := by decide +kernel
theorem d_cr_planWaitFor_53 : decode b_cr_planWaitFor 53 = .ok (.if_icmp .eq 17, 3) := by decide +kernel
theorem d_cr_planWaitFor_56 : decode b_cr_planWaitFor 56 = .ok (.aload_n 0, 1) := by decide +kernel
theorem d_cr_planWaitFor_57 : decode b_cr_planWaitFor 57 = .ok (.getfield 26, 3) := by decide +kernel
theorem d_cr_planWaitFor_60 : decode b_cr_planWaitFor 60 = .ok (.iload_n 1, 1) := by decide +kernel
theorem d_cr_planWaitFor_61 : decode b_cr_planWaitFor 61 = .ok (.iload 4, 2) := by decide +kernel
theorem d_cr_planWaitFor_63 : decode b_cr_planWaitFor 63 = .ok (.invokevirtual 172, 3) := by decide +kernel
theorem d_cr_planWaitFor_66 : decode b_cr_planWaitFor 66 = .ok (.iload 5, 2) := by decide +kernel
theorem d_cr_planWaitFor_68 : decode b_cr_planWaitFor 68 = .ok (.isub, 1) := by decide +kernel
theorem d_cr_planWaitFor_69 : decode b_cr_planWaitFor 69 = .ok (.ireturn, 1) := by decide +kernel
theorem d_cr_planWaitFor_70 : decode b_cr_planWaitFor 70 = .ok (.aload_n 0, 1) := by decide +kernel
theorem d_cr_planWaitFor_71 : decode b_cr_planWaitFor 71 = .ok (.getfield 26, 3) := by decide +kernel
theorem d_cr_planWaitFor_74 : decode b_cr_planWaitFor 74 = .ok (.iload_n 1, 1) := by decide +kernel
theorem d_cr_planWaitFor_75 : decode b_cr_planWaitFor 75 = .ok (.iload 4, 2) := by decide +kernel
theorem d_cr_planWaitFor_77 : decode b_cr_planWaitFor 77 = .ok (.invokevirtual 169, 3) := by decide +kernel
theorem d_cr_planWaitFor_80 : decode b_cr_planWaitFor 80 = .ok (.iload 5, 2) := by decide +kernel
theorem d_cr_planWaitFor_82 : decode b_cr_planWaitFor 82 = .ok (.isub, 1) := by decide +kernel
theorem d_cr_planWaitFor_83 : decode b_cr_planWaitFor 83 = .ok (.istore 6, 2) := by decide +kernel
theorem d_cr_planWaitFor_85 : decode b_cr_planWaitFor 85 = .ok (.aload_n 0, 1) := by decide +kernel
theorem d_cr_planWaitFor_86 : decode b_cr_planWaitFor 86 = .ok (.getfield 26, 3) := by decide +kernel
theorem d_cr_planWaitFor_89 : decode b_cr_planWaitFor 89 = .ok (.iload_n 1, 1) := by decide +kernel
theorem d_cr_planWaitFor_90 : decode b_cr_planWaitFor 90 = .ok (.iload 4, 2) := by decide +kernel
theorem d_cr_planWaitFor_92 : decode b_cr_planWaitFor 92 = .ok (.invokevirtual 172, 3) := by decide +kernel
theorem d_cr_planWaitFor_95 : decode b_cr_planWaitFor 95 = .ok (.aload_n 0, 1) := by decide +kernel
theorem d_cr_planWaitFor_96 : decode b_cr_planWaitFor 96 = .ok (.getfield 26, 3) := by decide +kernel
theorem d_cr_planWaitFor_99 : decode b_cr_planWaitFor 99 = .ok (.iconst 0, 1) := by decide +kernel
theorem d_cr_planWaitFor_100 : decode b_cr_planWaitFor 100 = .ok (.iload_n 2, 1) := by decide +kernel
theorem d_cr_planWaitFor_101 : decode b_cr_planWaitFor 101 = .ok (.invokevirtual 172, 3) := by decide +kernel
theorem d_cr_planWaitFor_104 : decode b_cr_planWaitFor 104 = .ok (.isub, 1) := by decide +kernel
theorem d_cr_planWaitFor_105 : decode b_cr_planWaitFor 105 = .ok (.istore 7, 2) := by decide +kernel
theorem d_cr_planWaitFor_107 : decode b_cr_planWaitFor 107 = .ok (.iload 6, 2) := by decide +kernel
theorem d_cr_planWaitFor_109 : decode b_cr_planWaitFor 109 = .ok (.iload 7, 2) := by decide +kernel
theorem d_cr_planWaitFor_111 : decode b_cr_planWaitFor 111 = .ok (.invokestatic 276, 3) := by decide +kernel
theorem d_cr_planWaitFor_114 : decode b_cr_planWaitFor 114 = .ok (.iconst 1, 1) := by decide +kernel
theorem d_cr_planWaitFor_115 : decode b_cr_planWaitFor 115 = .ok (.iadd, 1) := by decide +kernel
theorem d_cr_planWaitFor_116 : decode b_cr_planWaitFor 116 = .ok (.ireturn, 1) := by decide +kernel
theorem d_cr_change_0 : decode b_cr_change 0 = .ok (.aload_n 0, 1) := by decide +kernel
theorem d_cr_change_1 : decode b_cr_change 1 = .ok (.getfield 26, 3) := by decide +kernel
theorem d_cr_change_4 : decode b_cr_change 4 = .ok (.iload_n 1, 1) := by decide +kernel
theorem d_cr_change_5 : decode b_cr_change 5 = .ok (.invokevirtual 134, 3) := by decide +kernel
theorem d_cr_change_8 : decode b_cr_change 8 = .ok (.ifCond .eq 16, 3) := by decide +kernel
theorem d_cr_change_11 : decode b_cr_change 11 = .ok (.iload_n 2, 1) := by decide +kernel
theorem d_cr_change_12 : decode b_cr_change 12 = .ok (.aload_n 0, 1) := by decide +kernel
theorem d_cr_change_13 : decode b_cr_change 13 = .ok (.getfield 41, 3) := by decide +kernel
theorem d_cr_change_16 : decode b_cr_change 16 = .ok (.ldc 107, 2) := by decide +kernel
theorem d_cr_change_18 : decode b_cr_change 18 = .ok (.invokestatic 56, 3) := by decide +kernel
theorem d_cr_change_21 : decode b_cr_change 21 = .ok (.ifCond .ne 13, 3) := by decide +kernel
theorem d_cr_change_24 : decode b_cr_change 24 = .ok (.new 49, 3) := by decide +kernel
theorem d_cr_change_27 : decode b_cr_change 27 = .ok (.dup, 1) := by decide +kernel
theorem d_cr_change_28 : decode b_cr_change 28 = .ok (.ldc 137, 2) := by decide +kernel
theorem d_cr_change_30 : decode b_cr_change 30 = .ok (.invokespecial 53, 3) := by decide +kernel
theorem d_cr_change_33 : decode b_cr_change 33 = .ok (.athrow, 1) := by decide +kernel
theorem d_cr_change_34 : decode b_cr_change 34 = .ok (.aload_n 0, 1) := by decide +kernel
theorem d_cr_change_35 : decode b_cr_change 35 = .ok (.iload_n 1, 1) := by decide +kernel
theorem d_cr_change_36 : decode b_cr_change 36 = .ok (.invokevirtual 139, 3) := by decide +kernel
theorem d_cr_change_39 : decode b_cr_change 39 = .ok (.ifCond .ne 5, 3) := by decide +kernel
theorem d_cr_change_42 : decode b_cr_change 42 = .ok (.iconst (-1), 1) := by decide +kernel
theorem d_cr_change_43 : decode b_cr_change 43 = .ok (.ireturn, 1) := by decide +kernel
theorem d_cr_change_44 : decode b_cr_change 44 = .ok (.aload_n 0, 1) := by decide +kernel
theorem d_cr_change_45 : decode b_cr_change 45 = .ok (.getfield 26, 3) := by decide +kernel
theorem d_cr_change_48 : decode b_cr_change 48 = .ok (.getfield 115, 3) := by decide +kernel
theorem d_cr_change_51 : decode b_cr_change 51 = .ok (.iload_n 1, 1) := by decide +kernel
theorem d_cr_change_52 : decode b_cr_change 52 = .ok (.iaload, 1) := by decide +kernel
theorem d_cr_change_53 : decode b_cr_change 53 = .ok (.istore_n 3, 1) := by decide +kernel
theorem d_cr_change_54 : decode b_cr_change 54 = .ok (.aload_n 0, 1) := by decide +kernel
theorem d_cr_change_55 : decode b_cr_change 55 = .ok (.getfield 26, 3) := by decide +kernel
theorem d_cr_change_58 : decode b_cr_change 58 = .ok (.getfield 115, 3) := by decide +kernel
theorem d_cr_change_61 : decode b_cr_change 61 = .ok (.iload_n 1, 1) := by decide +kernel
theorem d_cr_change_62 : decode b_cr_change 62 = .ok (.iload_n 2, 1) := by decide +kernel
theorem d_cr_change_63 : decode b_cr_change 63 = .ok (.iastore, 1) := by decide +kernel
theorem d_cr_change_64 : decode b_cr_change 64 = .ok (.aload_n 0, 1) := by decide +kernel
theorem d_cr_change_65 : decode b_cr_change 65 = .ok (.iload_n 1, 1) := by decide +kernel
theorem d_cr_change_66 : decode b_cr_change 66 = .ok (.invokevirtual 118, 3) := by decide +kernel
theorem d_cr_change_69 : decode b_cr_change 69 = .ok (.ifCond .eq 15, 3) := by decide +kernel
theorem d_cr_change_72 : decode b_cr_change 72 = .ok (.aload_n 0, 1) := by decide +kernel
theorem d_cr_change_73 : decode b_cr_change 73 = .ok (.getfield 26, 3) := by decide +kernel
theorem d_cr_change_76 : decode b_cr_change 76 = .ok (.getfield 115, 3) := by decide +kernel
theorem d_cr_change_79 : decode b_cr_change 79 = .ok (.iload_n 1, 1) := by decide +kernel
theorem d_cr_change_80 : decode b_cr_change 80 = .ok (.iload_n 3, 1) := by decide +kernel
theorem d_cr_change_81 : decode b_cr_change 81 = .ok (.iastore, 1) := by decide +kernel
theorem d_cr_change_82 : decode b_cr_change 82 = .ok (.iconst 0, 1) := by decide +kernel
theorem d_cr_change_83 : decode b_cr_change 83 = .ok (.ireturn, 1) := by decide +kernel
theorem d_cr_change_84 : decode b_cr_change 84 = .ok (.iconst 1, 1) := by decide +kernel
theorem d_cr_change_85 : decode b_cr_change 85 = .ok (.ireturn, 1) := by decide +kernel
theorem d_cr_close_0 : decode b_cr_close 0 = .ok (.aload_n 0, 1) := by decide +kernel
theorem d_cr_close_1 : decode b_cr_close 1 = .ok (.getfield 12, 3) := by decide +kernel
theorem d_cr_close_4 : decode b_cr_close 4 = .ok (.iload_n 1, 1) := by decide +kernel
theorem d_cr_close_5 : decode b_cr_close 5 = .ok (.invokevirtual 74, 3) := by decide +kernel
theorem d_cr_close_8 : decode b_cr_close 8 = .ok (.ifCond .eq 22, 3) := by decide +kernel
theorem d_cr_close_11 : decode b_cr_close 11 = .ok (.iload_n 2, 1) := by decide +kernel
theorem d_cr_close_12 : decode b_cr_close 12 = .ok (.aload_n 0, 1) := by decide +kernel
theorem d_cr_close_13 : decode b_cr_close 13 = .ok (.getfield 41, 3) := by decide +kernel
theorem d_cr_close_16 : decode b_cr_close 16 = .ok (.if_icmp .lt 14, 3) := by decide +kernel
theorem d_cr_close_19 : decode b_cr_close 19 = .ok (.iload_n 2, 1) := by decide +kernel
theorem d_cr_close_20 : decode b_cr_close 20 = .ok (.iload_n 3, 1) := by decide +kernel
theorem d_cr_close_21 : decode b_cr_close 21 = .ok (.if_icmp .ge 9, 3) := by decide +kernel
theorem d_cr_close_24 : decode b_cr_close 24 = .ok (.iload_n 3, 1) := by decide +kernel
theorem d_cr_close_25 : decode b_cr_close 25 = .ok (.ldc 107, 2) := by decide +kernel
theorem d_cr_close_27 : decode b_cr_close 27 = .ok (.if_icmp .le 13, 3) := by decide +kernel
theorem d_cr_close_30 : decode b_cr_close 30 = .ok (.new 49, 3) := by decide +kernel
theorem d_cr_close_33 : decode b_cr_close 33 = .ok (.dup, 1) := by decide +kernel
theorem d_cr_close_34 : decode b_cr_close 34 = .ok (.ldc 146, 2) := by decide +kernel
theorem d_cr_close_36 : decode b_cr_close 36 = .ok (.invokespecial 53, 3) := by decide +kernel
theorem d_cr_close_39 : decode b_cr_close 39 = .ok (.athrow, 1) := by decide +kernel
theorem d_cr_close_40 : decode b_cr_close 40 = .ok (.aload_n 0, 1) := by decide +kernel
theorem d_cr_close_41 : decode b_cr_close 41 = .ok (.getfield 12, 3) := by decide +kernel
theorem d_cr_close_44 : decode b_cr_close 44 = .ok (.getfield 148, 3) := by decide +kernel
theorem d_cr_close_47 : decode b_cr_close 47 = .ok (.iload_n 1, 1) := by decide +kernel
theorem d_cr_close_48 : decode b_cr_close 48 = .ok (.iaload, 1) := by decide +kernel
theorem d_cr_close_49 : decode b_cr_close 49 = .ok (.iconst 4, 1) := by decide +kernel
theorem d_cr_close_50 : decode b_cr_close 50 = .ok (.if_icmp .lt 13, 3) := by decide +kernel
theorem d_cr_close_53 : decode b_cr_close 53 = .ok (.new 65, 3) := by decide +kernel
theorem d_cr_close_56 : decode b_cr_close 56 = .ok (.dup, 1) := by decide +kernel
theorem d_cr_close_57 : decode b_cr_close 57 = .ok (.ldc 151, 2) := by decide +kernel
theorem d_cr_close_59 : decode b_cr_close 59 = .ok (.invokespecial 69, 3) := by decide +kernel
theorem d_cr_close_62 : decode b_cr_close 62 = .ok (.athrow, 1) := by decide +kernel
theorem d_cr_close_63 : decode b_cr_close 63 = .ok (.aload_n 0, 1) := by decide +kernel
theorem d_cr_close_64 : decode b_cr_close 64 = .ok (.getfield 12, 3) := by decide +kernel
theorem d_cr_close_67 : decode b_cr_close 67 = .ok (.iload_n 1, 1) := by decide +kernel
theorem d_cr_close_68 : decode b_cr_close 68 = .ok (.iload_n 2, 1) := by decide +kernel
theorem d_cr_close_69 : decode b_cr_close 69 = .ok (.iload_n 3, 1) := by decide +kernel
theorem d_cr_close_70 : decode b_cr_close 70 = .ok (.invokevirtual 153, 3) := by decide +kernel
theorem d_cr_close_73 : decode b_cr_close 73 = .ok (.aload_n 0, 1) := by decide +kernel
theorem d_cr_close_74 : decode b_cr_close 74 = .ok (.iload_n 1, 1) := by decide +kernel
theorem d_cr_close_75 : decode b_cr_close 75 = .ok (.iload_n 2, 1) := by decide +kernel
theorem d_cr_close_76 : decode b_cr_close 76 = .ok (.iload_n 3, 1) := by decide +kernel
theorem d_cr_close_77 : decode b_cr_close 77 = .ok (.invokevirtual 156, 3) := by decide +kernel
theorem d_cr_close_80 : decode b_cr_close 80 = .ok (.ireturn, 1) := by decide +kernel
theorem d_cr_endSlotsOn_0 : decode b_cr_endSlotsOn 0 = .ok (.iconst 0, 1) := by decide +kernel
theorem d_cr_endSlotsOn_1 : decode b_cr_endSlotsOn 1 = .ok (.istore 4, 2) := by decide +kernel
theorem d_cr_endSlotsOn_3 : decode b_cr_endSlotsOn 3 = .ok (.iconst 1, 1) := by decide +kernel
theorem d_cr_endSlotsOn_4 : decode b_cr_endSlotsOn 4 = .ok (.istore 5, 2) := by decide +kernel
theorem d_cr_endSlotsOn_6 : decode b_cr_endSlotsOn 6 = .ok (.iload 5, 2) := by decide +kernel
theorem d_cr_endSlotsOn_8 : decode b_cr_endSlotsOn 8 = .ok (.aload_n 0, 1) := by decide +kernel
theorem d_cr_endSlotsOn_9 : decode b_cr_endSlotsOn 9 = .ok (.getfield 26, 3) := by decide +kernel
theorem d_cr_endSlotsOn_12 : decode b_cr_endSlotsOn 12 = .ok (.getfield 110, 3) := by decide +kernel
theorem d_cr_endSlotsOn_15 : decode b_cr_endSlotsOn 15 = .ok (.if_icmp .gt 84, 3) := by decide +kernel
theorem d_cr_endSlotsOn_18 : decode b_cr_endSlotsOn 18 = .ok (.aload_n 0, 1) := by decide +kernel
theorem d_cr_endSlotsOn_19 : decode b_cr_endSlotsOn 19 = .ok (.getfield 26, 3) := by decide +kernel
theorem d_cr_endSlotsOn_22 : decode b_cr_endSlotsOn 22 = .ok (.iload 5, 2) := by decide +kernel
theorem d_cr_endSlotsOn_24 : decode b_cr_endSlotsOn 24 = .ok (.iload_n 1, 1) := by decide +kernel
theorem d_cr_endSlotsOn_25 : decode b_cr_endSlotsOn 25 = .ok (.invokevirtual 260, 3) := by decide +kernel
theorem d_cr_endSlotsOn_28 : decode b_cr_endSlotsOn 28 = .ok (.istore 6, 2) := by decide +kernel
theorem d_cr_endSlotsOn_30 : decode b_cr_endSlotsOn 30 = .ok (.aload_n 0, 1) := by decide +kernel
theorem d_cr_endSlotsOn_31 : decode b_cr_endSlotsOn 31 = .ok (.getfield 26, 3) := by decide +kernel
theorem d_cr_endSlotsOn_34 : decode b_cr_endSlotsOn 34 = .ok (.getfield 142, 3) := by decide +kernel
theorem d_cr_endSlotsOn_37 : decode b_cr_endSlotsOn 37 = .ok (.iload 5, 2) := by decide +kernel
theorem d_cr_endSlotsOn_39 : decode b_cr_endSlotsOn 39 = .ok (.baload, 1) := by decide +kernel
theorem d_cr_endSlotsOn_40 : decode b_cr_endSlotsOn 40 = .ok (.ifCond .eq 53, 3) := by decide +kernel
theorem d_cr_endSlotsOn_43 : decode b_cr_endSlotsOn 43 = .ok (.iload 6, 2) := by decide +kernel
theorem d_cr_endSlotsOn_45 : decode b_cr_endSlotsOn 45 = .ok (.iconst (-1), 1) := by decide +kernel
theorem d_cr_endSlotsOn_46 : decode b_cr_endSlotsOn 46 = .ok (.if_icmp .eq 47, 3) := by decide +kernel
theorem d_cr_endSlotsOn_49 : decode b_cr_endSlotsOn 49 = .ok (.iload_n 2, 1) := by decide +kernel
theorem d_cr_endSlotsOn_50 : decode b_cr_endSlotsOn 50 = .ok (.iload_n 3, 1) := by decide +kernel
theorem d_cr_endSlotsOn_51 : decode b_cr_endSlotsOn 51 = .ok (.aload_n 0, 1) := by decide +kernel
theorem d_cr_endSlotsOn_52 : decode b_cr_endSlotsOn 52 = .ok (.getfield 26, 3) := by decide +kernel
theorem d_cr_endSlotsOn_55 : decode b_cr_endSlotsOn 55 = .ok (.iload 5, 2) := by decide +kernel
theorem d_cr_endSlotsOn_57 : decode b_cr_endSlotsOn 57 = .ok (.iload 6, 2) := by decide +kernel
theorem d_cr_endSlotsOn_59 : decode b_cr_endSlotsOn 59 = .ok (.invokevirtual 169, 3) := by decide +kernel
theorem d_cr_endSlotsOn_62 : decode b_cr_endSlotsOn 62 = .ok (.aload_n 0, 1) := by decide +kernel
theorem d_cr_endSlotsOn_63 : decode b_cr_endSlotsOn 63 = .ok (.getfield 26, 3) := by decide +kernel
theorem d_cr_endSlotsOn_66 : decode b_cr_endSlotsOn 66 = .ok (.iload 5, 2) := by decide +kernel
theorem d_cr_endSlotsOn_68 : decode b_cr_endSlotsOn 68 = .ok (.iload 6, 2) := by decide +kernel
theorem d_cr_endSlotsOn_70 : decode b_cr_endSlotsOn 70 = .ok (.invokevirtual 172, 3) := by decide +kernel
theorem d_cr_endSlotsOn_73 : decode b_cr_endSlotsOn 73 = .ok (.invokestatic 263, 3) := by decide +kernel
theorem d_cr_endSlotsOn_76 : decode b_cr_endSlotsOn 76 = .ok (.ifCond .eq 17, 3) := by decide +kernel
theorem d_cr_endSlotsOn_79 : decode b_cr_endSlotsOn 79 = .ok (.aload_n 0, 1) := by decide +kernel
theorem d_cr_endSlotsOn_80 : decode b_cr_endSlotsOn 80 = .ok (.getfield 26, 3) := by decide +kernel
theorem d_cr_endSlotsOn_83 : decode b_cr_endSlotsOn 83 = .ok (.getfield 142, 3) := by decide +kernel
theorem d_cr_endSlotsOn_86 : decode b_cr_endSlotsOn 86 = .ok (.iload 5, 2) := by decide +kernel
theorem d_cr_endSlotsOn_88 : decode b_cr_endSlotsOn 88 = .ok (.iconst 0, 1) := by decide +kernel
theorem d_cr_endSlotsOn_89 : decode b_cr_endSlotsOn 89 = .ok (.bastore, 1) := by decide +kernel
theorem d_cr_endSlotsOn_90 : decode b_cr_endSlotsOn 90 = .ok (.iinc 4 1, 3) := by decide +kernel
theorem d_cr_endSlotsOn_93 : decode b_cr_endSlotsOn 93 = .ok (.iinc 5 1, 3) := by decide +kernel
theorem d_cr_endSlotsOn_96 : decode b_cr_endSlotsOn 96 = .ok (.goto (-90), 3) := by decide +kernel
theorem d_cr_endSlotsOn_99 : decode b_cr_endSlotsOn 99 = .ok (.iload 4, 2) := by decide +kernel
theorem d_cr_endSlotsOn_101 : decode b_cr_endSlotsOn 101 = .ok (.ireturn, 1) := by decide +kernel
theorem d_cr_conflict_0 : decode b_cr_conflict 0 = .ok (.iload_n 2, 1) := by decide +kernel
theorem d_cr_conflict_1 : decode b_cr_conflict 1 = .ok (.iconst 0, 1) := by decide +kernel
theorem d_cr_conflict_2 : decode b_cr_conflict 2 = .ok (.iconst 3, 1) := by decide +kernel
theorem d_cr_conflict_3 : decode b_cr_conflict 3 = .ok (.invokestatic 56, 3) := by decide +kernel
theorem d_cr_conflict_6 : decode b_cr_conflict 6 = .ok (.ifCond .ne 13, 3) := by decide +kernel
theorem d_cr_conflict_9 : decode b_cr_conflict 9 = .ok (.new 49, 3) := by decide +kernel
theorem d_cr_conflict_12 : decode b_cr_conflict 12 = .ok (.dup, 1) := by decide +kernel
theorem d_cr_conflict_13 : decode b_cr_conflict 13 = .ok (.ldc 159, 2) := by decide +kernel
theorem d_cr_conflict_15 : decode b_cr_conflict 15 = .ok (.invokespecial 53, 3) := by decide +kernel
theorem d_cr_conflict_18 : decode b_cr_conflict 18 = .ok (.athrow, 1) := by decide +kernel
theorem d_cr_conflict_19 : decode b_cr_conflict 19 = .ok (.iload_n 1, 1) := by decide +kernel
theorem d_cr_conflict_20 : decode b_cr_conflict 20 = .ok (.ifCond .lt 12, 3) := by decide +kernel
theorem d_cr_conflict_23 : decode b_cr_conflict 23 = .ok (.iload_n 1, 1) := by decide +kernel
theorem d_cr_conflict_24 : decode b_cr_conflict 24 = .ok (.aload_n 0, 1) := by decide +kernel
theorem d_cr_conflict_25 : decode b_cr_conflict 25 = .ok (.iload_n 1, 1) := by decide +kernel
theorem d_cr_conflict_26 : decode b_cr_conflict 26 = .ok (.invokevirtual 161, 3) := by decide +kernel
theorem d_cr_conflict_29 : decode b_cr_conflict 29 = .ok (.if_icmp .lt 5, 3) := by decide +kernel
theorem d_cr_conflict_32 : decode b_cr_conflict 32 = .ok (.iconst (-1), 1) := by decide +kernel
theorem d_cr_conflict_33 : decode b_cr_conflict 33 = .ok (.ireturn, 1) := by decide +kernel
theorem d_cr_conflict_34 : decode b_cr_conflict 34 = .ok (.aload_n 0, 1) := by decide +kernel
theorem d_cr_conflict_35 : decode b_cr_conflict 35 = .ok (.getfield 34, 3) := by decide +kernel
theorem d_cr_conflict_38 : decode b_cr_conflict 38 = .ok (.iload_n 2, 1) := by decide +kernel
theorem d_cr_conflict_39 : decode b_cr_conflict 39 = .ok (.iaload, 1) := by decide +kernel
theorem d_cr_conflict_40 : decode b_cr_conflict 40 = .ok (.ireturn, 1) := by decide +kernel
theorem d_cr_at_0 : decode b_cr_at 0 = .ok (.aload_n 0, 1) := by decide +kernel
theorem d_cr_at_1 : decode b_cr_at 1 = .ok (.getfield 26, 3) := by decide +kernel
theorem d_cr_at_4 : decode b_cr_at 4 = .ok (.iload_n 1, 1) := by decide +kernel
theorem d_cr_at_5 : decode b_cr_at 5 = .ok (.invokevirtual 134, 3) := by decide +kernel
theorem d_cr_at_8 : decode b_cr_at 8 = .ok (.ifCond .eq 29, 3) := by decide +kernel
theorem d_cr_at_11 : decode b_cr_at 11 = .ok (.iload_n 2, 1) := by decide +kernel
theorem d_cr_at_12 : decode b_cr_at 12 = .ok (.ifCond .lt 25, 3) := by decide +kernel
theorem d_cr_at_15 : decode b_cr_at 15 = .ok (.iload_n 2, 1) := by decide +kernel
theorem d_cr_at_16 : decode b_cr_at 16 = .ok (.aload_n 0, 1) := by decide +kernel
theorem d_cr_at_17 : decode b_cr_at 17 = .ok (.getfield 26, 3) := by decide +kernel
theorem d_cr_at_20 : decode b_cr_at 20 = .ok (.getfield 104, 3) := by decide +kernel
theorem d_cr_at_23 : decode b_cr_at 23 = .ok (.iload_n 1, 1) := by decide +kernel
theorem d_cr_at_24 : decode b_cr_at 24 = .ok (.iaload, 1) := by decide +kernel
theorem d_cr_at_25 : decode b_cr_at 25 = .ok (.if_icmp .ge 12, 3) := by decide +kernel
theorem d_cr_at_28 : decode b_cr_at 28 = .ok (.iload_n 3, 1) := by decide +kernel
theorem d_cr_at_29 : decode b_cr_at 29 = .ok (.iconst 0, 1) := by decide +kernel
theorem d_cr_at_30 : decode b_cr_at 30 = .ok (.iconst 3, 1) := by decide +kernel
theorem d_cr_at_31 : decode b_cr_at 31 = .ok (.invokestatic 56, 3) := by decide +kernel
theorem d_cr_at_34 : decode b_cr_at 34 = .ok (.ifCond .ne 13, 3) := by decide +kernel
theorem d_cr_at_37 : decode b_cr_at 37 = .ok (.new 164, 3) := by decide +kernel
theorem d_cr_at_40 : decode b_cr_at 40 = .ok (.dup, 1) := by decide +kernel
theorem d_cr_at_41 : decode b_cr_at 41 = .ok (.ldc 166, 2) := by decide +kernel
theorem d_cr_at_43 : decode b_cr_at 43 = .ok (.invokespecial 168, 3) := by decide +kernel
theorem d_cr_at_46 : decode b_cr_at 46 = .ok (.athrow, 1) := by decide +kernel
theorem d_cr_at_47 : decode b_cr_at 47 = .ok (.iload_n 3, 1) := by decide +kernel
theorem d_cr_at_48 : decode b_cr_at 48 = .ok (.tableswitch 58 0 2 #[28, 38, 48], 28) := by decide +kernel
theorem d_cr_at_76 : decode b_cr_at 76 = .ok (.aload_n 0, 1) := by decide +kernel
theorem d_cr_at_77 : decode b_cr_at 77 = .ok (.getfield 26, 3) := by decide +kernel
theorem d_cr_at_80 : decode b_cr_at 80 = .ok (.iload_n 1, 1) := by decide +kernel
theorem d_cr_at_81 : decode b_cr_at 81 = .ok (.iload_n 2, 1) := by decide +kernel
theorem d_cr_at_82 : decode b_cr_at 82 = .ok (.invokevirtual 100, 3) := by decide +kernel
theorem d_cr_at_85 : decode b_cr_at 85 = .ok (.ireturn, 1) := by decide +kernel
theorem d_cr_at_86 : decode b_cr_at 86 = .ok (.aload_n 0, 1) := by decide +kernel
theorem d_cr_at_87 : decode b_cr_at 87 = .ok (.getfield 26, 3) := by decide +kernel
theorem d_cr_at_90 : decode b_cr_at 90 = .ok (.iload_n 1, 1) := by decide +kernel
theorem d_cr_at_91 : decode b_cr_at 91 = .ok (.iload_n 2, 1) := by decide +kernel
theorem d_cr_at_92 : decode b_cr_at 92 = .ok (.invokevirtual 169, 3) := by decide +kernel
theorem d_cr_at_95 : decode b_cr_at 95 = .ok (.ireturn, 1) := by decide +kernel
theorem d_cr_at_96 : decode b_cr_at 96 = .ok (.aload_n 0, 1) := by decide +kernel
theorem d_cr_at_97 : decode b_cr_at 97 = .ok (.getfield 26, 3) := by decide +kernel
theorem d_cr_at_100 : decode b_cr_at 100 = .ok (.iload_n 1, 1) := by decide +kernel
theorem d_cr_at_101 : decode b_cr_at 101 = .ok (.iload_n 2, 1) := by decide +kernel
theorem d_cr_at_102 : decode b_cr_at 102 = .ok (.invokevirtual 172, 3) := by decide +kernel
theorem d_cr_at_105 : decode b_cr_at 105 = .ok (.ireturn, 1) := by decide +kernel
theorem d_cr_at_106 : decode b_cr_at 106 = .ok (.aload_n 0, 1) := by decide +kernel
theorem d_cr_at_107 : decode b_cr_at 107 = .ok (.getfield 26, 3) := by decide +kernel
theorem d_cr_at_110 : decode b_cr_at 110 = .ok (.iload_n 1, 1) := by decide +kernel
theorem d_cr_at_111 : decode b_cr_at 111 = .ok (.iload_n 2, 1) := by decide +kernel
theorem d_cr_at_112 : decode b_cr_at 112 = .ok (.invokevirtual 175, 3) := by decide +kernel
theorem d_cr_at_115 : decode b_cr_at 115 = .ok (.ifCond .eq 7, 3) := by decide +kernel
theorem d_cr_at_118 : decode b_cr_at 118 = .ok (.iconst 1, 1) := by decide +kernel
theorem d_cr_at_119 : decode b_cr_at 119 = .ok (.goto 4, 3) := by decide +kernel
theorem d_cr_at_122 : decode b_cr_at 122 = .ok (.iconst 0, 1) := by decide +kernel
theorem d_cr_at_123 : decode b_cr_at 123 = .ok (.ireturn, 1) := by decide +kernel
