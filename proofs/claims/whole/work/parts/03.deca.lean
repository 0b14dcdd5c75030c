theorem d_ps_init_0 : decode b_ps_init 0 = .ok (.aload_n 0, 1) := by decide +kernel
theorem d_ps_init_1 : decode b_ps_init 1 = .ok (.invokespecial 3, 3) := by decide +kernel
theorem d_ps_init_4 : decode b_ps_init 4 = .ok (.aload_n 0, 1) := by decide +kernel
theorem d_ps_init_5 : decode b_ps_init 5 = .ok (.iconst 0, 1) := by decide +kernel
theorem d_ps_init_6 : decode b_ps_init 6 = .ok (.putfield 9, 3) := by decide +kernel
theorem d_ps_init_9 : decode b_ps_init 9 = .ok (.aload_n 0, 1) := by decide +kernel
theorem d_ps_init_10 : decode b_ps_init 10 = .ok (.bipush 31, 2) := by decide +kernel
theorem d_ps_init_12 : decode b_ps_init 12 = .ok (.newarray .boolean, 2) := by decide +kernel
theorem d_ps_init_14 : decode b_ps_init 14 = .ok (.putfield 15, 3) := by decide +kernel
theorem d_ps_init_17 : decode b_ps_init 17 = .ok (.aload_n 0, 1) := by decide +kernel
theorem d_ps_init_18 : decode b_ps_init 18 = .ok (.bipush 31, 2) := by decide +kernel
theorem d_ps_init_20 : decode b_ps_init 20 = .ok (.newarray .int, 2) := by decide +kernel
theorem d_ps_init_22 : decode b_ps_init 22 = .ok (.putfield 19, 3) := by decide +kernel
theorem d_ps_init_25 : decode b_ps_init 25 = .ok (.aload_n 0, 1) := by decide +kernel
theorem d_ps_init_26 : decode b_ps_init 26 = .ok (.bipush 31, 2) := by decide +kernel
theorem d_ps_init_28 : decode b_ps_init 28 = .ok (.newarray .int, 2) := by decide +kernel
theorem d_ps_init_30 : decode b_ps_init 30 = .ok (.putfield 23, 3) := by decide +kernel
theorem d_ps_init_33 : decode b_ps_init 33 = .ok (.aload_n 0, 1) := by decide +kernel
theorem d_ps_init_34 : decode b_ps_init 34 = .ok (.bipush 31, 2) := by decide +kernel
theorem d_ps_init_36 : decode b_ps_init 36 = .ok (.newarray .int, 2) := by decide +kernel
theorem d_ps_init_38 : decode b_ps_init 38 = .ok (.putfield 26, 3) := by decide +kernel
theorem d_ps_init_41 : decode b_ps_init 41 = .ok (.aload_n 0, 1) := by decide +kernel
theorem d_ps_init_42 : decode b_ps_init 42 = .ok (.sipush 217, 3) := by decide +kernel
theorem d_ps_init_45 : decode b_ps_init 45 = .ok (.newarray .int, 2) := by decide +kernel
theorem d_ps_init_47 : decode b_ps_init 47 = .ok (.putfield 29, 3) := by decide +kernel
theorem d_ps_init_50 : decode b_ps_init 50 = .ok (.aload_n 0, 1) := by decide +kernel
theorem d_ps_init_51 : decode b_ps_init 51 = .ok (.sipush 217, 3) := by decide +kernel
theorem d_ps_init_54 : decode b_ps_init 54 = .ok (.newarray .boolean, 2) := by decide +kernel
theorem d_ps_init_56 : decode b_ps_init 56 = .ok (.putfield 32, 3) := by decide +kernel
theorem d_ps_init_59 : decode b_ps_init 59 = .ok (.aload_n 0, 1) := by decide +kernel
theorem d_ps_init_60 : decode b_ps_init 60 = .ok (.sipush 248, 3) := by decide +kernel
theorem d_ps_init_63 : decode b_ps_init 63 = .ok (.newarray .int, 2) := by decide +kernel
theorem d_ps_init_65 : decode b_ps_init 65 = .ok (.putfield 35, 3) := by decide +kernel
theorem d_ps_init_68 : decode b_ps_init 68 = .ok (.aload_n 0, 1) := by decide +kernel
theorem d_ps_init_69 : decode b_ps_init 69 = .ok (.sipush 372, 3) := by decide +kernel
theorem d_ps_init_72 : decode b_ps_init 72 = .ok (.newarray .int, 2) := by decide +kernel
theorem d_ps_init_74 : decode b_ps_init 74 = .ok (.putfield 38, 3) := by decide +kernel
theorem d_ps_init_77 : decode b_ps_init 77 = .ok (.return_, 1) := by decide +kernel
theorem d_ps_hasSlot_0 : decode b_ps_hasSlot 0 = .ok (.iload_n 1, 1) := by decide +kernel
theorem d_ps_hasSlot_1 : decode b_ps_hasSlot 1 = .ok (.iconst 1, 1) := by decide +kernel
theorem d_ps_hasSlot_2 : decode b_ps_hasSlot 2 = .ok (.aload_n 0, 1) := by decide +kernel
theorem d_ps_hasSlot_3 : decode b_ps_hasSlot 3 = .ok (.getfield 9, 3) := by decide +kernel
theorem d_ps_hasSlot_6 : decode b_ps_hasSlot 6 = .ok (.invokestatic 41, 3) := by decide +kernel
theorem d_ps_hasSlot_9 : decode b_ps_hasSlot 9 = .ok (.ireturn, 1) := by decide +kernel
theorem d_ps_givenSlots_0 : decode b_ps_givenSlots 0 = .ok (.iconst 0, 1) := by decide +kernel
theorem d_ps_givenSlots_1 : decode b_ps_givenSlots 1 = .ok (.istore_n 1, 1) := by decide +kernel
theorem d_ps_givenSlots_2 : decode b_ps_givenSlots 2 = .ok (.iconst 1, 1) := by decide +kernel
theorem d_ps_givenSlots_3 : decode b_ps_givenSlots 3 = .ok (.istore_n 2, 1) := by decide +kernel
theorem d_ps_givenSlots_4 : decode b_ps_givenSlots 4 = .ok (.iload_n 2, 1) := by decide +kernel
theorem d_ps_givenSlots_5 : decode b_ps_givenSlots 5 = .ok (.aload_n 0, 1) := by decide +kernel
theorem d_ps_givenSlots_6 : decode b_ps_givenSlots 6 = .ok (.getfield 9, 3) := by decide +kernel
theorem d_ps_givenSlots_9 : decode b_ps_givenSlots 9 = .ok (.if_icmp .gt 21, 3) := by decide +kernel
theorem d_ps_givenSlots_12 : decode b_ps_givenSlots 12 = .ok (.aload_n 0, 1) := by decide +kernel
theorem d_ps_givenSlots_13 : decode b_ps_givenSlots 13 = .ok (.getfield 15, 3) := by decide +kernel
theorem d_ps_givenSlots_16 : decode b_ps_givenSlots 16 = .ok (.iload_n 2, 1) := by decide +kernel
theorem d_ps_givenSlots_17 : decode b_ps_givenSlots 17 = .ok (.baload, 1) := by decide +kernel
theorem d_ps_givenSlots_18 : decode b_ps_givenSlots 18 = .ok (.ifCond .eq 6, 3) := by decide +kernel
theorem d_ps_givenSlots_21 : decode b_ps_givenSlots 21 = .ok (.iinc 1 1, 3) := by decide +kernel
theorem d_ps_givenSlots_24 : decode b_ps_givenSlots 24 = .ok (.iinc 2 1, 3) := by decide +kernel
theorem d_ps_givenSlots_27 : decode b_ps_givenSlots 27 = .ok (.goto (-23), 3) := by decide +kernel
theorem d_ps_givenSlots_30 : decode b_ps_givenSlots 30 = .ok (.iload_n 1, 1) := by decide +kernel
theorem d_ps_givenSlots_31 : decode b_ps_givenSlots 31 = .ok (.ireturn, 1) := by decide +kernel
theorem d_ps_pieceOf_0 : decode b_ps_pieceOf 0 = .ok (.aload_n 0, 1) := by decide +kernel
theorem d_ps_pieceOf_1 : decode b_ps_pieceOf 1 = .ok (.getfield 29, 3) := by decide +kernel
theorem d_ps_pieceOf_4 : decode b_ps_pieceOf 4 = .ok (.iload_n 1, 1) := by decide +kernel
theorem d_ps_pieceOf_5 : decode b_ps_pieceOf 5 = .ok (.bipush 7, 2) := by decide +kernel
theorem d_ps_pieceOf_7 : decode b_ps_pieceOf 7 = .ok (.imul, 1) := by decide +kernel
theorem d_ps_pieceOf_8 : decode b_ps_pieceOf 8 = .ok (.iload_n 2, 1) := by decide +kernel
theorem d_ps_pieceOf_9 : decode b_ps_pieceOf 9 = .ok (.iadd, 1) := by decide +kernel
theorem d_ps_pieceOf_10 : decode b_ps_pieceOf 10 = .ok (.iaload, 1) := by decide +kernel
theorem d_ps_pieceOf_11 : decode b_ps_pieceOf 11 = .ok (.ireturn, 1) := by decide +kernel
theorem d_ps_stayOn_0 : decode b_ps_stayOn 0 = .ok (.aload_n 0, 1) := by decide +kernel
theorem d_ps_stayOn_1 : decode b_ps_stayOn 1 = .ok (.getfield 38, 3) := by decide +kernel
theorem d_ps_stayOn_4 : decode b_ps_stayOn 4 = .ok (.iload_n 1, 1) := by decide +kernel
theorem d_ps_stayOn_5 : decode b_ps_stayOn 5 = .ok (.bipush 12, 2) := by decide +kernel
theorem d_ps_stayOn_7 : decode b_ps_stayOn 7 = .ok (.imul, 1) := by decide +kernel
theorem d_ps_stayOn_8 : decode b_ps_stayOn 8 = .ok (.iload_n 2, 1) := by decide +kernel
theorem d_ps_stayOn_9 : decode b_ps_stayOn 9 = .ok (.iadd, 1) := by decide +kernel
theorem d_ps_stayOn_10 : decode b_ps_stayOn 10 = .ok (.iaload, 1) := by decide +kernel
theorem d_ps_stayOn_11 : decode b_ps_stayOn 11 = .ok (.iconst 1, 1) := by decide +kernel
theorem d_ps_stayOn_12 : decode b_ps_stayOn 12 = .ok (.isub, 1) := by decide +kernel
theorem d_ps_stayOn_13 : decode b_ps_stayOn 13 = .ok (.ireturn, 1) := by decide +kernel
theorem d_ps_entersAt_0 : decode b_ps_entersAt 0 = .ok (.aload_n 0, 1) := by decide +kernel
theorem d_ps_entersAt_1 : decode b_ps_entersAt 1 = .ok (.getfield 23, 3) := by decide +kernel
theorem d_ps_entersAt_4 : decode b_ps_entersAt 4 = .ok (.iload_n 1, 1) := by decide +kernel
theorem d_ps_entersAt_5 : decode b_ps_entersAt 5 = .ok (.iaload, 1) := by decide +kernel
theorem d_ps_entersAt_6 : decode b_ps_entersAt 6 = .ok (.aload_n 0, 1) := by decide +kernel
theorem d_ps_entersAt_7 : decode b_ps_entersAt 7 = .ok (.getfield 35, 3) := by decide +kernel
theorem d_ps_entersAt_10 : decode b_ps_entersAt 10 = .ok (.iload_n 1, 1) := by decide +kernel
theorem d_ps_entersAt_11 : decode b_ps_entersAt 11 = .ok (.bipush 8, 2) := by decide +kernel
theorem d_ps_entersAt_13 : decode b_ps_entersAt 13 = .ok (.imul, 1) := by decide +kernel
theorem d_ps_entersAt_14 : decode b_ps_entersAt 14 = .ok (.iload_n 2, 1) := by decide +kernel
theorem d_ps_entersAt_15 : decode b_ps_entersAt 15 = .ok (.iadd, 1) := by decide +kernel
theorem d_ps_entersAt_16 : decode b_ps_entersAt 16 = .ok (.iaload, 1) := by decide +kernel
theorem d_ps_entersAt_17 : decode b_ps_entersAt 17 = .ok (.iadd, 1) := by decide +kernel
theorem d_ps_entersAt_18 : decode b_ps_entersAt 18 = .ok (.ireturn, 1) := by decide +kernel
theorem d_ps_leavesAt_0 : decode b_ps_leavesAt 0 = .ok (.aload_n 0, 1) := by decide +kernel
theorem d_ps_leavesAt_1 : decode b_ps_leavesAt 1 = .ok (.getfield 23, 3) := by decide +kernel
theorem d_ps_leavesAt_4 : decode b_ps_leavesAt 4 = .ok (.iload_n 1, 1) := by decide +kernel
theorem d_ps_leavesAt_5 : decode b_ps_leavesAt 5 = .ok (.iaload, 1) := by decide +kernel
theorem d_ps_leavesAt_6 : decode b_ps_leavesAt 6 = .ok (.aload_n 0, 1) := by decide +kernel
theorem d_ps_leavesAt_7 : decode b_ps_leavesAt 7 = .ok (.getfield 35, 3) := by decide +kernel
theorem d_ps_leavesAt_10 : decode b_ps_leavesAt 10 = .ok (.iload_n 1, 1) := by decide +kernel
theorem d_ps_leavesAt_11 : decode b_ps_leavesAt 11 = .ok (.bipush 8, 2) := by decide +kernel
theorem d_ps_leavesAt_13 : decode b_ps_leavesAt 13 = .ok (.imul, 1) := by decide +kernel
theorem d_ps_leavesAt_14 : decode b_ps_leavesAt 14 = .ok (.iload_n 2, 1) := by decide +kernel
theorem d_ps_leavesAt_15 : decode b_ps_leavesAt 15 = .ok (.iadd, 1) := by decide +kernel
theorem d_ps_leavesAt_16 : decode b_ps_leavesAt 16 = .ok (.iconst 1, 1) := by decide +kernel
theorem d_ps_leavesAt_17 : decode b_ps_leavesAt 17 = .ok (.iadd, 1) := by decide +kernel
theorem d_ps_leavesAt_18 : decode b_ps_leavesAt 18 = .ok (.iaload, 1) := by decide +kernel
theorem d_ps_leavesAt_19 : decode b_ps_leavesAt 19 = .ok (.iadd, 1) := by decide +kernel
theorem d_ps_leavesAt_20 : decode b_ps_leavesAt 20 = .ok (.ireturn, 1) := by decide +kernel
theorem d_ps_isForward_0 : decode b_ps_isForward 0 = .ok (.aload_n 0, 1) := by decide +kernel
theorem d_ps_isForward_1 : decode b_ps_isForward 1 = .ok (.getfield 32, 3) := by decide +kernel
theorem d_ps_isForward_4 : decode b_ps_isForward 4 = .ok (.iload_n 1, 1) := by decide +kernel
theorem d_ps_isForward_5 : decode b_ps_isForward 5 = .ok (.bipush 7, 2) := by decide +kernel
theorem d_ps_isForward_7 : decode b_ps_isForward 7 = .ok (.imul, 1) := by decide +kernel
theorem d_ps_isForward_8 : decode b_ps_isForward 8 = .ok (.iload_n 2, 1) := by decide +kernel
theorem d_ps_isForward_9 : decode b_ps_isForward 9 = .ok (.iadd, 1) := by decide +kernel
theorem d_ps_isForward_10 : decode b_ps_isForward 10 = .ok (.baload, 1) := by decide +kernel
theorem d_ps_isForward_11 : decode b_ps_isForward 11 = .ok (.ireturn, 1) := by decide +kernel
theorem d_ps_isOvertaking_0 : decode b_ps_isOvertaking 0 = .ok (.aload_n 0, 1) := by decide +kernel
theorem d_ps_isOvertaking_1 : decode b_ps_isOvertaking 1 = .ok (.iload_n 1, 1) := by decide +kernel
theorem d_ps_isOvertaking_2 : decode b_ps_isOvertaking 2 = .ok (.iload_n 2, 1) := by decide +kernel
theorem d_ps_isOvertaking_3 : decode b_ps_isOvertaking 3 = .ok (.invokevirtual 45, 3) := by decide +kernel
theorem d_ps_isOvertaking_6 : decode b_ps_isOvertaking 6 = .ok (.aload_n 0, 1) := by decide +kernel
theorem d_ps_isOvertaking_7 : decode b_ps_isOvertaking 7 = .ok (.iload_n 3, 1) := by decide +kernel
theorem d_ps_isOvertaking_8 : decode b_ps_isOvertaking 8 = .ok (.iload 4, 2) := by decide +kernel
theorem d_ps_isOvertaking_10 : decode b_ps_isOvertaking 10 = .ok (.invokevirtual 45, 3) := by decide +kernel
theorem d_ps_isOvertaking_13 : decode b_ps_isOvertaking 13 = .ok (.isub, 1) := by decide +kernel
theorem d_ps_isOvertaking_14 : decode b_ps_isOvertaking 14 = .ok (.istore 5, 2) := by decide +kernel
theorem d_ps_isOvertaking_16 : decode b_ps_isOvertaking 16 = .ok (.aload_n 0, 1) := by decide +kernel
theorem d_ps_isOvertaking_17 : decode b_ps_isOvertaking 17 = .ok (.iload_n 1, 1) := by decide +kernel
theorem d_ps_isOvertaking_18 : decode b_ps_isOvertaking 18 = .ok (.iload_n 2, 1) := by decide +kernel
theorem d_ps_isOvertaking_19 : decode b_ps_isOvertaking 19 = .ok (.invokevirtual 49, 3) := by decide +kernel
theorem d_ps_isOvertaking_22 : decode b_ps_isOvertaking 22 = .ok (.aload_n 0, 1) := by decide +kernel
theorem d_ps_isOvertaking_23 : decode b_ps_isOvertaking 23 = .ok (.iload_n 3, 1) := by decide +kernel
theorem d_ps_isOvertaking_24 : decode b_ps_isOvertaking 24 = .ok (.iload 4, 2) := by decide +kernel
theorem d_ps_isOvertaking_26 : decode b_ps_isOvertaking 26 = .ok (.invokevirtual 49, 3) := by decide +kernel
theorem d_ps_isOvertaking_29 : decode b_ps_isOvertaking 29 = .ok (.isub, 1) := by decide +kernel
theorem d_ps_isOvertaking_30 : decode b_ps_isOvertaking 30 = .ok (.istore 6, 2) := by decide +kernel
theorem d_ps_isOvertaking_32 : decode b_ps_isOvertaking 32 = .ok (.iload 5, 2) := by decide +kernel
theorem d_ps_isOvertaking_34 : decode b_ps_isOvertaking 34 = .ok (.ifCond .ge 12, 3) := by decide +kernel
theorem d_ps_isOvertaking_37 : decode b_ps_isOvertaking 37 = .ok (.iload 6, 2) := by decide +kernel
theorem d_ps_isOvertaking_39 : decode b_ps_isOvertaking 39 = .ok (.ifCond .ge 7, 3) := by decide +kernel
theorem d_ps_isOvertaking_42 : decode b_ps_isOvertaking 42 = .ok (.iconst 1, 1) := by decide +kernel
theorem d_ps_isOvertaking_43 : decode b_ps_isOvertaking 43 = .ok (.goto 4, 3) := by decide +kernel
theorem d_ps_isOvertaking_46 : decode b_ps_isOvertaking 46 = .ok (.iconst 0, 1) := by decide +kernel
theorem d_ps_isOvertaking_47 : decode b_ps_isOvertaking 47 = .ok (.istore 7, 2) := by decide +kernel
theorem d_ps_isOvertaking_49 : decode b_ps_isOvertaking 49 = .ok (.iload 5, 2) := by decide +kernel
theorem d_ps_isOvertaking_51 : decode b_ps_isOvertaking 51 = .ok (.ifCond .le 12, 3) := by decide +kernel
theorem d_ps_isOvertaking_54 : decode b_ps_isOvertaking 54 = .ok (.iload 6, 2) := by decide +kernel
theorem d_ps_isOvertaking_56 : decode b_ps_isOvertaking 56 = .ok (.ifCond .le 7, 3) := by decide +kernel
theorem d_ps_isOvertaking_59 : decode b_ps_isOvertaking 59 = .ok (.iconst 1, 1) := by decide +kernel
theorem d_ps_isOvertaking_60 : decode b_ps_isOvertaking 60 = .ok (.goto 4, 3) := by decide +kernel
theorem d_ps_isOvertaking_63 : decode b_ps_isOvertaking 63 = .ok (.iconst 0, 1) := by decide +kernel
theorem d_ps_isOvertaking_64 : decode b_ps_isOvertaking 64 = .ok (.istore 8, 2) := by decide +kernel
theorem d_ps_isOvertaking_66 : decode b_ps_isOvertaking 66 = .ok (.iload 7, 2) := by decide +kernel
theorem d_ps_isOvertaking_68 : decode b_ps_isOvertaking 68 = .ok (.ifCond .ne 12, 3) := by decide +kernel
theorem d_ps_isOvertaking_71 : decode b_ps_isOvertaking 71 = .ok (.iload 8, 2) := by decide +kernel
theorem d_ps_isOvertaking_73 : decode b_ps_isOvertaking 73 = .ok (.ifCond .ne 7, 3) := by decide +kernel
theorem d_ps_isOvertaking_76 : decode b_ps_isOvertaking 76 = .ok (.iconst 1, 1) := by decide +kernel
theorem d_ps_isOvertaking_77 : decode b_ps_isOvertaking 77 = .ok (.goto 4, 3) := by decide +kernel
theorem d_ps_isOvertaking_80 : decode b_ps_isOvertaking 80 = .ok (.iconst 0, 1) := by decide +kernel
theorem d_ps_isOvertaking_81 : decode b_ps_isOvertaking 81 = .ok (.ireturn, 1) := by decide +kernel
theorem d_ps_startPlan_0 : decode b_ps_startPlan 0 = .ok (.aload_n 0, 1) := by decide +kernel
theorem d_ps_startPlan_1 : decode b_ps_startPlan 1 = .ok (.getfield 19, 3) := by decide +kernel
theorem d_ps_startPlan_4 : decode b_ps_startPlan 4 = .ok (.iconst 0, 1) := by decide +kernel
theorem d_ps_startPlan_5 : decode b_ps_startPlan 5 = .ok (.iload_n 1, 1) := by decide +kernel
theorem d_ps_startPlan_6 : decode b_ps_startPlan 6 = .ok (.iastore, 1) := by decide +kernel
theorem d_ps_startPlan_7 : decode b_ps_startPlan 7 = .ok (.aload_n 0, 1) := by decide +kernel
theorem d_ps_startPlan_8 : decode b_ps_startPlan 8 = .ok (.getfield 23, 3) := by decide +kernel
theorem d_ps_startPlan_11 : decode b_ps_startPlan 11 = .ok (.iconst 0, 1) := by decide +kernel
theorem d_ps_startPlan_12 : decode b_ps_startPlan 12 = .ok (.iconst 0, 1) := by decide +kernel
theorem d_ps_startPlan_13 : decode b_ps_startPlan 13 = .ok (.iastore, 1) := by decide +kernel
theorem d_ps_startPlan_14 : decode b_ps_startPlan 14 = .ok (.aload_n 0, 1) := by decide +kernel
theorem d_ps_startPlan_15 : decode b_ps_startPlan 15 = .ok (.getfield 26, 3) := by decide +kernel
theorem d_ps_startPlan_18 : decode b_ps_startPlan 18 = .ok (.iconst 0, 1) := by decide +kernel
theorem d_ps_startPlan_19 : decode b_ps_startPlan 19 = .ok (.iconst 0, 1) := by decide +kernel
theorem d_ps_startPlan_20 : decode b_ps_startPlan 20 = .ok (.iastore, 1) := by decide +kernel
theorem d_ps_startPlan_21 : decode b_ps_startPlan 21 = .ok (.iconst 0, 1) := by decide +kernel
theorem d_ps_startPlan_22 : decode b_ps_startPlan 22 = .ok (.istore_n 2, 1) := by decide +kernel
theorem d_ps_startPlan_23 : decode b_ps_startPlan 23 = .ok (.iload_n 2, 1) := by decide +kernel
theorem d_ps_startPlan_24 : decode b_ps_startPlan 24 = .ok (.bipush 12, 2) := by decide +kernel
theorem d_ps_startPlan_26 : decode b_ps_startPlan 26 = .ok (.if_icmp .ge 18, 3) := by decide +kernel
theorem d_ps_startPlan_29 : decode b_ps_startPlan 29 = .ok (.aload_n 0, 1) := by decide +kernel
theorem d_ps_startPlan_30 : decode b_ps_startPlan 30 = .ok (.getfield 38, 3) := by decide +kernel
theorem d_ps_startPlan_33 : decode b_ps_startPlan 33 = .ok (.iconst 0, 1) := by decide +kernel
theorem d_ps_startPlan_34 : decode b_ps_startPlan 34 = .ok (.iload_n 2, 1) := by decide +kernel
theorem d_ps_startPlan_35 : decode b_ps_startPlan 35 = .ok (.iadd, 1) := by decide +kernel
theorem d_ps_startPlan_36 : decode b_ps_startPlan 36 = .ok (.iconst 0, 1) := by decide +kernel
theorem d_ps_startPlan_37 : decode b_ps_startPlan 37 = .ok (.iastore, 1) := by decide +kernel
theorem d_ps_startPlan_38 : decode b_ps_startPlan 38 = .ok (.iinc 2 1, 3) := by decide +kernel
theorem d_ps_startPlan_41 : decode b_ps_startPlan 41 = .ok (.goto (-18), 3) := by decide +kernel
theorem d_ps_startPlan_44 : decode b_ps_startPlan 44 = .ok (.return_, 1) := by decide +kernel
theorem d_ps_addStay_0 : decode b_ps_addStay 0 = .ok (.aload_n 0, 1) := by decide +kernel
theorem d_ps_addStay_1 : decode b_ps_addStay 1 = .ok (.getfield 26, 3) := by decide +kernel
theorem d_ps_addStay_4 : decode b_ps_addStay 4 = .ok (.iconst 0, 1) := by decide +kernel
theorem d_ps_addStay_5 : decode b_ps_addStay 5 = .ok (.iaload, 1) := by decide +kernel
theorem d_ps_addStay_6 : decode b_ps_addStay 6 = .ok (.istore 4, 2) := by decide +kernel
theorem d_ps_addStay_8 : decode b_ps_addStay 8 = .ok (.aload_n 0, 1) := by decide +kernel
theorem d_ps_addStay_9 : decode b_ps_addStay 9 = .ok (.getfield 29, 3) := by decide +kernel
theorem d_ps_addStay_12 : decode b_ps_addStay 12 = .ok (.iconst 0, 1) := by decide +kernel
theorem d_ps_addStay_13 : decode b_ps_addStay 13 = .ok (.iload 4, 2) := by decide +kernel
theorem d_ps_addStay_15 : decode b_ps_addStay 15 = .ok (.iadd, 1) := by decide +kernel
theorem d_ps_addStay_16 : decode b_ps_addStay 16 = .ok (.iload_n 1, 1) := by decide +kernel
theorem d_ps_addStay_17 : decode b_ps_addStay 17 = .ok (.iastore, 1) := by decide +kernel
theorem d_ps_addStay_18 : decode b_ps_addStay 18 = .ok (.aload_n 0, 1) := by decide +kernel
theorem d_ps_addStay_19 : decode b_ps_addStay 19 = .ok (.getfield 32, 3) := by decide +kernel
theorem d_ps_addStay_22 : decode b_ps_addStay 22 = .ok (.iconst 0, 1) := by decide +kernel
theorem d_ps_addStay_23 : decode b_ps_addStay 23 = .ok (.iload 4, 2) := by decide +kernel
theorem d_ps_addStay_25 : decode b_ps_addStay 25 = .ok (.iadd, 1) := by decide +kernel
theorem d_ps_addStay_26 : decode b_ps_addStay 26 = .ok (.iload_n 2, 1) := by decide +kernel
theorem d_ps_addStay_27 : decode b_ps_addStay 27 = .ok (.bastore, 1) := by decide +kernel
theorem d_ps_addStay_28 : decode b_ps_addStay 28 = .ok (.aload_n 0, 1) := by decide +kernel
theorem d_ps_addStay_29 : decode b_ps_addStay 29 = .ok (.getfield 35, 3) := by decide +kernel
theorem d_ps_addStay_32 : decode b_ps_addStay 32 = .ok (.iconst 0, 1) := by decide +kernel
theorem d_ps_addStay_33 : decode b_ps_addStay 33 = .ok (.iload 4, 2) := by decide +kernel
theorem d_ps_addStay_35 : decode b_ps_addStay 35 = .ok (.iadd, 1) := by decide +kernel
theorem d_ps_addStay_36 : decode b_ps_addStay 36 = .ok (.iconst 1, 1) := by decide +kernel
theorem d_ps_addStay_37 : decode b_ps_addStay 37 = .ok (.iadd, 1) := by decide +kernel
theorem d_ps_addStay_38 : decode b_ps_addStay 38 = .ok (.aload_n 0, 1) := by decide +kernel
theorem d_ps_addStay_39 : decode b_ps_addStay 39 = .ok (.getfield 35, 3) := by decide +kernel
theorem d_ps_addStay_42 : decode b_ps_addStay 42 = .ok (.iconst 0, 1) := by decide +kernel
theorem d_ps_addStay_43 : decode b_ps_addStay 43 = .ok (.iload 4, 2) := by decide +kernel
theorem d_ps_addStay_45 : decode b_ps_addStay 45 = .ok (.iadd, 1) := by decide +kernel
theorem d_ps_addStay_46 : decode b_ps_addStay 46 = .ok (.iaload, 1) := by decide +kernel
theorem d_ps_addStay_47 : decode b_ps_addStay 47 = .ok (.iload_n 3, 1) := by decide +kernel
theorem d_ps_addStay_48 : decode b_ps_addStay 48 = .ok (.iadd, 1) := by decide +kernel
theorem d_ps_addStay_49 : decode b_ps_addStay 49 = .ok (.iastore, 1) := by decide +kernel
theorem d_ps_addStay_50 : decode b_ps_addStay 50 = .ok (.aload_n 0, 1) := by decide +kernel
theorem d_ps_addStay_51 : decode b_ps_addStay 51 = .ok (.getfield 38, 3) := by decide +kernel
theorem d_ps_addStay_54 : decode b_ps_addStay 54 = .ok (.iconst 0, 1) := by decide +kernel
theorem d_ps_addStay_55 : decode b_ps_addStay 55 = .ok (.iload_n 1, 1) := by decide +kernel
theorem d_ps_addStay_56 : decode b_ps_addStay 56 = .ok (.iadd, 1) := by decide +kernel
theorem d_ps_addStay_57 : decode b_ps_addStay 57 = .ok (.iload 4, 2) := by decide +kernel
theorem d_ps_addStay_59 : decode b_ps_addStay 59 = .ok (.iconst 1, 1) := by decide +kernel
theorem d_ps_addStay_60 : decode b_ps_addStay 60 = .ok (.iadd, 1) := by decide +kernel
theorem d_ps_addStay_61 : decode b_ps_addStay 61 = .ok (.iastore, 1) := by decide +kernel
theorem d_ps_addStay_62 : decode b_ps_addStay 62 = .ok (.aload_n 0, 1) := by decide +kernel
theorem d_ps_addStay_63 : decode b_ps_addStay 63 = .ok (.getfield 26, 3) := by decide +kernel
theorem d_ps_addStay_66 : decode b_ps_addStay 66 = .ok (.iconst 0, 1) := by decide +kernel
theorem d_ps_addStay_67 : decode b_ps_addStay 67 = .ok (.dup2, 1) := by decide +kernel
theorem d_ps_addStay_68 : decode b_ps_addStay 68 = .ok (.iaload, 1) := by decide +kernel
theorem d_ps_addStay_69 : decode b_ps_addStay 69 = .ok (.iconst 1, 1) := by decide +kernel
theorem d_ps_addStay_70 : decode b_ps_addStay 70 = .ok (.iadd, 1) := by decide +kernel
theorem d_ps_addStay_71 : decode b_ps_addStay 71 = .ok (.iastore, 1) := by decide +kernel
theorem d_ps_addStay_72 : decode b_ps_addStay 72 = .ok (.return_, 1) := by decide +kernel
theorem d_ps_giveSlot_0 : decode b_ps_giveSlot 0 = .ok (.aload_n 0, 1) := by decide +kernel
theorem d_ps_giveSlot_1 : decode b_ps_giveSlot 1 = .ok (.dup, 1) := by decide +kernel
theorem d_ps_giveSlot_2 : decode b_ps_giveSlot 2 = .ok (.getfield 9, 3) := by decide +kernel
theorem d_ps_giveSlot_5 : decode b_ps_giveSlot 5 = .ok (.iconst 1, 1) := by decide +kernel
theorem d_ps_giveSlot_6 : decode b_ps_giveSlot 6 = .ok (.iadd, 1) := by decide +kernel
theorem d_ps_giveSlot_7 : decode b_ps_giveSlot 7 = .ok (.putfield 9, 3) := by decide +kernel
theorem d_ps_giveSlot_10 : decode b_ps_giveSlot 10 = .ok (.aload_n 0, 1) := by decide +kernel
theorem d_ps_giveSlot_11 : decode b_ps_giveSlot 11 = .ok (.getfield 9, 3) := by decide +kernel
theorem d_ps_giveSlot_14 : decode b_ps_giveSlot 14 = .ok (.istore_n 1, 1) := by decide +kernel
theorem d_ps_giveSlot_15 : decode b_ps_giveSlot 15 = .ok (.aload_n 0, 1) := by decide +kernel
theorem d_ps_giveSlot_16 : decode b_ps_giveSlot 16 = .ok (.getfield 15, 3) := by decide +kernel
theorem d_ps_giveSlot_19 : decode b_ps_giveSlot 19 = .ok (.iload_n 1, 1) := by decide +kernel
theorem d_ps_giveSlot_20 : decode b_ps_giveSlot 20 = .ok (.iconst 1, 1) := by decide +kernel
theorem d_ps_giveSlot_21 : decode b_ps_giveSlot 21 = .ok (.bastore, 1) := by decide +kernel
theorem d_ps_giveSlot_22 : decode b_ps_giveSlot 22 = .ok (.aload_n 0, 1) := by decide +kernel
theorem d_ps_giveSlot_23 : decode b_ps_giveSlot 23 = .ok (.getfield 19, 3) := by decide +kernel
theorem d_ps_giveSlot_26 : decode b_ps_giveSlot 26 = .ok (.iload_n 1, 1) := by decide +kernel
theorem d_ps_giveSlot_27 : decode b_ps_giveSlot 27 = .ok (.aload_n 0, 1) := by decide +kernel
theorem d_ps_giveSlot_28 : decode b_ps_giveSlot 28 = .ok (.getfield 19, 3) := by decide +kernel
theorem d_ps_giveSlot_31 : decode b_ps_giveSlot 31 = .ok (.iconst 0, 1) := by decide +kernel
theorem d_ps_giveSlot_32 : decode b_ps_giveSlot 32 = .ok (.iaload, 1) := by decide +kernel
theorem d_ps_giveSlot_33 : decode b_ps_giveSlot 33 = .ok (.iastore, 1) := by decide +kernel
theorem d_ps_giveSlot_34 : decode b_ps_giveSlot 34 = .ok (.aload_n 0, 1) := by decide +kernel
theorem d_ps_giveSlot_35 : decode b_ps_giveSlot 35 = .ok (.getfield 23, 3) := by decide +kernel
theorem d_ps_giveSlot_38 : decode b_ps_giveSlot 38 = .ok (.iload_n 1, 1) := by decide +kernel
theorem d_ps_giveSlot_39 : decode b_ps_giveSlot 39 = .ok (.aload_n 0, 1) := by decide +kernel
theorem d_ps_giveSlot_40 : decode b_ps_giveSlot 40 = .ok (.getfield 23, 3) := by decide +kernel
theorem d_ps_giveSlot_43 : decode b_ps_giveSlot 43 = .ok (.iconst 0, 1) := by decide +kernel
theorem d_ps_giveSlot_44 : decode b_ps_giveSlot 44 = .ok (.iaload, 1) := by decide +kernel
theorem d_ps_giveSlot_45 : decode b_ps_giveSlot 45 = .ok (.iastore, 1) := by decide +kernel
theorem d_ps_giveSlot_46 : decode b_ps_giveSlot 46 = .ok (.aload_n 0, 1) := by decide +kernel
theorem d_ps_giveSlot_47 : decode b_ps_giveSlot 47 = .ok (.getfield 26, 3) := by decide +kernel
theorem d_ps_giveSlot_50 : decode b_ps_giveSlot 50 = .ok (.iload_n 1, 1) := by decide +kernel
theorem d_ps_giveSlot_51 : decode b_ps_giveSlot 51 = .ok (.aload_n 0, 1) := by decide +kernel
theorem d_ps_giveSlot_52 : decode b_ps_giveSlot 52 = .ok (.getfield 26, 3) := by decide +kernel
theorem d_ps_giveSlot_55 : decode b_ps_giveSlot 55 = .ok (.iconst 0, 1) := by decide +kernel
theorem d_ps_giveSlot_56 : decode b_ps_giveSlot 56 = .ok (.iaload, 1) := by decide +kernel
theorem d_ps_giveSlot_57 : decode b_ps_giveSlot 57 = .ok (.iastore, 1) := by decide +kernel
theorem d_ps_giveSlot_58 : decode b_ps_giveSlot 58 = .ok (.iconst 0, 1) := by decide +kernel
theorem d_ps_giveSlot_59 : decode b_ps_giveSlot 59 = .ok (.istore_n 2, 1) := by decide +kernel
theorem d_ps_giveSlot_60 : decode b_ps_giveSlot 60 = .ok (.iload_n 2, 1) := by decide +kernel
theorem d_ps_giveSlot_61 : decode b_ps_giveSlot 61 = .ok (.aload_n 0, 1) := by decide +kernel
theorem d_ps_giveSlot_62 : decode b_ps_giveSlot 62 = .ok (.getfield 26, 3) := by decide +kernel
theorem d_ps_giveSlot_65 : decode b_ps_giveSlot 65 = .ok (.iconst 0, 1) := by decide +kernel
theorem d_ps_giveSlot_66 : decode b_ps_giveSlot 66 = .ok (.iaload, 1) := by decide +kernel
theorem d_ps_giveSlot_67 : decode b_ps_giveSlot 67 = .ok (.if_icmp .ge 66, 3) := by decide +kernel
theorem d_ps_giveSlot_70 : decode b_ps_giveSlot 70 = .ok (.aload_n 0, 1) := by decide +kernel
theorem d_ps_giveSlot_71 : decode b_ps_giveSlot 71 = .ok (.getfield 29, 3) := by decide +kernel
theorem d_ps_giveSlot_74 : decode b_ps_giveSlot 74 = .ok (.iload_n 1, 1) := by decide +kernel
theorem d_ps_giveSlot_75 : decode b_ps_giveSlot 75 = .ok (.bipush 7, 2) := by decide +kernel
theorem d_ps_giveSlot_77 : decode b_ps_giveSlot 77 = .ok (.imul, 1) := by decide +kernel
theorem d_ps_giveSlot_78 : decode b_ps_giveSlot 78 = .ok (.iload_n 2, 1) := by decide +kernel
theorem d_ps_giveSlot_79 : decode b_ps_giveSlot 79 = .ok (.iadd, 1) := by decide +kernel
theorem d_ps_giveSlot_80 : decode b_ps_giveSlot 80 = .ok (.aload_n 0, 1) := by decide +kernel
theorem d_ps_giveSlot_81 : decode b_ps_giveSlot 81 = .ok (.iconst 0, 1) := by decide +kernel
theorem d_ps_giveSlot_82 : decode b_ps_giveSlot 82 = .ok (.iload_n 2, 1) := by decide +kernel
theorem d_ps_giveSlot_83 : decode b_ps_giveSlot 83 = .ok (.invokevirtual 52, 3) := by decide +kernel
theorem d_ps_giveSlot_86 : decode b_ps_giveSlot 86 = .ok (.iastore, 1) := by decide +kernel
theorem d_ps_giveSlot_87 : decode b_ps_giveSlot 87 = .ok (.aload_n 0, 1) := by decide +kernel
theorem d_ps_giveSlot_88 : decode b_ps_giveSlot 88 = .ok (.getfield 32, 3) := by decide +kernel
theorem d_ps_giveSlot_91 : decode b_ps_giveSlot 91 = .ok (.iload_n 1, 1) := by decide +kernel
theorem d_ps_giveSlot_92 : decode b_ps_giveSlot 92 = .ok (.bipush 7, 2) := by decide +kernel
theorem d_ps_giveSlot_94 : decode b_ps_giveSlot 94 = .ok (.imul, 1) := by decide +kernel
theorem d_ps_giveSlot_95 : decode b_ps_giveSlot 95 = .ok (.iload_n 2, 1) := by decide +kernel
theorem d_ps_giveSlot_96 : decode b_ps_giveSlot 96 = .ok (.iadd, 1) := by decide +kernel
theorem d_ps_giveSlot_97 : decode b_ps_giveSlot 97 = .ok (.aload_n 0, 1) := by decide +kernel
theorem d_ps_giveSlot_98 : decode b_ps_giveSlot 98 = .ok (.iconst 0, 1) := by decide +kernel
theorem d_ps_giveSlot_99 : decode b_ps_giveSlot 99 = .ok (.iload_n 2, 1) := by decide +kernel
theorem d_ps_giveSlot_100 : decode b_ps_giveSlot 100 = .ok (.invokevirtual 55, 3) := by decide +kernel
theorem d_ps_giveSlot_103 : decode b_ps_giveSlot 103 = .ok (.bastore, 1) := by decide +kernel
theorem d_ps_giveSlot_104 : decode b_ps_giveSlot 104 = .ok (.aload_n 0, 1) := by decide +kernel
theorem d_ps_giveSlot_105 : decode b_ps_giveSlot 105 = .ok (.getfield 35, 3) := by decide +kernel
theorem d_ps_giveSlot_108 : decode b_ps_giveSlot 108 = .ok (.iload_n 1, 1) := by decide +kernel
theorem d_ps_giveSlot_109 : decode b_ps_giveSlot 109 = .ok (.bipush 8, 2) := by decide +kernel
theorem d_ps_giveSlot_111 : decode b_ps_giveSlot 111 = .ok (.imul, 1) := by decide +kernel
theorem d_ps_giveSlot_112 : decode b_ps_giveSlot 112 = .ok (.iload_n 2, 1) := by decide +kernel
theorem d_ps_giveSlot_113 : decode b_ps_giveSlot 113 = .ok (.iadd, 1) := by decide +kernel
theorem d_ps_giveSlot_114 : decode b_ps_giveSlot 114 = .ok (.iconst 1, 1) := by decide +kernel
theorem d_ps_giveSlot_115 : decode b_ps_giveSlot 115 = .ok (.iadd, 1) := by decide +kernel
theorem d_ps_giveSlot_116 : decode b_ps_giveSlot 116 = .ok (.aload_n 0, 1) := by decide +kernel
theorem d_ps_giveSlot_117 : decode b_ps_giveSlot 117 = .ok (.getfield 35, 3) := by decide +kernel
theorem d_ps_giveSlot_120 : decode b_ps_giveSlot 120 = .ok (.iconst 0, 1) := by decide +kernel
theorem d_ps_giveSlot_121 : decode b_ps_giveSlot 121 = .ok (.iload_n 2, 1) := by decide +kernel
theorem d_ps_giveSlot_122 : decode b_ps_giveSlot 122 = .ok (.iadd, 1) := by decide +kernel
theorem d_ps_giveSlot_123 : decode b_ps_giveSlot 123 = .ok (.iconst 1, 1) := by decide +kernel
theorem d_ps_giveSlot_124 : decode b_ps_giveSlot 124 = .ok (.iadd, 1) := by decide +kernel
theorem d_ps_giveSlot_125 : decode b_ps_giveSlot 125 = .ok (.iaload, 1) := by decide +kernel
theorem d_ps_giveSlot_126 : decode b_ps_giveSlot 126 = .ok (.iastore, 1) := by decide +kernel
theorem d_ps_giveSlot_127 : decode b_ps_giveSlot 127 = .ok (.iinc 2 1, 3) := by decide +kernel
theorem d_ps_giveSlot_130 : decode b_ps_giveSlot 130 = .ok (.goto (-70), 3) := by decide +kernel
theorem d_ps_giveSlot_133 : decode b_ps_giveSlot 133 = .ok (.iconst 0, 1) := by decide +kernel
theorem d_ps_giveSlot_134 : decode b_ps_giveSlot 134 = .ok (.istore_n 2, 1) := by decide +kernel
theorem d_ps_giveSlot_135 : decode b_ps_giveSlot 135 = .ok (.iload_n 2, 1) := by decide +kernel
theorem d_ps_giveSlot_136 : decode b_ps_giveSlot 136 = .ok (.bipush 12, 2) := by decide +kernel
theorem d_ps_giveSlot_138 : decode b_ps_giveSlot 138 = .ok (.if_icmp .ge 28, 3) := by decide +kernel
theorem d_ps_giveSlot_141 : decode b_ps_giveSlot 141 = .ok (.aload_n 0, 1) := by decide +kernel
theorem d_ps_giveSlot_142 : decode b_ps_giveSlot 142 = .ok (.getfield 38, 3) := by decide +kernel
theorem d_ps_giveSlot_145 : decode b_ps_giveSlot 145 = .ok (.iload_n 1, 1) := by decide +kernel
theorem d_ps_giveSlot_146 : decode b_ps_giveSlot 146 = .ok (.bipush 12, 2) := by decide +kernel
theorem d_ps_giveSlot_148 : decode b_ps_giveSlot 148 = .ok (.imul, 1) := by decide +kernel
theorem d_ps_giveSlot_149 : decode b_ps_giveSlot 149 = .ok (.iload_n 2, 1) := by decide +kernel
theorem d_ps_giveSlot_150 : decode b_ps_giveSlot 150 = .ok (.iadd, 1) := by decide +kernel
theorem d_ps_giveSlot_151 : decode b_ps_giveSlot 151 = .ok (.aload_n 0, 1) := by decide +kernel
theorem d_ps_giveSlot_152 : decode b_ps_giveSlot 152 = .ok (.getfield 38, 3) := by decide +kernel
theorem d_ps_giveSlot_155 : decode b_ps_giveSlot 155 = .ok (.iconst 0, 1) := by decide +kernel
theorem d_ps_giveSlot_156 : decode b_ps_giveSlot 156 = .ok (.iload_n 2, 1) := by decide +kernel
theorem d_ps_giveSlot_157 : decode b_ps_giveSlot 157 = .ok (.iadd, 1) := by decide +kernel
theorem d_ps_giveSlot_158 : decode b_ps_giveSlot 158 = .ok (.iaload, 1) := by decide +kernel
theorem d_ps_giveSlot_159 : decode b_ps_giveSlot 159 = .ok (.iastore, 1) := by decide +kernel
theorem d_ps_giveSlot_160 : decode b_ps_giveSlot 160 = .ok (.iinc 2 1, 3) := by decide +kernel
theorem d_ps_giveSlot_163 : decode b_ps_giveSlot 163 = .ok (.goto (-28), 3) := by decide +kernel
theorem d_ps_giveSlot_166 : decode b_ps_giveSlot 166 = .ok (.iload_n 1, 1) := by decide +kernel
theorem d_ps_giveSlot_167 : decode b_ps_giveSlot 167 = .ok (.ireturn, 1) := by decide +kernel
theorem d_pc_init_0 : decode b_pc_init 0 = .ok (.aload_n 0, 1) := by decide +kernel
theorem d_pc_init_1 : decode b_pc_init 1 = .ok (.invokespecial 3, 3) := by decide +kernel
theorem d_pc_init_4 : decode b_pc_init 4 = .ok (.aload_n 0, 1) := by decide +kernel
theorem d_pc_init_5 : decode b_pc_init 5 = .ok (.iconst 0, 1) := by decide +kernel
theorem d_pc_init_6 : decode b_pc_init 6 = .ok (.putfield 9, 3) := by decide +kernel
theorem d_pc_init_9 : decode b_pc_init 9 = .ok (.aload_n 0, 1) := by decide +kernel
theorem d_pc_init_10 : decode b_pc_init 10 = .ok (.bipush 12, 2) := by decide +kernel
theorem d_pc_init_12 : decode b_pc_init 12 = .ok (.newarray .int, 2) := by decide +kernel
theorem d_pc_init_14 : decode b_pc_init 14 = .ok (.putfield 15, 3) := by decide +kernel
theorem d_pc_init_17 : decode b_pc_init 17 = .ok (.aload_n 0, 1) := by decide +kernel
theorem d_pc_init_18 : decode b_pc_init 18 = .ok (.bipush 12, 2) := by decide +kernel
theorem d_pc_init_20 : decode b_pc_init 20 = .ok (.newarray .int, 2) := by decide +kernel
theorem d_pc_init_22 : decode b_pc_init 22 = .ok (.putfield 19, 3) := by decide +kernel
theorem d_pc_init_25 : decode b_pc_init 25 = .ok (.aload_n 0, 1) := by decide +kernel
theorem d_pc_init_26 : decode b_pc_init 26 = .ok (.bipush 12, 2) := by decide +kernel
theorem d_pc_init_28 : decode b_pc_init 28 = .ok (.newarray .int, 2) := by decide +kernel
theorem d_pc_init_30 : decode b_pc_init 30 = .ok (.putfield 22, 3) := by decide +kernel
theorem d_pc_init_33 : decode b_pc_init 33 = .ok (.aload_n 0, 1) := by decide +kernel
theorem d_pc_init_34 : decode b_pc_init 34 = .ok (.bipush 12, 2) := by decide +kernel
theorem d_pc_init_36 : decode b_pc_init 36 = .ok (.newarray .int, 2) := by decide +kernel
theorem d_pc_init_38 : decode b_pc_init 38 = .ok (.putfield 25, 3) := by decide +kernel
theorem d_pc_init_41 : decode b_pc_init 41 = .ok (.aload_n 0, 1) := by decide +kernel
theorem d_pc_init_42 : decode b_pc_init 42 = .ok (.bipush 60, 2) := by decide +kernel
theorem d_pc_init_44 : decode b_pc_init 44 = .ok (.newarray .int, 2) := by decide +kernel
theorem d_pc_init_46 : decode b_pc_init 46 = .ok (.putfield 28, 3) := by decide +kernel
theorem d_pc_init_49 : decode b_pc_init 49 = .ok (.aload_n 0, 1) := by decide +kernel
theorem d_pc_init_50 : decode b_pc_init 50 = .ok (.bipush 12, 2) := by decide +kernel
theorem d_pc_init_52 : decode b_pc_init 52 = .ok (.newarray .int, 2) := by decide +kernel
theorem d_pc_init_54 : decode b_pc_init 54 = .ok (.putfield 31, 3) := by decide +kernel
theorem d_pc_init_57 : decode b_pc_init 57 = .ok (.aload_n 0, 1) := by decide +kernel
theorem d_pc_init_58 : decode b_pc_init 58 = .ok (.bipush 48, 2) := by decide +kernel
theorem d_pc_init_60 : decode b_pc_init 60 = .ok (.newarray .int, 2) := by decide +kernel
theorem d_pc_init_62 : decode b_pc_init 62 = .ok (.putfield 34, 3) := by decide +kernel
theorem d_pc_init_65 : decode b_pc_init 65 = .ok (.aload_n 0, 1) := by decide +kernel
theorem d_pc_init_66 : decode b_pc_init 66 = .ok (.bipush 48, 2) := by decide +kernel
theorem d_pc_init_68 : decode b_pc_init 68 = .ok (.newarray .int, 2) := by decide +kernel
theorem d_pc_init_70 : decode b_pc_init 70 = .ok (.putfield 37, 3) := by decide +kernel
theorem d_pc_init_73 : decode b_pc_init 73 = .ok (.return_, 1) := by decide +kernel
theorem d_pc_has_0 : decode b_pc_has 0 = .ok (.iload_n 1, 1) := by decide +kernel
theorem d_pc_has_1 : decode b_pc_has 1 = .ok (.iconst 0, 1) := by decide +kernel
theorem d_pc_has_2 : decode b_pc_has 2 = .ok (.aload_n 0, 1) := by decide +kernel
theorem d_pc_has_3 : decode b_pc_has 3 = .ok (.getfield 9, 3) := by decide +kernel
theorem d_pc_has_6 : decode b_pc_has 6 = .ok (.iconst 1, 1) := by decide +kernel
theorem d_pc_has_7 : decode b_pc_has 7 = .ok (.isub, 1) := by decide +kernel
theorem d_pc_has_8 : decode b_pc_has 8 = .ok (.invokestatic 40, 3) := by decide +kernel
theorem d_pc_has_11 : decode b_pc_has 11 = .ok (.ireturn, 1) := by decide +kernel
theorem d_pc_setRule_0 : decode b_pc_setRule 0 = .ok (.aload_n 0, 1) := by decide +kernel
theorem d_pc_setRule_1 : decode b_pc_setRule 1 = .ok (.getfield 28, 3) := by decide +kernel
theorem d_pc_setRule_4 : decode b_pc_setRule 4 = .ok (.iload_n 1, 1) := by decide +kernel
theorem d_pc_setRule_5 : decode b_pc_setRule 5 = .ok (.iconst 5, 1) := by decide +kernel
theorem d_pc_setRule_6 : decode b_pc_setRule 6 = .ok (.imul, 1) := by decide +kernel
theorem d_pc_setRule_7 : decode b_pc_setRule 7 = .ok (.iload_n 2, 1) := by decide +kernel
theorem d_pc_setRule_8 : decode b_pc_setRule 8 = .ok (.iadd, 1) := by decide +kernel
theorem d_pc_setRule_9 : decode b_pc_setRule 9 = .ok (.iload_n 3, 1) := by decide +kernel
theorem d_pc_setRule_10 : decode b_pc_setRule 10 = .ok (.iastore, 1) := by decide +kernel
theorem d_pc_setRule_11 : decode b_pc_setRule 11 = .ok (.return_, 1) := by decide +kernel
theorem d_pc_ruleOf_0 : decode b_pc_ruleOf 0 = .ok (.aload_n 0, 1) := by decide +kernel
theorem d_pc_ruleOf_1 : decode b_pc_ruleOf 1 = .ok (.getfield 28, 3) := by decide +kernel
theorem d_pc_ruleOf_4 : decode b_pc_ruleOf 4 = .ok (.iload_n 1, 1) := by decide +kernel
theorem d_pc_ruleOf_5 : decode b_pc_ruleOf 5 = .ok (.iconst 5, 1) := by decide +kernel
theorem d_pc_ruleOf_6 : decode b_pc_ruleOf 6 = .ok (.imul, 1) := by decide +kernel
theorem d_pc_ruleOf_7 : decode b_pc_ruleOf 7 = .ok (.iload_n 2, 1) := by decide +kernel
theorem d_pc_ruleOf_8 : decode b_pc_ruleOf 8 = .ok (.iadd, 1) := by decide +kernel
theorem d_pc_ruleOf_9 : decode b_pc_ruleOf 9 = .ok (.iaload, 1) := by decide +kernel
theorem d_pc_ruleOf_10 : decode b_pc_ruleOf 10 = .ok (.ireturn, 1) := by decide +kernel
theorem d_pc_add_0 : decode b_pc_add 0 = .ok (.aload_n 0, 1) := by decide +kernel
theorem d_pc_add_1 : decode b_pc_add 1 = .ok (.getfield 9, 3) := by decide +kernel
theorem d_pc_add_4 : decode b_pc_add 4 = .ok (.istore 5, 2) := by decide +kernel
theorem d_pc_add_6 : decode b_pc_add 6 = .ok (.aload_n 0, 1) := by decide +kernel
theorem d_pc_add_7 : decode b_pc_add 7 = .ok (.getfield 15, 3) := by decide +kernel
theorem d_pc_add_10 : decode b_pc_add 10 = .ok (.iload 5, 2) := by decide +kernel
theorem d_pc_add_12 : decode b_pc_add 12 = .ok (.iload_n 1, 1) := by decide +kernel
theorem d_pc_add_13 : decode b_pc_add 13 = .ok (.iastore, 1) := by decide +kernel
theorem d_pc_add_14 : decode b_pc_add 14 = .ok (.aload_n 0, 1) := by decide +kernel
theorem d_pc_add_15 : decode b_pc_add 15 = .ok (.getfield 19, 3) := by decide +kernel
theorem d_pc_add_18 : decode b_pc_add 18 = .ok (.iload 5, 2) := by decide +kernel
theorem d_pc_add_20 : decode b_pc_add 20 = .ok (.iload_n 2, 1) := by decide +kernel
theorem d_pc_add_21 : decode b_pc_add 21 = .ok (.iastore, 1) := by decide +kernel
theorem d_pc_add_22 : decode b_pc_add 22 = .ok (.aload_n 0, 1) := by decide +kernel
theorem d_pc_add_23 : decode b_pc_add 23 = .ok (.getfield 22, 3) := by decide +kernel
theorem d_pc_add_26 : decode b_pc_add 26 = .ok (.iload 5, 2) := by decide +kernel
theorem d_pc_add_28 : decode b_pc_add 28 = .ok (.iload_n 3, 1) := by decide +kernel
theorem d_pc_add_29 : decode b_pc_add 29 = .ok (.iastore, 1) := by decide +kernel
theorem d_pc_add_30 : decode b_pc_add 30 = .ok (.aload_n 0, 1) := by decide +kernel
theorem d_pc_add_31 : decode b_pc_add 31 = .ok (.getfield 25, 3) := by decide +kernel
theorem d_pc_add_34 : decode b_pc_add 34 = .ok (.iload 5, 2) := by decide +kernel
theorem d_pc_add_36 : decode b_pc_add 36 = .ok (.iload 4, 2) := by decide +kernel
theorem d_pc_add_38 : decode b_pc_add 38 = .ok (.iastore, 1) := by decide +kernel
theorem d_pc_add_39 : decode b_pc_add 39 = .ok (.aload_n 0, 1) := by decide +kernel
theorem d_pc_add_40 : decode b_pc_add 40 = .ok (.iload 5, 2) := by decide +kernel
theorem d_pc_add_42 : decode b_pc_add 42 = .ok (.iconst 2, 1) := by decide +kernel
theorem d_pc_add_43 : decode b_pc_add 43 = .ok (.bipush 100, 2) := by decide +kernel
theorem d_pc_add_45 : decode b_pc_add 45 = .ok (.invokevirtual 44, 3) := by decide +kernel
theorem d_pc_add_48 : decode b_pc_add 48 = .ok (.aload_n 0, 1) := by decide +kernel
theorem d_pc_add_49 : decode b_pc_add 49 = .ok (.dup, 1) := by decide +kernel
theorem d_pc_add_50 : decode b_pc_add 50 = .ok (.getfield 9, 3) := by decide +kernel
theorem d_pc_add_53 : decode b_pc_add 53 = .ok (.iconst 1, 1) := by decide +kernel
theorem d_pc_add_54 : decode b_pc_add 54 = .ok (.iadd, 1) := by decide +kernel
theorem d_pc_add_55 : decode b_pc_add 55 = .ok (.putfield 9, 3) := by decide +kernel
theorem d_pc_add_58 : decode b_pc_add 58 = .ok (.iload 5, 2) := by decide +kernel
theorem d_pc_add_60 : decode b_pc_add 60 = .ok (.ireturn, 1) := by decide +kernel
theorem d_pc_otherEnd_0 : decode b_pc_otherEnd 0 = .ok (.aload_n 0, 1) := by decide +kernel
theorem d_pc_otherEnd_1 : decode b_pc_otherEnd 1 = .ok (.getfield 15, 3) := by decide +kernel
theorem d_pc_otherEnd_4 : decode b_pc_otherEnd 4 = .ok (.iload_n 1, 1) := by decide +kernel
theorem d_pc_otherEnd_5 : decode b_pc_otherEnd 5 = .ok (.iaload, 1) := by decide +kernel
theorem d_pc_otherEnd_6 : decode b_pc_otherEnd 6 = .ok (.iload_n 2, 1) := by decide +kernel
theorem d_pc_otherEnd_7 : decode b_pc_otherEnd 7 = .ok (.if_icmp .ne 10, 3) := by decide +kernel
theorem d_pc_otherEnd_10 : decode b_pc_otherEnd 10 = .ok (.aload_n 0, 1) := by decide +kernel
theorem d_pc_otherEnd_11 : decode b_pc_otherEnd 11 = .ok (.getfield 19, 3) := by decide +kernel
theorem d_pc_otherEnd_14 : decode b_pc_otherEnd 14 = .ok (.iload_n 1, 1) := by decide +kernel
theorem d_pc_otherEnd_15 : decode b_pc_otherEnd 15 = .ok (.iaload, 1) := by decide +kernel
theorem d_pc_otherEnd_16 : decode b_pc_otherEnd 16 = .ok (.ireturn, 1) := by decide +kernel
theorem d_pc_otherEnd_17 : decode b_pc_otherEnd 17 = .ok (.aload_n 0, 1) := by decide +kernel
theorem d_pc_otherEnd_18 : decode b_pc_otherEnd 18 = .ok (.getfield 19, 3) := by decide +kernel
theorem d_pc_otherEnd_21 : decode b_pc_otherEnd 21 = .ok (.iload_n 1, 1) := by decide +kernel
theorem d_pc_otherEnd_22 : decode b_pc_otherEnd 22 = .ok (.iaload, 1) := by decide +kernel
theorem d_pc_otherEnd_23 : decode b_pc_otherEnd 23 = .ok (.iload_n 2, 1) := by decide +kernel
theorem d_pc_otherEnd_24 : decode b_pc_otherEnd 24 = .ok (.if_icmp .ne 12, 3) := by decide +kernel
theorem d_pc_otherEnd_27 : decode b_pc_otherEnd 27 = .ok (.aload_n 0, 1) := by decide +kernel
theorem d_pc_otherEnd_28 : decode b_pc_otherEnd 28 = .ok (.getfield 15, 3) := by decide +kernel
theorem d_pc_otherEnd_31 : decode b_pc_otherEnd 31 = .ok (.iload_n 1, 1) := by decide +kernel
theorem d_pc_otherEnd_32 : decode b_pc_otherEnd 32 = .ok (.iaload, 1) := by decide +kernel
theorem d_pc_otherEnd_33 : decode b_pc_otherEnd 33 = .ok (.goto 4, 3) := by decide +kernel
theorem d_pc_otherEnd_36 : decode b_pc_otherEnd 36 = .ok (.iconst (-1), 1) := by decide +kernel
theorem d_pc_otherEnd_37 : decode b_pc_otherEnd 37 = .ok (.ireturn, 1) := by decide +kernel
theorem d_pc_closedFor_0 : decode b_pc_closedFor 0 = .ok (.iconst 0, 1) := by decide +kernel
theorem d_pc_closedFor_1 : decode b_pc_closedFor 1 = .ok (.istore 4, 2) := by decide +kernel
theorem d_pc_closedFor_3 : decode b_pc_closedFor 3 = .ok (.iconst 0, 1) := by decide +kernel
theorem d_pc_closedFor_4 : decode b_pc_closedFor 4 = .ok (.istore 5, 2) := by decide +kernel
theorem d_pc_closedFor_6 : decode b_pc_closedFor 6 = .ok (.iload 5, 2) := by decide +kernel
theorem d_pc_closedFor_8 : decode b_pc_closedFor 8 = .ok (.aload_n 0, 1) := by decide +kernel
theorem d_pc_closedFor_9 : decode b_pc_closedFor 9 = .ok (.getfield 31, 3) := by decide +kernel
theorem d_pc_closedFor_12 : decode b_pc_closedFor 12 = .ok (.iload_n 1, 1) := by decide +kernel
theorem d_pc_closedFor_13 : decode b_pc_closedFor 13 = .ok (.iaload, 1) := by decide +kernel
theorem d_pc_closedFor_14 : decode b_pc_closedFor 14 = .ok (.if_icmp .ge 55, 3) := by decide +kernel
theorem d_pc_closedFor_17 : decode b_pc_closedFor 17 = .ok (.iload_n 1, 1) := by decide +kernel
theorem d_pc_closedFor_18 : decode b_pc_closedFor 18 = .ok (.iconst 4, 1) := by decide +kernel
theorem d_pc_closedFor_19 : decode b_pc_closedFor 19 = .ok (.imul, 1) := by decide +kernel
theorem d_pc_closedFor_20 : decode b_pc_closedFor 20 = .ok (.iload 5, 2) := by decide +kernel
theorem d_pc_closedFor_22 : decode b_pc_closedFor 22 = .ok (.iadd, 1) := by decide +kernel
theorem d_pc_closedFor_23 : decode b_pc_closedFor 23 = .ok (.istore 6, 2) := by decide +kernel
theorem d_pc_closedFor_25 : decode b_pc_closedFor 25 = .ok (.iload_n 2, 1) := by decide +kernel
theorem d_pc_closedFor_26 : decode b_pc_closedFor 26 = .ok (.iload_n 3, 1) := by decide +kernel
theorem d_pc_closedFor_27 : decode b_pc_closedFor 27 = .ok (.aload_n 0, 1) := by decide +kernel
theorem d_pc_closedFor_28 : decode b_pc_closedFor 28 = .ok (.getfield 34, 3) := by decide +kernel
theorem d_pc_closedFor_31 : decode b_pc_closedFor 31 = .ok (.iload 6, 2) := by decide +kernel
theorem d_pc_closedFor_33 : decode b_pc_closedFor 33 = .ok (.iaload, 1) := by decide +kernel
theorem d_pc_closedFor_34 : decode b_pc_closedFor 34 = .ok (.aload_n 0, 1) := by decide +kernel
theorem d_pc_closedFor_35 : decode b_pc_closedFor 35 = .ok (.getfield 37, 3) := by decide +kernel
theorem d_pc_closedFor_38 : decode b_pc_closedFor 38 = .ok (.iload 6, 2) := by decide +kernel
theorem d_pc_closedFor_40 : decode b_pc_closedFor 40 = .ok (.iaload, 1) := by decide +kernel
theorem d_pc_closedFor_41 : decode b_pc_closedFor 41 = .ok (.invokestatic 48, 3) := by decide +kernel
theorem d_pc_closedFor_44 : decode b_pc_closedFor 44 = .ok (.ifCond .eq 19, 3) := by decide +kernel
theorem d_pc_closedFor_47 : decode b_pc_closedFor 47 = .ok (.iload 4, 2) := by decide +kernel
theorem d_pc_closedFor_49 : decode b_pc_closedFor 49 = .ok (.aload_n 0, 1) := by decide +kernel
theorem d_pc_closedFor_50 : decode b_pc_closedFor 50 = .ok (.getfield 37, 3) := by decide +kernel
theorem d_pc_closedFor_53 : decode b_pc_closedFor 53 = .ok (.iload 6, 2) := by decide +kernel
theorem d_pc_closedFor_55 : decode b_pc_closedFor 55 = .ok (.iaload, 1) := by decide +kernel
theorem d_pc_closedFor_56 : decode b_pc_closedFor 56 = .ok (.iload_n 2, 1) := by decide +kernel
theorem d_pc_closedFor_57 : decode b_pc_closedFor 57 = .ok (.isub, 1) := by decide +kernel
theorem d_pc_closedFor_58 : decode b_pc_closedFor 58 = .ok (.invokestatic 52, 3) := by decide +kernel
theorem d_pc_closedFor_61 : decode b_pc_closedFor 61 = .ok (.istore 4, 2) := by decide +kernel
theorem d_pc_closedFor_63 : decode b_pc_closedFor 63 = .ok (.iinc 5 1, 3) := by decide +kernel
theorem d_pc_closedFor_66 : decode b_pc_closedFor 66 = .ok (.goto (-60), 3) := by decide +kernel
theorem d_pc_closedFor_69 : decode b_pc_closedFor 69 = .ok (.iload 4, 2) := by decide +kernel
theorem d_pc_closedFor_71 : decode b_pc_closedFor 71 = .ok (.ireturn, 1) := by decide +kernel
theorem d_pc_addSpan_0 : decode b_pc_addSpan 0 = .ok (.iload_n 1, 1) := by decide +kernel
theorem d_pc_addSpan_1 : decode b_pc_addSpan 1 = .ok (.iconst 4, 1) := by decide +kernel
theorem d_pc_addSpan_2 : decode b_pc_addSpan 2 = .ok (.imul, 1) := by decide +kernel
theorem d_pc_addSpan_3 : decode b_pc_addSpan 3 = .ok (.aload_n 0, 1) := by decide +kernel
theorem d_pc_addSpan_4 : decode b_pc_addSpan 4 = .ok (.getfield 31, 3) := by decide +kernel
theorem d_pc_addSpan_7 : decode b_pc_addSpan 7 = .ok (.iload_n 1, 1) := by decide +kernel
theorem d_pc_addSpan_8 : decode b_pc_addSpan 8 = .ok (.iaload, 1) := by decide +kernel
theorem d_pc_addSpan_9 : decode b_pc_addSpan 9 = .ok (.iadd, 1) := by decide +kernel
theorem d_pc_addSpan_10 : decode b_pc_addSpan 10 = .ok (.istore 4, 2) := by decide +kernel
theorem d_pc_addSpan_12 : decode b_pc_addSpan 12 = .ok (.aload_n 0, 1) := by decide +kernel
theorem d_pc_addSpan_13 : decode b_pc_addSpan 13 = .ok (.getfield 34, 3) := by decide +kernel
theorem d_pc_addSpan_16 : decode b_pc_addSpan 16 = .ok (.iload 4, 2) := by decide +kernel
theorem d_pc_addSpan_18 : decode b_pc_addSpan 18 = .ok (.iload_n 2, 1) := by decide +kernel
theorem d_pc_addSpan_19 : decode b_pc_addSpan 19 = .ok (.iastore, 1) := by decide +kernel
theorem d_pc_addSpan_20 : decode b_pc_addSpan 20 = .ok (.aload_n 0, 1) := by decide +kernel
theorem d_pc_addSpan_21 : decode b_pc_addSpan 21 = .ok (.getfield 37, 3) := by decide +kernel
theorem d_pc_addSpan_24 : decode b_pc_addSpan 24 = .ok (.iload 4, 2) := by decide +kernel
theorem d_pc_addSpan_26 : decode b_pc_addSpan 26 = .ok (.iload_n 3, 1) := by decide +kernel
theorem d_pc_addSpan_27 : decode b_pc_addSpan 27 = .ok (.iastore, 1) := by decide +kernel
theorem d_pc_addSpan_28 : decode b_pc_addSpan 28 = .ok (.aload_n 0, 1) := by decide +kernel
theorem d_pc_addSpan_29 : decode b_pc_addSpan 29 = .ok (.getfield 31, 3) := by decide +kernel
theorem d_pc_addSpan_32 : decode b_pc_addSpan 32 = .ok (.iload_n 1, 1) := by decide +kernel
theorem d_pc_addSpan_33 : decode b_pc_addSpan 33 = .ok (.dup2, 1) := by decide +kernel
theorem d_pc_addSpan_34 : decode b_pc_addSpan 34 = .ok (.iaload, 1) := by decide +kernel
theorem d_pc_addSpan_35 : decode b_pc_addSpan 35 = .ok (.iconst 1, 1) := by decide +kernel
theorem d_pc_addSpan_36 : decode b_pc_addSpan 36 = .ok (.iadd, 1) := by decide +kernel
theorem d_pc_addSpan_37 : decode b_pc_addSpan 37 = .ok (.iastore, 1) := by decide +kernel
theorem d_pc_addSpan_38 : decode b_pc_addSpan 38 = .ok (.return_, 1) := by decide +kernel
theorem d_sh_init_0 : decode b_sh_init 0 = .ok (.aload_n 0, 1) := by decide +kernel
theorem d_sh_init_1 : decode b_sh_init 1 = .ok (.invokespecial 3, 3) := by decide +kernel
theorem d_sh_init_4 : decode b_sh_init 4 = .ok (.aload_n 0, 1) := by decide +kernel
theorem d_sh_init_5 : decode b_sh_init 5 = .ok (.iconst 0, 1) := by decide +kernel
theorem d_sh_init_6 : decode b_sh_init 6 = .ok (.putfield 9, 3) := by decide +kernel
theorem d_sh_init_9 : decode b_sh_init 9 = .ok (.aload_n 0, 1) := by decide +kernel
theorem d_sh_init_10 : decode b_sh_init 10 = .ok (.bipush 12, 2) := by decide +kernel
theorem d_sh_init_12 : decode b_sh_init 12 = .ok (.newarray .int, 2) := by decide +kernel
theorem d_sh_init_14 : decode b_sh_init 14 = .ok (.putfield 15, 3) := by decide +kernel
theorem d_sh_init_17 : decode b_sh_init 17 = .ok (.aload_n 0, 1) := by decide +kernel
theorem d_sh_init_18 : decode b_sh_init 18 = .ok (.bipush 12, 2) := by decide +kernel
theorem d_sh_init_20 : decode b_sh_init 20 = .ok (.newarray .int, 2) := by decide +kernel
theorem d_sh_init_22 : decode b_sh_init 22 = .ok (.putfield 19, 3) := by decide +kernel
theorem d_sh_init_25 : decode b_sh_init 25 = .ok (.aload_n 0, 1) := by decide +kernel
theorem d_sh_init_26 : decode b_sh_init 26 = .ok (.bipush 12, 2) := by decide +kernel
theorem d_sh_init_28 : decode b_sh_init 28 = .ok (.newarray .int, 2) := by decide +kernel
theorem d_sh_init_30 : decode b_sh_init 30 = .ok (.putfield 22, 3) := by decide +kernel
theorem d_sh_init_33 : decode b_sh_init 33 = .ok (.return_, 1) := by decide +kernel
theorem d_sh_add_0 : decode b_sh_add 0 = .ok (.aload_n 0, 1) := by decide +kernel
theorem d_sh_add_1 : decode b_sh_add 1 = .ok (.getfield 9, 3) := by decide +kernel
theorem d_sh_add_4 : decode b_sh_add 4 = .ok (.istore 4, 2) := by decide +kernel
theorem d_sh_add_6 : decode b_sh_add 6 = .ok (.aload_n 0, 1) := by decide +kernel
theorem d_sh_add_7 : decode b_sh_add 7 = .ok (.getfield 15, 3) := by decide +kernel
theorem d_sh_add_10 : decode b_sh_add 10 = .ok (.iload 4, 2) := by decide +kernel
theorem d_sh_add_12 : decode b_sh_add 12 = .ok (.iload_n 1, 1) := by decide +kernel
theorem d_sh_add_13 : decode b_sh_add 13 = .ok (.iastore, 1) := by decide +kernel
theorem d_sh_add_14 : decode b_sh_add 14 = .ok (.aload_n 0, 1) := by decide +kernel
theorem d_sh_add_15 : decode b_sh_add 15 = .ok (.getfield 19, 3) := by decide +kernel
theorem d_sh_add_18 : decode b_sh_add 18 = .ok (.iload 4, 2) := by decide +kernel
theorem d_sh_add_20 : decode b_sh_add 20 = .ok (.iload_n 2, 1) := by decide +kernel
theorem d_sh_add_21 : decode b_sh_add 21 = .ok (.iastore, 1) := by decide +kernel
theorem d_sh_add_22 : decode b_sh_add 22 = .ok (.aload_n 0, 1) := by decide +kernel
theorem d_sh_add_23 : decode b_sh_add 23 = .ok (.getfield 22, 3) := by decide +kernel
theorem d_sh_add_26 : decode b_sh_add 26 = .ok (.iload 4, 2) := by decide +kernel
theorem d_sh_add_28 : decode b_sh_add 28 = .ok (.iload_n 3, 1) := by decide +kernel
theorem d_sh_add_29 : decode b_sh_add 29 = .ok (.iastore, 1) := by decide +kernel
theorem d_sh_add_30 : decode b_sh_add 30 = .ok (.aload_n 0, 1) := by decide +kernel
theorem d_sh_add_31 : decode b_sh_add 31 = .ok (.dup, 1) := by decide +kernel
theorem d_sh_add_32 : decode b_sh_add 32 = .ok (.getfield 9, 3) := by decide +kernel
theorem d_sh_add_35 : decode b_sh_add 35 = .ok (.iconst 1, 1) := by decide +kernel
theorem d_sh_add_36 : decode b_sh_add 36 = .ok (.iadd, 1) := by decide +kernel
theorem d_sh_add_37 : decode b_sh_add 37 = .ok (.putfield 9, 3) := by decide +kernel
theorem d_sh_add_40 : decode b_sh_add 40 = .ok (.iload 4, 2) := by decide +kernel
theorem d_sh_add_42 : decode b_sh_add 42 = .ok (.ireturn, 1) := by decide +kernel
theorem d_sh_has_0 : decode b_sh_has 0 = .ok (.iload_n 1, 1) := by decide +kernel
theorem d_sh_has_1 : decode b_sh_has 1 = .ok (.iconst 0, 1) := by decide +kernel
theorem d_sh_has_2 : decode b_sh_has 2 = .ok (.aload_n 0, 1) := by decide +kernel
theorem d_sh_has_3 : decode b_sh_has 3 = .ok (.getfield 9, 3) := by decide +kernel
theorem d_sh_has_6 : decode b_sh_has 6 = .ok (.iconst 1, 1) := by decide +kernel
theorem d_sh_has_7 : decode b_sh_has 7 = .ok (.isub, 1) := by decide +kernel
theorem d_sh_has_8 : decode b_sh_has 8 = .ok (.invokestatic 25, 3) := by decide +kernel
theorem d_sh_has_11 : decode b_sh_has 11 = .ok (.ireturn, 1) := by decide +kernel
