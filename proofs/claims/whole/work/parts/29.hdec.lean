theorem d_lw_piece_0 : decode b_lw_piece 0 = .ok (.aload 5, 2) := by decide +kernel
theorem d_lw_piece_2 : decode b_lw_piece 2 = .ok (.iconst 0, 1) := by decide +kernel
theorem d_lw_piece_3 : decode b_lw_piece 3 = .ok (.aload_n 0, 1) := by decide +kernel
theorem d_lw_piece_4 : decode b_lw_piece 4 = .ok (.iload_n 1, 1) := by decide +kernel
theorem d_lw_piece_5 : decode b_lw_piece 5 = .ok (.iload_n 2, 1) := by decide +kernel
theorem d_lw_piece_6 : decode b_lw_piece 6 = .ok (.iload_n 3, 1) := by decide +kernel
theorem d_lw_piece_7 : decode b_lw_piece 7 = .ok (.iload 4, 2) := by decide +kernel
theorem d_lw_piece_9 : decode b_lw_piece 9 = .ok (.invokevirtual 7, 3) := by decide +kernel
theorem d_lw_piece_12 : decode b_lw_piece 12 = .ok (.i2l, 1) := by decide +kernel
theorem d_lw_piece_13 : decode b_lw_piece 13 = .ok (.lastore, 1) := by decide +kernel
theorem d_lw_piece_14 : decode b_lw_piece 14 = .ok (.goto 11, 3) := by decide +kernel
theorem d_lw_piece_17 : decode b_lw_piece 17 = .ok (.astore 6, 2) := by decide +kernel
theorem d_lw_piece_19 : decode b_lw_piece 19 = .ok (.iconst 1, 1) := by decide +kernel
theorem d_lw_piece_20 : decode b_lw_piece 20 = .ok (.ireturn, 1) := by decide +kernel
theorem d_lw_piece_21 : decode b_lw_piece 21 = .ok (.astore 6, 2) := by decide +kernel
theorem d_lw_piece_23 : decode b_lw_piece 23 = .ok (.iconst 2, 1) := by decide +kernel
theorem d_lw_piece_24 : decode b_lw_piece 24 = .ok (.ireturn, 1) := by decide +kernel
theorem d_lw_piece_25 : decode b_lw_piece 25 = .ok (.iconst 0, 1) := by decide +kernel
theorem d_lw_piece_26 : decode b_lw_piece 26 = .ok (.ireturn, 1) := by decide +kernel
theorem d_lw_ship_0 : decode b_lw_ship 0 = .ok (.aload 4, 2) := by decide +kernel
theorem d_lw_ship_2 : decode b_lw_ship 2 = .ok (.iconst 0, 1) := by decide +kernel
theorem d_lw_ship_3 : decode b_lw_ship 3 = .ok (.aload_n 0, 1) := by decide +kernel
theorem d_lw_ship_4 : decode b_lw_ship 4 = .ok (.iload_n 1, 1) := by decide +kernel
theorem d_lw_ship_5 : decode b_lw_ship 5 = .ok (.iload_n 2, 1) := by decide +kernel
theorem d_lw_ship_6 : decode b_lw_ship 6 = .ok (.iload_n 3, 1) := by decide +kernel
theorem d_lw_ship_7 : decode b_lw_ship 7 = .ok (.invokevirtual 17, 3) := by decide +kernel
theorem d_lw_ship_10 : decode b_lw_ship 10 = .ok (.i2l, 1) := by decide +kernel
theorem d_lw_ship_11 : decode b_lw_ship 11 = .ok (.lastore, 1) := by decide +kernel
theorem d_lw_ship_12 : decode b_lw_ship 12 = .ok (.goto 11, 3) := by decide +kernel
theorem d_lw_ship_15 : decode b_lw_ship 15 = .ok (.astore 5, 2) := by decide +kernel
theorem d_lw_ship_17 : decode b_lw_ship 17 = .ok (.iconst 1, 1) := by decide +kernel
theorem d_lw_ship_18 : decode b_lw_ship 18 = .ok (.ireturn, 1) := by decide +kernel
theorem d_lw_ship_19 : decode b_lw_ship 19 = .ok (.astore 5, 2) := by decide +kernel
theorem d_lw_ship_21 : decode b_lw_ship 21 = .ok (.iconst 2, 1) := by decide +kernel
theorem d_lw_ship_22 : decode b_lw_ship 22 = .ok (.ireturn, 1) := by decide +kernel
theorem d_lw_ship_23 : decode b_lw_ship 23 = .ok (.iconst 0, 1) := by decide +kernel
theorem d_lw_ship_24 : decode b_lw_ship 24 = .ok (.ireturn, 1) := by decide +kernel
theorem d_lw_route_0 : decode b_lw_route 0 = .ok (.aload 5, 2) := by decide +kernel
theorem d_lw_route_2 : decode b_lw_route 2 = .ok (.iconst 0, 1) := by decide +kernel
theorem d_lw_route_3 : decode b_lw_route 3 = .ok (.aload_n 0, 1) := by decide +kernel
theorem d_lw_route_4 : decode b_lw_route 4 = .ok (.iload_n 1, 1) := by decide +kernel
theorem d_lw_route_5 : decode b_lw_route 5 = .ok (.iload_n 2, 1) := by decide +kernel
theorem d_lw_route_6 : decode b_lw_route 6 = .ok (.iload_n 3, 1) := by decide +kernel
theorem d_lw_route_7 : decode b_lw_route 7 = .ok (.iload 4, 2) := by decide +kernel
theorem d_lw_route_9 : decode b_lw_route 9 = .ok (.invokevirtual 21, 3) := by decide +kernel
theorem d_lw_route_12 : decode b_lw_route 12 = .ok (.i2l, 1) := by decide +kernel
theorem d_lw_route_13 : decode b_lw_route 13 = .ok (.lastore, 1) := by decide +kernel
theorem d_lw_route_14 : decode b_lw_route 14 = .ok (.goto 7, 3) := by decide +kernel
theorem d_lw_route_17 : decode b_lw_route 17 = .ok (.astore 6, 2) := by decide +kernel
theorem d_lw_route_19 : decode b_lw_route 19 = .ok (.iconst 1, 1) := by decide +kernel
theorem d_lw_route_20 : decode b_lw_route 20 = .ok (.ireturn, 1) := by decide +kernel
theorem d_lw_route_21 : decode b_lw_route 21 = .ok (.iconst 0, 1) := by decide +kernel
theorem d_lw_route_22 : decode b_lw_route 22 = .ok (.ireturn, 1) := by decide +kernel
theorem d_lw_ask_0 : decode b_lw_ask 0 = .ok (.aload 5, 2) := by decide +kernel
theorem d_lw_ask_2 : decode b_lw_ask 2 = .ok (.iconst 0, 1) := by decide +kernel
theorem d_lw_ask_3 : decode b_lw_ask 3 = .ok (.aload_n 0, 1) := by decide +kernel
theorem d_lw_ask_4 : decode b_lw_ask 4 = .ok (.iload_n 1, 1) := by decide +kernel
theorem d_lw_ask_5 : decode b_lw_ask 5 = .ok (.iload_n 2, 1) := by decide +kernel
theorem d_lw_ask_6 : decode b_lw_ask 6 = .ok (.iload_n 3, 1) := by decide +kernel
theorem d_lw_ask_7 : decode b_lw_ask 7 = .ok (.iload 4, 2) := by decide +kernel
theorem d_lw_ask_9 : decode b_lw_ask 9 = .ok (.invokevirtual 24, 3) := by decide +kernel
theorem d_lw_ask_12 : decode b_lw_ask 12 = .ok (.i2l, 1) := by decide +kernel
theorem d_lw_ask_13 : decode b_lw_ask 13 = .ok (.lastore, 1) := by decide +kernel
theorem d_lw_ask_14 : decode b_lw_ask 14 = .ok (.goto 11, 3) := by decide +kernel
theorem d_lw_ask_17 : decode b_lw_ask 17 = .ok (.astore 6, 2) := by decide +kernel
theorem d_lw_ask_19 : decode b_lw_ask 19 = .ok (.iconst 1, 1) := by decide +kernel
theorem d_lw_ask_20 : decode b_lw_ask 20 = .ok (.ireturn, 1) := by decide +kernel
theorem d_lw_ask_21 : decode b_lw_ask 21 = .ok (.astore 6, 2) := by decide +kernel
theorem d_lw_ask_23 : decode b_lw_ask 23 = .ok (.iconst 2, 1) := by decide +kernel
theorem d_lw_ask_24 : decode b_lw_ask 24 = .ok (.ireturn, 1) := by decide +kernel
theorem d_lw_ask_25 : decode b_lw_ask 25 = .ok (.iconst 0, 1) := by decide +kernel
theorem d_lw_ask_26 : decode b_lw_ask 26 = .ok (.ireturn, 1) := by decide +kernel
theorem d_lw_earliest_0 : decode b_lw_earliest 0 = .ok (.aload 5, 2) := by decide +kernel
theorem d_lw_earliest_2 : decode b_lw_earliest 2 = .ok (.iconst 0, 1) := by decide +kernel
theorem d_lw_earliest_3 : decode b_lw_earliest 3 = .ok (.aload_n 0, 1) := by decide +kernel
theorem d_lw_earliest_4 : decode b_lw_earliest 4 = .ok (.iload_n 1, 1) := by decide +kernel
theorem d_lw_earliest_5 : decode b_lw_earliest 5 = .ok (.iload_n 2, 1) := by decide +kernel
theorem d_lw_earliest_6 : decode b_lw_earliest 6 = .ok (.iload_n 3, 1) := by decide +kernel
theorem d_lw_earliest_7 : decode b_lw_earliest 7 = .ok (.iload 4, 2) := by decide +kernel
theorem d_lw_earliest_9 : decode b_lw_earliest 9 = .ok (.invokevirtual 27, 3) := by decide +kernel
theorem d_lw_earliest_12 : decode b_lw_earliest 12 = .ok (.i2l, 1) := by decide +kernel
theorem d_lw_earliest_13 : decode b_lw_earliest 13 = .ok (.lastore, 1) := by decide +kernel
theorem d_lw_earliest_14 : decode b_lw_earliest 14 = .ok (.goto 7, 3) := by decide +kernel
theorem d_lw_earliest_17 : decode b_lw_earliest 17 = .ok (.astore 6, 2) := by decide +kernel
theorem d_lw_earliest_19 : decode b_lw_earliest 19 = .ok (.iconst 1, 1) := by decide +kernel
theorem d_lw_earliest_20 : decode b_lw_earliest 20 = .ok (.ireturn, 1) := by decide +kernel
theorem d_lw_earliest_21 : decode b_lw_earliest 21 = .ok (.iconst 0, 1) := by decide +kernel
theorem d_lw_earliest_22 : decode b_lw_earliest 22 = .ok (.ireturn, 1) := by decide +kernel
theorem d_lw_change_0 : decode b_lw_change 0 = .ok (.aload_n 3, 1) := by decide +kernel
theorem d_lw_change_1 : decode b_lw_change 1 = .ok (.iconst 0, 1) := by decide +kernel
theorem d_lw_change_2 : decode b_lw_change 2 = .ok (.aload_n 0, 1) := by decide +kernel
theorem d_lw_change_3 : decode b_lw_change 3 = .ok (.iload_n 1, 1) := by decide +kernel
theorem d_lw_change_4 : decode b_lw_change 4 = .ok (.iload_n 2, 1) := by decide +kernel
theorem d_lw_change_5 : decode b_lw_change 5 = .ok (.invokevirtual 30, 3) := by decide +kernel
theorem d_lw_change_8 : decode b_lw_change 8 = .ok (.i2l, 1) := by decide +kernel
theorem d_lw_change_9 : decode b_lw_change 9 = .ok (.lastore, 1) := by decide +kernel
theorem d_lw_change_10 : decode b_lw_change 10 = .ok (.goto 7, 3) := by decide +kernel
theorem d_lw_change_13 : decode b_lw_change 13 = .ok (.astore 4, 2) := by decide +kernel
theorem d_lw_change_15 : decode b_lw_change 15 = .ok (.iconst 1, 1) := by decide +kernel
theorem d_lw_change_16 : decode b_lw_change 16 = .ok (.ireturn, 1) := by decide +kernel
theorem d_lw_change_17 : decode b_lw_change 17 = .ok (.iconst 0, 1) := by decide +kernel
theorem d_lw_change_18 : decode b_lw_change 18 = .ok (.ireturn, 1) := by decide +kernel
theorem d_lw_close_0 : decode b_lw_close 0 = .ok (.aload 4, 2) := by decide +kernel
theorem d_lw_close_2 : decode b_lw_close 2 = .ok (.iconst 0, 1) := by decide +kernel
theorem d_lw_close_3 : decode b_lw_close 3 = .ok (.aload_n 0, 1) := by decide +kernel
theorem d_lw_close_4 : decode b_lw_close 4 = .ok (.iload_n 1, 1) := by decide +kernel
theorem d_lw_close_5 : decode b_lw_close 5 = .ok (.iload_n 2, 1) := by decide +kernel
theorem d_lw_close_6 : decode b_lw_close 6 = .ok (.iload_n 3, 1) := by decide +kernel
theorem d_lw_close_7 : decode b_lw_close 7 = .ok (.invokevirtual 34, 3) := by decide +kernel
theorem d_lw_close_10 : decode b_lw_close 10 = .ok (.i2l, 1) := by decide +kernel
theorem d_lw_close_11 : decode b_lw_close 11 = .ok (.lastore, 1) := by decide +kernel
theorem d_lw_close_12 : decode b_lw_close 12 = .ok (.goto 11, 3) := by decide +kernel
theorem d_lw_close_15 : decode b_lw_close 15 = .ok (.astore 5, 2) := by decide +kernel
theorem d_lw_close_17 : decode b_lw_close 17 = .ok (.iconst 1, 1) := by decide +kernel
theorem d_lw_close_18 : decode b_lw_close 18 = .ok (.ireturn, 1) := by decide +kernel
theorem d_lw_close_19 : decode b_lw_close 19 = .ok (.astore 5, 2) := by decide +kernel
theorem d_lw_close_21 : decode b_lw_close 21 = .ok (.iconst 2, 1) := by decide +kernel
theorem d_lw_close_22 : decode b_lw_close 22 = .ok (.ireturn, 1) := by decide +kernel
theorem d_lw_close_23 : decode b_lw_close 23 = .ok (.iconst 0, 1) := by decide +kernel
theorem d_lw_close_24 : decode b_lw_close 24 = .ok (.ireturn, 1) := by decide +kernel
theorem d_lw_conflict_0 : decode b_lw_conflict 0 = .ok (.aload_n 3, 1) := by decide +kernel
theorem d_lw_conflict_1 : decode b_lw_conflict 1 = .ok (.iconst 0, 1) := by decide +kernel
theorem d_lw_conflict_2 : decode b_lw_conflict 2 = .ok (.aload_n 0, 1) := by decide +kernel
theorem d_lw_conflict_3 : decode b_lw_conflict 3 = .ok (.iload_n 1, 1) := by decide +kernel
theorem d_lw_conflict_4 : decode b_lw_conflict 4 = .ok (.iload_n 2, 1) := by decide +kernel
theorem d_lw_conflict_5 : decode b_lw_conflict 5 = .ok (.invokevirtual 37, 3) := by decide +kernel
theorem d_lw_conflict_8 : decode b_lw_conflict 8 = .ok (.i2l, 1) := by decide +kernel
theorem d_lw_conflict_9 : decode b_lw_conflict 9 = .ok (.lastore, 1) := by decide +kernel
theorem d_lw_conflict_10 : decode b_lw_conflict 10 = .ok (.goto 7, 3) := by decide +kernel
theorem d_lw_conflict_13 : decode b_lw_conflict 13 = .ok (.astore 4, 2) := by decide +kernel
theorem d_lw_conflict_15 : decode b_lw_conflict 15 = .ok (.iconst 1, 1) := by decide +kernel
theorem d_lw_conflict_16 : decode b_lw_conflict 16 = .ok (.ireturn, 1) := by decide +kernel
theorem d_lw_conflict_17 : decode b_lw_conflict 17 = .ok (.iconst 0, 1) := by decide +kernel
theorem d_lw_conflict_18 : decode b_lw_conflict 18 = .ok (.ireturn, 1) := by decide +kernel
theorem d_lw_at_0 : decode b_lw_at 0 = .ok (.aload 4, 2) := by decide +kernel
theorem d_lw_at_2 : decode b_lw_at 2 = .ok (.iconst 0, 1) := by decide +kernel
theorem d_lw_at_3 : decode b_lw_at 3 = .ok (.aload_n 0, 1) := by decide +kernel
theorem d_lw_at_4 : decode b_lw_at 4 = .ok (.iload_n 1, 1) := by decide +kernel
theorem d_lw_at_5 : decode b_lw_at 5 = .ok (.iload_n 2, 1) := by decide +kernel
theorem d_lw_at_6 : decode b_lw_at 6 = .ok (.iload_n 3, 1) := by decide +kernel
theorem d_lw_at_7 : decode b_lw_at 7 = .ok (.invokevirtual 40, 3) := by decide +kernel
theorem d_lw_at_10 : decode b_lw_at 10 = .ok (.i2l, 1) := by decide +kernel
theorem d_lw_at_11 : decode b_lw_at 11 = .ok (.lastore, 1) := by decide +kernel
theorem d_lw_at_12 : decode b_lw_at 12 = .ok (.goto 7, 3) := by decide +kernel
theorem d_lw_at_15 : decode b_lw_at 15 = .ok (.astore 5, 2) := by decide +kernel
theorem d_lw_at_17 : decode b_lw_at 17 = .ok (.iconst 1, 1) := by decide +kernel
theorem d_lw_at_18 : decode b_lw_at 18 = .ok (.ireturn, 1) := by decide +kernel
theorem d_lw_at_19 : decode b_lw_at 19 = .ok (.iconst 0, 1) := by decide +kernel
theorem d_lw_at_20 : decode b_lw_at 20 = .ok (.ireturn, 1) := by decide +kernel
