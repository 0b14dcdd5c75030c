theorem d_md_init_0 : decode b_md_init 0 = .ok (.aload_n 0, 1) := by decide +kernel
theorem d_md_init_1 : decode b_md_init 1 = .ok (.invokespecial 1, 3) := by decide +kernel
theorem d_md_init_4 : decode b_md_init 4 = .ok (.aload_n 0, 1) := by decide +kernel
theorem d_md_init_5 : decode b_md_init 5 = .ok (.bipush 12, 2) := by decide +kernel
theorem d_md_init_7 : decode b_md_init 7 = .ok (.newarray .int, 2) := by decide +kernel
theorem d_md_init_9 : decode b_md_init 9 = .ok (.putfield 7, 3) := by decide +kernel
theorem d_md_init_12 : decode b_md_init 12 = .ok (.aload_n 0, 1) := by decide +kernel
theorem d_md_init_13 : decode b_md_init 13 = .ok (.bipush 12, 2) := by decide +kernel
theorem d_md_init_15 : decode b_md_init 15 = .ok (.newarray .int, 2) := by decide +kernel
theorem d_md_init_17 : decode b_md_init 17 = .ok (.putfield 13, 3) := by decide +kernel
theorem d_md_init_20 : decode b_md_init 20 = .ok (.aload_n 0, 1) := by decide +kernel
theorem d_md_init_21 : decode b_md_init 21 = .ok (.bipush 12, 2) := by decide +kernel
theorem d_md_init_23 : decode b_md_init 23 = .ok (.newarray .int, 2) := by decide +kernel
theorem d_md_init_25 : decode b_md_init 25 = .ok (.putfield 16, 3) := by decide +kernel
theorem d_md_init_28 : decode b_md_init 28 = .ok (.aload_n 0, 1) := by decide +kernel
theorem d_md_init_29 : decode b_md_init 29 = .ok (.bipush 12, 2) := by decide +kernel
theorem d_md_init_31 : decode b_md_init 31 = .ok (.newarray .int, 2) := by decide +kernel
theorem d_md_init_33 : decode b_md_init 33 = .ok (.putfield 19, 3) := by decide +kernel
theorem d_md_init_36 : decode b_md_init 36 = .ok (.aload_n 0, 1) := by decide +kernel
theorem d_md_init_37 : decode b_md_init 37 = .ok (.bipush 60, 2) := by decide +kernel
theorem d_md_init_39 : decode b_md_init 39 = .ok (.newarray .int, 2) := by decide +kernel
theorem d_md_init_41 : decode b_md_init 41 = .ok (.putfield 22, 3) := by decide +kernel
theorem d_md_init_44 : decode b_md_init 44 = .ok (.aload_n 0, 1) := by decide +kernel
theorem d_md_init_45 : decode b_md_init 45 = .ok (.bipush 12, 2) := by decide +kernel
theorem d_md_init_47 : decode b_md_init 47 = .ok (.newarray .int, 2) := by decide +kernel
theorem d_md_init_49 : decode b_md_init 49 = .ok (.putfield 25, 3) := by decide +kernel
theorem d_md_init_52 : decode b_md_init 52 = .ok (.aload_n 0, 1) := by decide +kernel
theorem d_md_init_53 : decode b_md_init 53 = .ok (.bipush 48, 2) := by decide +kernel
theorem d_md_init_55 : decode b_md_init 55 = .ok (.newarray .int, 2) := by decide +kernel
theorem d_md_init_57 : decode b_md_init 57 = .ok (.putfield 28, 3) := by decide +kernel
theorem d_md_init_60 : decode b_md_init 60 = .ok (.aload_n 0, 1) := by decide +kernel
theorem d_md_init_61 : decode b_md_init 61 = .ok (.bipush 48, 2) := by decide +kernel
theorem d_md_init_63 : decode b_md_init 63 = .ok (.newarray .int, 2) := by decide +kernel
theorem d_md_init_65 : decode b_md_init 65 = .ok (.putfield 31, 3) := by decide +kernel
theorem d_md_init_68 : decode b_md_init 68 = .ok (.aload_n 0, 1) := by decide +kernel
theorem d_md_init_69 : decode b_md_init 69 = .ok (.bipush 12, 2) := by decide +kernel
theorem d_md_init_71 : decode b_md_init 71 = .ok (.newarray .int, 2) := by decide +kernel
theorem d_md_init_73 : decode b_md_init 73 = .ok (.putfield 34, 3) := by decide +kernel
theorem d_md_init_76 : decode b_md_init 76 = .ok (.aload_n 0, 1) := by decide +kernel
theorem d_md_init_77 : decode b_md_init 77 = .ok (.bipush 12, 2) := by decide +kernel
theorem d_md_init_79 : decode b_md_init 79 = .ok (.newarray .int, 2) := by decide +kernel
theorem d_md_init_81 : decode b_md_init 81 = .ok (.putfield 37, 3) := by decide +kernel
theorem d_md_init_84 : decode b_md_init 84 = .ok (.aload_n 0, 1) := by decide +kernel
theorem d_md_init_85 : decode b_md_init 85 = .ok (.bipush 12, 2) := by decide +kernel
theorem d_md_init_87 : decode b_md_init 87 = .ok (.newarray .int, 2) := by decide +kernel
theorem d_md_init_89 : decode b_md_init 89 = .ok (.putfield 40, 3) := by decide +kernel
theorem d_md_init_92 : decode b_md_init 92 = .ok (.aload_n 0, 1) := by decide +kernel
theorem d_md_init_93 : decode b_md_init 93 = .ok (.bipush 31, 2) := by decide +kernel
theorem d_md_init_95 : decode b_md_init 95 = .ok (.newarray .int, 2) := by decide +kernel
theorem d_md_init_97 : decode b_md_init 97 = .ok (.putfield 43, 3) := by decide +kernel
theorem d_md_init_100 : decode b_md_init 100 = .ok (.aload_n 0, 1) := by decide +kernel
theorem d_md_init_101 : decode b_md_init 101 = .ok (.bipush 31, 2) := by decide +kernel
theorem d_md_init_103 : decode b_md_init 103 = .ok (.newarray .int, 2) := by decide +kernel
theorem d_md_init_105 : decode b_md_init 105 = .ok (.putfield 46, 3) := by decide +kernel
theorem d_md_init_108 : decode b_md_init 108 = .ok (.aload_n 0, 1) := by decide +kernel
theorem d_md_init_109 : decode b_md_init 109 = .ok (.bipush 31, 2) := by decide +kernel
theorem d_md_init_111 : decode b_md_init 111 = .ok (.newarray .boolean, 2) := by decide +kernel
theorem d_md_init_113 : decode b_md_init 113 = .ok (.putfield 49, 3) := by decide +kernel
theorem d_md_init_116 : decode b_md_init 116 = .ok (.aload_n 0, 1) := by decide +kernel
theorem d_md_init_117 : decode b_md_init 117 = .ok (.bipush 31, 2) := by decide +kernel
theorem d_md_init_119 : decode b_md_init 119 = .ok (.newarray .int, 2) := by decide +kernel
theorem d_md_init_121 : decode b_md_init 121 = .ok (.putfield 53, 3) := by decide +kernel
theorem d_md_init_124 : decode b_md_init 124 = .ok (.aload_n 0, 1) := by decide +kernel
theorem d_md_init_125 : decode b_md_init 125 = .ok (.sipush 248, 3) := by decide +kernel
theorem d_md_init_128 : decode b_md_init 128 = .ok (.newarray .int, 2) := by decide +kernel
theorem d_md_init_130 : decode b_md_init 130 = .ok (.putfield 56, 3) := by decide +kernel
theorem d_md_init_133 : decode b_md_init 133 = .ok (.aload_n 0, 1) := by decide +kernel
theorem d_md_init_134 : decode b_md_init 134 = .ok (.sipush 248, 3) := by decide +kernel
theorem d_md_init_137 : decode b_md_init 137 = .ok (.newarray .int, 2) := by decide +kernel
theorem d_md_init_139 : decode b_md_init 139 = .ok (.putfield 59, 3) := by decide +kernel
theorem d_md_init_142 : decode b_md_init 142 = .ok (.aload_n 0, 1) := by decide +kernel
theorem d_md_init_143 : decode b_md_init 143 = .ok (.bipush 8, 2) := by decide +kernel
theorem d_md_init_145 : decode b_md_init 145 = .ok (.newarray .int, 2) := by decide +kernel
theorem d_md_init_147 : decode b_md_init 147 = .ok (.putfield 62, 3) := by decide +kernel
theorem d_md_init_150 : decode b_md_init 150 = .ok (.return_, 1) := by decide +kernel
theorem d_md_thrown_0 : decode b_md_thrown 0 = .ok (.aload_n 0, 1) := by decide +kernel
theorem d_md_thrown_1 : decode b_md_thrown 1 = .ok (.getfield 65, 3) := by decide +kernel
theorem d_md_thrown_4 : decode b_md_thrown 4 = .ok (.ireturn, 1) := by decide +kernel
theorem d_md_piece_0 : decode b_md_piece 0 = .ok (.iload_n 1, 1) := by decide +kernel
theorem d_md_piece_1 : decode b_md_piece 1 = .ok (.invokestatic 82, 3) := by decide +kernel
theorem d_md_piece_4 : decode b_md_piece 4 = .ok (.ifCond .eq 36, 3) := by decide +kernel
theorem d_md_piece_7 : decode b_md_piece 7 = .ok (.iload_n 2, 1) := by decide +kernel
theorem d_md_piece_8 : decode b_md_piece 8 = .ok (.invokestatic 82, 3) := by decide +kernel
theorem d_md_piece_11 : decode b_md_piece 11 = .ok (.ifCond .eq 29, 3) := by decide +kernel
theorem d_md_piece_14 : decode b_md_piece 14 = .ok (.iload_n 1, 1) := by decide +kernel
theorem d_md_piece_15 : decode b_md_piece 15 = .ok (.iload_n 2, 1) := by decide +kernel
theorem d_md_piece_16 : decode b_md_piece 16 = .ok (.if_icmp .eq 24, 3) := by decide +kernel
theorem d_md_piece_19 : decode b_md_piece 19 = .ok (.iload_n 3, 1) := by decide +kernel
theorem d_md_piece_20 : decode b_md_piece 20 = .ok (.iconst 1, 1) := by decide +kernel
theorem d_md_piece_21 : decode b_md_piece 21 = .ok (.bipush 100, 2) := by decide +kernel
theorem d_md_piece_23 : decode b_md_piece 23 = .ok (.invokestatic 86, 3) := by decide +kernel
theorem d_md_piece_26 : decode b_md_piece 26 = .ok (.ifCond .eq 14, 3) := by decide +kernel
theorem d_md_piece_29 : decode b_md_piece 29 = .ok (.iload 4, 2) := by decide +kernel
theorem d_md_piece_31 : decode b_md_piece 31 = .ok (.iconst 1, 1) := by decide +kernel
theorem d_md_piece_32 : decode b_md_piece 32 = .ok (.bipush 100, 2) := by decide +kernel
theorem d_md_piece_34 : decode b_md_piece 34 = .ok (.invokestatic 86, 3) := by decide +kernel
theorem d_md_piece_37 : decode b_md_piece 37 = .ok (.ifCond .ne 9, 3) := by decide +kernel
theorem d_md_piece_40 : decode b_md_piece 40 = .ok (.aload_n 0, 1) := by decide +kernel
theorem d_md_piece_41 : decode b_md_piece 41 = .ok (.iconst 1, 1) := by decide +kernel
theorem d_md_piece_42 : decode b_md_piece 42 = .ok (.invokevirtual 90, 3) := by decide +kernel
theorem d_md_piece_45 : decode b_md_piece 45 = .ok (.ireturn, 1) := by decide +kernel
theorem d_md_piece_46 : decode b_md_piece 46 = .ok (.aload_n 0, 1) := by decide +kernel
theorem d_md_piece_47 : decode b_md_piece 47 = .ok (.getfield 69, 3) := by decide +kernel
theorem d_md_piece_50 : decode b_md_piece 50 = .ok (.bipush 12, 2) := by decide +kernel
theorem d_md_piece_52 : decode b_md_piece 52 = .ok (.if_icmp .ne 9, 3) := by decide +kernel
theorem d_md_piece_55 : decode b_md_piece 55 = .ok (.aload_n 0, 1) := by decide +kernel
theorem d_md_piece_56 : decode b_md_piece 56 = .ok (.iconst 2, 1) := by decide +kernel
theorem d_md_piece_57 : decode b_md_piece 57 = .ok (.invokevirtual 90, 3) := by decide +kernel
theorem d_md_piece_60 : decode b_md_piece 60 = .ok (.ireturn, 1) := by decide +kernel
theorem d_md_piece_61 : decode b_md_piece 61 = .ok (.aload_n 0, 1) := by decide +kernel
theorem d_md_piece_62 : decode b_md_piece 62 = .ok (.iconst 0, 1) := by decide +kernel
theorem d_md_piece_63 : decode b_md_piece 63 = .ok (.putfield 65, 3) := by decide +kernel
theorem d_md_piece_66 : decode b_md_piece 66 = .ok (.aload_n 0, 1) := by decide +kernel
theorem d_md_piece_67 : decode b_md_piece 67 = .ok (.getfield 7, 3) := by decide +kernel
theorem d_md_piece_70 : decode b_md_piece 70 = .ok (.aload_n 0, 1) := by decide +kernel
theorem d_md_piece_71 : decode b_md_piece 71 = .ok (.getfield 69, 3) := by decide +kernel
theorem d_md_piece_74 : decode b_md_piece 74 = .ok (.iload_n 1, 1) := by decide +kernel
theorem d_md_piece_75 : decode b_md_piece 75 = .ok (.iastore, 1) := by decide +kernel
theorem d_md_piece_76 : decode b_md_piece 76 = .ok (.aload_n 0, 1) := by decide +kernel
theorem d_md_piece_77 : decode b_md_piece 77 = .ok (.getfield 13, 3) := by decide +kernel
theorem d_md_piece_80 : decode b_md_piece 80 = .ok (.aload_n 0, 1) := by decide +kernel
theorem d_md_piece_81 : decode b_md_piece 81 = .ok (.getfield 69, 3) := by decide +kernel
theorem d_md_piece_84 : decode b_md_piece 84 = .ok (.iload_n 2, 1) := by decide +kernel
theorem d_md_piece_85 : decode b_md_piece 85 = .ok (.iastore, 1) := by decide +kernel
theorem d_md_piece_86 : decode b_md_piece 86 = .ok (.aload_n 0, 1) := by decide +kernel
theorem d_md_piece_87 : decode b_md_piece 87 = .ok (.getfield 16, 3) := by decide +kernel
theorem d_md_piece_90 : decode b_md_piece 90 = .ok (.aload_n 0, 1) := by decide +kernel
theorem d_md_piece_91 : decode b_md_piece 91 = .ok (.getfield 69, 3) := by decide +kernel
theorem d_md_piece_94 : decode b_md_piece 94 = .ok (.iload_n 3, 1) := by decide +kernel
theorem d_md_piece_95 : decode b_md_piece 95 = .ok (.iastore, 1) := by decide +kernel
theorem d_md_piece_96 : decode b_md_piece 96 = .ok (.aload_n 0, 1) := by decide +kernel
theorem d_md_piece_97 : decode b_md_piece 97 = .ok (.getfield 19, 3) := by decide +kernel
theorem d_md_piece_100 : decode b_md_piece 100 = .ok (.aload_n 0, 1) := by decide +kernel
theorem d_md_piece_101 : decode b_md_piece 101 = .ok (.getfield 69, 3) := by decide +kernel
theorem d_md_piece_104 : decode b_md_piece 104 = .ok (.iload 4, 2) := by decide +kernel
theorem d_md_piece_106 : decode b_md_piece 106 = .ok (.iastore, 1) := by decide +kernel
theorem d_md_piece_107 : decode b_md_piece 107 = .ok (.aload_n 0, 1) := by decide +kernel
theorem d_md_piece_108 : decode b_md_piece 108 = .ok (.getfield 22, 3) := by decide +kernel
theorem d_md_piece_111 : decode b_md_piece 111 = .ok (.iconst 5, 1) := by decide +kernel
theorem d_md_piece_112 : decode b_md_piece 112 = .ok (.aload_n 0, 1) := by decide +kernel
theorem d_md_piece_113 : decode b_md_piece 113 = .ok (.getfield 69, 3) := by decide +kernel
theorem d_md_piece_116 : decode b_md_piece 116 = .ok (.imul, 1) := by decide +kernel
theorem d_md_piece_117 : decode b_md_piece 117 = .ok (.iconst 2, 1) := by decide +kernel
theorem d_md_piece_118 : decode b_md_piece 118 = .ok (.iadd, 1) := by decide +kernel
theorem d_md_piece_119 : decode b_md_piece 119 = .ok (.bipush 100, 2) := by decide +kernel
theorem d_md_piece_121 : decode b_md_piece 121 = .ok (.iastore, 1) := by decide +kernel
theorem d_md_piece_122 : decode b_md_piece 122 = .ok (.aload_n 0, 1) := by decide +kernel
theorem d_md_piece_123 : decode b_md_piece 123 = .ok (.dup, 1) := by decide +kernel
theorem d_md_piece_124 : decode b_md_piece 124 = .ok (.getfield 69, 3) := by decide +kernel
theorem d_md_piece_127 : decode b_md_piece 127 = .ok (.iconst 1, 1) := by decide +kernel
theorem d_md_piece_128 : decode b_md_piece 128 = .ok (.iadd, 1) := by decide +kernel
theorem d_md_piece_129 : decode b_md_piece 129 = .ok (.putfield 69, 3) := by decide +kernel
theorem d_md_piece_132 : decode b_md_piece 132 = .ok (.aload_n 0, 1) := by decide +kernel
theorem d_md_piece_133 : decode b_md_piece 133 = .ok (.getfield 69, 3) := by decide +kernel
theorem d_md_piece_136 : decode b_md_piece 136 = .ok (.iconst 1, 1) := by decide +kernel
theorem d_md_piece_137 : decode b_md_piece 137 = .ok (.isub, 1) := by decide +kernel
theorem d_md_piece_138 : decode b_md_piece 138 = .ok (.ireturn, 1) := by decide +kernel
theorem d_md_isPoint_0 : decode b_md_isPoint 0 = .ok (.iload_n 0, 1) := by decide +kernel
theorem d_md_isPoint_1 : decode b_md_isPoint 1 = .ok (.ifCond .lt 13, 3) := by decide +kernel
theorem d_md_isPoint_4 : decode b_md_isPoint 4 = .ok (.iload_n 0, 1) := by decide +kernel
theorem d_md_isPoint_5 : decode b_md_isPoint 5 = .ok (.bipush 8, 2) := by decide +kernel
theorem d_md_isPoint_7 : decode b_md_isPoint 7 = .ok (.if_icmp .ge 7, 3) := by decide +kernel
theorem d_md_isPoint_10 : decode b_md_isPoint 10 = .ok (.iconst 1, 1) := by decide +kernel
theorem d_md_isPoint_11 : decode b_md_isPoint 11 = .ok (.goto 4, 3) := by decide +kernel
theorem d_md_isPoint_14 : decode b_md_isPoint 14 = .ok (.iconst 0, 1) := by decide +kernel
theorem d_md_isPoint_15 : decode b_md_isPoint 15 = .ok (.ireturn, 1) := by decide +kernel
theorem d_md_in_0 : decode b_md_in 0 = .ok (.iload_n 0, 1) := by decide +kernel
theorem d_md_in_1 : decode b_md_in 1 = .ok (.iload_n 1, 1) := by decide +kernel
theorem d_md_in_2 : decode b_md_in 2 = .ok (.if_icmp .lt 12, 3) := by decide +kernel
theorem d_md_in_5 : decode b_md_in 5 = .ok (.iload_n 0, 1) := by decide +kernel
theorem d_md_in_6 : decode b_md_in 6 = .ok (.iload_n 2, 1) := by decide +kernel
theorem d_md_in_7 : decode b_md_in 7 = .ok (.if_icmp .gt 7, 3) := by decide +kernel
theorem d_md_in_10 : decode b_md_in 10 = .ok (.iconst 1, 1) := by decide +kernel
theorem d_md_in_11 : decode b_md_in 11 = .ok (.goto 4, 3) := by decide +kernel
theorem d_md_in_14 : decode b_md_in 14 = .ok (.iconst 0, 1) := by decide +kernel
theorem d_md_in_15 : decode b_md_in 15 = .ok (.ireturn, 1) := by decide +kernel
theorem d_md_fails_0 : decode b_md_fails 0 = .ok (.aload_n 0, 1) := by decide +kernel
theorem d_md_fails_1 : decode b_md_fails 1 = .ok (.iload_n 1, 1) := by decide +kernel
theorem d_md_fails_2 : decode b_md_fails 2 = .ok (.putfield 65, 3) := by decide +kernel
theorem d_md_fails_5 : decode b_md_fails 5 = .ok (.iconst 0, 1) := by decide +kernel
theorem d_md_fails_6 : decode b_md_fails 6 = .ok (.ireturn, 1) := by decide +kernel
theorem d_md_rule_0 : decode b_md_rule 0 = .ok (.aload_n 0, 1) := by decide +kernel
theorem d_md_rule_1 : decode b_md_rule 1 = .ok (.iconst 0, 1) := by decide +kernel
theorem d_md_rule_2 : decode b_md_rule 2 = .ok (.putfield 65, 3) := by decide +kernel
theorem d_md_rule_5 : decode b_md_rule 5 = .ok (.iload_n 2, 1) := by decide +kernel
theorem d_md_rule_6 : decode b_md_rule 6 = .ok (.iconst 2, 1) := by decide +kernel
theorem d_md_rule_7 : decode b_md_rule 7 = .ok (.if_icmp .ge 7, 3) := by decide +kernel
theorem d_md_rule_10 : decode b_md_rule 10 = .ok (.iconst 2, 1) := by decide +kernel
theorem d_md_rule_11 : decode b_md_rule 11 = .ok (.goto 14, 3) := by decide +kernel
theorem d_md_rule_14 : decode b_md_rule 14 = .ok (.iload_n 2, 1) := by decide +kernel
theorem d_md_rule_15 : decode b_md_rule 15 = .ok (.iconst 2, 1) := by decide +kernel
theorem d_md_rule_16 : decode b_md_rule 16 = .ok (.if_icmp .ne 8, 3) := by decide +kernel
theorem d_md_rule_19 : decode b_md_rule 19 = .ok (.bipush 100, 2) := by decide +kernel
theorem d_md_rule_21 : decode b_md_rule 21 = .ok (.goto 4, 3) := by decide +kernel
theorem d_md_rule_24 : decode b_md_rule 24 = .ok (.iconst 1, 1) := by decide +kernel
theorem d_md_rule_25 : decode b_md_rule 25 = .ok (.istore 4, 2) := by decide +kernel
theorem d_md_rule_27 : decode b_md_rule 27 = .ok (.aload_n 0, 1) := by decide +kernel
theorem d_md_rule_28 : decode b_md_rule 28 = .ok (.iload_n 1, 1) := by decide +kernel
theorem d_md_rule_29 : decode b_md_rule 29 = .ok (.invokevirtual 94, 3) := by decide +kernel
theorem d_md_rule_32 : decode b_md_rule 32 = .ok (.ifCond .eq 22, 3) := by decide +kernel
theorem d_md_rule_35 : decode b_md_rule 35 = .ok (.iload_n 2, 1) := by decide +kernel
theorem d_md_rule_36 : decode b_md_rule 36 = .ok (.iconst 0, 1) := by decide +kernel
theorem d_md_rule_37 : decode b_md_rule 37 = .ok (.iconst 4, 1) := by decide +kernel
theorem d_md_rule_38 : decode b_md_rule 38 = .ok (.invokestatic 86, 3) := by decide +kernel
theorem d_md_rule_41 : decode b_md_rule 41 = .ok (.ifCond .eq 13, 3) := by decide +kernel
theorem d_md_rule_44 : decode b_md_rule 44 = .ok (.iload_n 3, 1) := by decide +kernel
theorem d_md_rule_45 : decode b_md_rule 45 = .ok (.iconst 0, 1) := by decide +kernel
theorem d_md_rule_46 : decode b_md_rule 46 = .ok (.iload 4, 2) := by decide +kernel
theorem d_md_rule_48 : decode b_md_rule 48 = .ok (.invokestatic 86, 3) := by decide +kernel
theorem d_md_rule_51 : decode b_md_rule 51 = .ok (.ifCond .ne 5, 3) := by decide +kernel
theorem d_md_rule_54 : decode b_md_rule 54 = .ok (.iconst 0, 1) := by decide +kernel
theorem d_md_rule_55 : decode b_md_rule 55 = .ok (.ireturn, 1) := by decide +kernel
theorem d_md_rule_56 : decode b_md_rule 56 = .ok (.aload_n 0, 1) := by decide +kernel
theorem d_md_rule_57 : decode b_md_rule 57 = .ok (.getfield 22, 3) := by decide +kernel
theorem d_md_rule_60 : decode b_md_rule 60 = .ok (.iconst 5, 1) := by decide +kernel
theorem d_md_rule_61 : decode b_md_rule 61 = .ok (.iload_n 1, 1) := by decide +kernel
theorem d_md_rule_62 : decode b_md_rule 62 = .ok (.imul, 1) := by decide +kernel
theorem d_md_rule_63 : decode b_md_rule 63 = .ok (.iload_n 2, 1) := by decide +kernel
theorem d_md_rule_64 : decode b_md_rule 64 = .ok (.iadd, 1) := by decide +kernel
theorem d_md_rule_65 : decode b_md_rule 65 = .ok (.iload_n 3, 1) := by decide +kernel
theorem d_md_rule_66 : decode b_md_rule 66 = .ok (.iastore, 1) := by decide +kernel
theorem d_md_rule_67 : decode b_md_rule 67 = .ok (.iconst 1, 1) := by decide +kernel
theorem d_md_rule_68 : decode b_md_rule 68 = .ok (.ireturn, 1) := by decide +kernel
theorem d_md_isPiece_0 : decode b_md_isPiece 0 = .ok (.iload_n 1, 1) := by decide +kernel
theorem d_md_isPiece_1 : decode b_md_isPiece 1 = .ok (.ifCond .lt 15, 3) := by decide +kernel
theorem d_md_isPiece_4 : decode b_md_isPiece 4 = .ok (.iload_n 1, 1) := by decide +kernel
theorem d_md_isPiece_5 : decode b_md_isPiece 5 = .ok (.aload_n 0, 1) := by decide +kernel
theorem d_md_isPiece_6 : decode b_md_isPiece 6 = .ok (.getfield 69, 3) := by decide +kernel
theorem d_md_isPiece_9 : decode b_md_isPiece 9 = .ok (.if_icmp .ge 7, 3) := by decide +kernel
theorem d_md_isPiece_12 : decode b_md_isPiece 12 = .ok (.iconst 1, 1) := by decide +kernel
theorem d_md_isPiece_13 : decode b_md_isPiece 13 = .ok (.goto 4, 3) := by decide +kernel
theorem d_md_isPiece_16 : decode b_md_isPiece 16 = .ok (.iconst 0, 1) := by decide +kernel
theorem d_md_isPiece_17 : decode b_md_isPiece 17 = .ok (.ireturn, 1) := by decide +kernel
theorem d_md_wind_0 : decode b_md_wind 0 = .ok (.aload_n 0, 1) := by decide +kernel
theorem d_md_wind_1 : decode b_md_wind 1 = .ok (.iconst 0, 1) := by decide +kernel
theorem d_md_wind_2 : decode b_md_wind 2 = .ok (.putfield 65, 3) := by decide +kernel
theorem d_md_wind_5 : decode b_md_wind 5 = .ok (.aload_n 0, 1) := by decide +kernel
theorem d_md_wind_6 : decode b_md_wind 6 = .ok (.getfield 97, 3) := by decide +kernel
theorem d_md_wind_9 : decode b_md_wind 9 = .ok (.iload_n 1, 1) := by decide +kernel
theorem d_md_wind_10 : decode b_md_wind 10 = .ok (.if_icmp .eq 7, 3) := by decide +kernel
theorem d_md_wind_13 : decode b_md_wind 13 = .ok (.iconst 1, 1) := by decide +kernel
theorem d_md_wind_14 : decode b_md_wind 14 = .ok (.goto 4, 3) := by decide +kernel
theorem d_md_wind_17 : decode b_md_wind 17 = .ok (.iconst 0, 1) := by decide +kernel
theorem d_md_wind_18 : decode b_md_wind 18 = .ok (.istore_n 2, 1) := by decide +kernel
theorem d_md_wind_19 : decode b_md_wind 19 = .ok (.aload_n 0, 1) := by decide +kernel
theorem d_md_wind_20 : decode b_md_wind 20 = .ok (.iload_n 1, 1) := by decide +kernel
theorem d_md_wind_21 : decode b_md_wind 21 = .ok (.putfield 97, 3) := by decide +kernel
theorem d_md_wind_24 : decode b_md_wind 24 = .ok (.iload_n 2, 1) := by decide +kernel
theorem d_md_wind_25 : decode b_md_wind 25 = .ok (.ireturn, 1) := by decide +kernel
theorem d_md_ship_0 : decode b_md_ship 0 = .ok (.iload_n 1, 1) := by decide +kernel
theorem d_md_ship_1 : decode b_md_ship 1 = .ok (.iconst 1, 1) := by decide +kernel
theorem d_md_ship_2 : decode b_md_ship 2 = .ok (.bipush 100, 2) := by decide +kernel
theorem d_md_ship_4 : decode b_md_ship 4 = .ok (.invokestatic 86, 3) := by decide +kernel
theorem d_md_ship_7 : decode b_md_ship 7 = .ok (.ifCond .eq 22, 3) := by decide +kernel
theorem d_md_ship_10 : decode b_md_ship 10 = .ok (.iload_n 2, 1) := by decide +kernel
theorem d_md_ship_11 : decode b_md_ship 11 = .ok (.iconst 1, 1) := by decide +kernel
theorem d_md_ship_12 : decode b_md_ship 12 = .ok (.bipush 20, 2) := by decide +kernel
theorem d_md_ship_14 : decode b_md_ship 14 = .ok (.invokestatic 86, 3) := by decide +kernel
theorem d_md_ship_17 : decode b_md_ship 17 = .ok (.ifCond .eq 12, 3) := by decide +kernel
theorem d_md_ship_20 : decode b_md_ship 20 = .ok (.iload_n 3, 1) := by decide +kernel
theorem d_md_ship_21 : decode b_md_ship 21 = .ok (.iconst 0, 1) := by decide +kernel
theorem d_md_ship_22 : decode b_md_ship 22 = .ok (.iconst 2, 1) := by decide +kernel
theorem d_md_ship_23 : decode b_md_ship 23 = .ok (.invokestatic 86, 3) := by decide +kernel
theorem d_md_ship_26 : decode b_md_ship 26 = .ok (.ifCond .ne 9, 3) := by decide +kernel
theorem d_md_ship_29 : decode b_md_ship 29 = .ok (.aload_n 0, 1) := by decide +kernel
theorem d_md_ship_30 : decode b_md_ship 30 = .ok (.iconst 1, 1) := by decide +kernel
theorem d_md_ship_31 : decode b_md_ship 31 = .ok (.invokevirtual 90, 3) := by decide +kernel
theorem d_md_ship_34 : decode b_md_ship 34 = .ok (.ireturn, 1) := by decide +kernel
theorem d_md_ship_35 : decode b_md_ship 35 = .ok (.aload_n 0, 1) := by decide +kernel
theorem d_md_ship_36 : decode b_md_ship 36 = .ok (.getfield 72, 3) := by decide +kernel
theorem d_md_ship_39 : decode b_md_ship 39 = .ok (.bipush 12, 2) := by decide +kernel
theorem d_md_ship_41 : decode b_md_ship 41 = .ok (.if_icmp .ne 9, 3) := by decide +kernel
theorem d_md_ship_44 : decode b_md_ship 44 = .ok (.aload_n 0, 1) := by decide +kernel
theorem d_md_ship_45 : decode b_md_ship 45 = .ok (.iconst 2, 1) := by decide +kernel
theorem d_md_ship_46 : decode b_md_ship 46 = .ok (.invokevirtual 90, 3) := by decide +kernel
theorem d_md_ship_49 : decode b_md_ship 49 = .ok (.ireturn, 1) := by decide +kernel
theorem d_md_ship_50 : decode b_md_ship 50 = .ok (.aload_n 0, 1) := by decide +kernel
theorem d_md_ship_51 : decode b_md_ship 51 = .ok (.iconst 0, 1) := by decide +kernel
theorem d_md_ship_52 : decode b_md_ship 52 = .ok (.putfield 65, 3) := by decide +kernel
theorem d_md_ship_55 : decode b_md_ship 55 = .ok (.aload_n 0, 1) := by decide +kernel
theorem d_md_ship_56 : decode b_md_ship 56 = .ok (.getfield 34, 3) := by decide +kernel
theorem d_md_ship_59 : decode b_md_ship 59 = .ok (.aload_n 0, 1) := by decide +kernel
theorem d_md_ship_60 : decode b_md_ship 60 = .ok (.getfield 72, 3) := by decide +kernel
theorem d_md_ship_63 : decode b_md_ship 63 = .ok (.iload_n 1, 1) := by decide +kernel
theorem d_md_ship_64 : decode b_md_ship 64 = .ok (.iastore, 1) := by decide +kernel
theorem d_md_ship_65 : decode b_md_ship 65 = .ok (.aload_n 0, 1) := by decide +kernel
theorem d_md_ship_66 : decode b_md_ship 66 = .ok (.getfield 37, 3) := by decide +kernel
theorem d_md_ship_69 : decode b_md_ship 69 = .ok (.aload_n 0, 1) := by decide +kernel
theorem d_md_ship_70 : decode b_md_ship 70 = .ok (.getfield 72, 3) := by decide +kernel
theorem d_md_ship_73 : decode b_md_ship 73 = .ok (.iload_n 2, 1) := by decide +kernel
theorem d_md_ship_74 : decode b_md_ship 74 = .ok (.iastore, 1) := by decide +kernel
theorem d_md_ship_75 : decode b_md_ship 75 = .ok (.aload_n 0, 1) := by decide +kernel
theorem d_md_ship_76 : decode b_md_ship 76 = .ok (.getfield 40, 3) := by decide +kernel
theorem d_md_ship_79 : decode b_md_ship 79 = .ok (.aload_n 0, 1) := by decide +kernel
theorem d_md_ship_80 : decode b_md_ship 80 = .ok (.getfield 72, 3) := by decide +kernel
theorem d_md_ship_83 : decode b_md_ship 83 = .ok (.iload_n 3, 1) := by decide +kernel
theorem d_md_ship_84 : decode b_md_ship 84 = .ok (.iastore, 1) := by decide +kernel
theorem d_md_ship_85 : decode b_md_ship 85 = .ok (.aload_n 0, 1) := by decide +kernel
theorem d_md_ship_86 : decode b_md_ship 86 = .ok (.dup, 1) := by decide +kernel
theorem d_md_ship_87 : decode b_md_ship 87 = .ok (.getfield 72, 3) := by decide +kernel
theorem d_md_ship_90 : decode b_md_ship 90 = .ok (.iconst 1, 1) := by decide +kernel
theorem d_md_ship_91 : decode b_md_ship 91 = .ok (.iadd, 1) := by decide +kernel
theorem d_md_ship_92 : decode b_md_ship 92 = .ok (.putfield 72, 3) := by decide +kernel
theorem d_md_ship_95 : decode b_md_ship 95 = .ok (.aload_n 0, 1) := by decide +kernel
theorem d_md_ship_96 : decode b_md_ship 96 = .ok (.getfield 72, 3) := by decide +kernel
theorem d_md_ship_99 : decode b_md_ship 99 = .ok (.iconst 1, 1) := by decide +kernel
theorem d_md_ship_100 : decode b_md_ship 100 = .ok (.isub, 1) := by decide +kernel
theorem d_md_ship_101 : decode b_md_ship 101 = .ok (.ireturn, 1) := by decide +kernel
theorem d_md_route_0 : decode b_md_route 0 = .ok (.aload_n 0, 1) := by decide +kernel
theorem d_md_route_1 : decode b_md_route 1 = .ok (.iload_n 1, 1) := by decide +kernel
theorem d_md_route_2 : decode b_md_route 2 = .ok (.invokevirtual 113, 3) := by decide +kernel
theorem d_md_route_5 : decode b_md_route 5 = .ok (.ifCond .eq 27, 3) := by decide +kernel
theorem d_md_route_8 : decode b_md_route 8 = .ok (.iload_n 2, 1) := by decide +kernel
theorem d_md_route_9 : decode b_md_route 9 = .ok (.invokestatic 82, 3) := by decide +kernel
theorem d_md_route_12 : decode b_md_route 12 = .ok (.ifCond .eq 20, 3) := by decide +kernel
theorem d_md_route_15 : decode b_md_route 15 = .ok (.iload_n 3, 1) := by decide +kernel
theorem d_md_route_16 : decode b_md_route 16 = .ok (.invokestatic 82, 3) := by decide +kernel
theorem d_md_route_19 : decode b_md_route 19 = .ok (.ifCond .eq 13, 3) := by decide +kernel
theorem d_md_route_22 : decode b_md_route 22 = .ok (.iload 4, 2) := by decide +kernel
theorem d_md_route_24 : decode b_md_route 24 = .ok (.iconst 0, 1) := by decide +kernel
theorem d_md_route_25 : decode b_md_route 25 = .ok (.iconst 2, 1) := by decide +kernel
theorem d_md_route_26 : decode b_md_route 26 = .ok (.invokestatic 86, 3) := by decide +kernel
theorem d_md_route_29 : decode b_md_route 29 = .ok (.ifCond .ne 9, 3) := by decide +kernel
theorem d_md_route_32 : decode b_md_route 32 = .ok (.aload_n 0, 1) := by decide +kernel
theorem d_md_route_33 : decode b_md_route 33 = .ok (.iconst 1, 1) := by decide +kernel
theorem d_md_route_34 : decode b_md_route 34 = .ok (.invokevirtual 90, 3) := by decide +kernel
theorem d_md_route_37 : decode b_md_route 37 = .ok (.ireturn, 1) := by decide +kernel
theorem d_md_route_38 : decode b_md_route 38 = .ok (.aload_n 0, 1) := by decide +kernel
theorem d_md_route_39 : decode b_md_route 39 = .ok (.iconst 0, 1) := by decide +kernel
theorem d_md_route_40 : decode b_md_route 40 = .ok (.putfield 65, 3) := by decide +kernel
theorem d_md_route_43 : decode b_md_route 43 = .ok (.aload_n 0, 1) := by decide +kernel
theorem d_md_route_44 : decode b_md_route 44 = .ok (.iload_n 1, 1) := by decide +kernel
theorem d_md_route_45 : decode b_md_route 45 = .ok (.iload_n 2, 1) := by decide +kernel
theorem d_md_route_46 : decode b_md_route 46 = .ok (.iload_n 3, 1) := by decide +kernel
theorem d_md_route_47 : decode b_md_route 47 = .ok (.invokevirtual 116, 3) := by decide +kernel
theorem d_md_route_50 : decode b_md_route 50 = .ok (.ifCond .ne 5, 3) := by decide +kernel
theorem d_md_route_53 : decode b_md_route 53 = .ok (.iconst (-1), 1) := by decide +kernel
theorem d_md_route_54 : decode b_md_route 54 = .ok (.ireturn, 1) := by decide +kernel
theorem d_md_route_55 : decode b_md_route 55 = .ok (.iload 4, 2) := by decide +kernel
theorem d_md_route_57 : decode b_md_route 57 = .ok (.ifCond .ne 12, 3) := by decide +kernel
theorem d_md_route_60 : decode b_md_route 60 = .ok (.aload_n 0, 1) := by decide +kernel
theorem d_md_route_61 : decode b_md_route 61 = .ok (.getfield 62, 3) := by decide +kernel
theorem d_md_route_64 : decode b_md_route 64 = .ok (.iload_n 2, 1) := by decide +kernel
theorem d_md_route_65 : decode b_md_route 65 = .ok (.iaload, 1) := by decide +kernel
theorem d_md_route_66 : decode b_md_route 66 = .ok (.goto 24, 3) := by decide +kernel
theorem d_md_route_69 : decode b_md_route 69 = .ok (.iload 4, 2) := by decide +kernel
theorem d_md_route_71 : decode b_md_route 71 = .ok (.iconst 1, 1) := by decide +kernel
theorem d_md_route_72 : decode b_md_route 72 = .ok (.if_icmp .ne 12, 3) := by decide +kernel
theorem d_md_route_75 : decode b_md_route 75 = .ok (.aload_n 0, 1) := by decide +kernel
theorem d_md_route_76 : decode b_md_route 76 = .ok (.getfield 56, 3) := by decide +kernel
theorem d_md_route_79 : decode b_md_route 79 = .ok (.iconst 0, 1) := by decide +kernel
theorem d_md_route_80 : decode b_md_route 80 = .ok (.iaload, 1) := by decide +kernel
theorem d_md_route_81 : decode b_md_route 81 = .ok (.goto 9, 3) := by decide +kernel
theorem d_md_route_84 : decode b_md_route 84 = .ok (.aload_n 0, 1) := by decide +kernel
theorem d_md_route_85 : decode b_md_route 85 = .ok (.getfield 53, 3) := by decide +kernel
theorem d_md_route_88 : decode b_md_route 88 = .ok (.iconst 0, 1) := by decide +kernel
theorem d_md_route_89 : decode b_md_route 89 = .ok (.iaload, 1) := by decide +kernel
theorem d_md_route_90 : decode b_md_route 90 = .ok (.ireturn, 1) := by decide +kernel
theorem d_md_isShip_0 : decode b_md_isShip 0 = .ok (.iload_n 1, 1) := by decide +kernel
theorem d_md_isShip_1 : decode b_md_isShip 1 = .ok (.ifCond .lt 15, 3) := by decide +kernel
theorem d_md_isShip_4 : decode b_md_isShip 4 = .ok (.iload_n 1, 1) := by decide +kernel
theorem d_md_isShip_5 : decode b_md_isShip 5 = .ok (.aload_n 0, 1) := by decide +kernel
theorem d_md_isShip_6 : decode b_md_isShip 6 = .ok (.getfield 72, 3) := by decide +kernel
theorem d_md_isShip_9 : decode b_md_isShip 9 = .ok (.if_icmp .ge 7, 3) := by decide +kernel
theorem d_md_isShip_12 : decode b_md_isShip 12 = .ok (.iconst 1, 1) := by decide +kernel
theorem d_md_isShip_13 : decode b_md_isShip 13 = .ok (.goto 4, 3) := by decide +kernel
theorem d_md_isShip_16 : decode b_md_isShip 16 = .ok (.iconst 0, 1) := by decide +kernel
theorem d_md_isShip_17 : decode b_md_isShip 17 = .ok (.ireturn, 1) := by decide +kernel
theorem d_md_lays_0 : decode b_md_lays 0 = .ok (.aload_n 0, 1) := by decide +kernel
theorem d_md_lays_1 : decode b_md_lays 1 = .ok (.iload_n 1, 1) := by decide +kernel
theorem d_md_lays_2 : decode b_md_lays 2 = .ok (.iload_n 3, 1) := by decide +kernel
theorem d_md_lays_3 : decode b_md_lays 3 = .ok (.invokevirtual 106, 3) := by decide +kernel
theorem d_md_lays_6 : decode b_md_lays 6 = .ok (.aload_n 0, 1) := by decide +kernel
theorem d_md_lays_7 : decode b_md_lays 7 = .ok (.getfield 43, 3) := by decide +kernel
theorem d_md_lays_10 : decode b_md_lays 10 = .ok (.iconst 0, 1) := by decide +kernel
theorem d_md_lays_11 : decode b_md_lays 11 = .ok (.iload_n 1, 1) := by decide +kernel
theorem d_md_lays_12 : decode b_md_lays 12 = .ok (.iastore, 1) := by decide +kernel
theorem d_md_lays_13 : decode b_md_lays 13 = .ok (.aload_n 0, 1) := by decide +kernel
theorem d_md_lays_14 : decode b_md_lays 14 = .ok (.getfield 53, 3) := by decide +kernel
theorem d_md_lays_17 : decode b_md_lays 17 = .ok (.iconst 0, 1) := by decide +kernel
theorem d_md_lays_18 : decode b_md_lays 18 = .ok (.iconst 0, 1) := by decide +kernel
theorem d_md_lays_19 : decode b_md_lays 19 = .ok (.iastore, 1) := by decide +kernel
theorem d_md_lays_20 : decode b_md_lays 20 = .ok (.iload_n 2, 1) := by decide +kernel
theorem d_md_lays_21 : decode b_md_lays 21 = .ok (.iload_n 3, 1) := by decide +kernel
theorem d_md_lays_22 : decode b_md_lays 22 = .ok (.if_icmp .eq 14, 3) := by decide +kernel
theorem d_md_lays_25 : decode b_md_lays 25 = .ok (.aload_n 0, 1) := by decide +kernel
theorem d_md_lays_26 : decode b_md_lays 26 = .ok (.getfield 62, 3) := by decide +kernel
theorem d_md_lays_29 : decode b_md_lays 29 = .ok (.iload_n 2, 1) := by decide +kernel
theorem d_md_lays_30 : decode b_md_lays 30 = .ok (.iaload, 1) := by decide +kernel
theorem d_md_lays_31 : decode b_md_lays 31 = .ok (.ldc 101, 2) := by decide +kernel
theorem d_md_lays_33 : decode b_md_lays 33 = .ok (.if_icmp .lt 5, 3) := by decide +kernel
theorem d_md_lays_36 : decode b_md_lays 36 = .ok (.iconst 0, 1) := by decide +kernel
theorem d_md_lays_37 : decode b_md_lays 37 = .ok (.ireturn, 1) := by decide +kernel
theorem d_md_lays_38 : decode b_md_lays 38 = .ok (.iload_n 2, 1) := by decide +kernel
theorem d_md_lays_39 : decode b_md_lays 39 = .ok (.istore 4, 2) := by decide +kernel
theorem d_md_lays_41 : decode b_md_lays 41 = .ok (.iload 4, 2) := by decide +kernel
theorem d_md_lays_43 : decode b_md_lays 43 = .ok (.iload_n 3, 1) := by decide +kernel
theorem d_md_lays_44 : decode b_md_lays 44 = .ok (.if_icmp .eq 97, 3) := by decide +kernel
theorem d_md_lays_47 : decode b_md_lays 47 = .ok (.aload_n 0, 1) := by decide +kernel
theorem d_md_lays_48 : decode b_md_lays 48 = .ok (.iload_n 1, 1) := by decide +kernel
theorem d_md_lays_49 : decode b_md_lays 49 = .ok (.iload 4, 2) := by decide +kernel
theorem d_md_lays_51 : decode b_md_lays 51 = .ok (.invokevirtual 110, 3) := by decide +kernel
theorem d_md_lays_54 : decode b_md_lays 54 = .ok (.istore 5, 2) := by decide +kernel
theorem d_md_lays_56 : decode b_md_lays 56 = .ok (.aload_n 0, 1) := by decide +kernel
theorem d_md_lays_57 : decode b_md_lays 57 = .ok (.getfield 56, 3) := by decide +kernel
theorem d_md_lays_60 : decode b_md_lays 60 = .ok (.aload_n 0, 1) := by decide +kernel
theorem d_md_lays_61 : decode b_md_lays 61 = .ok (.getfield 53, 3) := by decide +kernel
theorem d_md_lays_64 : decode b_md_lays 64 = .ok (.iconst 0, 1) := by decide +kernel
theorem d_md_lays_65 : decode b_md_lays 65 = .ok (.iaload, 1) := by decide +kernel
theorem d_md_lays_66 : decode b_md_lays 66 = .ok (.iload 5, 2) := by decide +kernel
theorem d_md_lays_68 : decode b_md_lays 68 = .ok (.iastore, 1) := by decide +kernel
theorem d_md_lays_69 : decode b_md_lays 69 = .ok (.aload_n 0, 1) := by decide +kernel
theorem d_md_lays_70 : decode b_md_lays 70 = .ok (.getfield 59, 3) := by decide +kernel
theorem d_md_lays_73 : decode b_md_lays 73 = .ok (.aload_n 0, 1) := by decide +kernel
theorem d_md_lays_74 : decode b_md_lays 74 = .ok (.getfield 53, 3) := by decide +kernel
theorem d_md_lays_77 : decode b_md_lays 77 = .ok (.iconst 0, 1) := by decide +kernel
theorem d_md_lays_78 : decode b_md_lays 78 = .ok (.iaload, 1) := by decide +kernel
theorem d_md_lays_79 : decode b_md_lays 79 = .ok (.aload_n 0, 1) := by decide +kernel
theorem d_md_lays_80 : decode b_md_lays 80 = .ok (.getfield 7, 3) := by decide +kernel
theorem d_md_lays_83 : decode b_md_lays 83 = .ok (.iload 5, 2) := by decide +kernel
theorem d_md_lays_85 : decode b_md_lays 85 = .ok (.iaload, 1) := by decide +kernel
theorem d_md_lays_86 : decode b_md_lays 86 = .ok (.iload 4, 2) := by decide +kernel
theorem d_md_lays_88 : decode b_md_lays 88 = .ok (.if_icmp .ne 7, 3) := by decide +kernel
theorem d_md_lays_91 : decode b_md_lays 91 = .ok (.iconst 1, 1) := by decide +kernel
theorem d_md_lays_92 : decode b_md_lays 92 = .ok (.goto 4, 3) := by decide +kernel
theorem d_md_lays_95 : decode b_md_lays 95 = .ok (.iconst 0, 1) := by decide +kernel
theorem d_md_lays_96 : decode b_md_lays 96 = .ok (.iastore, 1) := by decide +kernel
theorem d_md_lays_97 : decode b_md_lays 97 = .ok (.aload_n 0, 1) := by decide +kernel
theorem d_md_lays_98 : decode b_md_lays 98 = .ok (.getfield 53, 3) := by decide +kernel
theorem d_md_lays_101 : decode b_md_lays 101 = .ok (.iconst 0, 1) := by decide +kernel
theorem d_md_lays_102 : decode b_md_lays 102 = .ok (.dup2, 1) := by decide +kernel
theorem d_md_lays_103 : decode b_md_lays 103 = .ok (.iaload, 1) := by decide +kernel
theorem d_md_lays_104 : decode b_md_lays 104 = .ok (.iconst 1, 1) := by decide +kernel
theorem d_md_lays_105 : decode b_md_lays 105 = .ok (.iadd, 1) := by decide +kernel
theorem d_md_lays_106 : decode b_md_lays 106 = .ok (.iastore, 1) := by decide +kernel
theorem d_md_lays_107 : decode b_md_lays 107 = .ok (.aload_n 0, 1) := by decide +kernel
theorem d_md_lays_108 : decode b_md_lays 108 = .ok (.getfield 7, 3) := by decide +kernel
theorem d_md_lays_111 : decode b_md_lays 111 = .ok (.iload 5, 2) := by decide +kernel
theorem d_md_lays_113 : decode b_md_lays 113 = .ok (.iaload, 1) := by decide +kernel
theorem d_md_lays_114 : decode b_md_lays 114 = .ok (.iload 4, 2) := by decide +kernel
theorem d_md_lays_116 : decode b_md_lays 116 = .ok (.if_icmp .ne 13, 3) := by decide +kernel
theorem d_md_lays_119 : decode b_md_lays 119 = .ok (.aload_n 0, 1) := by decide +kernel
theorem d_md_lays_120 : decode b_md_lays 120 = .ok (.getfield 13, 3) := by decide +kernel
theorem d_md_lays_123 : decode b_md_lays 123 = .ok (.iload 5, 2) := by decide +kernel
theorem d_md_lays_125 : decode b_md_lays 125 = .ok (.iaload, 1) := by decide +kernel
theorem d_md_lays_126 : decode b_md_lays 126 = .ok (.goto 10, 3) := by decide +kernel
theorem d_md_lays_129 : decode b_md_lays 129 = .ok (.aload_n 0, 1) := by decide +kernel
theorem d_md_lays_130 : decode b_md_lays 130 = .ok (.getfield 7, 3) := by decide +kernel
theorem d_md_lays_133 : decode b_md_lays 133 = .ok (.iload 5, 2) := by decide +kernel
theorem d_md_lays_135 : decode b_md_lays 135 = .ok (.iaload, 1) := by decide +kernel
theorem d_md_lays_136 : decode b_md_lays 136 = .ok (.istore 4, 2) := by decide +kernel
theorem d_md_lays_138 : decode b_md_lays 138 = .ok (.goto (-97), 3) := by decide +kernel
theorem d_md_lays_141 : decode b_md_lays 141 = .ok (.iconst 1, 1) := by decide +kernel
theorem d_md_lays_142 : decode b_md_lays 142 = .ok (.ireturn, 1) := by decide +kernel
theorem d_md_timesTo_0 : decode b_md_timesTo 0 = .ok (.iconst 0, 1) := by decide +kernel
theorem d_md_timesTo_1 : decode b_md_timesTo 1 = .ok (.istore_n 3, 1) := by decide +kernel
theorem d_md_timesTo_2 : decode b_md_timesTo 2 = .ok (.iload_n 3, 1) := by decide +kernel
theorem d_md_timesTo_3 : decode b_md_timesTo 3 = .ok (.bipush 8, 2) := by decide +kernel
theorem d_md_timesTo_5 : decode b_md_timesTo 5 = .ok (.if_icmp .ge 26, 3) := by decide +kernel
theorem d_md_timesTo_8 : decode b_md_timesTo 8 = .ok (.aload_n 0, 1) := by decide +kernel
theorem d_md_timesTo_9 : decode b_md_timesTo 9 = .ok (.getfield 62, 3) := by decide +kernel
theorem d_md_timesTo_12 : decode b_md_timesTo 12 = .ok (.iload_n 3, 1) := by decide +kernel
theorem d_md_timesTo_13 : decode b_md_timesTo 13 = .ok (.iload_n 3, 1) := by decide +kernel
theorem d_md_timesTo_14 : decode b_md_timesTo 14 = .ok (.iload_n 2, 1) := by decide +kernel
theorem d_md_timesTo_15 : decode b_md_timesTo 15 = .ok (.if_icmp .ne 7, 3) := by decide +kernel
theorem d_md_timesTo_18 : decode b_md_timesTo 18 = .ok (.iconst 0, 1) := by decide +kernel
theorem d_md_timesTo_19 : decode b_md_timesTo 19 = .ok (.goto 5, 3) := by decide +kernel
theorem d_md_timesTo_22 : decode b_md_timesTo 22 = .ok (.ldc 101, 2) := by decide +kernel
theorem d_md_timesTo_24 : decode b_md_timesTo 24 = .ok (.iastore, 1) := by decide +kernel
theorem d_md_timesTo_25 : decode b_md_timesTo 25 = .ok (.iinc 3 1, 3) := by decide +kernel
theorem d_md_timesTo_28 : decode b_md_timesTo 28 = .ok (.goto (-26), 3) := by decide +kernel
theorem d_md_timesTo_31 : decode b_md_timesTo 31 = .ok (.iconst 0, 1) := by decide +kernel
theorem d_md_timesTo_32 : decode b_md_timesTo 32 = .ok (.istore_n 3, 1) := by decide +kernel
theorem d_md_timesTo_33 : decode b_md_timesTo 33 = .ok (.iload_n 3, 1) := by decide +kernel
theorem d_md_timesTo_34 : decode b_md_timesTo 34 = .ok (.bipush 8, 2) := by decide +kernel
theorem d_md_timesTo_36 : decode b_md_timesTo 36 = .ok (.if_icmp .ge 164, 3) := by decide +kernel
theorem d_md_timesTo_39 : decode b_md_timesTo 39 = .ok (.iconst 0, 1) := by decide +kernel
theorem d_md_timesTo_40 : decode b_md_timesTo 40 = .ok (.istore 4, 2) := by decide +kernel
theorem d_md_timesTo_42 : decode b_md_timesTo 42 = .ok (.iload 4, 2) := by decide +kernel
theorem d_md_timesTo_44 : decode b_md_timesTo 44 = .ok (.aload_n 0, 1) := by decide +kernel
theorem d_md_timesTo_45 : decode b_md_timesTo 45 = .ok (.getfield 69, 3) := by decide +kernel
theorem d_md_timesTo_48 : decode b_md_timesTo 48 = .ok (.if_icmp .ge 146, 3) := by decide +kernel
theorem d_md_timesTo_51 : decode b_md_timesTo 51 = .ok (.aload_n 0, 1) := by decide +kernel
theorem d_md_timesTo_52 : decode b_md_timesTo 52 = .ok (.iload_n 1, 1) := by decide +kernel
theorem d_md_timesTo_53 : decode b_md_timesTo 53 = .ok (.iload 4, 2) := by decide +kernel
theorem d_md_timesTo_55 : decode b_md_timesTo 55 = .ok (.invokevirtual 102, 3) := by decide +kernel
theorem d_md_timesTo_58 : decode b_md_timesTo 58 = .ok (.istore 5, 2) := by decide +kernel
theorem d_md_timesTo_60 : decode b_md_timesTo 60 = .ok (.aload_n 0, 1) := by decide +kernel
theorem d_md_timesTo_61 : decode b_md_timesTo 61 = .ok (.getfield 7, 3) := by decide +kernel
theorem d_md_timesTo_64 : decode b_md_timesTo 64 = .ok (.iload 4, 2) := by decide +kernel
theorem d_md_timesTo_66 : decode b_md_timesTo 66 = .ok (.iaload, 1) := by decide +kernel
theorem d_md_timesTo_67 : decode b_md_timesTo 67 = .ok (.istore 6, 2) := by decide +kernel
theorem d_md_timesTo_69 : decode b_md_timesTo 69 = .ok (.aload_n 0, 1) := by decide +kernel
theorem d_md_timesTo_70 : decode b_md_timesTo 70 = .ok (.getfield 13, 3) := by decide +kernel
theorem d_md_timesTo_73 : decode b_md_timesTo 73 = .ok (.iload 4, 2) := by decide +kernel
theorem d_md_timesTo_75 : decode b_md_timesTo 75 = .ok (.iaload, 1) := by decide +kernel
theorem d_md_timesTo_76 : decode b_md_timesTo 76 = .ok (.istore 7, 2) := by decide +kernel
theorem d_md_timesTo_78 : decode b_md_timesTo 78 = .ok (.aload_n 0, 1) := by decide +kernel
theorem d_md_timesTo_79 : decode b_md_timesTo 79 = .ok (.getfield 34, 3) := by decide +kernel
theorem d_md_timesTo_82 : decode b_md_timesTo 82 = .ok (.iload_n 1, 1) := by decide +kernel
theorem d_md_timesTo_83 : decode b_md_timesTo 83 = .ok (.iaload, 1) := by decide +kernel
theorem d_md_timesTo_84 : decode b_md_timesTo 84 = .ok (.aload_n 0, 1) := by decide +kernel
theorem d_md_timesTo_85 : decode b_md_timesTo 85 = .ok (.getfield 19, 3) := by decide +kernel
theorem d_md_timesTo_88 : decode b_md_timesTo 88 = .ok (.iload 4, 2) := by decide +kernel
theorem d_md_timesTo_90 : decode b_md_timesTo 90 = .ok (.iaload, 1) := by decide +kernel
theorem d_md_timesTo_91 : decode b_md_timesTo 91 = .ok (.if_icmp .gt 97, 3) := by decide +kernel
theorem d_md_timesTo_94 : decode b_md_timesTo 94 = .ok (.aload_n 0, 1) := by decide +kernel
theorem d_md_timesTo_95 : decode b_md_timesTo 95 = .ok (.getfield 62, 3) := by decide +kernel
theorem d_md_timesTo_98 : decode b_md_timesTo 98 = .ok (.iload 6, 2) := by decide +kernel
theorem d_md_timesTo_100 : decode b_md_timesTo 100 = .ok (.aload_n 0, 1) := by decide +kernel
theorem d_md_timesTo_101 : decode b_md_timesTo 101 = .ok (.getfield 62, 3) := by decide +kernel
theorem d_md_timesTo_104 : decode b_md_timesTo 104 = .ok (.iload 7, 2) := by decide +kernel
theorem d_md_timesTo_106 : decode b_md_timesTo 106 = .ok (.iaload, 1) := by decide +kernel
theorem d_md_timesTo_107 : decode b_md_timesTo 107 = .ok (.iload 5, 2) := by decide +kernel
theorem d_md_timesTo_109 : decode b_md_timesTo 109 = .ok (.iadd, 1) := by decide +kernel
theorem d_md_timesTo_110 : decode b_md_timesTo 110 = .ok (.aload_n 0, 1) := by decide +kernel
theorem d_md_timesTo_111 : decode b_md_timesTo 111 = .ok (.getfield 62, 3) := by decide +kernel
theorem d_md_timesTo_114 : decode b_md_timesTo 114 = .ok (.iload 6, 2) := by decide +kernel
theorem d_md_timesTo_116 : decode b_md_timesTo 116 = .ok (.iaload, 1) := by decide +kernel
theorem d_md_timesTo_117 : decode b_md_timesTo 117 = .ok (.if_icmp .ge 16, 3) := by decide +kernel
theorem d_md_timesTo_120 : decode b_md_timesTo 120 = .ok (.aload_n 0, 1) := by decide +kernel
theorem d_md_timesTo_121 : decode b_md_timesTo 121 = .ok (.getfield 62, 3) := by decide +kernel
theorem d_md_timesTo_124 : decode b_md_timesTo 124 = .ok (.iload 7, 2) := by decide +kernel
theorem d_md_timesTo_126 : decode b_md_timesTo 126 = .ok (.iaload, 1) := by decide +kernel
theorem d_md_timesTo_127 : decode b_md_timesTo 127 = .ok (.iload 5, 2) := by decide +kernel
theorem d_md_timesTo_129 : decode b_md_timesTo 129 = .ok (.iadd, 1) := by decide +kernel
theorem d_md_timesTo_130 : decode b_md_timesTo 130 = .ok (.goto 10, 3) := by decide +kernel
theorem d_md_timesTo_133 : decode b_md_timesTo 133 = .ok (.aload_n 0, 1) := by decide +kernel
theorem d_md_timesTo_134 : decode b_md_timesTo 134 = .ok (.getfield 62, 3) := by decide +kernel
theorem d_md_timesTo_137 : decode b_md_timesTo 137 = .ok (.iload 6, 2) := by decide +kernel
theorem d_md_timesTo_139 : decode b_md_timesTo 139 = .ok (.iaload, 1) := by decide +kernel
theorem d_md_timesTo_140 : decode b_md_timesTo 140 = .ok (.iastore, 1) := by decide +kernel
theorem d_md_timesTo_141 : decode b_md_timesTo 141 = .ok (.aload_n 0, 1) := by decide +kernel
theorem d_md_timesTo_142 : decode b_md_timesTo 142 = .ok (.getfield 62, 3) := by decide +kernel
theorem d_md_timesTo_145 : decode b_md_timesTo 145 = .ok (.iload 7, 2) := by decide +kernel
theorem d_md_timesTo_147 : decode b_md_timesTo 147 = .ok (.aload_n 0, 1) := by decide +kernel
theorem d_md_timesTo_148 : decode b_md_timesTo 148 = .ok (.getfield 62, 3) := by decide +kernel
theorem d_md_timesTo_151 : decode b_md_timesTo 151 = .ok (.iload 6, 2) := by decide +kernel
theorem d_md_timesTo_153 : decode b_md_timesTo 153 = .ok (.iaload, 1) := by decide +kernel
theorem d_md_timesTo_154 : decode b_md_timesTo 154 = .ok (.iload 5, 2) := by decide +kernel
theorem d_md_timesTo_156 : decode b_md_timesTo 156 = .ok (.iadd, 1) := by decide +kernel
theorem d_md_timesTo_157 : decode b_md_timesTo 157 = .ok (.aload_n 0, 1) := by decide +kernel
theorem d_md_timesTo_158 : decode b_md_timesTo 158 = .ok (.getfield 62, 3) := by decide +kernel
theorem d_md_timesTo_161 : decode b_md_timesTo 161 = .ok (.iload 7, 2) := by decide +kernel
theorem d_md_timesTo_163 : decode b_md_timesTo 163 = .ok (.iaload, 1) := by decide +kernel
theorem d_md_timesTo_164 : decode b_md_timesTo 164 = .ok (.if_icmp .ge 16, 3) := by decide +kernel
theorem d_md_timesTo_167 : decode b_md_timesTo 167 = .ok (.aload_n 0, 1) := by decide +kernel
theorem d_md_timesTo_168 : decode b_md_timesTo 168 = .ok (.getfield 62, 3) := by decide +kernel
theorem d_md_timesTo_171 : decode b_md_timesTo 171 = .ok (.iload 6, 2) := by decide +kernel
theorem d_md_timesTo_173 : decode b_md_timesTo 173 = .ok (.iaload, 1) := by decide +kernel
theorem d_md_timesTo_174 : decode b_md_timesTo 174 = .ok (.iload 5, 2) := by decide +kernel
theorem d_md_timesTo_176 : decode b_md_timesTo 176 = .ok (.iadd, 1) := by decide +kernel
theorem d_md_timesTo_177 : decode b_md_timesTo 177 = .ok (.goto 10, 3) := by decide +kernel
theorem d_md_timesTo_180 : decode b_md_timesTo 180 = .ok (.aload_n 0, 1) := by decide +kernel
theorem d_md_timesTo_181 : decode b_md_timesTo 181 = .ok (.getfield 62, 3) := by decide +kernel
theorem d_md_timesTo_184 : decode b_md_timesTo 184 = .ok (.iload 7, 2) := by decide +kernel
theorem d_md_timesTo_186 : decode b_md_timesTo 186 = .ok (.iaload, 1) := by decide +kernel
theorem d_md_timesTo_187 : decode b_md_timesTo 187 = .ok (.iastore, 1) := by decide +kernel
theorem d_md_timesTo_188 : decode b_md_timesTo 188 = .ok (.iinc 4 1, 3) := by decide +kernel
theorem d_md_timesTo_191 : decode b_md_timesTo 191 = .ok (.goto (-149), 3) := by decide +kernel
theorem d_md_timesTo_194 : decode b_md_timesTo 194 = .ok (.iinc 3 1, 3) := by decide +kernel
theorem d_md_timesTo_197 : decode b_md_timesTo 197 = .ok (.goto (-164), 3) := by decide +kernel
theorem d_md_timesTo_200 : decode b_md_timesTo 200 = .ok (.return_, 1) := by decide +kernel
theorem d_md_takes_0 : decode b_md_takes 0 = .ok (.aload_n 0, 1) := by decide +kernel
theorem d_md_takes_1 : decode b_md_takes 1 = .ok (.getfield 16, 3) := by decide +kernel
theorem d_md_takes_4 : decode b_md_takes 4 = .ok (.iload_n 2, 1) := by decide +kernel
theorem d_md_takes_5 : decode b_md_takes 5 = .ok (.iaload, 1) := by decide +kernel
theorem d_md_takes_6 : decode b_md_takes 6 = .ok (.aload_n 0, 1) := by decide +kernel
theorem d_md_takes_7 : decode b_md_takes 7 = .ok (.getfield 37, 3) := by decide +kernel
theorem d_md_takes_10 : decode b_md_takes 10 = .ok (.iload_n 1, 1) := by decide +kernel
theorem d_md_takes_11 : decode b_md_takes 11 = .ok (.iaload, 1) := by decide +kernel
theorem d_md_takes_12 : decode b_md_takes 12 = .ok (.idiv, 1) := by decide +kernel
theorem d_md_takes_13 : decode b_md_takes 13 = .ok (.aload_n 0, 1) := by decide +kernel
theorem d_md_takes_14 : decode b_md_takes 14 = .ok (.getfield 16, 3) := by decide +kernel
theorem d_md_takes_17 : decode b_md_takes 17 = .ok (.iload_n 2, 1) := by decide +kernel
theorem d_md_takes_18 : decode b_md_takes 18 = .ok (.iaload, 1) := by decide +kernel
theorem d_md_takes_19 : decode b_md_takes 19 = .ok (.aload_n 0, 1) := by decide +kernel
theorem d_md_takes_20 : decode b_md_takes 20 = .ok (.getfield 37, 3) := by decide +kernel
theorem d_md_takes_23 : decode b_md_takes 23 = .ok (.iload_n 1, 1) := by decide +kernel
theorem d_md_takes_24 : decode b_md_takes 24 = .ok (.iaload, 1) := by decide +kernel
theorem d_md_takes_25 : decode b_md_takes 25 = .ok (.irem, 1) := by decide +kernel
theorem d_md_takes_26 : decode b_md_takes 26 = .ok (.ifCond .le 7, 3) := by decide +kernel
theorem d_md_takes_29 : decode b_md_takes 29 = .ok (.iconst 1, 1) := by decide +kernel
theorem d_md_takes_30 : decode b_md_takes 30 = .ok (.goto 4, 3) := by decide +kernel
theorem d_md_takes_33 : decode b_md_takes 33 = .ok (.iconst 0, 1) := by decide +kernel
theorem d_md_takes_34 : decode b_md_takes 34 = .ok (.iadd, 1) := by decide +kernel
theorem d_md_takes_35 : decode b_md_takes 35 = .ok (.ireturn, 1) := by decide +kernel
theorem d_md_next_0 : decode b_md_next 0 = .ok (.iconst (-1), 1) := by decide +kernel
theorem d_md_next_1 : decode b_md_next 1 = .ok (.istore_n 3, 1) := by decide +kernel
theorem d_md_next_2 : decode b_md_next 2 = .ok (.aload_n 0, 1) := by decide +kernel
theorem d_md_next_3 : decode b_md_next 3 = .ok (.getfield 69, 3) := by decide +kernel
theorem d_md_next_6 : decode b_md_next 6 = .ok (.iconst 1, 1) := by decide +kernel
theorem d_md_next_7 : decode b_md_next 7 = .ok (.isub, 1) := by decide +kernel
theorem d_md_next_8 : decode b_md_next 8 = .ok (.istore 4, 2) := by decide +kernel
theorem d_md_next_10 : decode b_md_next 10 = .ok (.iload 4, 2) := by decide +kernel
theorem d_md_next_12 : decode b_md_next 12 = .ok (.ifCond .lt 136, 3) := by decide +kernel
theorem d_md_next_15 : decode b_md_next 15 = .ok (.aload_n 0, 1) := by decide +kernel
theorem d_md_next_16 : decode b_md_next 16 = .ok (.getfield 62, 3) := by decide +kernel
theorem d_md_next_19 : decode b_md_next 19 = .ok (.iload_n 2, 1) := by decide +kernel
theorem d_md_next_20 : decode b_md_next 20 = .ok (.iaload, 1) := by decide +kernel
theorem d_md_next_21 : decode b_md_next 21 = .ok (.ifCond .le 127, 3) := by decide +kernel
theorem d_md_next_24 : decode b_md_next 24 = .ok (.aload_n 0, 1) := by decide +kernel
theorem d_md_next_25 : decode b_md_next 25 = .ok (.getfield 7, 3) := by decide +kernel
theorem d_md_next_28 : decode b_md_next 28 = .ok (.iload 4, 2) := by decide +kernel
theorem d_md_next_30 : decode b_md_next 30 = .ok (.iaload, 1) := by decide +kernel
theorem d_md_next_31 : decode b_md_next 31 = .ok (.iload_n 2, 1) := by decide +kernel
theorem d_md_next_32 : decode b_md_next 32 = .ok (.if_icmp .ne 13, 3) := by decide +kernel
theorem d_md_next_35 : decode b_md_next 35 = .ok (.aload_n 0, 1) := by decide +kernel
theorem d_md_next_36 : decode b_md_next 36 = .ok (.getfield 13, 3) := by decide +kernel
theorem d_md_next_39 : decode b_md_next 39 = .ok (.iload 4, 2) := by decide +kernel
theorem d_md_next_41 : decode b_md_next 41 = .ok (.iaload, 1) := by decide +kernel
theorem d_md_next_42 : decode b_md_next 42 = .ok (.goto 25, 3) := by decide +kernel
theorem d_md_next_45 : decode b_md_next 45 = .ok (.aload_n 0, 1) := by decide +kernel
theorem d_md_next_46 : decode b_md_next 46 = .ok (.getfield 13, 3) := by decide +kernel
theorem d_md_next_49 : decode b_md_next 49 = .ok (.iload 4, 2) := by decide +kernel
theorem d_md_next_51 : decode b_md_next 51 = .ok (.iaload, 1) := by decide +kernel
theorem d_md_next_52 : decode b_md_next 52 = .ok (.iload_n 2, 1) := by decide +kernel
theorem d_md_next_53 : decode b_md_next 53 = .ok (.if_icmp .ne 13, 3) := by decide +kernel
theorem d_md_next_56 : decode b_md_next 56 = .ok (.aload_n 0, 1) := by decide +kernel
theorem d_md_next_57 : decode b_md_next 57 = .ok (.getfield 7, 3) := by decide +kernel
theorem d_md_next_60 : decode b_md_next 60 = .ok (.iload 4, 2) := by decide +kernel
theorem d_md_next_62 : decode b_md_next 62 = .ok (.iaload, 1) := by decide +kernel
theorem d_md_next_63 : decode b_md_next 63 = .ok (.goto 4, 3) := by decide +kernel
theorem d_md_next_66 : decode b_md_next 66 = .ok (.iconst (-1), 1) := by decide +kernel
theorem d_md_next_67 : decode b_md_next 67 = .ok (.istore 5, 2) := by decide +kernel
theorem d_md_next_69 : decode b_md_next 69 = .ok (.iload 5, 2) := by decide +kernel
theorem d_md_next_71 : decode b_md_next 71 = .ok (.ifCond .lt 56, 3) := by decide +kernel
theorem d_md_next_74 : decode b_md_next 74 = .ok (.aload_n 0, 1) := by decide +kernel
theorem d_md_next_75 : decode b_md_next 75 = .ok (.getfield 34, 3) := by decide +kernel
theorem d_md_next_78 : decode b_md_next 78 = .ok (.iload_n 1, 1) := by decide +kernel
theorem d_md_next_79 : decode b_md_next 79 = .ok (.iaload, 1) := by decide +kernel
theorem d_md_next_80 : decode b_md_next 80 = .ok (.aload_n 0, 1) := by decide +kernel
theorem d_md_next_81 : decode b_md_next 81 = .ok (.getfield 19, 3) := by decide +kernel
theorem d_md_next_84 : decode b_md_next 84 = .ok (.iload 4, 2) := by decide +kernel
theorem d_md_next_86 : decode b_md_next 86 = .ok (.iaload, 1) := by decide +kernel
theorem d_md_next_87 : decode b_md_next 87 = .ok (.if_icmp .gt 40, 3) := by decide +kernel
theorem d_md_next_90 : decode b_md_next 90 = .ok (.aload_n 0, 1) := by decide +kernel
theorem d_md_next_91 : decode b_md_next 91 = .ok (.getfield 62, 3) := by decide +kernel
theorem d_md_next_94 : decode b_md_next 94 = .ok (.iload_n 2, 1) := by decide +kernel
theorem d_md_next_95 : decode b_md_next 95 = .ok (.iaload, 1) := by decide +kernel
theorem d_md_next_96 : decode b_md_next 96 = .ok (.aload_n 0, 1) := by decide +kernel
theorem d_md_next_97 : decode b_md_next 97 = .ok (.iload_n 1, 1) := by decide +kernel
theorem d_md_next_98 : decode b_md_next 98 = .ok (.iload 4, 2) := by decide +kernel
theorem d_md_next_100 : decode b_md_next 100 = .ok (.invokevirtual 102, 3) := by decide +kernel
theorem d_md_next_103 : decode b_md_next 103 = .ok (.aload_n 0, 1) := by decide +kernel
theorem d_md_next_104 : decode b_md_next 104 = .ok (.getfield 62, 3) := by decide +kernel
theorem d_md_next_107 : decode b_md_next 107 = .ok (.iload 5, 2) := by decide +kernel
theorem d_md_next_109 : decode b_md_next 109 = .ok (.ifCond .lt 8, 3) := by decide +kernel
theorem d_md_next_112 : decode b_md_next 112 = .ok (.iload 5, 2) := by decide +kernel
theorem d_md_next_114 : decode b_md_next 114 = .ok (.goto 4, 3) := by decide +kernel
theorem d_md_next_117 : decode b_md_next 117 = .ok (.iconst 0, 1) := by decide +kernel
theorem d_md_next_118 : decode b_md_next 118 = .ok (.iaload, 1) := by decide +kernel
theorem d_md_next_119 : decode b_md_next 119 = .ok (.iadd, 1) := by decide +kernel
theorem d_md_next_120 : decode b_md_next 120 = .ok (.if_icmp .ne 7, 3) := by decide +kernel
theorem d_md_next_123 : decode b_md_next 123 = .ok (.iconst 1, 1) := by decide +kernel
theorem d_md_next_124 : decode b_md_next 124 = .ok (.goto 4, 3) := by decide +kernel
theorem d_md_next_127 : decode b_md_next 127 = .ok (.iconst 0, 1) := by decide +kernel
theorem d_md_next_128 : decode b_md_next 128 = .ok (.istore 6, 2) := by decide +kernel
theorem d_md_next_130 : decode b_md_next 130 = .ok (.iload 6, 2) := by decide +kernel
theorem d_md_next_132 : decode b_md_next 132 = .ok (.ifCond .eq 8, 3) := by decide +kernel
theorem d_md_next_135 : decode b_md_next 135 = .ok (.iload 4, 2) := by decide +kernel
theorem d_md_next_137 : decode b_md_next 137 = .ok (.goto 4, 3) := by decide +kernel
theorem d_md_next_140 : decode b_md_next 140 = .ok (.iload_n 3, 1) := by decide +kernel
theorem d_md_next_141 : decode b_md_next 141 = .ok (.istore_n 3, 1) := by decide +kernel
theorem d_md_next_142 : decode b_md_next 142 = .ok (.iinc 4 (-1), 3) := by decide +kernel
theorem d_md_next_145 : decode b_md_next 145 = .ok (.goto (-135), 3) := by decide +kernel
theorem d_md_next_148 : decode b_md_next 148 = .ok (.iload_n 3, 1) := by decide +kernel
theorem d_md_next_149 : decode b_md_next 149 = .ok (.ireturn, 1) := by decide +kernel
theorem d_md_ask_0 : decode b_md_ask 0 = .ok (.aload_n 0, 1) := by decide +kernel
theorem d_md_ask_1 : decode b_md_ask 1 = .ok (.iload_n 1, 1) := by decide +kernel
theorem d_md_ask_2 : decode b_md_ask 2 = .ok (.iload_n 2, 1) := by decide +kernel
theorem d_md_ask_3 : decode b_md_ask 3 = .ok (.iload_n 3, 1) := by decide +kernel
theorem d_md_ask_4 : decode b_md_ask 4 = .ok (.iload 4, 2) := by decide +kernel
theorem d_md_ask_6 : decode b_md_ask 6 = .ok (.invokevirtual 143, 3) := by decide +kernel
theorem d_md_ask_9 : decode b_md_ask 9 = .ok (.ifCond .ne 9, 3) := by decide +kernel
theorem d_md_ask_12 : decode b_md_ask 12 = .ok (.aload_n 0, 1) := by decide +kernel
theorem d_md_ask_13 : decode b_md_ask 13 = .ok (.iconst 1, 1) := by decide +kernel
theorem d_md_ask_14 : decode b_md_ask 14 = .ok (.invokevirtual 90, 3) := by decide +kernel
theorem d_md_ask_17 : decode b_md_ask 17 = .ok (.ireturn, 1) := by decide +kernel
theorem d_md_ask_18 : decode b_md_ask 18 = .ok (.aload_n 0, 1) := by decide +kernel
theorem d_md_ask_19 : decode b_md_ask 19 = .ok (.getfield 75, 3) := by decide +kernel
theorem d_md_ask_22 : decode b_md_ask 22 = .ok (.bipush 30, 2) := by decide +kernel
theorem d_md_ask_24 : decode b_md_ask 24 = .ok (.if_icmp .ne 9, 3) := by decide +kernel
theorem d_md_ask_27 : decode b_md_ask 27 = .ok (.aload_n 0, 1) := by decide +kernel
theorem d_md_ask_28 : decode b_md_ask 28 = .ok (.iconst 2, 1) := by decide +kernel
theorem d_md_ask_29 : decode b_md_ask 29 = .ok (.invokevirtual 90, 3) := by decide +kernel
theorem d_md_ask_32 : decode b_md_ask 32 = .ok (.ireturn, 1) := by decide +kernel
theorem d_md_ask_33 : decode b_md_ask 33 = .ok (.aload_n 0, 1) := by decide +kernel
theorem d_md_ask_34 : decode b_md_ask 34 = .ok (.iconst 0, 1) := by decide +kernel
theorem d_md_ask_35 : decode b_md_ask 35 = .ok (.putfield 65, 3) := by decide +kernel
theorem d_md_ask_38 : decode b_md_ask 38 = .ok (.aload_n 0, 1) := by decide +kernel
theorem d_md_ask_39 : decode b_md_ask 39 = .ok (.iload_n 1, 1) := by decide +kernel
theorem d_md_ask_40 : decode b_md_ask 40 = .ok (.iload_n 2, 1) := by decide +kernel
theorem d_md_ask_41 : decode b_md_ask 41 = .ok (.iload_n 3, 1) := by decide +kernel
theorem d_md_ask_42 : decode b_md_ask 42 = .ok (.invokevirtual 116, 3) := by decide +kernel
theorem d_md_ask_45 : decode b_md_ask 45 = .ok (.ifCond .ne 5, 3) := by decide +kernel
theorem d_md_ask_48 : decode b_md_ask 48 = .ok (.iconst 0, 1) := by decide +kernel
theorem d_md_ask_49 : decode b_md_ask 49 = .ok (.ireturn, 1) := by decide +kernel
theorem d_md_ask_50 : decode b_md_ask 50 = .ok (.aload_n 0, 1) := by decide +kernel
theorem d_md_ask_51 : decode b_md_ask 51 = .ok (.getfield 46, 3) := by decide +kernel
theorem d_md_ask_54 : decode b_md_ask 54 = .ok (.iconst 0, 1) := by decide +kernel
theorem d_md_ask_55 : decode b_md_ask 55 = .ok (.iload 4, 2) := by decide +kernel
theorem d_md_ask_57 : decode b_md_ask 57 = .ok (.iastore, 1) := by decide +kernel
theorem d_md_ask_58 : decode b_md_ask 58 = .ok (.aload_n 0, 1) := by decide +kernel
theorem d_md_ask_59 : decode b_md_ask 59 = .ok (.iconst 0, 1) := by decide +kernel
theorem d_md_ask_60 : decode b_md_ask 60 = .ok (.iconst 0, 1) := by decide +kernel
theorem d_md_ask_61 : decode b_md_ask 61 = .ok (.invokevirtual 147, 3) := by decide +kernel
theorem d_md_ask_64 : decode b_md_ask 64 = .ok (.istore 5, 2) := by decide +kernel
theorem d_md_ask_66 : decode b_md_ask 66 = .ok (.iload 5, 2) := by decide +kernel
theorem d_md_ask_68 : decode b_md_ask 68 = .ok (.ifCond .le 8, 3) := by decide +kernel
theorem d_md_ask_71 : decode b_md_ask 71 = .ok (.iconst (-1), 1) := by decide +kernel
theorem d_md_ask_72 : decode b_md_ask 72 = .ok (.iload 5, 2) := by decide +kernel
theorem d_md_ask_74 : decode b_md_ask 74 = .ok (.isub, 1) := by decide +kernel
theorem d_md_ask_75 : decode b_md_ask 75 = .ok (.ireturn, 1) := by decide +kernel
theorem d_md_ask_76 : decode b_md_ask 76 = .ok (.aload_n 0, 1) := by decide +kernel
theorem d_md_ask_77 : decode b_md_ask 77 = .ok (.dup, 1) := by decide +kernel
theorem d_md_ask_78 : decode b_md_ask 78 = .ok (.getfield 75, 3) := by decide +kernel
theorem d_md_ask_81 : decode b_md_ask 81 = .ok (.iconst 1, 1) := by decide +kernel
theorem d_md_ask_82 : decode b_md_ask 82 = .ok (.iadd, 1) := by decide +kernel
theorem d_md_ask_83 : decode b_md_ask 83 = .ok (.putfield 75, 3) := by decide +kernel
theorem d_md_ask_86 : decode b_md_ask 86 = .ok (.aload_n 0, 1) := by decide +kernel
theorem d_md_ask_87 : decode b_md_ask 87 = .ok (.getfield 43, 3) := by decide +kernel
theorem d_md_ask_90 : decode b_md_ask 90 = .ok (.aload_n 0, 1) := by decide +kernel
theorem d_md_ask_91 : decode b_md_ask 91 = .ok (.getfield 75, 3) := by decide +kernel
theorem d_md_ask_94 : decode b_md_ask 94 = .ok (.iload_n 1, 1) := by decide +kernel
theorem d_md_ask_95 : decode b_md_ask 95 = .ok (.iastore, 1) := by decide +kernel
theorem d_md_ask_96 : decode b_md_ask 96 = .ok (.aload_n 0, 1) := by decide +kernel
theorem d_md_ask_97 : decode b_md_ask 97 = .ok (.getfield 46, 3) := by decide +kernel
theorem d_md_ask_100 : decode b_md_ask 100 = .ok (.aload_n 0, 1) := by decide +kernel
theorem d_md_ask_101 : decode b_md_ask 101 = .ok (.getfield 75, 3) := by decide +kernel
theorem d_md_ask_104 : decode b_md_ask 104 = .ok (.iload 4, 2) := by decide +kernel
theorem d_md_ask_106 : decode b_md_ask 106 = .ok (.iastore, 1) := by decide +kernel
theorem d_md_ask_107 : decode b_md_ask 107 = .ok (.aload_n 0, 1) := by decide +kernel
theorem d_md_ask_108 : decode b_md_ask 108 = .ok (.getfield 49, 3) := by decide +kernel
theorem d_md_ask_111 : decode b_md_ask 111 = .ok (.aload_n 0, 1) := by decide +kernel
theorem d_md_ask_112 : decode b_md_ask 112 = .ok (.getfield 75, 3) := by decide +kernel
theorem d_md_ask_115 : decode b_md_ask 115 = .ok (.iconst 1, 1) := by decide +kernel
theorem d_md_ask_116 : decode b_md_ask 116 = .ok (.bastore, 1) := by decide +kernel
theorem d_md_ask_117 : decode b_md_ask 117 = .ok (.aload_n 0, 1) := by decide +kernel
theorem d_md_ask_118 : decode b_md_ask 118 = .ok (.getfield 53, 3) := by decide +kernel
theorem d_md_ask_121 : decode b_md_ask 121 = .ok (.aload_n 0, 1) := by decide +kernel
theorem d_md_ask_122 : decode b_md_ask 122 = .ok (.getfield 75, 3) := by decide +kernel
theorem d_md_ask_125 : decode b_md_ask 125 = .ok (.aload_n 0, 1) := by decide +kernel
theorem d_md_ask_126 : decode b_md_ask 126 = .ok (.getfield 53, 3) := by decide +kernel
theorem d_md_ask_129 : decode b_md_ask 129 = .ok (.iconst 0, 1) := by decide +kernel
theorem d_md_ask_130 : decode b_md_ask 130 = .ok (.iaload, 1) := by decide +kernel
theorem d_md_ask_131 : decode b_md_ask 131 = .ok (.iastore, 1) := by decide +kernel
theorem d_md_ask_132 : decode b_md_ask 132 = .ok (.iconst 0, 1) := by decide +kernel
theorem d_md_ask_133 : decode b_md_ask 133 = .ok (.istore 6, 2) := by decide +kernel
theorem d_md_ask_135 : decode b_md_ask 135 = .ok (.iload 6, 2) := by decide +kernel
theorem d_md_ask_137 : decode b_md_ask 137 = .ok (.aload_n 0, 1) := by decide +kernel
theorem d_md_ask_138 : decode b_md_ask 138 = .ok (.getfield 53, 3) := by decide +kernel
theorem d_md_ask_141 : decode b_md_ask 141 = .ok (.iconst 0, 1) := by decide +kernel
theorem d_md_ask_142 : decode b_md_ask 142 = .ok (.iaload, 1) := by decide +kernel
theorem d_md_ask_143 : decode b_md_ask 143 = .ok (.if_icmp .ge 53, 3) := by decide +kernel
theorem d_md_ask_146 : decode b_md_ask 146 = .ok (.aload_n 0, 1) := by decide +kernel
theorem d_md_ask_147 : decode b_md_ask 147 = .ok (.getfield 56, 3) := by decide +kernel
theorem d_md_ask_150 : decode b_md_ask 150 = .ok (.bipush 8, 2) := by decide +kernel
theorem d_md_ask_152 : decode b_md_ask 152 = .ok (.aload_n 0, 1) := by decide +kernel
theorem d_md_ask_153 : decode b_md_ask 153 = .ok (.getfield 75, 3) := by decide +kernel
theorem d_md_ask_156 : decode b_md_ask 156 = .ok (.imul, 1) := by decide +kernel
theorem d_md_ask_157 : decode b_md_ask 157 = .ok (.iload 6, 2) := by decide +kernel
theorem d_md_ask_159 : decode b_md_ask 159 = .ok (.iadd, 1) := by decide +kernel
theorem d_md_ask_160 : decode b_md_ask 160 = .ok (.aload_n 0, 1) := by decide +kernel
theorem d_md_ask_161 : decode b_md_ask 161 = .ok (.getfield 56, 3) := by decide +kernel
theorem d_md_ask_164 : decode b_md_ask 164 = .ok (.iload 6, 2) := by decide +kernel
theorem d_md_ask_166 : decode b_md_ask 166 = .ok (.iaload, 1) := by decide +kernel
theorem d_md_ask_167 : decode b_md_ask 167 = .ok (.iastore, 1) := by decide +kernel
theorem d_md_ask_168 : decode b_md_ask 168 = .ok (.aload_n 0, 1) := by decide +kernel
theorem d_md_ask_169 : decode b_md_ask 169 = .ok (.getfield 59, 3) := by decide +kernel
theorem d_md_ask_172 : decode b_md_ask 172 = .ok (.bipush 8, 2) := by decide +kernel
theorem d_md_ask_174 : decode b_md_ask 174 = .ok (.aload_n 0, 1) := by decide +kernel
theorem d_md_ask_175 : decode b_md_ask 175 = .ok (.getfield 75, 3) := by decide +kernel
theorem d_md_ask_178 : decode b_md_ask 178 = .ok (.imul, 1) := by decide +kernel
theorem d_md_ask_179 : decode b_md_ask 179 = .ok (.iload 6, 2) := by decide +kernel
theorem d_md_ask_181 : decode b_md_ask 181 = .ok (.iadd, 1) := by decide +kernel
theorem d_md_ask_182 : decode b_md_ask 182 = .ok (.aload_n 0, 1) := by decide +kernel
theorem d_md_ask_183 : decode b_md_ask 183 = .ok (.getfield 59, 3) := by decide +kernel
theorem d_md_ask_186 : decode b_md_ask 186 = .ok (.iload 6, 2) := by decide +kernel
theorem d_md_ask_188 : decode b_md_ask 188 = .ok (.iaload, 1) := by decide +kernel
theorem d_md_ask_189 : decode b_md_ask 189 = .ok (.iastore, 1) := by decide +kernel
theorem d_md_ask_190 : decode b_md_ask 190 = .ok (.iinc 6 1, 3) := by decide +kernel
theorem d_md_ask_193 : decode b_md_ask 193 = .ok (.goto (-58), 3) := by decide +kernel
theorem d_md_ask_196 : decode b_md_ask 196 = .ok (.aload_n 0, 1) := by decide +kernel
theorem d_md_ask_197 : decode b_md_ask 197 = .ok (.getfield 75, 3) := by decide +kernel
theorem d_md_ask_200 : decode b_md_ask 200 = .ok (.ireturn, 1) := by decide +kernel
theorem d_md_isPassage_0 : decode b_md_isPassage 0 = .ok (.aload_n 0, 1) := by decide +kernel
theorem d_md_isPassage_1 : decode b_md_isPassage 1 = .ok (.iload_n 1, 1) := by decide +kernel
theorem d_md_isPassage_2 : decode b_md_isPassage 2 = .ok (.invokevirtual 113, 3) := by decide +kernel
theorem d_md_isPassage_5 : decode b_md_isPassage 5 = .ok (.ifCond .eq 30, 3) := by decide +kernel
theorem d_md_isPassage_8 : decode b_md_isPassage 8 = .ok (.iload_n 2, 1) := by decide +kernel
theorem d_md_isPassage_9 : decode b_md_isPassage 9 = .ok (.invokestatic 82, 3) := by decide +kernel
theorem d_md_isPassage_12 : decode b_md_isPassage 12 = .ok (.ifCond .eq 23, 3) := by decide +kernel
theorem d_md_isPassage_15 : decode b_md_isPassage 15 = .ok (.iload_n 3, 1) := by decide +kernel
theorem d_md_isPassage_16 : decode b_md_isPassage 16 = .ok (.invokestatic 82, 3) := by decide +kernel
theorem d_md_isPassage_19 : decode b_md_isPassage 19 = .ok (.ifCond .eq 16, 3) := by decide +kernel
theorem d_md_isPassage_22 : decode b_md_isPassage 22 = .ok (.aload_n 0, 1) := by decide +kernel
theorem d_md_isPassage_23 : decode b_md_isPassage 23 = .ok (.iload 4, 2) := by decide +kernel
theorem d_md_isPassage_25 : decode b_md_isPassage 25 = .ok (.invokevirtual 140, 3) := by decide +kernel
theorem d_md_isPassage_28 : decode b_md_isPassage 28 = .ok (.ifCond .eq 7, 3) := by decide +kernel
theorem d_md_isPassage_31 : decode b_md_isPassage 31 = .ok (.iconst 1, 1) := by decide +kernel
theorem d_md_isPassage_32 : decode b_md_isPassage 32 = .ok (.goto 4, 3) := by decide +kernel
theorem d_md_isPassage_35 : decode b_md_isPassage 35 = .ok (.iconst 0, 1) := by decide +kernel
theorem d_md_isPassage_36 : decode b_md_isPassage 36 = .ok (.ireturn, 1) := by decide +kernel
theorem d_md_isTime_0 : decode b_md_isTime 0 = .ok (.iload_n 1, 1) := by decide +kernel
theorem d_md_isTime_1 : decode b_md_isTime 1 = .ok (.aload_n 0, 1) := by decide +kernel
theorem d_md_isTime_2 : decode b_md_isTime 2 = .ok (.getfield 78, 3) := by decide +kernel
theorem d_md_isTime_5 : decode b_md_isTime 5 = .ok (.if_icmp .lt 13, 3) := by decide +kernel
theorem d_md_isTime_8 : decode b_md_isTime 8 = .ok (.iload_n 1, 1) := by decide +kernel
theorem d_md_isTime_9 : decode b_md_isTime 9 = .ok (.ldc 81, 2) := by decide +kernel
theorem d_md_isTime_11 : decode b_md_isTime 11 = .ok (.if_icmp .gt 7, 3) := by decide +kernel
theorem d_md_isTime_14 : decode b_md_isTime 14 = .ok (.iconst 1, 1) := by decide +kernel
theorem d_md_isTime_15 : decode b_md_isTime 15 = .ok (.goto 4, 3) := by decide +kernel
theorem d_md_isTime_18 : decode b_md_isTime 18 = .ok (.iconst 0, 1) := by decide +kernel
theorem d_md_isTime_19 : decode b_md_isTime 19 = .ok (.ireturn, 1) := by decide +kernel
theorem d_md_against_0 : decode b_md_against 0 = .ok (.iconst 0, 1) := by decide +kernel
theorem d_md_against_1 : decode b_md_against 1 = .ok (.istore_n 3, 1) := by decide +kernel
theorem d_md_against_2 : decode b_md_against 2 = .ok (.iload_n 3, 1) := by decide +kernel
theorem d_md_against_3 : decode b_md_against 3 = .ok (.aload_n 0, 1) := by decide +kernel
theorem d_md_against_4 : decode b_md_against 4 = .ok (.getfield 53, 3) := by decide +kernel
theorem d_md_against_7 : decode b_md_against 7 = .ok (.iload_n 1, 1) := by decide +kernel
theorem d_md_against_8 : decode b_md_against 8 = .ok (.iaload, 1) := by decide +kernel
theorem d_md_against_9 : decode b_md_against 9 = .ok (.if_icmp .ge 110, 3) := by decide +kernel
theorem d_md_against_12 : decode b_md_against 12 = .ok (.aload_n 0, 1) := by decide +kernel
theorem d_md_against_13 : decode b_md_against 13 = .ok (.iload_n 1, 1) := by decide +kernel
theorem d_md_against_14 : decode b_md_against 14 = .ok (.iload_n 3, 1) := by decide +kernel
theorem d_md_against_15 : decode b_md_against 15 = .ok (.invokevirtual 133, 3) := by decide +kernel
theorem d_md_against_18 : decode b_md_against 18 = .ok (.istore 4, 2) := by decide +kernel
theorem d_md_against_20 : decode b_md_against 20 = .ok (.iconst 1, 1) := by decide +kernel
theorem d_md_against_21 : decode b_md_against 21 = .ok (.istore 5, 2) := by decide +kernel
theorem d_md_against_23 : decode b_md_against 23 = .ok (.iload 5, 2) := by decide +kernel
theorem d_md_against_25 : decode b_md_against 25 = .ok (.aload_n 0, 1) := by decide +kernel
theorem d_md_against_26 : decode b_md_against 26 = .ok (.getfield 75, 3) := by decide +kernel
theorem d_md_against_29 : decode b_md_against 29 = .ok (.if_icmp .gt 76, 3) := by decide +kernel
theorem d_md_against_32 : decode b_md_against 32 = .ok (.iload 4, 2) := by decide +kernel
theorem d_md_against_34 : decode b_md_against 34 = .ok (.ifCond .eq 9, 3) := by decide +kernel
theorem d_md_against_37 : decode b_md_against 37 = .ok (.iload 4, 2) := by decide +kernel
theorem d_md_against_39 : decode b_md_against 39 = .ok (.iconst 5, 1) := by decide +kernel
theorem d_md_against_40 : decode b_md_against 40 = .ok (.if_icmp .le 65, 3) := by decide +kernel
theorem d_md_against_43 : decode b_md_against 43 = .ok (.aload_n 0, 1) := by decide +kernel
theorem d_md_against_44 : decode b_md_against 44 = .ok (.getfield 49, 3) := by decide +kernel
theorem d_md_against_47 : decode b_md_against 47 = .ok (.iload 5, 2) := by decide +kernel
theorem d_md_against_49 : decode b_md_against 49 = .ok (.baload, 1) := by decide +kernel
theorem d_md_against_50 : decode b_md_against 50 = .ok (.ifCond .eq 20, 3) := by decide +kernel
theorem d_md_against_53 : decode b_md_against 53 = .ok (.iload 5, 2) := by decide +kernel
theorem d_md_against_55 : decode b_md_against 55 = .ok (.iload_n 2, 1) := by decide +kernel
theorem d_md_against_56 : decode b_md_against 56 = .ok (.if_icmp .eq 14, 3) := by decide +kernel
theorem d_md_against_59 : decode b_md_against 59 = .ok (.aload_n 0, 1) := by decide +kernel
theorem d_md_against_60 : decode b_md_against 60 = .ok (.iload_n 1, 1) := by decide +kernel
theorem d_md_against_61 : decode b_md_against 61 = .ok (.iload_n 3, 1) := by decide +kernel
theorem d_md_against_62 : decode b_md_against 62 = .ok (.iload 5, 2) := by decide +kernel
theorem d_md_against_64 : decode b_md_against 64 = .ok (.invokevirtual 136, 3) := by decide +kernel
theorem d_md_against_67 : decode b_md_against 67 = .ok (.goto 4, 3) := by decide +kernel
theorem d_md_against_70 : decode b_md_against 70 = .ok (.iconst 0, 1) := by decide +kernel
theorem d_md_against_71 : decode b_md_against 71 = .ok (.istore 6, 2) := by decide +kernel
theorem d_md_against_73 : decode b_md_against 73 = .ok (.iload 6, 2) := by decide +kernel
theorem d_md_against_75 : decode b_md_against 75 = .ok (.ifCond .le 20, 3) := by decide +kernel
theorem d_md_against_78 : decode b_md_against 78 = .ok (.iload 4, 2) := by decide +kernel
theorem d_md_against_80 : decode b_md_against 80 = .ok (.ifCond .eq 10, 3) := by decide +kernel
theorem d_md_against_83 : decode b_md_against 83 = .ok (.iload 6, 2) := by decide +kernel
theorem d_md_against_85 : decode b_md_against 85 = .ok (.iload 4, 2) := by decide +kernel
theorem d_md_against_87 : decode b_md_against 87 = .ok (.if_icmp .ge 8, 3) := by decide +kernel
theorem d_md_against_90 : decode b_md_against 90 = .ok (.iload 6, 2) := by decide +kernel
theorem d_md_against_92 : decode b_md_against 92 = .ok (.goto 5, 3) := by decide +kernel
theorem d_md_against_95 : decode b_md_against 95 = .ok (.iload 4, 2) := by decide +kernel
theorem d_md_against_97 : decode b_md_against 97 = .ok (.istore 4, 2) := by decide +kernel
theorem d_md_against_99 : decode b_md_against 99 = .ok (.iinc 5 1, 3) := by decide +kernel
theorem d_md_against_102 : decode b_md_against 102 = .ok (.goto (-79), 3) := by decide +kernel
theorem d_md_against_105 : decode b_md_against 105 = .ok (.iload 4, 2) := by decide +kernel
theorem d_md_against_107 : decode b_md_against 107 = .ok (.ifCond .le 6, 3) := by decide +kernel
theorem d_md_against_110 : decode b_md_against 110 = .ok (.iload 4, 2) := by decide +kernel
theorem d_md_against_112 : decode b_md_against 112 = .ok (.ireturn, 1) := by decide +kernel
theorem d_md_against_113 : decode b_md_against 113 = .ok (.iinc 3 1, 3) := by decide +kernel
theorem d_md_against_116 : decode b_md_against 116 = .ok (.goto (-114), 3) := by decide +kernel
theorem d_md_against_119 : decode b_md_against 119 = .ok (.iconst 0, 1) := by decide +kernel
theorem d_md_against_120 : decode b_md_against 120 = .ok (.ireturn, 1) := by decide +kernel
theorem d_md_barred_0 : decode b_md_barred 0 = .ok (.aload_n 0, 1) := by decide +kernel
theorem d_md_barred_1 : decode b_md_barred 1 = .ok (.getfield 56, 3) := by decide +kernel
theorem d_md_barred_4 : decode b_md_barred 4 = .ok (.bipush 8, 2) := by decide +kernel
theorem d_md_barred_6 : decode b_md_barred 6 = .ok (.iload_n 1, 1) := by decide +kernel
theorem d_md_barred_7 : decode b_md_barred 7 = .ok (.imul, 1) := by decide +kernel
theorem d_md_barred_8 : decode b_md_barred 8 = .ok (.iload_n 2, 1) := by decide +kernel
theorem d_md_barred_9 : decode b_md_barred 9 = .ok (.iadd, 1) := by decide +kernel
theorem d_md_barred_10 : decode b_md_barred 10 = .ok (.iaload, 1) := by decide +kernel
theorem d_md_barred_11 : decode b_md_barred 11 = .ok (.istore_n 3, 1) := by decide +kernel
theorem d_md_barred_12 : decode b_md_barred 12 = .ok (.aload_n 0, 1) := by decide +kernel
theorem d_md_barred_13 : decode b_md_barred 13 = .ok (.getfield 43, 3) := by decide +kernel
theorem d_md_barred_16 : decode b_md_barred 16 = .ok (.iload_n 1, 1) := by decide +kernel
theorem d_md_barred_17 : decode b_md_barred 17 = .ok (.iaload, 1) := by decide +kernel
theorem d_md_barred_18 : decode b_md_barred 18 = .ok (.istore 4, 2) := by decide +kernel
theorem d_md_barred_20 : decode b_md_barred 20 = .ok (.aload_n 0, 1) := by decide +kernel
theorem d_md_barred_21 : decode b_md_barred 21 = .ok (.iload_n 1, 1) := by decide +kernel
theorem d_md_barred_22 : decode b_md_barred 22 = .ok (.iload_n 2, 1) := by decide +kernel
theorem d_md_barred_23 : decode b_md_barred 23 = .ok (.invokevirtual 119, 3) := by decide +kernel
theorem d_md_barred_26 : decode b_md_barred 26 = .ok (.istore 5, 2) := by decide +kernel
theorem d_md_barred_28 : decode b_md_barred 28 = .ok (.aload_n 0, 1) := by decide +kernel
theorem d_md_barred_29 : decode b_md_barred 29 = .ok (.iload_n 1, 1) := by decide +kernel
theorem d_md_barred_30 : decode b_md_barred 30 = .ok (.iload_n 2, 1) := by decide +kernel
theorem d_md_barred_31 : decode b_md_barred 31 = .ok (.invokevirtual 122, 3) := by decide +kernel
theorem d_md_barred_34 : decode b_md_barred 34 = .ok (.istore 6, 2) := by decide +kernel
theorem d_md_barred_36 : decode b_md_barred 36 = .ok (.aload_n 0, 1) := by decide +kernel
theorem d_md_barred_37 : decode b_md_barred 37 = .ok (.getfield 22, 3) := by decide +kernel
theorem d_md_barred_40 : decode b_md_barred 40 = .ok (.iconst 5, 1) := by decide +kernel
theorem d_md_barred_41 : decode b_md_barred 41 = .ok (.iload_n 3, 1) := by decide +kernel
theorem d_md_barred_42 : decode b_md_barred 42 = .ok (.imul, 1) := by decide +kernel
theorem d_md_barred_43 : decode b_md_barred 43 = .ok (.iaload, 1) := by decide +kernel
theorem d_md_barred_44 : decode b_md_barred 44 = .ok (.istore 7, 2) := by decide +kernel
theorem d_md_barred_46 : decode b_md_barred 46 = .ok (.iload 7, 2) := by decide +kernel
theorem d_md_barred_48 : decode b_md_barred 48 = .ok (.ifCond .le 30, 3) := by decide +kernel
theorem d_md_barred_51 : decode b_md_barred 51 = .ok (.iload 7, 2) := by decide +kernel
theorem d_md_barred_53 : decode b_md_barred 53 = .ok (.aload_n 0, 1) := by decide +kernel
theorem d_md_barred_54 : decode b_md_barred 54 = .ok (.getfield 59, 3) := by decide +kernel
theorem d_md_barred_57 : decode b_md_barred 57 = .ok (.bipush 8, 2) := by decide +kernel
theorem d_md_barred_59 : decode b_md_barred 59 = .ok (.iload_n 1, 1) := by decide +kernel
theorem d_md_barred_60 : decode b_md_barred 60 = .ok (.imul, 1) := by decide +kernel
theorem d_md_barred_61 : decode b_md_barred 61 = .ok (.iload_n 2, 1) := by decide +kernel
theorem d_md_barred_62 : decode b_md_barred 62 = .ok (.iadd, 1) := by decide +kernel
theorem d_md_barred_63 : decode b_md_barred 63 = .ok (.iaload, 1) := by decide +kernel
theorem d_md_barred_64 : decode b_md_barred 64 = .ok (.iconst 1, 1) := by decide +kernel
theorem d_md_barred_65 : decode b_md_barred 65 = .ok (.if_icmp .ne 7, 3) := by decide +kernel
theorem d_md_barred_68 : decode b_md_barred 68 = .ok (.iconst 1, 1) := by decide +kernel
theorem d_md_barred_69 : decode b_md_barred 69 = .ok (.goto 4, 3) := by decide +kernel
theorem d_md_barred_72 : decode b_md_barred 72 = .ok (.iconst 2, 1) := by decide +kernel
theorem d_md_barred_73 : decode b_md_barred 73 = .ok (.if_icmp .eq 5, 3) := by decide +kernel
theorem d_md_barred_76 : decode b_md_barred 76 = .ok (.iconst 1, 1) := by decide +kernel
theorem d_md_barred_77 : decode b_md_barred 77 = .ok (.ireturn, 1) := by decide +kernel
theorem d_md_barred_78 : decode b_md_barred 78 = .ok (.aload_n 0, 1) := by decide +kernel
theorem d_md_barred_79 : decode b_md_barred 79 = .ok (.getfield 22, 3) := by decide +kernel
theorem d_md_barred_82 : decode b_md_barred 82 = .ok (.iconst 5, 1) := by decide +kernel
theorem d_md_barred_83 : decode b_md_barred 83 = .ok (.iload_n 3, 1) := by decide +kernel
theorem d_md_barred_84 : decode b_md_barred 84 = .ok (.imul, 1) := by decide +kernel
theorem d_md_barred_85 : decode b_md_barred 85 = .ok (.iconst 1, 1) := by decide +kernel
theorem d_md_barred_86 : decode b_md_barred 86 = .ok (.iadd, 1) := by decide +kernel
theorem d_md_barred_87 : decode b_md_barred 87 = .ok (.iaload, 1) := by decide +kernel
theorem d_md_barred_88 : decode b_md_barred 88 = .ok (.ifCond .le 35, 3) := by decide +kernel
theorem d_md_barred_91 : decode b_md_barred 91 = .ok (.aload_n 0, 1) := by decide +kernel
theorem d_md_barred_92 : decode b_md_barred 92 = .ok (.getfield 40, 3) := by decide +kernel
theorem d_md_barred_95 : decode b_md_barred 95 = .ok (.iload 4, 2) := by decide +kernel
theorem d_md_barred_97 : decode b_md_barred 97 = .ok (.iaload, 1) := by decide +kernel
theorem d_md_barred_98 : decode b_md_barred 98 = .ok (.aload_n 0, 1) := by decide +kernel
theorem d_md_barred_99 : decode b_md_barred 99 = .ok (.getfield 22, 3) := by decide +kernel
theorem d_md_barred_102 : decode b_md_barred 102 = .ok (.iconst 5, 1) := by decide +kernel
theorem d_md_barred_103 : decode b_md_barred 103 = .ok (.iload_n 3, 1) := by decide +kernel
theorem d_md_barred_104 : decode b_md_barred 104 = .ok (.imul, 1) := by decide +kernel
theorem d_md_barred_105 : decode b_md_barred 105 = .ok (.iconst 1, 1) := by decide +kernel
theorem d_md_barred_106 : decode b_md_barred 106 = .ok (.iadd, 1) := by decide +kernel
theorem d_md_barred_107 : decode b_md_barred 107 = .ok (.iaload, 1) := by decide +kernel
theorem d_md_barred_108 : decode b_md_barred 108 = .ok (.if_icmp .lt 15, 3) := by decide +kernel
theorem d_md_barred_111 : decode b_md_barred 111 = .ok (.iload 5, 2) := by decide +kernel
theorem d_md_barred_113 : decode b_md_barred 113 = .ok (.iload 6, 2) := by decide +kernel
theorem d_md_barred_115 : decode b_md_barred 115 = .ok (.invokestatic 125, 3) := by decide +kernel
theorem d_md_barred_118 : decode b_md_barred 118 = .ok (.ifCond .eq 5, 3) := by decide +kernel
theorem d_md_barred_121 : decode b_md_barred 121 = .ok (.iconst 2, 1) := by decide +kernel
theorem d_md_barred_122 : decode b_md_barred 122 = .ok (.ireturn, 1) := by decide +kernel
theorem d_md_barred_123 : decode b_md_barred 123 = .ok (.aload_n 0, 1) := by decide +kernel
theorem d_md_barred_124 : decode b_md_barred 124 = .ok (.getfield 97, 3) := by decide +kernel
theorem d_md_barred_127 : decode b_md_barred 127 = .ok (.ifCond .eq 25, 3) := by decide +kernel
theorem d_md_barred_130 : decode b_md_barred 130 = .ok (.aload_n 0, 1) := by decide +kernel
theorem d_md_barred_131 : decode b_md_barred 131 = .ok (.getfield 34, 3) := by decide +kernel
theorem d_md_barred_134 : decode b_md_barred 134 = .ok (.iload 4, 2) := by decide +kernel
theorem d_md_barred_136 : decode b_md_barred 136 = .ok (.iaload, 1) := by decide +kernel
theorem d_md_barred_137 : decode b_md_barred 137 = .ok (.aload_n 0, 1) := by decide +kernel
theorem d_md_barred_138 : decode b_md_barred 138 = .ok (.getfield 22, 3) := by decide +kernel
theorem d_md_barred_141 : decode b_md_barred 141 = .ok (.iconst 5, 1) := by decide +kernel
theorem d_md_barred_142 : decode b_md_barred 142 = .ok (.iload_n 3, 1) := by decide +kernel
theorem d_md_barred_143 : decode b_md_barred 143 = .ok (.imul, 1) := by decide +kernel
theorem d_md_barred_144 : decode b_md_barred 144 = .ok (.iconst 2, 1) := by decide +kernel
theorem d_md_barred_145 : decode b_md_barred 145 = .ok (.iadd, 1) := by decide +kernel
theorem d_md_barred_146 : decode b_md_barred 146 = .ok (.iaload, 1) := by decide +kernel
theorem d_md_barred_147 : decode b_md_barred 147 = .ok (.if_icmp .le 5, 3) := by decide +kernel
theorem d_md_barred_150 : decode b_md_barred 150 = .ok (.iconst 3, 1) := by decide +kernel
theorem d_md_barred_151 : decode b_md_barred 151 = .ok (.ireturn, 1) := by decide +kernel
theorem d_md_barred_152 : decode b_md_barred 152 = .ok (.iconst 4, 1) := by decide +kernel
theorem d_md_barred_153 : decode b_md_barred 153 = .ok (.iload_n 3, 1) := by decide +kernel
theorem d_md_barred_154 : decode b_md_barred 154 = .ok (.imul, 1) := by decide +kernel
theorem d_md_barred_155 : decode b_md_barred 155 = .ok (.istore 8, 2) := by decide +kernel
theorem d_md_barred_157 : decode b_md_barred 157 = .ok (.iload 8, 2) := by decide +kernel
theorem d_md_barred_159 : decode b_md_barred 159 = .ok (.iconst 4, 1) := by decide +kernel
theorem d_md_barred_160 : decode b_md_barred 160 = .ok (.iload_n 3, 1) := by decide +kernel
theorem d_md_barred_161 : decode b_md_barred 161 = .ok (.imul, 1) := by decide +kernel
theorem d_md_barred_162 : decode b_md_barred 162 = .ok (.aload_n 0, 1) := by decide +kernel
theorem d_md_barred_163 : decode b_md_barred 163 = .ok (.getfield 25, 3) := by decide +kernel
theorem d_md_barred_166 : decode b_md_barred 166 = .ok (.iload_n 3, 1) := by decide +kernel
theorem d_md_barred_167 : decode b_md_barred 167 = .ok (.iaload, 1) := by decide +kernel
theorem d_md_barred_168 : decode b_md_barred 168 = .ok (.iadd, 1) := by decide +kernel
theorem d_md_barred_169 : decode b_md_barred 169 = .ok (.if_icmp .ge 35, 3) := by decide +kernel
theorem d_md_barred_172 : decode b_md_barred 172 = .ok (.aload_n 0, 1) := by decide +kernel
theorem d_md_barred_173 : decode b_md_barred 173 = .ok (.getfield 28, 3) := by decide +kernel
theorem d_md_barred_176 : decode b_md_barred 176 = .ok (.iload 8, 2) := by decide +kernel
theorem d_md_barred_178 : decode b_md_barred 178 = .ok (.iaload, 1) := by decide +kernel
theorem d_md_barred_179 : decode b_md_barred 179 = .ok (.iload 6, 2) := by decide +kernel
theorem d_md_barred_181 : decode b_md_barred 181 = .ok (.if_icmp .ge 17, 3) := by decide +kernel
theorem d_md_barred_184 : decode b_md_barred 184 = .ok (.iload 5, 2) := by decide +kernel
theorem d_md_barred_186 : decode b_md_barred 186 = .ok (.aload_n 0, 1) := by decide +kernel
theorem d_md_barred_187 : decode b_md_barred 187 = .ok (.getfield 31, 3) := by decide +kernel
theorem d_md_barred_190 : decode b_md_barred 190 = .ok (.iload 8, 2) := by decide +kernel
theorem d_md_barred_192 : decode b_md_barred 192 = .ok (.iaload, 1) := by decide +kernel
theorem d_md_barred_193 : decode b_md_barred 193 = .ok (.if_icmp .ge 5, 3) := by decide +kernel
theorem d_md_barred_196 : decode b_md_barred 196 = .ok (.iconst 4, 1) := by decide +kernel
theorem d_md_barred_197 : decode b_md_barred 197 = .ok (.ireturn, 1) := by decide +kernel
theorem d_md_barred_198 : decode b_md_barred 198 = .ok (.iinc 8 1, 3) := by decide +kernel
theorem d_md_barred_201 : decode b_md_barred 201 = .ok (.goto (-44), 3) := by decide +kernel
theorem d_md_barred_204 : decode b_md_barred 204 = .ok (.iconst 0, 1) := by decide +kernel
theorem d_md_barred_205 : decode b_md_barred 205 = .ok (.ireturn, 1) := by decide +kernel
theorem d_md_enters_0 : decode b_md_enters 0 = .ok (.aload_n 0, 1) := by decide +kernel
theorem d_md_enters_1 : decode b_md_enters 1 = .ok (.getfield 46, 3) := by decide +kernel
theorem d_md_enters_4 : decode b_md_enters 4 = .ok (.iload_n 1, 1) := by decide +kernel
theorem d_md_enters_5 : decode b_md_enters 5 = .ok (.iaload, 1) := by decide +kernel
theorem d_md_enters_6 : decode b_md_enters 6 = .ok (.istore_n 3, 1) := by decide +kernel
theorem d_md_enters_7 : decode b_md_enters 7 = .ok (.iconst 0, 1) := by decide +kernel
theorem d_md_enters_8 : decode b_md_enters 8 = .ok (.istore 4, 2) := by decide +kernel
theorem d_md_enters_10 : decode b_md_enters 10 = .ok (.iload 4, 2) := by decide +kernel
theorem d_md_enters_12 : decode b_md_enters 12 = .ok (.iload_n 2, 1) := by decide +kernel
theorem d_md_enters_13 : decode b_md_enters 13 = .ok (.if_icmp .ge 34, 3) := by decide +kernel
theorem d_md_enters_16 : decode b_md_enters 16 = .ok (.iload_n 3, 1) := by decide +kernel
theorem d_md_enters_17 : decode b_md_enters 17 = .ok (.aload_n 0, 1) := by decide +kernel
theorem d_md_enters_18 : decode b_md_enters 18 = .ok (.aload_n 0, 1) := by decide +kernel
theorem d_md_enters_19 : decode b_md_enters 19 = .ok (.getfield 43, 3) := by decide +kernel
theorem d_md_enters_22 : decode b_md_enters 22 = .ok (.iload_n 1, 1) := by decide +kernel
theorem d_md_enters_23 : decode b_md_enters 23 = .ok (.iaload, 1) := by decide +kernel
theorem d_md_enters_24 : decode b_md_enters 24 = .ok (.aload_n 0, 1) := by decide +kernel
theorem d_md_enters_25 : decode b_md_enters 25 = .ok (.getfield 56, 3) := by decide +kernel
theorem d_md_enters_28 : decode b_md_enters 28 = .ok (.bipush 8, 2) := by decide +kernel
theorem d_md_enters_30 : decode b_md_enters 30 = .ok (.iload_n 1, 1) := by decide +kernel
theorem d_md_enters_31 : decode b_md_enters 31 = .ok (.imul, 1) := by decide +kernel
theorem d_md_enters_32 : decode b_md_enters 32 = .ok (.iload 4, 2) := by decide +kernel
theorem d_md_enters_34 : decode b_md_enters 34 = .ok (.iadd, 1) := by decide +kernel
theorem d_md_enters_35 : decode b_md_enters 35 = .ok (.iaload, 1) := by decide +kernel
theorem d_md_enters_36 : decode b_md_enters 36 = .ok (.invokevirtual 102, 3) := by decide +kernel
theorem d_md_enters_39 : decode b_md_enters 39 = .ok (.iadd, 1) := by decide +kernel
theorem d_md_enters_40 : decode b_md_enters 40 = .ok (.istore_n 3, 1) := by decide +kernel
theorem d_md_enters_41 : decode b_md_enters 41 = .ok (.iinc 4 1, 3) := by decide +kernel
theorem d_md_enters_44 : decode b_md_enters 44 = .ok (.goto (-34), 3) := by decide +kernel
theorem d_md_enters_47 : decode b_md_enters 47 = .ok (.iload_n 3, 1) := by decide +kernel
theorem d_md_enters_48 : decode b_md_enters 48 = .ok (.ireturn, 1) := by decide +kernel
theorem d_md_leaves_0 : decode b_md_leaves 0 = .ok (.aload_n 0, 1) := by decide +kernel
theorem d_md_leaves_1 : decode b_md_leaves 1 = .ok (.iload_n 1, 1) := by decide +kernel
theorem d_md_leaves_2 : decode b_md_leaves 2 = .ok (.iload_n 2, 1) := by decide +kernel
theorem d_md_leaves_3 : decode b_md_leaves 3 = .ok (.invokevirtual 119, 3) := by decide +kernel
theorem d_md_leaves_6 : decode b_md_leaves 6 = .ok (.aload_n 0, 1) := by decide +kernel
theorem d_md_leaves_7 : decode b_md_leaves 7 = .ok (.aload_n 0, 1) := by decide +kernel
theorem d_md_leaves_8 : decode b_md_leaves 8 = .ok (.getfield 43, 3) := by decide +kernel
theorem d_md_leaves_11 : decode b_md_leaves 11 = .ok (.iload_n 1, 1) := by decide +kernel
theorem d_md_leaves_12 : decode b_md_leaves 12 = .ok (.iaload, 1) := by decide +kernel
theorem d_md_leaves_13 : decode b_md_leaves 13 = .ok (.aload_n 0, 1) := by decide +kernel
theorem d_md_leaves_14 : decode b_md_leaves 14 = .ok (.getfield 56, 3) := by decide +kernel
theorem d_md_leaves_17 : decode b_md_leaves 17 = .ok (.bipush 8, 2) := by decide +kernel
theorem d_md_leaves_19 : decode b_md_leaves 19 = .ok (.iload_n 1, 1) := by decide +kernel
theorem d_md_leaves_20 : decode b_md_leaves 20 = .ok (.imul, 1) := by decide +kernel
theorem d_md_leaves_21 : decode b_md_leaves 21 = .ok (.iload_n 2, 1) := by decide +kernel
theorem d_md_leaves_22 : decode b_md_leaves 22 = .ok (.iadd, 1) := by decide +kernel
theorem d_md_leaves_23 : decode b_md_leaves 23 = .ok (.iaload, 1) := by decide +kernel
theorem d_md_leaves_24 : decode b_md_leaves 24 = .ok (.invokevirtual 102, 3) := by decide +kernel
theorem d_md_leaves_27 : decode b_md_leaves 27 = .ok (.iadd, 1) := by decide +kernel
theorem d_md_leaves_28 : decode b_md_leaves 28 = .ok (.ireturn, 1) := by decide +kernel
theorem d_md_isNight_0 : decode b_md_isNight 0 = .ok (.iconst 0, 1) := by decide +kernel
theorem d_md_isNight_1 : decode b_md_isNight 1 = .ok (.istore_n 2, 1) := by decide +kernel
theorem d_md_isNight_2 : decode b_md_isNight 2 = .ok (.iload_n 0, 1) := by decide +kernel
theorem d_md_isNight_3 : decode b_md_isNight 3 = .ok (.istore_n 3, 1) := by decide +kernel
theorem d_md_isNight_4 : decode b_md_isNight 4 = .ok (.iload_n 3, 1) := by decide +kernel
theorem d_md_isNight_5 : decode b_md_isNight 5 = .ok (.iload_n 1, 1) := by decide +kernel
theorem d_md_isNight_6 : decode b_md_isNight 6 = .ok (.if_icmp .ge 41, 3) := by decide +kernel
theorem d_md_isNight_9 : decode b_md_isNight 9 = .ok (.iload_n 2, 1) := by decide +kernel
theorem d_md_isNight_10 : decode b_md_isNight 10 = .ok (.ifCond .ne 25, 3) := by decide +kernel
theorem d_md_isNight_13 : decode b_md_isNight 13 = .ok (.iload_n 3, 1) := by decide +kernel
theorem d_md_isNight_14 : decode b_md_isNight 14 = .ok (.sipush 1440, 3) := by decide +kernel
theorem d_md_isNight_17 : decode b_md_isNight 17 = .ok (.irem, 1) := by decide +kernel
theorem d_md_isNight_18 : decode b_md_isNight 18 = .ok (.sipush 300, 3) := by decide +kernel
theorem d_md_isNight_21 : decode b_md_isNight 21 = .ok (.if_icmp .lt 14, 3) := by decide +kernel
theorem d_md_isNight_24 : decode b_md_isNight 24 = .ok (.iload_n 3, 1) := by decide +kernel
theorem d_md_isNight_25 : decode b_md_isNight 25 = .ok (.sipush 1440, 3) := by decide +kernel
theorem d_md_isNight_28 : decode b_md_isNight 28 = .ok (.irem, 1) := by decide +kernel
theorem d_md_isNight_29 : decode b_md_isNight 29 = .ok (.sipush 1200, 3) := by decide +kernel
theorem d_md_isNight_32 : decode b_md_isNight 32 = .ok (.if_icmp .lt 7, 3) := by decide +kernel
theorem d_md_isNight_35 : decode b_md_isNight 35 = .ok (.iconst 1, 1) := by decide +kernel
theorem d_md_isNight_36 : decode b_md_isNight 36 = .ok (.goto 4, 3) := by decide +kernel
theorem d_md_isNight_39 : decode b_md_isNight 39 = .ok (.iconst 0, 1) := by decide +kernel
theorem d_md_isNight_40 : decode b_md_isNight 40 = .ok (.istore_n 2, 1) := by decide +kernel
theorem d_md_isNight_41 : decode b_md_isNight 41 = .ok (.iinc 3 1, 3) := by decide +kernel
theorem d_md_isNight_44 : decode b_md_isNight 44 = .ok (.goto (-40), 3) := by decide +kernel
theorem d_md_isNight_47 : decode b_md_isNight 47 = .ok (.iload_n 2, 1) := by decide +kernel
theorem d_md_isNight_48 : decode b_md_isNight 48 = .ok (.ireturn, 1) := by decide +kernel
theorem d_md_with_0 : decode b_md_with 0 = .ok (.iconst 0, 1) := by decide +kernel
theorem d_md_with_1 : decode b_md_with 1 = .ok (.istore 4, 2) := by decide +kernel
theorem d_md_with_3 : decode b_md_with 3 = .ok (.iconst 0, 1) := by decide +kernel
theorem d_md_with_4 : decode b_md_with 4 = .ok (.istore 5, 2) := by decide +kernel
theorem d_md_with_6 : decode b_md_with 6 = .ok (.iload 5, 2) := by decide +kernel
theorem d_md_with_8 : decode b_md_with 8 = .ok (.aload_n 0, 1) := by decide +kernel
theorem d_md_with_9 : decode b_md_with 9 = .ok (.getfield 53, 3) := by decide +kernel
theorem d_md_with_12 : decode b_md_with 12 = .ok (.iload_n 3, 1) := by decide +kernel
theorem d_md_with_13 : decode b_md_with 13 = .ok (.iaload, 1) := by decide +kernel
theorem d_md_with_14 : decode b_md_with 14 = .ok (.if_icmp .ge 30, 3) := by decide +kernel
theorem d_md_with_17 : decode b_md_with 17 = .ok (.iload 4, 2) := by decide +kernel
theorem d_md_with_19 : decode b_md_with 19 = .ok (.ifCond .le 8, 3) := by decide +kernel
theorem d_md_with_22 : decode b_md_with 22 = .ok (.iload 4, 2) := by decide +kernel
theorem d_md_with_24 : decode b_md_with 24 = .ok (.goto 12, 3) := by decide +kernel
theorem d_md_with_27 : decode b_md_with 27 = .ok (.aload_n 0, 1) := by decide +kernel
theorem d_md_with_28 : decode b_md_with 28 = .ok (.iload_n 1, 1) := by decide +kernel
theorem d_md_with_29 : decode b_md_with 29 = .ok (.iload_n 2, 1) := by decide +kernel
theorem d_md_with_30 : decode b_md_with 30 = .ok (.iload_n 3, 1) := by decide +kernel
theorem d_md_with_31 : decode b_md_with 31 = .ok (.iload 5, 2) := by decide +kernel
theorem d_md_with_33 : decode b_md_with 33 = .ok (.invokevirtual 129, 3) := by decide +kernel
theorem d_md_with_36 : decode b_md_with 36 = .ok (.istore 4, 2) := by decide +kernel
theorem d_md_with_38 : decode b_md_with 38 = .ok (.iinc 5 1, 3) := by decide +kernel
theorem d_md_with_41 : decode b_md_with 41 = .ok (.goto (-35), 3) := by decide +kernel
theorem d_md_with_44 : decode b_md_with 44 = .ok (.iload 4, 2) := by decide +kernel
theorem d_md_with_46 : decode b_md_with 46 = .ok (.ireturn, 1) := by decide +kernel
theorem d_md_between_0 : decode b_md_between 0 = .ok (.aload_n 0, 1) := by decide +kernel
theorem d_md_between_1 : decode b_md_between 1 = .ok (.getfield 56, 3) := by decide +kernel
theorem d_md_between_4 : decode b_md_between 4 = .ok (.bipush 8, 2) := by decide +kernel
theorem d_md_between_6 : decode b_md_between 6 = .ok (.iload_n 1, 1) := by decide +kernel
theorem d_md_between_7 : decode b_md_between 7 = .ok (.imul, 1) := by decide +kernel
theorem d_md_between_8 : decode b_md_between 8 = .ok (.iload_n 2, 1) := by decide +kernel
theorem d_md_between_9 : decode b_md_between 9 = .ok (.iadd, 1) := by decide +kernel
theorem d_md_between_10 : decode b_md_between 10 = .ok (.iaload, 1) := by decide +kernel
theorem d_md_between_11 : decode b_md_between 11 = .ok (.istore 5, 2) := by decide +kernel
theorem d_md_between_13 : decode b_md_between 13 = .ok (.aload_n 0, 1) := by decide +kernel
theorem d_md_between_14 : decode b_md_between 14 = .ok (.iload_n 1, 1) := by decide +kernel
theorem d_md_between_15 : decode b_md_between 15 = .ok (.iload_n 2, 1) := by decide +kernel
theorem d_md_between_16 : decode b_md_between 16 = .ok (.invokevirtual 119, 3) := by decide +kernel
theorem d_md_between_19 : decode b_md_between 19 = .ok (.istore 6, 2) := by decide +kernel
theorem d_md_between_21 : decode b_md_between 21 = .ok (.aload_n 0, 1) := by decide +kernel
theorem d_md_between_22 : decode b_md_between 22 = .ok (.iload_n 1, 1) := by decide +kernel
theorem d_md_between_23 : decode b_md_between 23 = .ok (.iload_n 2, 1) := by decide +kernel
theorem d_md_between_24 : decode b_md_between 24 = .ok (.invokevirtual 122, 3) := by decide +kernel
theorem d_md_between_27 : decode b_md_between 27 = .ok (.istore 7, 2) := by decide +kernel
theorem d_md_between_29 : decode b_md_between 29 = .ok (.aload_n 0, 1) := by decide +kernel
theorem d_md_between_30 : decode b_md_between 30 = .ok (.iload_n 3, 1) := by decide +kernel
theorem d_md_between_31 : decode b_md_between 31 = .ok (.iload 4, 2) := by decide +kernel
theorem d_md_between_33 : decode b_md_between 33 = .ok (.invokevirtual 119, 3) := by decide +kernel
theorem d_md_between_36 : decode b_md_between 36 = .ok (.istore 8, 2) := by decide +kernel
theorem d_md_between_38 : decode b_md_between 38 = .ok (.aload_n 0, 1) := by decide +kernel
theorem d_md_between_39 : decode b_md_between 39 = .ok (.iload_n 3, 1) := by decide +kernel
theorem d_md_between_40 : decode b_md_between 40 = .ok (.iload 4, 2) := by decide +kernel
theorem d_md_between_42 : decode b_md_between 42 = .ok (.invokevirtual 122, 3) := by decide +kernel
theorem d_md_between_45 : decode b_md_between 45 = .ok (.istore 9, 2) := by decide +kernel
theorem d_md_between_47 : decode b_md_between 47 = .ok (.aload_n 0, 1) := by decide +kernel
theorem d_md_between_48 : decode b_md_between 48 = .ok (.getfield 56, 3) := by decide +kernel
theorem d_md_between_51 : decode b_md_between 51 = .ok (.bipush 8, 2) := by decide +kernel
theorem d_md_between_53 : decode b_md_between 53 = .ok (.iload_n 3, 1) := by decide +kernel
theorem d_md_between_54 : decode b_md_between 54 = .ok (.imul, 1) := by decide +kernel
theorem d_md_between_55 : decode b_md_between 55 = .ok (.iload 4, 2) := by decide +kernel
theorem d_md_between_57 : decode b_md_between 57 = .ok (.iadd, 1) := by decide +kernel
theorem d_md_between_58 : decode b_md_between 58 = .ok (.iaload, 1) := by decide +kernel
theorem d_md_between_59 : decode b_md_between 59 = .ok (.iload 5, 2) := by decide +kernel
theorem d_md_between_61 : decode b_md_between 61 = .ok (.if_icmp .ne 17, 3) := by decide +kernel
theorem d_md_between_64 : decode b_md_between 64 = .ok (.iload 6, 2) := by decide +kernel
theorem d_md_between_66 : decode b_md_between 66 = .ok (.iload 9, 2) := by decide +kernel
theorem d_md_between_68 : decode b_md_between 68 = .ok (.if_icmp .ge 10, 3) := by decide +kernel
theorem d_md_between_71 : decode b_md_between 71 = .ok (.iload 8, 2) := by decide +kernel
theorem d_md_between_73 : decode b_md_between 73 = .ok (.iload 7, 2) := by decide +kernel
theorem d_md_between_75 : decode b_md_between 75 = .ok (.if_icmp .lt 5, 3) := by decide +kernel
theorem d_md_between_78 : decode b_md_between 78 = .ok (.iconst 0, 1) := by decide +kernel
theorem d_md_between_79 : decode b_md_between 79 = .ok (.ireturn, 1) := by decide +kernel
theorem d_md_between_80 : decode b_md_between 80 = .ok (.aload_n 0, 1) := by decide +kernel
theorem d_md_between_81 : decode b_md_between 81 = .ok (.getfield 40, 3) := by decide +kernel
theorem d_md_between_84 : decode b_md_between 84 = .ok (.aload_n 0, 1) := by decide +kernel
theorem d_md_between_85 : decode b_md_between 85 = .ok (.getfield 43, 3) := by decide +kernel
theorem d_md_between_88 : decode b_md_between 88 = .ok (.iload_n 1, 1) := by decide +kernel
theorem d_md_between_89 : decode b_md_between 89 = .ok (.iaload, 1) := by decide +kernel
theorem d_md_between_90 : decode b_md_between 90 = .ok (.iaload, 1) := by decide +kernel
theorem d_md_between_91 : decode b_md_between 91 = .ok (.iconst 2, 1) := by decide +kernel
theorem d_md_between_92 : decode b_md_between 92 = .ok (.if_icmp .eq 18, 3) := by decide +kernel
theorem d_md_between_95 : decode b_md_between 95 = .ok (.aload_n 0, 1) := by decide +kernel
theorem d_md_between_96 : decode b_md_between 96 = .ok (.getfield 40, 3) := by decide +kernel
theorem d_md_between_99 : decode b_md_between 99 = .ok (.aload_n 0, 1) := by decide +kernel
theorem d_md_between_100 : decode b_md_between 100 = .ok (.getfield 43, 3) := by decide +kernel
theorem d_md_between_103 : decode b_md_between 103 = .ok (.iload_n 3, 1) := by decide +kernel
theorem d_md_between_104 : decode b_md_between 104 = .ok (.iaload, 1) := by decide +kernel
theorem d_md_between_105 : decode b_md_between 105 = .ok (.iaload, 1) := by decide +kernel
theorem d_md_between_106 : decode b_md_between 106 = .ok (.iconst 2, 1) := by decide +kernel
theorem d_md_between_107 : decode b_md_between 107 = .ok (.if_icmp .ne 5, 3) := by decide +kernel
theorem d_md_between_110 : decode b_md_between 110 = .ok (.iconst 5, 1) := by decide +kernel
theorem d_md_between_111 : decode b_md_between 111 = .ok (.ireturn, 1) := by decide +kernel
theorem d_md_between_112 : decode b_md_between 112 = .ok (.aload_n 0, 1) := by decide +kernel
theorem d_md_between_113 : decode b_md_between 113 = .ok (.getfield 34, 3) := by decide +kernel
theorem d_md_between_116 : decode b_md_between 116 = .ok (.aload_n 0, 1) := by decide +kernel
theorem d_md_between_117 : decode b_md_between 117 = .ok (.getfield 43, 3) := by decide +kernel
theorem d_md_between_120 : decode b_md_between 120 = .ok (.iload_n 1, 1) := by decide +kernel
theorem d_md_between_121 : decode b_md_between 121 = .ok (.iaload, 1) := by decide +kernel
theorem d_md_between_122 : decode b_md_between 122 = .ok (.iaload, 1) := by decide +kernel
theorem d_md_between_123 : decode b_md_between 123 = .ok (.aload_n 0, 1) := by decide +kernel
theorem d_md_between_124 : decode b_md_between 124 = .ok (.getfield 34, 3) := by decide +kernel
theorem d_md_between_127 : decode b_md_between 127 = .ok (.aload_n 0, 1) := by decide +kernel
theorem d_md_between_128 : decode b_md_between 128 = .ok (.getfield 43, 3) := by decide +kernel
theorem d_md_between_131 : decode b_md_between 131 = .ok (.iload_n 3, 1) := by decide +kernel
theorem d_md_between_132 : decode b_md_between 132 = .ok (.iaload, 1) := by decide +kernel
theorem d_md_between_133 : decode b_md_between 133 = .ok (.iaload, 1) := by decide +kernel
theorem d_md_between_134 : decode b_md_between 134 = .ok (.iadd, 1) := by decide +kernel
theorem d_md_between_135 : decode b_md_between 135 = .ok (.aload_n 0, 1) := by decide +kernel
theorem d_md_between_136 : decode b_md_between 136 = .ok (.getfield 19, 3) := by decide +kernel
theorem d_md_between_139 : decode b_md_between 139 = .ok (.iload 5, 2) := by decide +kernel
theorem d_md_between_141 : decode b_md_between 141 = .ok (.iaload, 1) := by decide +kernel
theorem d_md_between_142 : decode b_md_between 142 = .ok (.if_icmp .le 7, 3) := by decide +kernel
theorem d_md_between_145 : decode b_md_between 145 = .ok (.iconst 1, 1) := by decide +kernel
theorem d_md_between_146 : decode b_md_between 146 = .ok (.goto 4, 3) := by decide +kernel
theorem d_md_between_149 : decode b_md_between 149 = .ok (.iconst 0, 1) := by decide +kernel
theorem d_md_between_150 : decode b_md_between 150 = .ok (.istore 10, 2) := by decide +kernel
theorem d_md_between_152 : decode b_md_between 152 = .ok (.aload_n 0, 1) := by decide +kernel
theorem d_md_between_153 : decode b_md_between 153 = .ok (.getfield 59, 3) := by decide +kernel
theorem d_md_between_156 : decode b_md_between 156 = .ok (.bipush 8, 2) := by decide +kernel
theorem d_md_between_158 : decode b_md_between 158 = .ok (.iload_n 1, 1) := by decide +kernel
theorem d_md_between_159 : decode b_md_between 159 = .ok (.imul, 1) := by decide +kernel
theorem d_md_between_160 : decode b_md_between 160 = .ok (.iload_n 2, 1) := by decide +kernel
theorem d_md_between_161 : decode b_md_between 161 = .ok (.iadd, 1) := by decide +kernel
theorem d_md_between_162 : decode b_md_between 162 = .ok (.iaload, 1) := by decide +kernel
theorem d_md_between_163 : decode b_md_between 163 = .ok (.aload_n 0, 1) := by decide +kernel
theorem d_md_between_164 : decode b_md_between 164 = .ok (.getfield 59, 3) := by decide +kernel
theorem d_md_between_167 : decode b_md_between 167 = .ok (.bipush 8, 2) := by decide +kernel
theorem d_md_between_169 : decode b_md_between 169 = .ok (.iload_n 3, 1) := by decide +kernel
theorem d_md_between_170 : decode b_md_between 170 = .ok (.imul, 1) := by decide +kernel
theorem d_md_between_171 : decode b_md_between 171 = .ok (.iload 4, 2) := by decide +kernel
theorem d_md_between_173 : decode b_md_between 173 = .ok (.iadd, 1) := by decide +kernel
theorem d_md_between_174 : decode b_md_between 174 = .ok (.iaload, 1) := by decide +kernel
theorem d_md_between_175 : decode b_md_between 175 = .ok (.if_icmp .eq 30, 3) := by decide +kernel
theorem d_md_between_178 : decode b_md_between 178 = .ok (.aload_n 0, 1) := by decide +kernel
theorem d_md_between_179 : decode b_md_between 179 = .ok (.getfield 22, 3) := by decide +kernel
theorem d_md_between_182 : decode b_md_between 182 = .ok (.iconst 5, 1) := by decide +kernel
theorem d_md_between_183 : decode b_md_between 183 = .ok (.iload 5, 2) := by decide +kernel
theorem d_md_between_185 : decode b_md_between 185 = .ok (.imul, 1) := by decide +kernel
theorem d_md_between_186 : decode b_md_between 186 = .ok (.iconst 3, 1) := by decide +kernel
theorem d_md_between_187 : decode b_md_between 187 = .ok (.iadd, 1) := by decide +kernel
theorem d_md_between_188 : decode b_md_between 188 = .ok (.iaload, 1) := by decide +kernel
theorem d_md_between_189 : decode b_md_between 189 = .ok (.iconst 1, 1) := by decide +kernel
theorem d_md_between_190 : decode b_md_between 190 = .ok (.if_icmp .eq 8, 3) := by decide +kernel
theorem d_md_between_193 : decode b_md_between 193 = .ok (.iload 10, 2) := by decide +kernel
theorem d_md_between_195 : decode b_md_between 195 = .ok (.ifCond .eq 8, 3) := by decide +kernel
theorem d_md_between_198 : decode b_md_between 198 = .ok (.bipush 6, 2) := by decide +kernel
theorem d_md_between_200 : decode b_md_between 200 = .ok (.goto 4, 3) := by decide +kernel
theorem d_md_between_203 : decode b_md_between 203 = .ok (.iconst 0, 1) := by decide +kernel
theorem d_md_between_204 : decode b_md_between 204 = .ok (.ireturn, 1) := by decide +kernel
theorem d_md_between_205 : decode b_md_between 205 = .ok (.iload 6, 2) := by decide +kernel
theorem d_md_between_207 : decode b_md_between 207 = .ok (.iload 8, 2) := by decide +kernel
theorem d_md_between_209 : decode b_md_between 209 = .ok (.if_icmp .ge 10, 3) := by decide +kernel
theorem d_md_between_212 : decode b_md_between 212 = .ok (.iload 7, 2) := by decide +kernel
theorem d_md_between_214 : decode b_md_between 214 = .ok (.iload 9, 2) := by decide +kernel
theorem d_md_between_216 : decode b_md_between 216 = .ok (.if_icmp .lt 17, 3) := by decide +kernel
theorem d_md_between_219 : decode b_md_between 219 = .ok (.iload 8, 2) := by decide +kernel
theorem d_md_between_221 : decode b_md_between 221 = .ok (.iload 6, 2) := by decide +kernel
theorem d_md_between_223 : decode b_md_between 223 = .ok (.if_icmp .ge 14, 3) := by decide +kernel
theorem d_md_between_226 : decode b_md_between 226 = .ok (.iload 9, 2) := by decide +kernel
theorem d_md_between_228 : decode b_md_between 228 = .ok (.iload 7, 2) := by decide +kernel
theorem d_md_between_230 : decode b_md_between 230 = .ok (.if_icmp .ge 7, 3) := by decide +kernel
theorem d_md_between_233 : decode b_md_between 233 = .ok (.iconst 1, 1) := by decide +kernel
theorem d_md_between_234 : decode b_md_between 234 = .ok (.goto 4, 3) := by decide +kernel
theorem d_md_between_237 : decode b_md_between 237 = .ok (.iconst 0, 1) := by decide +kernel
theorem d_md_between_238 : decode b_md_between 238 = .ok (.istore 11, 2) := by decide +kernel
theorem d_md_between_240 : decode b_md_between 240 = .ok (.iload 11, 2) := by decide +kernel
theorem d_md_between_242 : decode b_md_between 242 = .ok (.ifCond .ne 27, 3) := by decide +kernel
theorem d_md_between_245 : decode b_md_between 245 = .ok (.aload_n 0, 1) := by decide +kernel
theorem d_md_between_246 : decode b_md_between 246 = .ok (.getfield 22, 3) := by decide +kernel
theorem d_md_between_249 : decode b_md_between 249 = .ok (.iconst 5, 1) := by decide +kernel
theorem d_md_between_250 : decode b_md_between 250 = .ok (.iload 5, 2) := by decide +kernel
theorem d_md_between_252 : decode b_md_between 252 = .ok (.imul, 1) := by decide +kernel
theorem d_md_between_253 : decode b_md_between 253 = .ok (.iconst 4, 1) := by decide +kernel
theorem d_md_between_254 : decode b_md_between 254 = .ok (.iadd, 1) := by decide +kernel
theorem d_md_between_255 : decode b_md_between 255 = .ok (.iaload, 1) := by decide +kernel
theorem d_md_between_256 : decode b_md_between 256 = .ok (.ifCond .eq 8, 3) := by decide +kernel
theorem d_md_between_259 : decode b_md_between 259 = .ok (.iload 10, 2) := by decide +kernel
theorem d_md_between_261 : decode b_md_between 261 = .ok (.ifCond .eq 8, 3) := by decide +kernel
theorem d_md_between_264 : decode b_md_between 264 = .ok (.bipush 7, 2) := by decide +kernel
theorem d_md_between_266 : decode b_md_between 266 = .ok (.goto 4, 3) := by decide +kernel
theorem d_md_between_269 : decode b_md_between 269 = .ok (.iconst 0, 1) := by decide +kernel
theorem d_md_between_270 : decode b_md_between 270 = .ok (.ireturn, 1) := by decide +kernel
theorem d_md_earliest_0 : decode b_md_earliest 0 = .ok (.aload_n 0, 1) := by decide +kernel
theorem d_md_earliest_1 : decode b_md_earliest 1 = .ok (.iload_n 1, 1) := by decide +kernel
theorem d_md_earliest_2 : decode b_md_earliest 2 = .ok (.iload_n 2, 1) := by decide +kernel
theorem d_md_earliest_3 : decode b_md_earliest 3 = .ok (.iload_n 3, 1) := by decide +kernel
theorem d_md_earliest_4 : decode b_md_earliest 4 = .ok (.iload 4, 2) := by decide +kernel
theorem d_md_earliest_6 : decode b_md_earliest 6 = .ok (.invokevirtual 143, 3) := by decide +kernel
theorem d_md_earliest_9 : decode b_md_earliest 9 = .ok (.ifCond .ne 9, 3) := by decide +kernel
theorem d_md_earliest_12 : decode b_md_earliest 12 = .ok (.aload_n 0, 1) := by decide +kernel
theorem d_md_earliest_13 : decode b_md_earliest 13 = .ok (.iconst 1, 1) := by decide +kernel
theorem d_md_earliest_14 : decode b_md_earliest 14 = .ok (.invokevirtual 90, 3) := by decide +kernel
theorem d_md_earliest_17 : decode b_md_earliest 17 = .ok (.ireturn, 1) := by decide +kernel
theorem d_md_earliest_18 : decode b_md_earliest 18 = .ok (.aload_n 0, 1) := by decide +kernel
theorem d_md_earliest_19 : decode b_md_earliest 19 = .ok (.iconst 0, 1) := by decide +kernel
theorem d_md_earliest_20 : decode b_md_earliest 20 = .ok (.putfield 65, 3) := by decide +kernel
theorem d_md_earliest_23 : decode b_md_earliest 23 = .ok (.aload_n 0, 1) := by decide +kernel
theorem d_md_earliest_24 : decode b_md_earliest 24 = .ok (.iload_n 1, 1) := by decide +kernel
theorem d_md_earliest_25 : decode b_md_earliest 25 = .ok (.iload_n 2, 1) := by decide +kernel
theorem d_md_earliest_26 : decode b_md_earliest 26 = .ok (.iload_n 3, 1) := by decide +kernel
theorem d_md_earliest_27 : decode b_md_earliest 27 = .ok (.invokevirtual 116, 3) := by decide +kernel
theorem d_md_earliest_30 : decode b_md_earliest 30 = .ok (.ifCond .ne 5, 3) := by decide +kernel
theorem d_md_earliest_33 : decode b_md_earliest 33 = .ok (.iconst (-1), 1) := by decide +kernel
theorem d_md_earliest_34 : decode b_md_earliest 34 = .ok (.ireturn, 1) := by decide +kernel
theorem d_md_earliest_35 : decode b_md_earliest 35 = .ok (.iload 4, 2) := by decide +kernel
theorem d_md_earliest_37 : decode b_md_earliest 37 = .ok (.istore 5, 2) := by decide +kernel
theorem d_md_earliest_39 : decode b_md_earliest 39 = .ok (.iload 5, 2) := by decide +kernel
theorem d_md_earliest_41 : decode b_md_earliest 41 = .ok (.iload 4, 2) := by decide +kernel
theorem d_md_earliest_43 : decode b_md_earliest 43 = .ok (.sipush 2880, 3) := by decide +kernel
theorem d_md_earliest_46 : decode b_md_earliest 46 = .ok (.iadd, 1) := by decide +kernel
theorem d_md_earliest_47 : decode b_md_earliest 47 = .ok (.if_icmp .gt 36, 3) := by decide +kernel
theorem d_md_earliest_50 : decode b_md_earliest 50 = .ok (.iload 5, 2) := by decide +kernel
theorem d_md_earliest_52 : decode b_md_earliest 52 = .ok (.ldc 81, 2) := by decide +kernel
theorem d_md_earliest_54 : decode b_md_earliest 54 = .ok (.if_icmp .gt 29, 3) := by decide +kernel
theorem d_md_earliest_57 : decode b_md_earliest 57 = .ok (.aload_n 0, 1) := by decide +kernel
theorem d_md_earliest_58 : decode b_md_earliest 58 = .ok (.getfield 46, 3) := by decide +kernel
theorem d_md_earliest_61 : decode b_md_earliest 61 = .ok (.iconst 0, 1) := by decide +kernel
theorem d_md_earliest_62 : decode b_md_earliest 62 = .ok (.iload 5, 2) := by decide +kernel
theorem d_md_earliest_64 : decode b_md_earliest 64 = .ok (.iastore, 1) := by decide +kernel
theorem d_md_earliest_65 : decode b_md_earliest 65 = .ok (.aload_n 0, 1) := by decide +kernel
theorem d_md_earliest_66 : decode b_md_earliest 66 = .ok (.iconst 0, 1) := by decide +kernel
theorem d_md_earliest_67 : decode b_md_earliest 67 = .ok (.iconst 0, 1) := by decide +kernel
theorem d_md_earliest_68 : decode b_md_earliest 68 = .ok (.invokevirtual 147, 3) := by decide +kernel
theorem d_md_earliest_71 : decode b_md_earliest 71 = .ok (.ifCond .ne 6, 3) := by decide +kernel
theorem d_md_earliest_74 : decode b_md_earliest 74 = .ok (.iload 5, 2) := by decide +kernel
theorem d_md_earliest_76 : decode b_md_earliest 76 = .ok (.ireturn, 1) := by decide +kernel
theorem d_md_earliest_77 : decode b_md_earliest 77 = .ok (.iinc 5 1, 3) := by decide +kernel
theorem d_md_earliest_80 : decode b_md_earliest 80 = .ok (.goto (-41), 3) := by decide +kernel
theorem d_md_earliest_83 : decode b_md_earliest 83 = .ok (.iconst (-1), 1) := by decide +kernel
theorem d_md_earliest_84 : decode b_md_earliest 84 = .ok (.ireturn, 1) := by decide +kernel
theorem d_md_change_0 : decode b_md_change 0 = .ok (.aload_n 0, 1) := by decide +kernel
theorem d_md_change_1 : decode b_md_change 1 = .ok (.iload_n 1, 1) := by decide +kernel
theorem d_md_change_2 : decode b_md_change 2 = .ok (.invokevirtual 150, 3) := by decide +kernel
theorem d_md_change_5 : decode b_md_change 5 = .ok (.ifCond .eq 11, 3) := by decide +kernel
theorem d_md_change_8 : decode b_md_change 8 = .ok (.aload_n 0, 1) := by decide +kernel
theorem d_md_change_9 : decode b_md_change 9 = .ok (.iload_n 2, 1) := by decide +kernel
theorem d_md_change_10 : decode b_md_change 10 = .ok (.invokevirtual 140, 3) := by decide +kernel
theorem d_md_change_13 : decode b_md_change 13 = .ok (.ifCond .ne 9, 3) := by decide +kernel
theorem d_md_change_16 : decode b_md_change 16 = .ok (.aload_n 0, 1) := by decide +kernel
theorem d_md_change_17 : decode b_md_change 17 = .ok (.iconst 1, 1) := by decide +kernel
theorem d_md_change_18 : decode b_md_change 18 = .ok (.invokevirtual 90, 3) := by decide +kernel
theorem d_md_change_21 : decode b_md_change 21 = .ok (.ireturn, 1) := by decide +kernel
theorem d_md_change_22 : decode b_md_change 22 = .ok (.aload_n 0, 1) := by decide +kernel
theorem d_md_change_23 : decode b_md_change 23 = .ok (.iconst 0, 1) := by decide +kernel
theorem d_md_change_24 : decode b_md_change 24 = .ok (.putfield 65, 3) := by decide +kernel
theorem d_md_change_27 : decode b_md_change 27 = .ok (.aload_n 0, 1) := by decide +kernel
theorem d_md_change_28 : decode b_md_change 28 = .ok (.getfield 49, 3) := by decide +kernel
theorem d_md_change_31 : decode b_md_change 31 = .ok (.iload_n 1, 1) := by decide +kernel
theorem d_md_change_32 : decode b_md_change 32 = .ok (.baload, 1) := by decide +kernel
theorem d_md_change_33 : decode b_md_change 33 = .ok (.ifCond .eq 16, 3) := by decide +kernel
theorem d_md_change_36 : decode b_md_change 36 = .ok (.aload_n 0, 1) := by decide +kernel
theorem d_md_change_37 : decode b_md_change 37 = .ok (.getfield 46, 3) := by decide +kernel
theorem d_md_change_40 : decode b_md_change 40 = .ok (.iload_n 1, 1) := by decide +kernel
theorem d_md_change_41 : decode b_md_change 41 = .ok (.iaload, 1) := by decide +kernel
theorem d_md_change_42 : decode b_md_change 42 = .ok (.aload_n 0, 1) := by decide +kernel
theorem d_md_change_43 : decode b_md_change 43 = .ok (.getfield 78, 3) := by decide +kernel
theorem d_md_change_46 : decode b_md_change 46 = .ok (.if_icmp .gt 5, 3) := by decide +kernel
theorem d_md_change_49 : decode b_md_change 49 = .ok (.iconst (-1), 1) := by decide +kernel
theorem d_md_change_50 : decode b_md_change 50 = .ok (.ireturn, 1) := by decide +kernel
theorem d_md_change_51 : decode b_md_change 51 = .ok (.aload_n 0, 1) := by decide +kernel
theorem d_md_change_52 : decode b_md_change 52 = .ok (.getfield 46, 3) := by decide +kernel
theorem d_md_change_55 : decode b_md_change 55 = .ok (.iload_n 1, 1) := by decide +kernel
theorem d_md_change_56 : decode b_md_change 56 = .ok (.iaload, 1) := by decide +kernel
theorem d_md_change_57 : decode b_md_change 57 = .ok (.istore_n 3, 1) := by decide +kernel
theorem d_md_change_58 : decode b_md_change 58 = .ok (.aload_n 0, 1) := by decide +kernel
theorem d_md_change_59 : decode b_md_change 59 = .ok (.getfield 46, 3) := by decide +kernel
theorem d_md_change_62 : decode b_md_change 62 = .ok (.iload_n 1, 1) := by decide +kernel
theorem d_md_change_63 : decode b_md_change 63 = .ok (.iload_n 2, 1) := by decide +kernel
theorem d_md_change_64 : decode b_md_change 64 = .ok (.iastore, 1) := by decide +kernel
theorem d_md_change_65 : decode b_md_change 65 = .ok (.aload_n 0, 1) := by decide +kernel
theorem d_md_change_66 : decode b_md_change 66 = .ok (.iload_n 1, 1) := by decide +kernel
theorem d_md_change_67 : decode b_md_change 67 = .ok (.iload_n 1, 1) := by decide +kernel
theorem d_md_change_68 : decode b_md_change 68 = .ok (.invokevirtual 147, 3) := by decide +kernel
theorem d_md_change_71 : decode b_md_change 71 = .ok (.ifCond .le 12, 3) := by decide +kernel
theorem d_md_change_74 : decode b_md_change 74 = .ok (.aload_n 0, 1) := by decide +kernel
theorem d_md_change_75 : decode b_md_change 75 = .ok (.getfield 46, 3) := by decide +kernel
theorem d_md_change_78 : decode b_md_change 78 = .ok (.iload_n 1, 1) := by decide +kernel
theorem d_md_change_79 : decode b_md_change 79 = .ok (.iload_n 3, 1) := by decide +kernel
theorem d_md_change_80 : decode b_md_change 80 = .ok (.iastore, 1) := by decide +kernel
theorem d_md_change_81 : decode b_md_change 81 = .ok (.iconst 0, 1) := by decide +kernel
theorem d_md_change_82 : decode b_md_change 82 = .ok (.ireturn, 1) := by decide +kernel
theorem d_md_change_83 : decode b_md_change 83 = .ok (.iconst 1, 1) := by decide +kernel
theorem d_md_change_84 : decode b_md_change 84 = .ok (.ireturn, 1) := by decide +kernel
theorem d_md_isSlot_0 : decode b_md_isSlot 0 = .ok (.iload_n 1, 1) := by decide +kernel
theorem d_md_isSlot_1 : decode b_md_isSlot 1 = .ok (.iconst 1, 1) := by decide +kernel
theorem d_md_isSlot_2 : decode b_md_isSlot 2 = .ok (.if_icmp .lt 15, 3) := by decide +kernel
theorem d_md_isSlot_5 : decode b_md_isSlot 5 = .ok (.iload_n 1, 1) := by decide +kernel
theorem d_md_isSlot_6 : decode b_md_isSlot 6 = .ok (.aload_n 0, 1) := by decide +kernel
theorem d_md_isSlot_7 : decode b_md_isSlot 7 = .ok (.getfield 75, 3) := by decide +kernel
theorem d_md_isSlot_10 : decode b_md_isSlot 10 = .ok (.if_icmp .gt 7, 3) := by decide +kernel
theorem d_md_isSlot_13 : decode b_md_isSlot 13 = .ok (.iconst 1, 1) := by decide +kernel
theorem d_md_isSlot_14 : decode b_md_isSlot 14 = .ok (.goto 4, 3) := by decide +kernel
theorem d_md_isSlot_17 : decode b_md_isSlot 17 = .ok (.iconst 0, 1) := by decide +kernel
theorem d_md_isSlot_18 : decode b_md_isSlot 18 = .ok (.ireturn, 1) := by decide +kernel
theorem d_md_back_0 : decode b_md_back 0 = .ok (.aload_n 0, 1) := by decide +kernel
theorem d_md_back_1 : decode b_md_back 1 = .ok (.iconst 0, 1) := by decide +kernel
theorem d_md_back_2 : decode b_md_back 2 = .ok (.putfield 65, 3) := by decide +kernel
theorem d_md_back_5 : decode b_md_back 5 = .ok (.aload_n 0, 1) := by decide +kernel
theorem d_md_back_6 : decode b_md_back 6 = .ok (.iload_n 1, 1) := by decide +kernel
theorem d_md_back_7 : decode b_md_back 7 = .ok (.invokevirtual 150, 3) := by decide +kernel
theorem d_md_back_10 : decode b_md_back 10 = .ok (.ifCond .eq 25, 3) := by decide +kernel
theorem d_md_back_13 : decode b_md_back 13 = .ok (.aload_n 0, 1) := by decide +kernel
theorem d_md_back_14 : decode b_md_back 14 = .ok (.getfield 49, 3) := by decide +kernel
theorem d_md_back_17 : decode b_md_back 17 = .ok (.iload_n 1, 1) := by decide +kernel
theorem d_md_back_18 : decode b_md_back 18 = .ok (.baload, 1) := by decide +kernel
theorem d_md_back_19 : decode b_md_back 19 = .ok (.ifCond .eq 16, 3) := by decide +kernel
theorem d_md_back_22 : decode b_md_back 22 = .ok (.aload_n 0, 1) := by decide +kernel
theorem d_md_back_23 : decode b_md_back 23 = .ok (.getfield 46, 3) := by decide +kernel
theorem d_md_back_26 : decode b_md_back 26 = .ok (.iload_n 1, 1) := by decide +kernel
theorem d_md_back_27 : decode b_md_back 27 = .ok (.iaload, 1) := by decide +kernel
theorem d_md_back_28 : decode b_md_back 28 = .ok (.aload_n 0, 1) := by decide +kernel
theorem d_md_back_29 : decode b_md_back 29 = .ok (.getfield 78, 3) := by decide +kernel
theorem d_md_back_32 : decode b_md_back 32 = .ok (.if_icmp .gt 5, 3) := by decide +kernel
theorem d_md_back_35 : decode b_md_back 35 = .ok (.iconst 0, 1) := by decide +kernel
theorem d_md_back_36 : decode b_md_back 36 = .ok (.ireturn, 1) := by decide +kernel
theorem d_md_back_37 : decode b_md_back 37 = .ok (.aload_n 0, 1) := by decide +kernel
theorem d_md_back_38 : decode b_md_back 38 = .ok (.getfield 49, 3) := by decide +kernel
theorem d_md_back_41 : decode b_md_back 41 = .ok (.iload_n 1, 1) := by decide +kernel
theorem d_md_back_42 : decode b_md_back 42 = .ok (.iconst 0, 1) := by decide +kernel
theorem d_md_back_43 : decode b_md_back 43 = .ok (.bastore, 1) := by decide +kernel
theorem d_md_back_44 : decode b_md_back 44 = .ok (.iconst 1, 1) := by decide +kernel
theorem d_md_back_45 : decode b_md_back 45 = .ok (.ireturn, 1) := by decide +kernel
theorem d_md_close_0 : decode b_md_close 0 = .ok (.aload_n 0, 1) := by decide +kernel
theorem d_md_close_1 : decode b_md_close 1 = .ok (.iload_n 1, 1) := by decide +kernel
theorem d_md_close_2 : decode b_md_close 2 = .ok (.invokevirtual 94, 3) := by decide +kernel
theorem d_md_close_5 : decode b_md_close 5 = .ok (.ifCond .eq 24, 3) := by decide +kernel
theorem d_md_close_8 : decode b_md_close 8 = .ok (.aload_n 0, 1) := by decide +kernel
theorem d_md_close_9 : decode b_md_close 9 = .ok (.iload_n 2, 1) := by decide +kernel
theorem d_md_close_10 : decode b_md_close 10 = .ok (.invokevirtual 140, 3) := by decide +kernel
theorem d_md_close_13 : decode b_md_close 13 = .ok (.ifCond .eq 16, 3) := by decide +kernel
theorem d_md_close_16 : decode b_md_close 16 = .ok (.aload_n 0, 1) := by decide +kernel
theorem d_md_close_17 : decode b_md_close 17 = .ok (.iload_n 3, 1) := by decide +kernel
theorem d_md_close_18 : decode b_md_close 18 = .ok (.invokevirtual 140, 3) := by decide +kernel
theorem d_md_close_21 : decode b_md_close 21 = .ok (.ifCond .eq 8, 3) := by decide +kernel
theorem d_md_close_24 : decode b_md_close 24 = .ok (.iload_n 2, 1) := by decide +kernel
theorem d_md_close_25 : decode b_md_close 25 = .ok (.iload_n 3, 1) := by decide +kernel
theorem d_md_close_26 : decode b_md_close 26 = .ok (.if_icmp .lt 9, 3) := by decide +kernel
theorem d_md_close_29 : decode b_md_close 29 = .ok (.aload_n 0, 1) := by decide +kernel
theorem d_md_close_30 : decode b_md_close 30 = .ok (.iconst 1, 1) := by decide +kernel
theorem d_md_close_31 : decode b_md_close 31 = .ok (.invokevirtual 90, 3) := by decide +kernel
theorem d_md_close_34 : decode b_md_close 34 = .ok (.ireturn, 1) := by decide +kernel
theorem d_md_close_35 : decode b_md_close 35 = .ok (.aload_n 0, 1) := by decide +kernel
theorem d_md_close_36 : decode b_md_close 36 = .ok (.getfield 25, 3) := by decide +kernel
theorem d_md_close_39 : decode b_md_close 39 = .ok (.iload_n 1, 1) := by decide +kernel
theorem d_md_close_40 : decode b_md_close 40 = .ok (.iaload, 1) := by decide +kernel
theorem d_md_close_41 : decode b_md_close 41 = .ok (.iconst 4, 1) := by decide +kernel
theorem d_md_close_42 : decode b_md_close 42 = .ok (.if_icmp .ne 9, 3) := by decide +kernel
theorem d_md_close_45 : decode b_md_close 45 = .ok (.aload_n 0, 1) := by decide +kernel
theorem d_md_close_46 : decode b_md_close 46 = .ok (.iconst 2, 1) := by decide +kernel
theorem d_md_close_47 : decode b_md_close 47 = .ok (.invokevirtual 90, 3) := by decide +kernel
theorem d_md_close_50 : decode b_md_close 50 = .ok (.ireturn, 1) := by decide +kernel
theorem d_md_close_51 : decode b_md_close 51 = .ok (.aload_n 0, 1) := by decide +kernel
theorem d_md_close_52 : decode b_md_close 52 = .ok (.iconst 0, 1) := by decide +kernel
theorem d_md_close_53 : decode b_md_close 53 = .ok (.putfield 65, 3) := by decide +kernel
theorem d_md_close_56 : decode b_md_close 56 = .ok (.aload_n 0, 1) := by decide +kernel
theorem d_md_close_57 : decode b_md_close 57 = .ok (.getfield 28, 3) := by decide +kernel
theorem d_md_close_60 : decode b_md_close 60 = .ok (.iconst 4, 1) := by decide +kernel
theorem d_md_close_61 : decode b_md_close 61 = .ok (.iload_n 1, 1) := by decide +kernel
theorem d_md_close_62 : decode b_md_close 62 = .ok (.imul, 1) := by decide +kernel
theorem d_md_close_63 : decode b_md_close 63 = .ok (.aload_n 0, 1) := by decide +kernel
theorem d_md_close_64 : decode b_md_close 64 = .ok (.getfield 25, 3) := by decide +kernel
theorem d_md_close_67 : decode b_md_close 67 = .ok (.iload_n 1, 1) := by decide +kernel
theorem d_md_close_68 : decode b_md_close 68 = .ok (.iaload, 1) := by decide +kernel
theorem d_md_close_69 : decode b_md_close 69 = .ok (.iadd, 1) := by decide +kernel
theorem d_md_close_70 : decode b_md_close 70 = .ok (.iload_n 2, 1) := by decide +kernel
theorem d_md_close_71 : decode b_md_close 71 = .ok (.iastore, 1) := by decide +kernel
theorem d_md_close_72 : decode b_md_close 72 = .ok (.aload_n 0, 1) := by decide +kernel
theorem d_md_close_73 : decode b_md_close 73 = .ok (.getfield 31, 3) := by decide +kernel
theorem d_md_close_76 : decode b_md_close 76 = .ok (.iconst 4, 1) := by decide +kernel
theorem d_md_close_77 : decode b_md_close 77 = .ok (.iload_n 1, 1) := by decide +kernel
theorem d_md_close_78 : decode b_md_close 78 = .ok (.imul, 1) := by decide +kernel
theorem d_md_close_79 : decode b_md_close 79 = .ok (.aload_n 0, 1) := by decide +kernel
theorem d_md_close_80 : decode b_md_close 80 = .ok (.getfield 25, 3) := by decide +kernel
theorem d_md_close_83 : decode b_md_close 83 = .ok (.iload_n 1, 1) := by decide +kernel
theorem d_md_close_84 : decode b_md_close 84 = .ok (.iaload, 1) := by decide +kernel
theorem d_md_close_85 : decode b_md_close 85 = .ok (.iadd, 1) := by decide +kernel
theorem d_md_close_86 : decode b_md_close 86 = .ok (.iload_n 3, 1) := by decide +kernel
theorem d_md_close_87 : decode b_md_close 87 = .ok (.iastore, 1) := by decide +kernel
theorem d_md_close_88 : decode b_md_close 88 = .ok (.aload_n 0, 1) := by decide +kernel
theorem d_md_close_89 : decode b_md_close 89 = .ok (.getfield 25, 3) := by decide +kernel
theorem d_md_close_92 : decode b_md_close 92 = .ok (.iload_n 1, 1) := by decide +kernel
theorem d_md_close_93 : decode b_md_close 93 = .ok (.dup2, 1) := by decide +kernel
theorem d_md_close_94 : decode b_md_close 94 = .ok (.iaload, 1) := by decide +kernel
theorem d_md_close_95 : decode b_md_close 95 = .ok (.iconst 1, 1) := by decide +kernel
theorem d_md_close_96 : decode b_md_close 96 = .ok (.iadd, 1) := by decide +kernel
theorem d_md_close_97 : decode b_md_close 97 = .ok (.iastore, 1) := by decide +kernel
theorem d_md_close_98 : decode b_md_close 98 = .ok (.iconst 0, 1) := by decide +kernel
theorem d_md_close_99 : decode b_md_close 99 = .ok (.istore 4, 2) := by decide +kernel
theorem d_md_close_101 : decode b_md_close 101 = .ok (.iconst 1, 1) := by decide +kernel
theorem d_md_close_102 : decode b_md_close 102 = .ok (.istore 5, 2) := by decide +kernel
theorem d_md_close_104 : decode b_md_close 104 = .ok (.iload 5, 2) := by decide +kernel
theorem d_md_close_106 : decode b_md_close 106 = .ok (.aload_n 0, 1) := by decide +kernel
theorem d_md_close_107 : decode b_md_close 107 = .ok (.getfield 75, 3) := by decide +kernel
theorem d_md_close_110 : decode b_md_close 110 = .ok (.if_icmp .gt 138, 3) := by decide +kernel
theorem d_md_close_113 : decode b_md_close 113 = .ok (.iconst 0, 1) := by decide +kernel
theorem d_md_close_114 : decode b_md_close 114 = .ok (.istore 6, 2) := by decide +kernel
theorem d_md_close_116 : decode b_md_close 116 = .ok (.iconst 0, 1) := by decide +kernel
theorem d_md_close_117 : decode b_md_close 117 = .ok (.istore 7, 2) := by decide +kernel
theorem d_md_close_119 : decode b_md_close 119 = .ok (.iload 7, 2) := by decide +kernel
theorem d_md_close_121 : decode b_md_close 121 = .ok (.aload_n 0, 1) := by decide +kernel
theorem d_md_close_122 : decode b_md_close 122 = .ok (.getfield 53, 3) := by decide +kernel
theorem d_md_close_125 : decode b_md_close 125 = .ok (.iload 5, 2) := by decide +kernel
theorem d_md_close_127 : decode b_md_close 127 = .ok (.iaload, 1) := by decide +kernel
theorem d_md_close_128 : decode b_md_close 128 = .ok (.if_icmp .ge 72, 3) := by decide +kernel
theorem d_md_close_131 : decode b_md_close 131 = .ok (.aload_n 0, 1) := by decide +kernel
theorem d_md_close_132 : decode b_md_close 132 = .ok (.getfield 49, 3) := by decide +kernel
theorem d_md_close_135 : decode b_md_close 135 = .ok (.iload 5, 2) := by decide +kernel
theorem d_md_close_137 : decode b_md_close 137 = .ok (.baload, 1) := by decide +kernel
theorem d_md_close_138 : decode b_md_close 138 = .ok (.ifCond .eq 62, 3) := by decide +kernel
theorem d_md_close_141 : decode b_md_close 141 = .ok (.iload 6, 2) := by decide +kernel
theorem d_md_close_143 : decode b_md_close 143 = .ok (.ifCond .ne 44, 3) := by decide +kernel
theorem d_md_close_146 : decode b_md_close 146 = .ok (.aload_n 0, 1) := by decide +kernel
theorem d_md_close_147 : decode b_md_close 147 = .ok (.getfield 56, 3) := by decide +kernel
theorem d_md_close_150 : decode b_md_close 150 = .ok (.bipush 8, 2) := by decide +kernel
theorem d_md_close_152 : decode b_md_close 152 = .ok (.iload 5, 2) := by decide +kernel
theorem d_md_close_154 : decode b_md_close 154 = .ok (.imul, 1) := by decide +kernel
theorem d_md_close_155 : decode b_md_close 155 = .ok (.iload 7, 2) := by decide +kernel
theorem d_md_close_157 : decode b_md_close 157 = .ok (.iadd, 1) := by decide +kernel
theorem d_md_close_158 : decode b_md_close 158 = .ok (.iaload, 1) := by decide +kernel
theorem d_md_close_159 : decode b_md_close 159 = .ok (.iload_n 1, 1) := by decide +kernel
theorem d_md_close_160 : decode b_md_close 160 = .ok (.if_icmp .ne 31, 3) := by decide +kernel
theorem d_md_close_163 : decode b_md_close 163 = .ok (.aload_n 0, 1) := by decide +kernel
theorem d_md_close_164 : decode b_md_close 164 = .ok (.iload 5, 2) := by decide +kernel
theorem d_md_close_166 : decode b_md_close 166 = .ok (.iload 7, 2) := by decide +kernel
theorem d_md_close_168 : decode b_md_close 168 = .ok (.invokevirtual 119, 3) := by decide +kernel
theorem d_md_close_171 : decode b_md_close 171 = .ok (.iload_n 3, 1) := by decide +kernel
theorem d_md_close_172 : decode b_md_close 172 = .ok (.if_icmp .ge 19, 3) := by decide +kernel
theorem d_md_close_175 : decode b_md_close 175 = .ok (.iload_n 2, 1) := by decide +kernel
theorem d_md_close_176 : decode b_md_close 176 = .ok (.aload_n 0, 1) := by decide +kernel
theorem d_md_close_177 : decode b_md_close 177 = .ok (.iload 5, 2) := by decide +kernel
theorem d_md_close_179 : decode b_md_close 179 = .ok (.iload 7, 2) := by decide +kernel
theorem d_md_close_181 : decode b_md_close 181 = .ok (.invokevirtual 122, 3) := by decide +kernel
theorem d_md_close_184 : decode b_md_close 184 = .ok (.if_icmp .ge 7, 3) := by decide +kernel
theorem d_md_close_187 : decode b_md_close 187 = .ok (.iconst 1, 1) := by decide +kernel
theorem d_md_close_188 : decode b_md_close 188 = .ok (.goto 4, 3) := by decide +kernel
theorem d_md_close_191 : decode b_md_close 191 = .ok (.iconst 0, 1) := by decide +kernel
theorem d_md_close_192 : decode b_md_close 192 = .ok (.istore 6, 2) := by decide +kernel
theorem d_md_close_194 : decode b_md_close 194 = .ok (.iinc 7 1, 3) := by decide +kernel
theorem d_md_close_197 : decode b_md_close 197 = .ok (.goto (-78), 3) := by decide +kernel
theorem d_md_close_200 : decode b_md_close 200 = .ok (.aload_n 0, 1) := by decide +kernel
theorem d_md_close_201 : decode b_md_close 201 = .ok (.getfield 49, 3) := by decide +kernel
theorem d_md_close_204 : decode b_md_close 204 = .ok (.iload 5, 2) := by decide +kernel
theorem d_md_close_206 : decode b_md_close 206 = .ok (.aload_n 0, 1) := by decide +kernel
theorem d_md_close_207 : decode b_md_close 207 = .ok (.getfield 49, 3) := by decide +kernel
theorem d_md_close_210 : decode b_md_close 210 = .ok (.iload 5, 2) := by decide +kernel
theorem d_md_close_212 : decode b_md_close 212 = .ok (.baload, 1) := by decide +kernel
theorem d_md_close_213 : decode b_md_close 213 = .ok (.ifCond .eq 12, 3) := by decide +kernel
theorem d_md_close_216 : decode b_md_close 216 = .ok (.iload 6, 2) := by decide +kernel
theorem d_md_close_218 : decode b_md_close 218 = .ok (.ifCond .ne 7, 3) := by decide +kernel
theorem d_md_close_221 : decode b_md_close 221 = .ok (.iconst 1, 1) := by decide +kernel
theorem d_md_close_222 : decode b_md_close 222 = .ok (.goto 4, 3) := by decide +kernel
theorem d_md_close_225 : decode b_md_close 225 = .ok (.iconst 0, 1) := by decide +kernel
theorem d_md_close_226 : decode b_md_close 226 = .ok (.bastore, 1) := by decide +kernel
theorem d_md_close_227 : decode b_md_close 227 = .ok (.iload 4, 2) := by decide +kernel
theorem d_md_close_229 : decode b_md_close 229 = .ok (.iload 6, 2) := by decide +kernel
theorem d_md_close_231 : decode b_md_close 231 = .ok (.ifCond .eq 7, 3) := by decide +kernel
theorem d_md_close_234 : decode b_md_close 234 = .ok (.iconst 1, 1) := by decide +kernel
theorem d_md_close_235 : decode b_md_close 235 = .ok (.goto 4, 3) := by decide +kernel
theorem d_md_close_238 : decode b_md_close 238 = .ok (.iconst 0, 1) := by decide +kernel
theorem d_md_close_239 : decode b_md_close 239 = .ok (.iadd, 1) := by decide +kernel
theorem d_md_close_240 : decode b_md_close 240 = .ok (.istore 4, 2) := by decide +kernel
theorem d_md_close_242 : decode b_md_close 242 = .ok (.iinc 5 1, 3) := by decide +kernel
theorem d_md_close_245 : decode b_md_close 245 = .ok (.goto (-141), 3) := by decide +kernel
theorem d_md_close_248 : decode b_md_close 248 = .ok (.iload 4, 2) := by decide +kernel
theorem d_md_close_250 : decode b_md_close 250 = .ok (.ireturn, 1) := by decide +kernel
theorem d_md_tick_0 : decode b_md_tick 0 = .ok (.aload_n 0, 1) := by decide +kernel
theorem d_md_tick_1 : decode b_md_tick 1 = .ok (.iconst 0, 1) := by decide +kernel
theorem d_md_tick_2 : decode b_md_tick 2 = .ok (.putfield 65, 3) := by decide +kernel
theorem d_md_tick_5 : decode b_md_tick 5 = .ok (.aload_n 0, 1) := by decide +kernel
theorem d_md_tick_6 : decode b_md_tick 6 = .ok (.iload_n 1, 1) := by decide +kernel
theorem d_md_tick_7 : decode b_md_tick 7 = .ok (.invokevirtual 140, 3) := by decide +kernel
theorem d_md_tick_10 : decode b_md_tick 10 = .ok (.ifCond .ne 5, 3) := by decide +kernel
theorem d_md_tick_13 : decode b_md_tick 13 = .ok (.iconst 0, 1) := by decide +kernel
theorem d_md_tick_14 : decode b_md_tick 14 = .ok (.ireturn, 1) := by decide +kernel
theorem d_md_tick_15 : decode b_md_tick 15 = .ok (.aload_n 0, 1) := by decide +kernel
theorem d_md_tick_16 : decode b_md_tick 16 = .ok (.iload_n 1, 1) := by decide +kernel
theorem d_md_tick_17 : decode b_md_tick 17 = .ok (.putfield 78, 3) := by decide +kernel
theorem d_md_tick_20 : decode b_md_tick 20 = .ok (.iconst 1, 1) := by decide +kernel
theorem d_md_tick_21 : decode b_md_tick 21 = .ok (.ireturn, 1) := by decide +kernel
theorem d_md_conflict_0 : decode b_md_conflict 0 = .ok (.iload_n 2, 1) := by decide +kernel
theorem d_md_conflict_1 : decode b_md_conflict 1 = .ok (.iconst 0, 1) := by decide +kernel
theorem d_md_conflict_2 : decode b_md_conflict 2 = .ok (.iconst 3, 1) := by decide +kernel
theorem d_md_conflict_3 : decode b_md_conflict 3 = .ok (.invokestatic 86, 3) := by decide +kernel
theorem d_md_conflict_6 : decode b_md_conflict 6 = .ok (.ifCond .ne 9, 3) := by decide +kernel
theorem d_md_conflict_9 : decode b_md_conflict 9 = .ok (.aload_n 0, 1) := by decide +kernel
theorem d_md_conflict_10 : decode b_md_conflict 10 = .ok (.iconst 1, 1) := by decide +kernel
theorem d_md_conflict_11 : decode b_md_conflict 11 = .ok (.invokevirtual 90, 3) := by decide +kernel
theorem d_md_conflict_14 : decode b_md_conflict 14 = .ok (.ireturn, 1) := by decide +kernel
theorem d_md_conflict_15 : decode b_md_conflict 15 = .ok (.aload_n 0, 1) := by decide +kernel
theorem d_md_conflict_16 : decode b_md_conflict 16 = .ok (.iconst 0, 1) := by decide +kernel
theorem d_md_conflict_17 : decode b_md_conflict 17 = .ok (.putfield 65, 3) := by decide +kernel
theorem d_md_conflict_20 : decode b_md_conflict 20 = .ok (.iload_n 1, 1) := by decide +kernel
theorem d_md_conflict_21 : decode b_md_conflict 21 = .ok (.ifCond .ge 7, 3) := by decide +kernel
theorem d_md_conflict_24 : decode b_md_conflict 24 = .ok (.iconst (-1), 1) := by decide +kernel
theorem d_md_conflict_25 : decode b_md_conflict 25 = .ok (.goto 9, 3) := by decide +kernel
theorem d_md_conflict_28 : decode b_md_conflict 28 = .ok (.aload_n 0, 1) := by decide +kernel
theorem d_md_conflict_29 : decode b_md_conflict 29 = .ok (.iload_n 1, 1) := by decide +kernel
theorem d_md_conflict_30 : decode b_md_conflict 30 = .ok (.iload_n 2, 1) := by decide +kernel
theorem d_md_conflict_31 : decode b_md_conflict 31 = .ok (.invokevirtual 153, 3) := by decide +kernel
theorem d_md_conflict_34 : decode b_md_conflict 34 = .ok (.ireturn, 1) := by decide +kernel
theorem d_md_conflicts_0 : decode b_md_conflicts 0 = .ok (.iload_n 1, 1) := by decide +kernel
theorem d_md_conflicts_1 : decode b_md_conflicts 1 = .ok (.istore_n 3, 1) := by decide +kernel
theorem d_md_conflicts_2 : decode b_md_conflicts 2 = .ok (.iconst 1, 1) := by decide +kernel
theorem d_md_conflicts_3 : decode b_md_conflicts 3 = .ok (.istore 4, 2) := by decide +kernel
theorem d_md_conflicts_5 : decode b_md_conflicts 5 = .ok (.iload 4, 2) := by decide +kernel
theorem d_md_conflicts_7 : decode b_md_conflicts 7 = .ok (.aload_n 0, 1) := by decide +kernel
theorem d_md_conflicts_8 : decode b_md_conflicts 8 = .ok (.getfield 75, 3) := by decide +kernel
theorem d_md_conflicts_11 : decode b_md_conflicts 11 = .ok (.if_icmp .gt 148, 3) := by decide +kernel
theorem d_md_conflicts_14 : decode b_md_conflicts 14 = .ok (.iload 4, 2) := by decide +kernel
theorem d_md_conflicts_16 : decode b_md_conflicts 16 = .ok (.iconst 1, 1) := by decide +kernel
theorem d_md_conflicts_17 : decode b_md_conflicts 17 = .ok (.iadd, 1) := by decide +kernel
theorem d_md_conflicts_18 : decode b_md_conflicts 18 = .ok (.istore 5, 2) := by decide +kernel
theorem d_md_conflicts_20 : decode b_md_conflicts 20 = .ok (.iload 5, 2) := by decide +kernel
theorem d_md_conflicts_22 : decode b_md_conflicts 22 = .ok (.aload_n 0, 1) := by decide +kernel
theorem d_md_conflicts_23 : decode b_md_conflicts 23 = .ok (.getfield 75, 3) := by decide +kernel
theorem d_md_conflicts_26 : decode b_md_conflicts 26 = .ok (.if_icmp .gt 127, 3) := by decide +kernel
theorem d_md_conflicts_29 : decode b_md_conflicts 29 = .ok (.iconst 0, 1) := by decide +kernel
theorem d_md_conflicts_30 : decode b_md_conflicts 30 = .ok (.istore 6, 2) := by decide +kernel
theorem d_md_conflicts_32 : decode b_md_conflicts 32 = .ok (.iload 6, 2) := by decide +kernel
theorem d_md_conflicts_34 : decode b_md_conflicts 34 = .ok (.aload_n 0, 1) := by decide +kernel
theorem d_md_conflicts_35 : decode b_md_conflicts 35 = .ok (.getfield 53, 3) := by decide +kernel
theorem d_md_conflicts_38 : decode b_md_conflicts 38 = .ok (.iload 4, 2) := by decide +kernel
theorem d_md_conflicts_40 : decode b_md_conflicts 40 = .ok (.iaload, 1) := by decide +kernel
theorem d_md_conflicts_41 : decode b_md_conflicts 41 = .ok (.if_icmp .ge 106, 3) := by decide +kernel
theorem d_md_conflicts_44 : decode b_md_conflicts 44 = .ok (.aload_n 0, 1) := by decide +kernel
theorem d_md_conflicts_45 : decode b_md_conflicts 45 = .ok (.getfield 49, 3) := by decide +kernel
theorem d_md_conflicts_48 : decode b_md_conflicts 48 = .ok (.iload 4, 2) := by decide +kernel
theorem d_md_conflicts_50 : decode b_md_conflicts 50 = .ok (.baload, 1) := by decide +kernel
theorem d_md_conflicts_51 : decode b_md_conflicts 51 = .ok (.ifCond .eq 96, 3) := by decide +kernel
theorem d_md_conflicts_54 : decode b_md_conflicts 54 = .ok (.aload_n 0, 1) := by decide +kernel
theorem d_md_conflicts_55 : decode b_md_conflicts 55 = .ok (.getfield 49, 3) := by decide +kernel
theorem d_md_conflicts_58 : decode b_md_conflicts 58 = .ok (.iload 5, 2) := by decide +kernel
theorem d_md_conflicts_60 : decode b_md_conflicts 60 = .ok (.baload, 1) := by decide +kernel
theorem d_md_conflicts_61 : decode b_md_conflicts 61 = .ok (.ifCond .eq 86, 3) := by decide +kernel
theorem d_md_conflicts_64 : decode b_md_conflicts 64 = .ok (.aload_n 0, 1) := by decide +kernel
theorem d_md_conflicts_65 : decode b_md_conflicts 65 = .ok (.iload 4, 2) := by decide +kernel
theorem d_md_conflicts_67 : decode b_md_conflicts 67 = .ok (.iload 6, 2) := by decide +kernel
theorem d_md_conflicts_69 : decode b_md_conflicts 69 = .ok (.iload 5, 2) := by decide +kernel
theorem d_md_conflicts_71 : decode b_md_conflicts 71 = .ok (.invokevirtual 136, 3) := by decide +kernel
theorem d_md_conflicts_74 : decode b_md_conflicts 74 = .ok (.istore 7, 2) := by decide +kernel
theorem d_md_conflicts_76 : decode b_md_conflicts 76 = .ok (.iload 7, 2) := by decide +kernel
theorem d_md_conflicts_78 : decode b_md_conflicts 78 = .ok (.ifCond .le 50, 3) := by decide +kernel
theorem d_md_conflicts_81 : decode b_md_conflicts 81 = .ok (.iload_n 3, 1) := by decide +kernel
theorem d_md_conflicts_82 : decode b_md_conflicts 82 = .ok (.ifCond .ne 46, 3) := by decide +kernel
theorem d_md_conflicts_85 : decode b_md_conflicts 85 = .ok (.iload_n 2, 1) := by decide +kernel
theorem d_md_conflicts_86 : decode b_md_conflicts 86 = .ok (.ifCond .ne 8, 3) := by decide +kernel
theorem d_md_conflicts_89 : decode b_md_conflicts 89 = .ok (.iload 4, 2) := by decide +kernel
theorem d_md_conflicts_91 : decode b_md_conflicts 91 = .ok (.goto 36, 3) := by decide +kernel
theorem d_md_conflicts_94 : decode b_md_conflicts 94 = .ok (.iload_n 2, 1) := by decide +kernel
theorem d_md_conflicts_95 : decode b_md_conflicts 95 = .ok (.iconst 1, 1) := by decide +kernel
theorem d_md_conflicts_96 : decode b_md_conflicts 96 = .ok (.if_icmp .ne 8, 3) := by decide +kernel
theorem d_md_conflicts_99 : decode b_md_conflicts 99 = .ok (.iload 5, 2) := by decide +kernel
theorem d_md_conflicts_101 : decode b_md_conflicts 101 = .ok (.goto 26, 3) := by decide +kernel
theorem d_md_conflicts_104 : decode b_md_conflicts 104 = .ok (.iload_n 2, 1) := by decide +kernel
theorem d_md_conflicts_105 : decode b_md_conflicts 105 = .ok (.iconst 2, 1) := by decide +kernel
theorem d_md_conflicts_106 : decode b_md_conflicts 106 = .ok (.if_icmp .ne 19, 3) := by decide +kernel
theorem d_md_conflicts_109 : decode b_md_conflicts 109 = .ok (.aload_n 0, 1) := by decide +kernel
theorem d_md_conflicts_110 : decode b_md_conflicts 110 = .ok (.getfield 56, 3) := by decide +kernel
theorem d_md_conflicts_113 : decode b_md_conflicts 113 = .ok (.bipush 8, 2) := by decide +kernel
theorem d_md_conflicts_115 : decode b_md_conflicts 115 = .ok (.iload 4, 2) := by decide +kernel
theorem d_md_conflicts_117 : decode b_md_conflicts 117 = .ok (.imul, 1) := by decide +kernel
theorem d_md_conflicts_118 : decode b_md_conflicts 118 = .ok (.iload 6, 2) := by decide +kernel
theorem d_md_conflicts_120 : decode b_md_conflicts 120 = .ok (.iadd, 1) := by decide +kernel
theorem d_md_conflicts_121 : decode b_md_conflicts 121 = .ok (.iaload, 1) := by decide +kernel
theorem d_md_conflicts_122 : decode b_md_conflicts 122 = .ok (.goto 5, 3) := by decide +kernel
theorem d_md_conflicts_125 : decode b_md_conflicts 125 = .ok (.iload 7, 2) := by decide +kernel
theorem d_md_conflicts_127 : decode b_md_conflicts 127 = .ok (.ireturn, 1) := by decide +kernel
theorem d_md_conflicts_128 : decode b_md_conflicts 128 = .ok (.iload_n 3, 1) := by decide +kernel
theorem d_md_conflicts_129 : decode b_md_conflicts 129 = .ok (.iload 7, 2) := by decide +kernel
theorem d_md_conflicts_131 : decode b_md_conflicts 131 = .ok (.ifCond .le 7, 3) := by decide +kernel
theorem d_md_conflicts_134 : decode b_md_conflicts 134 = .ok (.iconst 1, 1) := by decide +kernel
theorem d_md_conflicts_135 : decode b_md_conflicts 135 = .ok (.goto 4, 3) := by decide +kernel
theorem d_md_conflicts_138 : decode b_md_conflicts 138 = .ok (.iconst 0, 1) := by decide +kernel
theorem d_md_conflicts_139 : decode b_md_conflicts 139 = .ok (.isub, 1) := by decide +kernel
theorem d_md_conflicts_140 : decode b_md_conflicts 140 = .ok (.istore_n 3, 1) := by decide +kernel
theorem d_md_conflicts_141 : decode b_md_conflicts 141 = .ok (.iinc 6 1, 3) := by decide +kernel
theorem d_md_conflicts_144 : decode b_md_conflicts 144 = .ok (.goto (-112), 3) := by decide +kernel
theorem d_md_conflicts_147 : decode b_md_conflicts 147 = .ok (.iinc 5 1, 3) := by decide +kernel
theorem d_md_conflicts_150 : decode b_md_conflicts 150 = .ok (.goto (-130), 3) := by decide +kernel
theorem d_md_conflicts_153 : decode b_md_conflicts 153 = .ok (.iinc 4 1, 3) := by decide +kernel
theorem d_md_conflicts_156 : decode b_md_conflicts 156 = .ok (.goto (-151), 3) := by decide +kernel
theorem d_md_conflicts_159 : decode b_md_conflicts 159 = .ok (.iload_n 2, 1) := by decide +kernel
theorem d_md_conflicts_160 : decode b_md_conflicts 160 = .ok (.ifCond .ge 9, 3) := by decide +kernel
theorem d_md_conflicts_163 : decode b_md_conflicts 163 = .ok (.iload_n 1, 1) := by decide +kernel
theorem d_md_conflicts_164 : decode b_md_conflicts 164 = .ok (.iload_n 3, 1) := by decide +kernel
theorem d_md_conflicts_165 : decode b_md_conflicts 165 = .ok (.isub, 1) := by decide +kernel
theorem d_md_conflicts_166 : decode b_md_conflicts 166 = .ok (.goto 4, 3) := by decide +kernel
theorem d_md_conflicts_169 : decode b_md_conflicts 169 = .ok (.iconst (-1), 1) := by decide +kernel
theorem d_md_conflicts_170 : decode b_md_conflicts 170 = .ok (.ireturn, 1) := by decide +kernel
theorem d_md_at_0 : decode b_md_at 0 = .ok (.aload_n 0, 1) := by decide +kernel
theorem d_md_at_1 : decode b_md_at 1 = .ok (.iload_n 1, 1) := by decide +kernel
theorem d_md_at_2 : decode b_md_at 2 = .ok (.invokevirtual 150, 3) := by decide +kernel
theorem d_md_at_5 : decode b_md_at 5 = .ok (.ifCond .eq 38, 3) := by decide +kernel
theorem d_md_at_8 : decode b_md_at 8 = .ok (.iload_n 2, 1) := by decide +kernel
theorem d_md_at_9 : decode b_md_at 9 = .ok (.ifCond .lt 34, 3) := by decide +kernel
theorem d_md_at_12 : decode b_md_at 12 = .ok (.iload_n 2, 1) := by decide +kernel
theorem d_md_at_13 : decode b_md_at 13 = .ok (.aload_n 0, 1) := by decide +kernel
theorem d_md_at_14 : decode b_md_at 14 = .ok (.getfield 53, 3) := by decide +kernel
theorem d_md_at_17 : decode b_md_at 17 = .ok (.aload_n 0, 1) := by decide +kernel
theorem d_md_at_18 : decode b_md_at 18 = .ok (.iload_n 1, 1) := by decide +kernel
theorem d_md_at_19 : decode b_md_at 19 = .ok (.invokevirtual 150, 3) := by decide +kernel
theorem d_md_at_22 : decode b_md_at 22 = .ok (.ifCond .eq 7, 3) := by decide +kernel
theorem d_md_at_25 : decode b_md_at 25 = .ok (.iload_n 1, 1) := by decide +kernel
theorem d_md_at_26 : decode b_md_at 26 = .ok (.goto 4, 3) := by decide +kernel
theorem d_md_at_29 : decode b_md_at 29 = .ok (.iconst 0, 1) := by decide +kernel
theorem d_md_at_30 : decode b_md_at 30 = .ok (.iaload, 1) := by decide +kernel
theorem d_md_at_31 : decode b_md_at 31 = .ok (.if_icmp .ge 12, 3) := by decide +kernel
theorem d_md_at_34 : decode b_md_at 34 = .ok (.iload_n 3, 1) := by decide +kernel
theorem d_md_at_35 : decode b_md_at 35 = .ok (.iconst 0, 1) := by decide +kernel
theorem d_md_at_36 : decode b_md_at 36 = .ok (.iconst 3, 1) := by decide +kernel
theorem d_md_at_37 : decode b_md_at 37 = .ok (.invokestatic 86, 3) := by decide +kernel
theorem d_md_at_40 : decode b_md_at 40 = .ok (.ifCond .ne 9, 3) := by decide +kernel
theorem d_md_at_43 : decode b_md_at 43 = .ok (.aload_n 0, 1) := by decide +kernel
theorem d_md_at_44 : decode b_md_at 44 = .ok (.iconst 1, 1) := by decide +kernel
theorem d_md_at_45 : decode b_md_at 45 = .ok (.invokevirtual 90, 3) := by decide +kernel
theorem d_md_at_48 : decode b_md_at 48 = .ok (.ireturn, 1) := by decide +kernel
theorem d_md_at_49 : decode b_md_at 49 = .ok (.aload_n 0, 1) := by decide +kernel
theorem d_md_at_50 : decode b_md_at 50 = .ok (.iconst 0, 1) := by decide +kernel
theorem d_md_at_51 : decode b_md_at 51 = .ok (.putfield 65, 3) := by decide +kernel
theorem d_md_at_54 : decode b_md_at 54 = .ok (.iload_n 3, 1) := by decide +kernel
theorem d_md_at_55 : decode b_md_at 55 = .ok (.ifCond .ne 17, 3) := by decide +kernel
theorem d_md_at_58 : decode b_md_at 58 = .ok (.aload_n 0, 1) := by decide +kernel
theorem d_md_at_59 : decode b_md_at 59 = .ok (.getfield 56, 3) := by decide +kernel
theorem d_md_at_62 : decode b_md_at 62 = .ok (.bipush 8, 2) := by decide +kernel
theorem d_md_at_64 : decode b_md_at 64 = .ok (.iload_n 1, 1) := by decide +kernel
theorem d_md_at_65 : decode b_md_at 65 = .ok (.imul, 1) := by decide +kernel
theorem d_md_at_66 : decode b_md_at 66 = .ok (.iload_n 2, 1) := by decide +kernel
theorem d_md_at_67 : decode b_md_at 67 = .ok (.iadd, 1) := by decide +kernel
theorem d_md_at_68 : decode b_md_at 68 = .ok (.iaload, 1) := by decide +kernel
theorem d_md_at_69 : decode b_md_at 69 = .ok (.goto 42, 3) := by decide +kernel
theorem d_md_at_72 : decode b_md_at 72 = .ok (.iload_n 3, 1) := by decide +kernel
theorem d_md_at_73 : decode b_md_at 73 = .ok (.iconst 1, 1) := by decide +kernel
theorem d_md_at_74 : decode b_md_at 74 = .ok (.if_icmp .ne 12, 3) := by decide +kernel
theorem d_md_at_77 : decode b_md_at 77 = .ok (.aload_n 0, 1) := by decide +kernel
theorem d_md_at_78 : decode b_md_at 78 = .ok (.iload_n 1, 1) := by decide +kernel
theorem d_md_at_79 : decode b_md_at 79 = .ok (.iload_n 2, 1) := by decide +kernel
theorem d_md_at_80 : decode b_md_at 80 = .ok (.invokevirtual 119, 3) := by decide +kernel
theorem d_md_at_83 : decode b_md_at 83 = .ok (.goto 28, 3) := by decide +kernel
theorem d_md_at_86 : decode b_md_at 86 = .ok (.iload_n 3, 1) := by decide +kernel
theorem d_md_at_87 : decode b_md_at 87 = .ok (.iconst 2, 1) := by decide +kernel
theorem d_md_at_88 : decode b_md_at 88 = .ok (.if_icmp .ne 12, 3) := by decide +kernel
theorem d_md_at_91 : decode b_md_at 91 = .ok (.aload_n 0, 1) := by decide +kernel
theorem d_md_at_92 : decode b_md_at 92 = .ok (.iload_n 1, 1) := by decide +kernel
theorem d_md_at_93 : decode b_md_at 93 = .ok (.iload_n 2, 1) := by decide +kernel
theorem d_md_at_94 : decode b_md_at 94 = .ok (.invokevirtual 122, 3) := by decide +kernel
theorem d_md_at_97 : decode b_md_at 97 = .ok (.goto 14, 3) := by decide +kernel
theorem d_md_at_100 : decode b_md_at 100 = .ok (.aload_n 0, 1) := by decide +kernel
theorem d_md_at_101 : decode b_md_at 101 = .ok (.getfield 59, 3) := by decide +kernel
theorem d_md_at_104 : decode b_md_at 104 = .ok (.bipush 8, 2) := by decide +kernel
theorem d_md_at_106 : decode b_md_at 106 = .ok (.iload_n 1, 1) := by decide +kernel
theorem d_md_at_107 : decode b_md_at 107 = .ok (.imul, 1) := by decide +kernel
theorem d_md_at_108 : decode b_md_at 108 = .ok (.iload_n 2, 1) := by decide +kernel
theorem d_md_at_109 : decode b_md_at 109 = .ok (.iadd, 1) := by decide +kernel
theorem d_md_at_110 : decode b_md_at 110 = .ok (.iaload, 1) := by decide +kernel
theorem d_md_at_111 : decode b_md_at 111 = .ok (.ireturn, 1) := by decide +kernel
theorem d_md_count_0 : decode b_md_count 0 = .ok (.aload_n 0, 1) := by decide +kernel
theorem d_md_count_1 : decode b_md_count 1 = .ok (.iconst 0, 1) := by decide +kernel
theorem d_md_count_2 : decode b_md_count 2 = .ok (.putfield 65, 3) := by decide +kernel
theorem d_md_count_5 : decode b_md_count 5 = .ok (.iload_n 1, 1) := by decide +kernel
theorem d_md_count_6 : decode b_md_count 6 = .ok (.bipush 20, 2) := by decide +kernel
theorem d_md_count_8 : decode b_md_count 8 = .ok (.if_icmp .lt 36, 3) := by decide +kernel
theorem d_md_count_11 : decode b_md_count 11 = .ok (.aload_n 0, 1) := by decide +kernel
theorem d_md_count_12 : decode b_md_count 12 = .ok (.iload_n 1, 1) := by decide +kernel
theorem d_md_count_13 : decode b_md_count 13 = .ok (.bipush 20, 2) := by decide +kernel
theorem d_md_count_15 : decode b_md_count 15 = .ok (.isub, 1) := by decide +kernel
theorem d_md_count_16 : decode b_md_count 16 = .ok (.invokevirtual 150, 3) := by decide +kernel
theorem d_md_count_19 : decode b_md_count 19 = .ok (.ifCond .eq 23, 3) := by decide +kernel
theorem d_md_count_22 : decode b_md_count 22 = .ok (.aload_n 0, 1) := by decide +kernel
theorem d_md_count_23 : decode b_md_count 23 = .ok (.getfield 49, 3) := by decide +kernel
theorem d_md_count_26 : decode b_md_count 26 = .ok (.iload_n 1, 1) := by decide +kernel
theorem d_md_count_27 : decode b_md_count 27 = .ok (.bipush 20, 2) := by decide +kernel
theorem d_md_count_29 : decode b_md_count 29 = .ok (.isub, 1) := by decide +kernel
theorem d_md_count_30 : decode b_md_count 30 = .ok (.baload, 1) := by decide +kernel
theorem d_md_count_31 : decode b_md_count 31 = .ok (.ifCond .eq 7, 3) := by decide +kernel
theorem d_md_count_34 : decode b_md_count 34 = .ok (.iconst 1, 1) := by decide +kernel
theorem d_md_count_35 : decode b_md_count 35 = .ok (.goto 8, 3) := by decide +kernel
theorem d_md_count_38 : decode b_md_count 38 = .ok (.iconst 0, 1) := by decide +kernel
theorem d_md_count_39 : decode b_md_count 39 = .ok (.goto 4, 3) := by decide +kernel
theorem d_md_count_42 : decode b_md_count 42 = .ok (.iconst (-1), 1) := by decide +kernel
theorem d_md_count_43 : decode b_md_count 43 = .ok (.ireturn, 1) := by decide +kernel
theorem d_md_count_44 : decode b_md_count 44 = .ok (.iconst 0, 1) := by decide +kernel
theorem d_md_count_45 : decode b_md_count 45 = .ok (.istore_n 2, 1) := by decide +kernel
theorem d_md_count_46 : decode b_md_count 46 = .ok (.iconst 1, 1) := by decide +kernel
theorem d_md_count_47 : decode b_md_count 47 = .ok (.istore_n 3, 1) := by decide +kernel
theorem d_md_count_48 : decode b_md_count 48 = .ok (.iload_n 3, 1) := by decide +kernel
theorem d_md_count_49 : decode b_md_count 49 = .ok (.aload_n 0, 1) := by decide +kernel
theorem d_md_count_50 : decode b_md_count 50 = .ok (.getfield 75, 3) := by decide +kernel
theorem d_md_count_53 : decode b_md_count 53 = .ok (.if_icmp .gt 26, 3) := by decide +kernel
theorem d_md_count_56 : decode b_md_count 56 = .ok (.iload_n 2, 1) := by decide +kernel
theorem d_md_count_57 : decode b_md_count 57 = .ok (.aload_n 0, 1) := by decide +kernel
theorem d_md_count_58 : decode b_md_count 58 = .ok (.getfield 49, 3) := by decide +kernel
theorem d_md_count_61 : decode b_md_count 61 = .ok (.iload_n 3, 1) := by decide +kernel
theorem d_md_count_62 : decode b_md_count 62 = .ok (.baload, 1) := by decide +kernel
theorem d_md_count_63 : decode b_md_count 63 = .ok (.ifCond .eq 7, 3) := by decide +kernel
theorem d_md_count_66 : decode b_md_count 66 = .ok (.iconst 1, 1) := by decide +kernel
theorem d_md_count_67 : decode b_md_count 67 = .ok (.goto 4, 3) := by decide +kernel
theorem d_md_count_70 : decode b_md_count 70 = .ok (.iconst 0, 1) := by decide +kernel
theorem d_md_count_71 : decode b_md_count 71 = .ok (.iadd, 1) := by decide +kernel
theorem d_md_count_72 : decode b_md_count 72 = .ok (.istore_n 2, 1) := by decide +kernel
theorem d_md_count_73 : decode b_md_count 73 = .ok (.iinc 3 1, 3) := by decide +kernel
theorem d_md_count_76 : decode b_md_count 76 = .ok (.goto (-28), 3) := by decide +kernel
theorem d_md_count_79 : decode b_md_count 79 = .ok (.iload_n 1, 1) := by decide +kernel
theorem d_md_count_80 : decode b_md_count 80 = .ok (.tableswitch 87 0 6 #[44, 49, 54, 59, 61, 66, 74], 44) := by decide +kernel
theorem d_md_count_124 : decode b_md_count 124 = .ok (.aload_n 0, 1) := by decide +kernel
theorem d_md_count_125 : decode b_md_count 125 = .ok (.getfield 69, 3) := by decide +kernel
theorem d_md_count_128 : decode b_md_count 128 = .ok (.ireturn, 1) := by decide +kernel
theorem d_md_count_129 : decode b_md_count 129 = .ok (.aload_n 0, 1) := by decide +kernel
theorem d_md_count_130 : decode b_md_count 130 = .ok (.getfield 72, 3) := by decide +kernel
theorem d_md_count_133 : decode b_md_count 133 = .ok (.ireturn, 1) := by decide +kernel
theorem d_md_count_134 : decode b_md_count 134 = .ok (.aload_n 0, 1) := by decide +kernel
theorem d_md_count_135 : decode b_md_count 135 = .ok (.getfield 75, 3) := by decide +kernel
theorem d_md_count_138 : decode b_md_count 138 = .ok (.ireturn, 1) := by decide +kernel
theorem d_md_count_139 : decode b_md_count 139 = .ok (.iload_n 2, 1) := by decide +kernel
theorem d_md_count_140 : decode b_md_count 140 = .ok (.ireturn, 1) := by decide +kernel
theorem d_md_count_141 : decode b_md_count 141 = .ok (.aload_n 0, 1) := by decide +kernel
theorem d_md_count_142 : decode b_md_count 142 = .ok (.getfield 78, 3) := by decide +kernel
theorem d_md_count_145 : decode b_md_count 145 = .ok (.ireturn, 1) := by decide +kernel
theorem d_md_count_146 : decode b_md_count 146 = .ok (.aload_n 0, 1) := by decide +kernel
theorem d_md_count_147 : decode b_md_count 147 = .ok (.ldc 101, 2) := by decide +kernel
theorem d_md_count_149 : decode b_md_count 149 = .ok (.iconst (-1), 1) := by decide +kernel
theorem d_md_count_150 : decode b_md_count 150 = .ok (.invokevirtual 153, 3) := by decide +kernel
theorem d_md_count_153 : decode b_md_count 153 = .ok (.ireturn, 1) := by decide +kernel
theorem d_md_count_154 : decode b_md_count 154 = .ok (.aload_n 0, 1) := by decide +kernel
theorem d_md_count_155 : decode b_md_count 155 = .ok (.getfield 97, 3) := by decide +kernel
theorem d_md_count_158 : decode b_md_count 158 = .ok (.ifCond .eq 7, 3) := by decide +kernel
theorem d_md_count_161 : decode b_md_count 161 = .ok (.iconst 1, 1) := by decide +kernel
theorem d_md_count_162 : decode b_md_count 162 = .ok (.goto 4, 3) := by decide +kernel
theorem d_md_count_165 : decode b_md_count 165 = .ok (.iconst 0, 1) := by decide +kernel
theorem d_md_count_166 : decode b_md_count 166 = .ok (.ireturn, 1) := by decide +kernel
theorem d_md_count_167 : decode b_md_count 167 = .ok (.iconst (-1), 1) := by decide +kernel
theorem d_md_count_168 : decode b_md_count 168 = .ok (.ireturn, 1) := by decide +kernel
