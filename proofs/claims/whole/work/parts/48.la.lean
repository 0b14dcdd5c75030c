theorem d_lw_law_0 : decode code 0 = .ok (.new 8, 3) := by decide +kernel
theorem d_lw_law_3 : decode code 3 = .ok (.dup, 1) := by decide +kernel
theorem d_lw_law_4 : decode code 4 = .ok (.invokespecial 45, 3) := by decide +kernel
theorem d_lw_law_7 : decode code 7 = .ok (.astore_n 1, 1) := by decide +kernel
theorem d_lw_law_8 : decode code 8 = .ok (.new 46, 3) := by decide +kernel
theorem d_lw_law_11 : decode code 11 = .ok (.dup, 1) := by decide +kernel
theorem d_lw_law_12 : decode code 12 = .ok (.invokespecial 48, 3) := by decide +kernel
theorem d_lw_law_15 : decode code 15 = .ok (.astore_n 2, 1) := by decide +kernel
theorem d_lw_law_16 : decode code 16 = .ok (.iconst 1, 1) := by decide +kernel
theorem d_lw_law_17 : decode code 17 = .ok (.newarray .long, 2) := by decide +kernel
theorem d_lw_law_19 : decode code 19 = .ok (.astore_n 3, 1) := by decide +kernel
theorem d_lw_law_20 : decode code 20 = .ok (.iconst 0, 1) := by decide +kernel
theorem d_lw_law_21 : decode code 21 = .ok (.istore 4, 2) := by decide +kernel
theorem d_lw_law_23 : decode code 23 = .ok (.iload 4, 2) := by decide +kernel
theorem d_lw_law_25 : decode code 25 = .ok (.aload_n 0, 1) := by decide +kernel
theorem d_lw_law_26 : decode code 26 = .ok (.arraylength, 1) := by decide +kernel
theorem d_lw_law_27 : decode code 27 = .ok (.iconst 5, 1) := by decide +kernel
theorem d_lw_law_28 : decode code 28 = .ok (.isub, 1) := by decide +kernel
theorem d_lw_law_29 : decode code 29 = .ok (.if_icmp .gt 994, 3) := by decide +kernel
theorem d_lw_law_32 : decode code 32 = .ok (.aload_n 0, 1) := by decide +kernel
theorem d_lw_law_33 : decode code 33 = .ok (.iload 4, 2) := by decide +kernel
theorem d_lw_law_35 : decode code 35 = .ok (.iaload, 1) := by decide +kernel
theorem d_lw_law_36 : decode code 36 = .ok (.bipush 15, 2) := by decide +kernel
theorem d_lw_law_38 : decode code 38 = .ok (.iand, 1) := by decide +kernel
theorem d_lw_law_39 : decode code 39 = .ok (.tableswitch 978 0 13 #[69, 161, 210, 251, 331, 423, 515, 607, 675, 700, 780, 805, 873, 953], 69) := by decide +kernel
theorem d_lw_law_108 : decode code 108 = .ok (.aload_n 1, 1) := by decide +kernel
theorem d_lw_law_109 : decode code 109 = .ok (.aload_n 0, 1) := by decide +kernel
theorem d_lw_law_110 : decode code 110 = .ok (.iload 4, 2) := by decide +kernel
theorem d_lw_law_112 : decode code 112 = .ok (.iconst 1, 1) := by decide +kernel
theorem d_lw_law_113 : decode code 113 = .ok (.iadd, 1) := by decide +kernel
theorem d_lw_law_114 : decode code 114 = .ok (.iaload, 1) := by decide +kernel
theorem d_lw_law_115 : decode code 115 = .ok (.aload_n 0, 1) := by decide +kernel
theorem d_lw_law_116 : decode code 116 = .ok (.iload 4, 2) := by decide +kernel
theorem d_lw_law_118 : decode code 118 = .ok (.iconst 2, 1) := by decide +kernel
theorem d_lw_law_119 : decode code 119 = .ok (.iadd, 1) := by decide +kernel
theorem d_lw_law_120 : decode code 120 = .ok (.iaload, 1) := by decide +kernel
theorem d_lw_law_121 : decode code 121 = .ok (.aload_n 0, 1) := by decide +kernel
theorem d_lw_law_122 : decode code 122 = .ok (.iload 4, 2) := by decide +kernel
theorem d_lw_law_124 : decode code 124 = .ok (.iconst 3, 1) := by decide +kernel
theorem d_lw_law_125 : decode code 125 = .ok (.iadd, 1) := by decide +kernel
theorem d_lw_law_126 : decode code 126 = .ok (.iaload, 1) := by decide +kernel
theorem d_lw_law_127 : decode code 127 = .ok (.aload_n 0, 1) := by decide +kernel
theorem d_lw_law_128 : decode code 128 = .ok (.iload 4, 2) := by decide +kernel
theorem d_lw_law_130 : decode code 130 = .ok (.iconst 4, 1) := by decide +kernel
theorem d_lw_law_131 : decode code 131 = .ok (.iadd, 1) := by decide +kernel
theorem d_lw_law_132 : decode code 132 = .ok (.iaload, 1) := by decide +kernel
theorem d_lw_law_133 : decode code 133 = .ok (.aload_n 3, 1) := by decide +kernel
theorem d_lw_law_134 : decode code 134 = .ok (.invokestatic 49, 3) := by decide +kernel
theorem d_lw_law_137 : decode code 137 = .ok (.istore 5, 2) := by decide +kernel
theorem d_lw_law_139 : decode code 139 = .ok (.aload_n 2, 1) := by decide +kernel
theorem d_lw_law_140 : decode code 140 = .ok (.aload_n 0, 1) := by decide +kernel
theorem d_lw_law_141 : decode code 141 = .ok (.iload 4, 2) := by decide +kernel
theorem d_lw_law_143 : decode code 143 = .ok (.iconst 1, 1) := by decide +kernel
theorem d_lw_law_144 : decode code 144 = .ok (.iadd, 1) := by decide +kernel
theorem d_lw_law_145 : decode code 145 = .ok (.iaload, 1) := by decide +kernel
theorem d_lw_law_146 : decode code 146 = .ok (.aload_n 0, 1) := by decide +kernel
theorem d_lw_law_147 : decode code 147 = .ok (.iload 4, 2) := by decide +kernel
theorem d_lw_law_149 : decode code 149 = .ok (.iconst 2, 1) := by decide +kernel
theorem d_lw_law_150 : decode code 150 = .ok (.iadd, 1) := by decide +kernel
theorem d_lw_law_151 : decode code 151 = .ok (.iaload, 1) := by decide +kernel
theorem d_lw_law_152 : decode code 152 = .ok (.aload_n 0, 1) := by decide +kernel
theorem d_lw_law_153 : decode code 153 = .ok (.iload 4, 2) := by decide +kernel
theorem d_lw_law_155 : decode code 155 = .ok (.iconst 3, 1) := by decide +kernel
theorem d_lw_law_156 : decode code 156 = .ok (.iadd, 1) := by decide +kernel
theorem d_lw_law_157 : decode code 157 = .ok (.iaload, 1) := by decide +kernel
theorem d_lw_law_158 : decode code 158 = .ok (.aload_n 0, 1) := by decide +kernel
theorem d_lw_law_159 : decode code 159 = .ok (.iload 4, 2) := by decide +kernel
theorem d_lw_law_161 : decode code 161 = .ok (.iconst 4, 1) := by decide +kernel
theorem d_lw_law_162 : decode code 162 = .ok (.iadd, 1) := by decide +kernel
theorem d_lw_law_163 : decode code 163 = .ok (.iaload, 1) := by decide +kernel
theorem d_lw_law_164 : decode code 164 = .ok (.invokevirtual 54, 3) := by decide +kernel
theorem d_lw_law_167 : decode code 167 = .ok (.istore 6, 2) := by decide +kernel
theorem d_lw_law_169 : decode code 169 = .ok (.aload_n 2, 1) := by decide +kernel
theorem d_lw_law_170 : decode code 170 = .ok (.invokevirtual 55, 3) := by decide +kernel
theorem d_lw_law_173 : decode code 173 = .ok (.iload 5, 2) := by decide +kernel
theorem d_lw_law_175 : decode code 175 = .ok (.if_icmp .eq 5, 3) := by decide +kernel
theorem d_lw_law_178 : decode code 178 = .ok (.iconst 0, 1) := by decide +kernel
theorem d_lw_law_179 : decode code 179 = .ok (.ireturn, 1) := by decide +kernel
theorem d_lw_law_180 : decode code 180 = .ok (.iload 5, 2) := by decide +kernel
theorem d_lw_law_182 : decode code 182 = .ok (.ifCond .ne 15, 3) := by decide +kernel
theorem d_lw_law_185 : decode code 185 = .ok (.aload_n 3, 1) := by decide +kernel
theorem d_lw_law_186 : decode code 186 = .ok (.iconst 0, 1) := by decide +kernel
theorem d_lw_law_187 : decode code 187 = .ok (.laload, 1) := by decide +kernel
theorem d_lw_law_188 : decode code 188 = .ok (.iload 6, 2) := by decide +kernel
theorem d_lw_law_190 : decode code 190 = .ok (.i2l, 1) := by decide +kernel
theorem d_lw_law_191 : decode code 191 = .ok (.lcmp, 1) := by decide +kernel
theorem d_lw_law_192 : decode code 192 = .ok (.ifCond .eq 5, 3) := by decide +kernel
theorem d_lw_law_195 : decode code 195 = .ok (.iconst 0, 1) := by decide +kernel
theorem d_lw_law_196 : decode code 196 = .ok (.ireturn, 1) := by decide +kernel
theorem d_lw_law_197 : decode code 197 = .ok (.goto 820, 3) := by decide +kernel
theorem d_lw_law_200 : decode code 200 = .ok (.aload_n 1, 1) := by decide +kernel
theorem d_lw_law_201 : decode code 201 = .ok (.aload_n 0, 1) := by decide +kernel
theorem d_lw_law_202 : decode code 202 = .ok (.iload 4, 2) := by decide +kernel
theorem d_lw_law_204 : decode code 204 = .ok (.iconst 1, 1) := by decide +kernel
theorem d_lw_law_205 : decode code 205 = .ok (.iadd, 1) := by decide +kernel
theorem d_lw_law_206 : decode code 206 = .ok (.iaload, 1) := by decide +kernel
theorem d_lw_law_207 : decode code 207 = .ok (.aload_n 0, 1) := by decide +kernel
theorem d_lw_law_208 : decode code 208 = .ok (.iload 4, 2) := by decide +kernel
theorem d_lw_law_210 : decode code 210 = .ok (.iconst 2, 1) := by decide +kernel
theorem d_lw_law_211 : decode code 211 = .ok (.iadd, 1) := by decide +kernel
theorem d_lw_law_212 : decode code 212 = .ok (.iaload, 1) := by decide +kernel
theorem d_lw_law_213 : decode code 213 = .ok (.aload_n 0, 1) := by decide +kernel
theorem d_lw_law_214 : decode code 214 = .ok (.iload 4, 2) := by decide +kernel
theorem d_lw_law_216 : decode code 216 = .ok (.iconst 3, 1) := by decide +kernel
theorem d_lw_law_217 : decode code 217 = .ok (.iadd, 1) := by decide +kernel
theorem d_lw_law_218 : decode code 218 = .ok (.iaload, 1) := by decide +kernel
theorem d_lw_law_219 : decode code 219 = .ok (.invokevirtual 59, 3) := by decide +kernel
theorem d_lw_law_222 : decode code 222 = .ok (.aload_n 2, 1) := by decide +kernel
theorem d_lw_law_223 : decode code 223 = .ok (.aload_n 0, 1) := by decide +kernel
theorem d_lw_law_224 : decode code 224 = .ok (.iload 4, 2) := by decide +kernel
