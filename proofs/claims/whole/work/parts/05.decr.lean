theorem dX5_init_0 : decode cX5_init 0 = .ok (.aload_n 0, 1) := by decide +kernel
theorem dX5_init_1 : decode cX5_init 1 = .ok (.invokespecial 1, 3) := by decide +kernel
theorem dX5_init_4 : decode cX5_init 4 = .ok (.aload_n 0, 1) := by decide +kernel
theorem dX5_init_5 : decode cX5_init 5 = .ok (.iconst 5, 1) := by decide +kernel
theorem dX5_init_6 : decode cX5_init 6 = .ok (.newarray .boolean, 2) := by decide +kernel
theorem dX5_init_8 : decode cX5_init 8 = .ok (.putfield 7, 3) := by decide +kernel
theorem dX5_init_11 : decode cX5_init 11 = .ok (.aload_n 0, 1) := by decide +kernel
theorem dX5_init_12 : decode cX5_init 12 = .ok (.iconst 5, 1) := by decide +kernel
theorem dX5_init_13 : decode cX5_init 13 = .ok (.newarray .int, 2) := by decide +kernel
theorem dX5_init_15 : decode cX5_init 15 = .ok (.putfield 13, 3) := by decide +kernel
theorem dX5_init_18 : decode cX5_init 18 = .ok (.aload_n 0, 1) := by decide +kernel
theorem dX5_init_19 : decode cX5_init 19 = .ok (.iconst 5, 1) := by decide +kernel
theorem dX5_init_20 : decode cX5_init 20 = .ok (.newarray .int, 2) := by decide +kernel
theorem dX5_init_22 : decode cX5_init 22 = .ok (.putfield 17, 3) := by decide +kernel
theorem dX5_init_25 : decode cX5_init 25 = .ok (.aload_n 0, 1) := by decide +kernel
theorem dX5_init_26 : decode cX5_init 26 = .ok (.iconst 5, 1) := by decide +kernel
theorem dX5_init_27 : decode cX5_init 27 = .ok (.newarray .int, 2) := by decide +kernel
theorem dX5_init_29 : decode cX5_init 29 = .ok (.putfield 20, 3) := by decide +kernel
theorem dX5_init_32 : decode cX5_init 32 = .ok (.aload_n 0, 1) := by decide +kernel
theorem dX5_init_33 : decode cX5_init 33 = .ok (.iconst 5, 1) := by decide +kernel
theorem dX5_init_34 : decode cX5_init 34 = .ok (.newarray .int, 2) := by decide +kernel
theorem dX5_init_36 : decode cX5_init 36 = .ok (.putfield 23, 3) := by decide +kernel
theorem dX5_init_39 : decode cX5_init 39 = .ok (.aload_n 0, 1) := by decide +kernel
theorem dX5_init_40 : decode cX5_init 40 = .ok (.iconst 5, 1) := by decide +kernel
theorem dX5_init_41 : decode cX5_init 41 = .ok (.newarray .int, 2) := by decide +kernel
theorem dX5_init_43 : decode cX5_init 43 = .ok (.putfield 26, 3) := by decide +kernel
theorem dX5_init_46 : decode cX5_init 46 = .ok (.aload_n 0, 1) := by decide +kernel
theorem dX5_init_47 : decode cX5_init 47 = .ok (.iconst 5, 1) := by decide +kernel
theorem dX5_init_48 : decode cX5_init 48 = .ok (.newarray .int, 2) := by decide +kernel
theorem dX5_init_50 : decode cX5_init 50 = .ok (.putfield 29, 3) := by decide +kernel
theorem dX5_init_53 : decode cX5_init 53 = .ok (.aload_n 0, 1) := by decide +kernel
theorem dX5_init_54 : decode cX5_init 54 = .ok (.iconst 5, 1) := by decide +kernel
theorem dX5_init_55 : decode cX5_init 55 = .ok (.newarray .int, 2) := by decide +kernel
theorem dX5_init_57 : decode cX5_init 57 = .ok (.putfield 32, 3) := by decide +kernel
theorem dX5_init_60 : decode cX5_init 60 = .ok (.aload_n 0, 1) := by decide +kernel
theorem dX5_init_61 : decode cX5_init 61 = .ok (.iconst 5, 1) := by decide +kernel
theorem dX5_init_62 : decode cX5_init 62 = .ok (.newarray .int, 2) := by decide +kernel
theorem dX5_init_64 : decode cX5_init 64 = .ok (.putfield 35, 3) := by decide +kernel
theorem dX5_init_67 : decode cX5_init 67 = .ok (.aload_n 0, 1) := by decide +kernel
theorem dX5_init_68 : decode cX5_init 68 = .ok (.iconst 5, 1) := by decide +kernel
theorem dX5_init_69 : decode cX5_init 69 = .ok (.newarray .int, 2) := by decide +kernel
theorem dX5_init_71 : decode cX5_init 71 = .ok (.putfield 38, 3) := by decide +kernel
theorem dX5_init_74 : decode cX5_init 74 = .ok (.aload_n 0, 1) := by decide +kernel
theorem dX5_init_75 : decode cX5_init 75 = .ok (.bipush 60, 2) := by decide +kernel
theorem dX5_init_77 : decode cX5_init 77 = .ok (.newarray .int, 2) := by decide +kernel
theorem dX5_init_79 : decode cX5_init 79 = .ok (.putfield 41, 3) := by decide +kernel
theorem dX5_init_82 : decode cX5_init 82 = .ok (.aload_n 0, 1) := by decide +kernel
theorem dX5_init_83 : decode cX5_init 83 = .ok (.bipush 60, 2) := by decide +kernel
theorem dX5_init_85 : decode cX5_init 85 = .ok (.newarray .int, 2) := by decide +kernel
theorem dX5_init_87 : decode cX5_init 87 = .ok (.putfield 44, 3) := by decide +kernel
theorem dX5_init_90 : decode cX5_init 90 = .ok (.aload_n 0, 1) := by decide +kernel
theorem dX5_init_91 : decode cX5_init 91 = .ok (.bipush 25, 2) := by decide +kernel
theorem dX5_init_93 : decode cX5_init 93 = .ok (.newarray .int, 2) := by decide +kernel
theorem dX5_init_95 : decode cX5_init 95 = .ok (.putfield 47, 3) := by decide +kernel
theorem dX5_init_98 : decode cX5_init 98 = .ok (.aload_n 0, 1) := by decide +kernel
theorem dX5_init_99 : decode cX5_init 99 = .ok (.bipush 25, 2) := by decide +kernel
theorem dX5_init_101 : decode cX5_init 101 = .ok (.newarray .int, 2) := by decide +kernel
theorem dX5_init_103 : decode cX5_init 103 = .ok (.putfield 50, 3) := by decide +kernel
theorem dX5_init_106 : decode cX5_init 106 = .ok (.aload_n 0, 1) := by decide +kernel
theorem dX5_init_107 : decode cX5_init 107 = .ok (.bipush 40, 2) := by decide +kernel
theorem dX5_init_109 : decode cX5_init 109 = .ok (.newarray .int, 2) := by decide +kernel
theorem dX5_init_111 : decode cX5_init 111 = .ok (.putfield 53, 3) := by decide +kernel
theorem dX5_init_114 : decode cX5_init 114 = .ok (.aload_n 0, 1) := by decide +kernel
theorem dX5_init_115 : decode cX5_init 115 = .ok (.bipush 40, 2) := by decide +kernel
theorem dX5_init_117 : decode cX5_init 117 = .ok (.newarray .int, 2) := by decide +kernel
theorem dX5_init_119 : decode cX5_init 119 = .ok (.putfield 56, 3) := by decide +kernel
theorem dX5_init_122 : decode cX5_init 122 = .ok (.aload_n 0, 1) := by decide +kernel
theorem dX5_init_123 : decode cX5_init 123 = .ok (.bipush 40, 2) := by decide +kernel
theorem dX5_init_125 : decode cX5_init 125 = .ok (.newarray .int, 2) := by decide +kernel
theorem dX5_init_127 : decode cX5_init 127 = .ok (.putfield 59, 3) := by decide +kernel
theorem dX5_init_130 : decode cX5_init 130 = .ok (.aload_n 0, 1) := by decide +kernel
theorem dX5_init_131 : decode cX5_init 131 = .ok (.bipush 40, 2) := by decide +kernel
theorem dX5_init_133 : decode cX5_init 133 = .ok (.newarray .int, 2) := by decide +kernel
theorem dX5_init_135 : decode cX5_init 135 = .ok (.putfield 62, 3) := by decide +kernel
theorem dX5_init_138 : decode cX5_init 138 = .ok (.aload_n 0, 1) := by decide +kernel
theorem dX5_init_139 : decode cX5_init 139 = .ok (.bipush 40, 2) := by decide +kernel
theorem dX5_init_141 : decode cX5_init 141 = .ok (.newarray .int, 2) := by decide +kernel
theorem dX5_init_143 : decode cX5_init 143 = .ok (.putfield 65, 3) := by decide +kernel
theorem dX5_init_146 : decode cX5_init 146 = .ok (.aload_n 0, 1) := by decide +kernel
theorem dX5_init_147 : decode cX5_init 147 = .ok (.bipush 40, 2) := by decide +kernel
theorem dX5_init_149 : decode cX5_init 149 = .ok (.newarray .int, 2) := by decide +kernel
theorem dX5_init_151 : decode cX5_init 151 = .ok (.putfield 68, 3) := by decide +kernel
theorem dX5_init_154 : decode cX5_init 154 = .ok (.aload_n 0, 1) := by decide +kernel
theorem dX5_init_155 : decode cX5_init 155 = .ok (.bipush 40, 2) := by decide +kernel
theorem dX5_init_157 : decode cX5_init 157 = .ok (.newarray .boolean, 2) := by decide +kernel
theorem dX5_init_159 : decode cX5_init 159 = .ok (.putfield 71, 3) := by decide +kernel
theorem dX5_init_162 : decode cX5_init 162 = .ok (.aload_n 0, 1) := by decide +kernel
theorem dX5_init_163 : decode cX5_init 163 = .ok (.bipush 40, 2) := by decide +kernel
theorem dX5_init_165 : decode cX5_init 165 = .ok (.newarray .int, 2) := by decide +kernel
theorem dX5_init_167 : decode cX5_init 167 = .ok (.putfield 74, 3) := by decide +kernel
theorem dX5_init_170 : decode cX5_init 170 = .ok (.aload_n 0, 1) := by decide +kernel
theorem dX5_init_171 : decode cX5_init 171 = .ok (.bipush 40, 2) := by decide +kernel
theorem dX5_init_173 : decode cX5_init 173 = .ok (.newarray .int, 2) := by decide +kernel
theorem dX5_init_175 : decode cX5_init 175 = .ok (.putfield 77, 3) := by decide +kernel
theorem dX5_init_178 : decode cX5_init 178 = .ok (.aload_n 0, 1) := by decide +kernel
theorem dX5_init_179 : decode cX5_init 179 = .ok (.bipush 40, 2) := by decide +kernel
theorem dX5_init_181 : decode cX5_init 181 = .ok (.newarray .int, 2) := by decide +kernel
theorem dX5_init_183 : decode cX5_init 183 = .ok (.putfield 80, 3) := by decide +kernel
theorem dX5_init_186 : decode cX5_init 186 = .ok (.aload_n 0, 1) := by decide +kernel
theorem dX5_init_187 : decode cX5_init 187 = .ok (.iload_n 1, 1) := by decide +kernel
theorem dX5_init_188 : decode cX5_init 188 = .ok (.iconst 3, 1) := by decide +kernel
theorem dX5_init_189 : decode cX5_init 189 = .ok (.iconst 5, 1) := by decide +kernel
theorem dX5_init_190 : decode cX5_init 190 = .ok (.invokestatic 83, 3) := by decide +kernel
theorem dX5_init_193 : decode cX5_init 193 = .ok (.putfield 87, 3) := by decide +kernel
theorem dX5_init_196 : decode cX5_init 196 = .ok (.aload_n 0, 1) := by decide +kernel
theorem dX5_init_197 : decode cX5_init 197 = .ok (.iload_n 2, 1) := by decide +kernel
theorem dX5_init_198 : decode cX5_init 198 = .ok (.iconst 1, 1) := by decide +kernel
theorem dX5_init_199 : decode cX5_init 199 = .ok (.bipush 12, 2) := by decide +kernel
theorem dX5_init_201 : decode cX5_init 201 = .ok (.invokestatic 83, 3) := by decide +kernel
theorem dX5_init_204 : decode cX5_init 204 = .ok (.putfield 91, 3) := by decide +kernel
theorem dX5_init_207 : decode cX5_init 207 = .ok (.aload_n 0, 1) := by decide +kernel
theorem dX5_init_208 : decode cX5_init 208 = .ok (.iload_n 3, 1) := by decide +kernel
theorem dX5_init_209 : decode cX5_init 209 = .ok (.bipush 8, 2) := by decide +kernel
theorem dX5_init_211 : decode cX5_init 211 = .ok (.bipush 40, 2) := by decide +kernel
theorem dX5_init_213 : decode cX5_init 213 = .ok (.invokestatic 83, 3) := by decide +kernel
theorem dX5_init_216 : decode cX5_init 216 = .ok (.putfield 94, 3) := by decide +kernel
theorem dX5_init_219 : decode cX5_init 219 = .ok (.iconst 0, 1) := by decide +kernel
theorem dX5_init_220 : decode cX5_init 220 = .ok (.istore 4, 2) := by decide +kernel
theorem dX5_init_222 : decode cX5_init 222 = .ok (.iload 4, 2) := by decide +kernel
theorem dX5_init_224 : decode cX5_init 224 = .ok (.iconst 5, 1) := by decide +kernel
theorem dX5_init_225 : decode cX5_init 225 = .ok (.if_icmp .ge 25, 3) := by decide +kernel
theorem dX5_init_228 : decode cX5_init 228 = .ok (.aload_n 0, 1) := by decide +kernel
theorem dX5_init_229 : decode cX5_init 229 = .ok (.getfield 7, 3) := by decide +kernel
theorem dX5_init_232 : decode cX5_init 232 = .ok (.iload 4, 2) := by decide +kernel
theorem dX5_init_234 : decode cX5_init 234 = .ok (.iconst 1, 1) := by decide +kernel
theorem dX5_init_235 : decode cX5_init 235 = .ok (.bastore, 1) := by decide +kernel
theorem dX5_init_236 : decode cX5_init 236 = .ok (.aload_n 0, 1) := by decide +kernel
theorem dX5_init_237 : decode cX5_init 237 = .ok (.getfield 20, 3) := by decide +kernel
theorem dX5_init_240 : decode cX5_init 240 = .ok (.iload 4, 2) := by decide +kernel
theorem dX5_init_242 : decode cX5_init 242 = .ok (.iconst (-1), 1) := by decide +kernel
theorem dX5_init_243 : decode cX5_init 243 = .ok (.iastore, 1) := by decide +kernel
theorem dX5_init_244 : decode cX5_init 244 = .ok (.iinc 4 1, 3) := by decide +kernel
theorem dX5_init_247 : decode cX5_init 247 = .ok (.goto (-25), 3) := by decide +kernel
theorem dX5_init_250 : decode cX5_init 250 = .ok (.return_, 1) := by decide +kernel
theorem dX5_clamp_0 : decode cX5_clamp 0 = .ok (.iload_n 0, 1) := by decide +kernel
theorem dX5_clamp_1 : decode cX5_clamp 1 = .ok (.iload_n 1, 1) := by decide +kernel
theorem dX5_clamp_2 : decode cX5_clamp 2 = .ok (.if_icmp .ge 7, 3) := by decide +kernel
theorem dX5_clamp_5 : decode cX5_clamp 5 = .ok (.iload_n 1, 1) := by decide +kernel
theorem dX5_clamp_6 : decode cX5_clamp 6 = .ok (.goto 13, 3) := by decide +kernel
theorem dX5_clamp_9 : decode cX5_clamp 9 = .ok (.iload_n 0, 1) := by decide +kernel
theorem dX5_clamp_10 : decode cX5_clamp 10 = .ok (.iload_n 2, 1) := by decide +kernel
theorem dX5_clamp_11 : decode cX5_clamp 11 = .ok (.if_icmp .le 7, 3) := by decide +kernel
theorem dX5_clamp_14 : decode cX5_clamp 14 = .ok (.iload_n 2, 1) := by decide +kernel
theorem dX5_clamp_15 : decode cX5_clamp 15 = .ok (.goto 4, 3) := by decide +kernel
theorem dX5_clamp_18 : decode cX5_clamp 18 = .ok (.iload_n 0, 1) := by decide +kernel
theorem dX5_clamp_19 : decode cX5_clamp 19 = .ok (.ireturn, 1) := by decide +kernel
theorem dX5_isNode_0 : decode cX5_isNode 0 = .ok (.iload_n 1, 1) := by decide +kernel
theorem dX5_isNode_1 : decode cX5_isNode 1 = .ok (.ifCond .lt 15, 3) := by decide +kernel
theorem dX5_isNode_4 : decode cX5_isNode 4 = .ok (.iload_n 1, 1) := by decide +kernel
theorem dX5_isNode_5 : decode cX5_isNode 5 = .ok (.aload_n 0, 1) := by decide +kernel
theorem dX5_isNode_6 : decode cX5_isNode 6 = .ok (.getfield 87, 3) := by decide +kernel
theorem dX5_isNode_9 : decode cX5_isNode 9 = .ok (.if_icmp .ge 7, 3) := by decide +kernel
theorem dX5_isNode_12 : decode cX5_isNode 12 = .ok (.iconst 1, 1) := by decide +kernel
theorem dX5_isNode_13 : decode cX5_isNode 13 = .ok (.goto 4, 3) := by decide +kernel
theorem dX5_isNode_16 : decode cX5_isNode 16 = .ok (.iconst 0, 1) := by decide +kernel
theorem dX5_isNode_17 : decode cX5_isNode 17 = .ok (.ireturn, 1) := by decide +kernel
theorem dX5_lastOf_0 : decode cX5_lastOf 0 = .ok (.aload_n 0, 1) := by decide +kernel
theorem dX5_lastOf_1 : decode cX5_lastOf 1 = .ok (.getfield 23, 3) := by decide +kernel
theorem dX5_lastOf_4 : decode cX5_lastOf 4 = .ok (.iload_n 1, 1) := by decide +kernel
theorem dX5_lastOf_5 : decode cX5_lastOf 5 = .ok (.iaload, 1) := by decide +kernel
theorem dX5_lastOf_6 : decode cX5_lastOf 6 = .ok (.aload_n 0, 1) := by decide +kernel
theorem dX5_lastOf_7 : decode cX5_lastOf 7 = .ok (.getfield 38, 3) := by decide +kernel
theorem dX5_lastOf_10 : decode cX5_lastOf 10 = .ok (.iload_n 1, 1) := by decide +kernel
theorem dX5_lastOf_11 : decode cX5_lastOf 11 = .ok (.iaload, 1) := by decide +kernel
theorem dX5_lastOf_12 : decode cX5_lastOf 12 = .ok (.iadd, 1) := by decide +kernel
theorem dX5_lastOf_13 : decode cX5_lastOf 13 = .ok (.ireturn, 1) := by decide +kernel
theorem dX5_hasEntry_0 : decode cX5_hasEntry 0 = .ok (.iload_n 2, 1) := by decide +kernel
theorem dX5_hasEntry_1 : decode cX5_hasEntry 1 = .ok (.aload_n 0, 1) := by decide +kernel
theorem dX5_hasEntry_2 : decode cX5_hasEntry 2 = .ok (.getfield 23, 3) := by decide +kernel
theorem dX5_hasEntry_5 : decode cX5_hasEntry 5 = .ok (.iload_n 1, 1) := by decide +kernel
theorem dX5_hasEntry_6 : decode cX5_hasEntry 6 = .ok (.iaload, 1) := by decide +kernel
theorem dX5_hasEntry_7 : decode cX5_hasEntry 7 = .ok (.if_icmp .le 16, 3) := by decide +kernel
theorem dX5_hasEntry_10 : decode cX5_hasEntry 10 = .ok (.iload_n 2, 1) := by decide +kernel
theorem dX5_hasEntry_11 : decode cX5_hasEntry 11 = .ok (.aload_n 0, 1) := by decide +kernel
theorem dX5_hasEntry_12 : decode cX5_hasEntry 12 = .ok (.iload_n 1, 1) := by decide +kernel
theorem dX5_hasEntry_13 : decode cX5_hasEntry 13 = .ok (.invokevirtual 97, 3) := by decide +kernel
theorem dX5_hasEntry_16 : decode cX5_hasEntry 16 = .ok (.if_icmp .gt 7, 3) := by decide +kernel
theorem dX5_hasEntry_19 : decode cX5_hasEntry 19 = .ok (.iconst 1, 1) := by decide +kernel
theorem dX5_hasEntry_20 : decode cX5_hasEntry 20 = .ok (.goto 4, 3) := by decide +kernel
theorem dX5_hasEntry_23 : decode cX5_hasEntry 23 = .ok (.iconst 0, 1) := by decide +kernel
theorem dX5_hasEntry_24 : decode cX5_hasEntry 24 = .ok (.ireturn, 1) := by decide +kernel
theorem dX5_place_0 : decode cX5_place 0 = .ok (.bipush 12, 2) := by decide +kernel
theorem dX5_place_2 : decode cX5_place 2 = .ok (.iload_n 1, 1) := by decide +kernel
theorem dX5_place_3 : decode cX5_place 3 = .ok (.imul, 1) := by decide +kernel
theorem dX5_place_4 : decode cX5_place 4 = .ok (.iload_n 2, 1) := by decide +kernel
theorem dX5_place_5 : decode cX5_place 5 = .ok (.iadd, 1) := by decide +kernel
theorem dX5_place_6 : decode cX5_place 6 = .ok (.aload_n 0, 1) := by decide +kernel
theorem dX5_place_7 : decode cX5_place 7 = .ok (.getfield 23, 3) := by decide +kernel
theorem dX5_place_10 : decode cX5_place 10 = .ok (.iload_n 1, 1) := by decide +kernel
theorem dX5_place_11 : decode cX5_place 11 = .ok (.iaload, 1) := by decide +kernel
theorem dX5_place_12 : decode cX5_place 12 = .ok (.isub, 1) := by decide +kernel
theorem dX5_place_13 : decode cX5_place 13 = .ok (.iconst 1, 1) := by decide +kernel
theorem dX5_place_14 : decode cX5_place 14 = .ok (.isub, 1) := by decide +kernel
theorem dX5_place_15 : decode cX5_place 15 = .ok (.ireturn, 1) := by decide +kernel
theorem dX5_termOf_0 : decode cX5_termOf 0 = .ok (.iload_n 2, 1) := by decide +kernel
theorem dX5_termOf_1 : decode cX5_termOf 1 = .ok (.aload_n 0, 1) := by decide +kernel
theorem dX5_termOf_2 : decode cX5_termOf 2 = .ok (.getfield 23, 3) := by decide +kernel
theorem dX5_termOf_5 : decode cX5_termOf 5 = .ok (.iload_n 1, 1) := by decide +kernel
theorem dX5_termOf_6 : decode cX5_termOf 6 = .ok (.iaload, 1) := by decide +kernel
theorem dX5_termOf_7 : decode cX5_termOf 7 = .ok (.if_icmp .ne 12, 3) := by decide +kernel
theorem dX5_termOf_10 : decode cX5_termOf 10 = .ok (.aload_n 0, 1) := by decide +kernel
theorem dX5_termOf_11 : decode cX5_termOf 11 = .ok (.getfield 26, 3) := by decide +kernel
theorem dX5_termOf_14 : decode cX5_termOf 14 = .ok (.iload_n 1, 1) := by decide +kernel
theorem dX5_termOf_15 : decode cX5_termOf 15 = .ok (.iaload, 1) := by decide +kernel
theorem dX5_termOf_16 : decode cX5_termOf 16 = .ok (.goto 27, 3) := by decide +kernel
theorem dX5_termOf_19 : decode cX5_termOf 19 = .ok (.aload_n 0, 1) := by decide +kernel
theorem dX5_termOf_20 : decode cX5_termOf 20 = .ok (.iload_n 1, 1) := by decide +kernel
theorem dX5_termOf_21 : decode cX5_termOf 21 = .ok (.iload_n 2, 1) := by decide +kernel
theorem dX5_termOf_22 : decode cX5_termOf 22 = .ok (.invokevirtual 101, 3) := by decide +kernel
theorem dX5_termOf_25 : decode cX5_termOf 25 = .ok (.ifCond .eq 17, 3) := by decide +kernel
theorem dX5_termOf_28 : decode cX5_termOf 28 = .ok (.aload_n 0, 1) := by decide +kernel
theorem dX5_termOf_29 : decode cX5_termOf 29 = .ok (.getfield 41, 3) := by decide +kernel
theorem dX5_termOf_32 : decode cX5_termOf 32 = .ok (.aload_n 0, 1) := by decide +kernel
theorem dX5_termOf_33 : decode cX5_termOf 33 = .ok (.iload_n 1, 1) := by decide +kernel
theorem dX5_termOf_34 : decode cX5_termOf 34 = .ok (.iload_n 2, 1) := by decide +kernel
theorem dX5_termOf_35 : decode cX5_termOf 35 = .ok (.invokevirtual 105, 3) := by decide +kernel
theorem dX5_termOf_38 : decode cX5_termOf 38 = .ok (.iaload, 1) := by decide +kernel
theorem dX5_termOf_39 : decode cX5_termOf 39 = .ok (.goto 4, 3) := by decide +kernel
theorem dX5_termOf_42 : decode cX5_termOf 42 = .ok (.iconst (-1), 1) := by decide +kernel
theorem dX5_termOf_43 : decode cX5_termOf 43 = .ok (.ireturn, 1) := by decide +kernel
theorem dX5_stateTo_0 : decode cX5_stateTo 0 = .ok (.aload_n 0, 1) := by decide +kernel
theorem dX5_stateTo_1 : decode cX5_stateTo 1 = .ok (.getfield 29, 3) := by decide +kernel
theorem dX5_stateTo_4 : decode cX5_stateTo 4 = .ok (.iload_n 1, 1) := by decide +kernel
theorem dX5_stateTo_5 : decode cX5_stateTo 5 = .ok (.iaload, 1) := by decide +kernel
theorem dX5_stateTo_6 : decode cX5_stateTo 6 = .ok (.istore_n 3, 1) := by decide +kernel
theorem dX5_stateTo_7 : decode cX5_stateTo 7 = .ok (.aload_n 0, 1) := by decide +kernel
theorem dX5_stateTo_8 : decode cX5_stateTo 8 = .ok (.getfield 23, 3) := by decide +kernel
theorem dX5_stateTo_11 : decode cX5_stateTo 11 = .ok (.iload_n 1, 1) := by decide +kernel
theorem dX5_stateTo_12 : decode cX5_stateTo 12 = .ok (.iaload, 1) := by decide +kernel
theorem dX5_stateTo_13 : decode cX5_stateTo 13 = .ok (.iconst 1, 1) := by decide +kernel
theorem dX5_stateTo_14 : decode cX5_stateTo 14 = .ok (.iadd, 1) := by decide +kernel
theorem dX5_stateTo_15 : decode cX5_stateTo 15 = .ok (.istore 4, 2) := by decide +kernel
theorem dX5_stateTo_17 : decode cX5_stateTo 17 = .ok (.iload 4, 2) := by decide +kernel
theorem dX5_stateTo_19 : decode cX5_stateTo 19 = .ok (.iload_n 2, 1) := by decide +kernel
theorem dX5_stateTo_20 : decode cX5_stateTo 20 = .ok (.if_icmp .gt 27, 3) := by decide +kernel
theorem dX5_stateTo_23 : decode cX5_stateTo 23 = .ok (.bipush 31, 2) := by decide +kernel
theorem dX5_stateTo_25 : decode cX5_stateTo 25 = .ok (.iload_n 3, 1) := by decide +kernel
theorem dX5_stateTo_26 : decode cX5_stateTo 26 = .ok (.imul, 1) := by decide +kernel
theorem dX5_stateTo_27 : decode cX5_stateTo 27 = .ok (.aload_n 0, 1) := by decide +kernel
theorem dX5_stateTo_28 : decode cX5_stateTo 28 = .ok (.getfield 44, 3) := by decide +kernel
theorem dX5_stateTo_31 : decode cX5_stateTo 31 = .ok (.aload_n 0, 1) := by decide +kernel
theorem dX5_stateTo_32 : decode cX5_stateTo 32 = .ok (.iload_n 1, 1) := by decide +kernel
theorem dX5_stateTo_33 : decode cX5_stateTo 33 = .ok (.iload 4, 2) := by decide +kernel
theorem dX5_stateTo_35 : decode cX5_stateTo 35 = .ok (.invokevirtual 105, 3) := by decide +kernel
theorem dX5_stateTo_38 : decode cX5_stateTo 38 = .ok (.iaload, 1) := by decide +kernel
theorem dX5_stateTo_39 : decode cX5_stateTo 39 = .ok (.iadd, 1) := by decide +kernel
theorem dX5_stateTo_40 : decode cX5_stateTo 40 = .ok (.istore_n 3, 1) := by decide +kernel
theorem dX5_stateTo_41 : decode cX5_stateTo 41 = .ok (.iinc 4 1, 3) := by decide +kernel
theorem dX5_stateTo_44 : decode cX5_stateTo 44 = .ok (.goto (-27), 3) := by decide +kernel
theorem dX5_stateTo_47 : decode cX5_stateTo 47 = .ok (.iload_n 3, 1) := by decide +kernel
theorem dX5_stateTo_48 : decode cX5_stateTo 48 = .ok (.ireturn, 1) := by decide +kernel
theorem dX5_addEntry_0 : decode cX5_addEntry 0 = .ok (.aload_n 0, 1) := by decide +kernel
theorem dX5_addEntry_1 : decode cX5_addEntry 1 = .ok (.getfield 41, 3) := by decide +kernel
theorem dX5_addEntry_4 : decode cX5_addEntry 4 = .ok (.bipush 12, 2) := by decide +kernel
theorem dX5_addEntry_6 : decode cX5_addEntry 6 = .ok (.iload_n 1, 1) := by decide +kernel
theorem dX5_addEntry_7 : decode cX5_addEntry 7 = .ok (.imul, 1) := by decide +kernel
theorem dX5_addEntry_8 : decode cX5_addEntry 8 = .ok (.aload_n 0, 1) := by decide +kernel
theorem dX5_addEntry_9 : decode cX5_addEntry 9 = .ok (.getfield 38, 3) := by decide +kernel
theorem dX5_addEntry_12 : decode cX5_addEntry 12 = .ok (.iload_n 1, 1) := by decide +kernel
theorem dX5_addEntry_13 : decode cX5_addEntry 13 = .ok (.iaload, 1) := by decide +kernel
theorem dX5_addEntry_14 : decode cX5_addEntry 14 = .ok (.iadd, 1) := by decide +kernel
theorem dX5_addEntry_15 : decode cX5_addEntry 15 = .ok (.iload_n 2, 1) := by decide +kernel
theorem dX5_addEntry_16 : decode cX5_addEntry 16 = .ok (.iastore, 1) := by decide +kernel
theorem dX5_addEntry_17 : decode cX5_addEntry 17 = .ok (.aload_n 0, 1) := by decide +kernel
theorem dX5_addEntry_18 : decode cX5_addEntry 18 = .ok (.getfield 44, 3) := by decide +kernel
theorem dX5_addEntry_21 : decode cX5_addEntry 21 = .ok (.bipush 12, 2) := by decide +kernel
theorem dX5_addEntry_23 : decode cX5_addEntry 23 = .ok (.iload_n 1, 1) := by decide +kernel
theorem dX5_addEntry_24 : decode cX5_addEntry 24 = .ok (.imul, 1) := by decide +kernel
theorem dX5_addEntry_25 : decode cX5_addEntry 25 = .ok (.aload_n 0, 1) := by decide +kernel
theorem dX5_addEntry_26 : decode cX5_addEntry 26 = .ok (.getfield 38, 3) := by decide +kernel
theorem dX5_addEntry_29 : decode cX5_addEntry 29 = .ok (.iload_n 1, 1) := by decide +kernel
theorem dX5_addEntry_30 : decode cX5_addEntry 30 = .ok (.iaload, 1) := by decide +kernel
theorem dX5_addEntry_31 : decode cX5_addEntry 31 = .ok (.iadd, 1) := by decide +kernel
theorem dX5_addEntry_32 : decode cX5_addEntry 32 = .ok (.iload_n 3, 1) := by decide +kernel
theorem dX5_addEntry_33 : decode cX5_addEntry 33 = .ok (.iastore, 1) := by decide +kernel
theorem dX5_addEntry_34 : decode cX5_addEntry 34 = .ok (.aload_n 0, 1) := by decide +kernel
theorem dX5_addEntry_35 : decode cX5_addEntry 35 = .ok (.getfield 38, 3) := by decide +kernel
theorem dX5_addEntry_38 : decode cX5_addEntry 38 = .ok (.iload_n 1, 1) := by decide +kernel
theorem dX5_addEntry_39 : decode cX5_addEntry 39 = .ok (.dup2, 1) := by decide +kernel
theorem dX5_addEntry_40 : decode cX5_addEntry 40 = .ok (.iaload, 1) := by decide +kernel
theorem dX5_addEntry_41 : decode cX5_addEntry 41 = .ok (.iconst 1, 1) := by decide +kernel
theorem dX5_addEntry_42 : decode cX5_addEntry 42 = .ok (.iadd, 1) := by decide +kernel
theorem dX5_addEntry_43 : decode cX5_addEntry 43 = .ok (.iastore, 1) := by decide +kernel
theorem dX5_addEntry_44 : decode cX5_addEntry 44 = .ok (.return_, 1) := by decide +kernel
theorem dX5_cutFront_0 : decode cX5_cutFront 0 = .ok (.iconst 0, 1) := by decide +kernel
theorem dX5_cutFront_1 : decode cX5_cutFront 1 = .ok (.istore_n 3, 1) := by decide +kernel
theorem dX5_cutFront_2 : decode cX5_cutFront 2 = .ok (.iload_n 3, 1) := by decide +kernel
theorem dX5_cutFront_3 : decode cX5_cutFront 3 = .ok (.iload_n 2, 1) := by decide +kernel
theorem dX5_cutFront_4 : decode cX5_cutFront 4 = .ok (.iadd, 1) := by decide +kernel
theorem dX5_cutFront_5 : decode cX5_cutFront 5 = .ok (.aload_n 0, 1) := by decide +kernel
theorem dX5_cutFront_6 : decode cX5_cutFront 6 = .ok (.getfield 38, 3) := by decide +kernel
theorem dX5_cutFront_9 : decode cX5_cutFront 9 = .ok (.iload_n 1, 1) := by decide +kernel
theorem dX5_cutFront_10 : decode cX5_cutFront 10 = .ok (.iaload, 1) := by decide +kernel
theorem dX5_cutFront_11 : decode cX5_cutFront 11 = .ok (.if_icmp .ge 57, 3) := by decide +kernel
theorem dX5_cutFront_14 : decode cX5_cutFront 14 = .ok (.aload_n 0, 1) := by decide +kernel
theorem dX5_cutFront_15 : decode cX5_cutFront 15 = .ok (.getfield 41, 3) := by decide +kernel
theorem dX5_cutFront_18 : decode cX5_cutFront 18 = .ok (.bipush 12, 2) := by decide +kernel
theorem dX5_cutFront_20 : decode cX5_cutFront 20 = .ok (.iload_n 1, 1) := by decide +kernel
theorem dX5_cutFront_21 : decode cX5_cutFront 21 = .ok (.imul, 1) := by decide +kernel
theorem dX5_cutFront_22 : decode cX5_cutFront 22 = .ok (.iload_n 3, 1) := by decide +kernel
theorem dX5_cutFront_23 : decode cX5_cutFront 23 = .ok (.iadd, 1) := by decide +kernel
theorem dX5_cutFront_24 : decode cX5_cutFront 24 = .ok (.aload_n 0, 1) := by decide +kernel
theorem dX5_cutFront_25 : decode cX5_cutFront 25 = .ok (.getfield 41, 3) := by decide +kernel
theorem dX5_cutFront_28 : decode cX5_cutFront 28 = .ok (.bipush 12, 2) := by decide +kernel
theorem dX5_cutFront_30 : decode cX5_cutFront 30 = .ok (.iload_n 1, 1) := by decide +kernel
theorem dX5_cutFront_31 : decode cX5_cutFront 31 = .ok (.imul, 1) := by decide +kernel
theorem dX5_cutFront_32 : decode cX5_cutFront 32 = .ok (.iload_n 3, 1) := by decide +kernel
theorem dX5_cutFront_33 : decode cX5_cutFront 33 = .ok (.iadd, 1) := by decide +kernel
theorem dX5_cutFront_34 : decode cX5_cutFront 34 = .ok (.iload_n 2, 1) := by decide +kernel
theorem dX5_cutFront_35 : decode cX5_cutFront 35 = .ok (.iadd, 1) := by decide +kernel
theorem dX5_cutFront_36 : decode cX5_cutFront 36 = .ok (.iaload, 1) := by decide +kernel
theorem dX5_cutFront_37 : decode cX5_cutFront 37 = .ok (.iastore, 1) := by decide +kernel
theorem dX5_cutFront_38 : decode cX5_cutFront 38 = .ok (.aload_n 0, 1) := by decide +kernel
theorem dX5_cutFront_39 : decode cX5_cutFront 39 = .ok (.getfield 44, 3) := by decide +kernel
theorem dX5_cutFront_42 : decode cX5_cutFront 42 = .ok (.bipush 12, 2) := by decide +kernel
theorem dX5_cutFront_44 : decode cX5_cutFront 44 = .ok (.iload_n 1, 1) := by decide +kernel
theorem dX5_cutFront_45 : decode cX5_cutFront 45 = .ok (.imul, 1) := by decide +kernel
theorem dX5_cutFront_46 : decode cX5_cutFront 46 = .ok (.iload_n 3, 1) := by decide +kernel
theorem dX5_cutFront_47 : decode cX5_cutFront 47 = .ok (.iadd, 1) := by decide +kernel
theorem dX5_cutFront_48 : decode cX5_cutFront 48 = .ok (.aload_n 0, 1) := by decide +kernel
theorem dX5_cutFront_49 : decode cX5_cutFront 49 = .ok (.getfield 44, 3) := by decide +kernel
theorem dX5_cutFront_52 : decode cX5_cutFront 52 = .ok (.bipush 12, 2) := by decide +kernel
theorem dX5_cutFront_54 : decode cX5_cutFront 54 = .ok (.iload_n 1, 1) := by decide +kernel
theorem dX5_cutFront_55 : decode cX5_cutFront 55 = .ok (.imul, 1) := by decide +kernel
theorem dX5_cutFront_56 : decode cX5_cutFront 56 = .ok (.iload_n 3, 1) := by decide +kernel
theorem dX5_cutFront_57 : decode cX5_cutFront 57 = .ok (.iadd, 1) := by decide +kernel
theorem dX5_cutFront_58 : decode cX5_cutFront 58 = .ok (.iload_n 2, 1) := by decide +kernel
theorem dX5_cutFront_59 : decode cX5_cutFront 59 = .ok (.iadd, 1) := by decide +kernel
theorem dX5_cutFront_60 : decode cX5_cutFront 60 = .ok (.iaload, 1) := by decide +kernel
theorem dX5_cutFront_61 : decode cX5_cutFront 61 = .ok (.iastore, 1) := by decide +kernel
theorem dX5_cutFront_62 : decode cX5_cutFront 62 = .ok (.iinc 3 1, 3) := by decide +kernel
theorem dX5_cutFront_65 : decode cX5_cutFront 65 = .ok (.goto (-63), 3) := by decide +kernel
theorem dX5_cutFront_68 : decode cX5_cutFront 68 = .ok (.aload_n 0, 1) := by decide +kernel
theorem dX5_cutFront_69 : decode cX5_cutFront 69 = .ok (.getfield 38, 3) := by decide +kernel
theorem dX5_cutFront_72 : decode cX5_cutFront 72 = .ok (.iload_n 1, 1) := by decide +kernel
theorem dX5_cutFront_73 : decode cX5_cutFront 73 = .ok (.dup2, 1) := by decide +kernel
theorem dX5_cutFront_74 : decode cX5_cutFront 74 = .ok (.iaload, 1) := by decide +kernel
theorem dX5_cutFront_75 : decode cX5_cutFront 75 = .ok (.iload_n 2, 1) := by decide +kernel
theorem dX5_cutFront_76 : decode cX5_cutFront 76 = .ok (.isub, 1) := by decide +kernel
theorem dX5_cutFront_77 : decode cX5_cutFront 77 = .ok (.iastore, 1) := by decide +kernel
theorem dX5_cutFront_78 : decode cX5_cutFront 78 = .ok (.return_, 1) := by decide +kernel
theorem dX5_freeSlot_0 : decode cX5_freeSlot 0 = .ok (.iconst (-1), 1) := by decide +kernel
theorem dX5_freeSlot_1 : decode cX5_freeSlot 1 = .ok (.istore_n 1, 1) := by decide +kernel
theorem dX5_freeSlot_2 : decode cX5_freeSlot 2 = .ok (.aload_n 0, 1) := by decide +kernel
theorem dX5_freeSlot_3 : decode cX5_freeSlot 3 = .ok (.getfield 94, 3) := by decide +kernel
theorem dX5_freeSlot_6 : decode cX5_freeSlot 6 = .ok (.iconst 1, 1) := by decide +kernel
theorem dX5_freeSlot_7 : decode cX5_freeSlot 7 = .ok (.isub, 1) := by decide +kernel
theorem dX5_freeSlot_8 : decode cX5_freeSlot 8 = .ok (.istore_n 2, 1) := by decide +kernel
theorem dX5_freeSlot_9 : decode cX5_freeSlot 9 = .ok (.iload_n 2, 1) := by decide +kernel
theorem dX5_freeSlot_10 : decode cX5_freeSlot 10 = .ok (.ifCond .lt 24, 3) := by decide +kernel
theorem dX5_freeSlot_13 : decode cX5_freeSlot 13 = .ok (.aload_n 0, 1) := by decide +kernel
theorem dX5_freeSlot_14 : decode cX5_freeSlot 14 = .ok (.getfield 53, 3) := by decide +kernel
theorem dX5_freeSlot_17 : decode cX5_freeSlot 17 = .ok (.iload_n 2, 1) := by decide +kernel
theorem dX5_freeSlot_18 : decode cX5_freeSlot 18 = .ok (.iaload, 1) := by decide +kernel
theorem dX5_freeSlot_19 : decode cX5_freeSlot 19 = .ok (.ifCond .ne 7, 3) := by decide +kernel
theorem dX5_freeSlot_22 : decode cX5_freeSlot 22 = .ok (.iload_n 2, 1) := by decide +kernel
theorem dX5_freeSlot_23 : decode cX5_freeSlot 23 = .ok (.goto 4, 3) := by decide +kernel
theorem dX5_freeSlot_26 : decode cX5_freeSlot 26 = .ok (.iload_n 1, 1) := by decide +kernel
theorem dX5_freeSlot_27 : decode cX5_freeSlot 27 = .ok (.istore_n 1, 1) := by decide +kernel
theorem dX5_freeSlot_28 : decode cX5_freeSlot 28 = .ok (.iinc 2 (-1), 3) := by decide +kernel
theorem dX5_freeSlot_31 : decode cX5_freeSlot 31 = .ok (.goto (-22), 3) := by decide +kernel
theorem dX5_freeSlot_34 : decode cX5_freeSlot 34 = .ok (.iload_n 1, 1) := by decide +kernel
theorem dX5_freeSlot_35 : decode cX5_freeSlot 35 = .ok (.ireturn, 1) := by decide +kernel
theorem dX5_waiting_0 : decode cX5_waiting 0 = .ok (.iconst 0, 1) := by decide +kernel
theorem dX5_waiting_1 : decode cX5_waiting 1 = .ok (.istore_n 1, 1) := by decide +kernel
theorem dX5_waiting_2 : decode cX5_waiting 2 = .ok (.iconst 0, 1) := by decide +kernel
theorem dX5_waiting_3 : decode cX5_waiting 3 = .ok (.istore_n 2, 1) := by decide +kernel
theorem dX5_waiting_4 : decode cX5_waiting 4 = .ok (.iload_n 2, 1) := by decide +kernel
theorem dX5_waiting_5 : decode cX5_waiting 5 = .ok (.aload_n 0, 1) := by decide +kernel
theorem dX5_waiting_6 : decode cX5_waiting 6 = .ok (.getfield 94, 3) := by decide +kernel
theorem dX5_waiting_9 : decode cX5_waiting 9 = .ok (.if_icmp .ge 26, 3) := by decide +kernel
theorem dX5_waiting_12 : decode cX5_waiting 12 = .ok (.iload_n 1, 1) := by decide +kernel
theorem dX5_waiting_13 : decode cX5_waiting 13 = .ok (.aload_n 0, 1) := by decide +kernel
theorem dX5_waiting_14 : decode cX5_waiting 14 = .ok (.getfield 53, 3) := by decide +kernel
theorem dX5_waiting_17 : decode cX5_waiting 17 = .ok (.iload_n 2, 1) := by decide +kernel
theorem dX5_waiting_18 : decode cX5_waiting 18 = .ok (.iaload, 1) := by decide +kernel
theorem dX5_waiting_19 : decode cX5_waiting 19 = .ok (.ifCond .le 7, 3) := by decide +kernel
theorem dX5_waiting_22 : decode cX5_waiting 22 = .ok (.iconst 1, 1) := by decide +kernel
theorem dX5_waiting_23 : decode cX5_waiting 23 = .ok (.goto 4, 3) := by decide +kernel
theorem dX5_waiting_26 : decode cX5_waiting 26 = .ok (.iconst 0, 1) := by decide +kernel
theorem dX5_waiting_27 : decode cX5_waiting 27 = .ok (.iadd, 1) := by decide +kernel
theorem dX5_waiting_28 : decode cX5_waiting 28 = .ok (.istore_n 1, 1) := by decide +kernel
theorem dX5_waiting_29 : decode cX5_waiting 29 = .ok (.iinc 2 1, 3) := by decide +kernel
theorem dX5_waiting_32 : decode cX5_waiting 32 = .ok (.goto (-28), 3) := by decide +kernel
theorem dX5_waiting_35 : decode cX5_waiting 35 = .ok (.iload_n 1, 1) := by decide +kernel
theorem dX5_waiting_36 : decode cX5_waiting 36 = .ok (.ireturn, 1) := by decide +kernel
theorem dX5_send_0 : decode cX5_send 0 = .ok (.aload_n 0, 1) := by decide +kernel
theorem dX5_send_1 : decode cX5_send 1 = .ok (.invokevirtual 109, 3) := by decide +kernel
theorem dX5_send_4 : decode cX5_send 4 = .ok (.istore 4, 2) := by decide +kernel
theorem dX5_send_6 : decode cX5_send 6 = .ok (.aload_n 0, 1) := by decide +kernel
theorem dX5_send_7 : decode cX5_send 7 = .ok (.getfield 53, 3) := by decide +kernel
theorem dX5_send_10 : decode cX5_send 10 = .ok (.iload 4, 2) := by decide +kernel
theorem dX5_send_12 : decode cX5_send 12 = .ok (.iload_n 1, 1) := by decide +kernel
theorem dX5_send_13 : decode cX5_send 13 = .ok (.iastore, 1) := by decide +kernel
theorem dX5_send_14 : decode cX5_send 14 = .ok (.aload_n 0, 1) := by decide +kernel
theorem dX5_send_15 : decode cX5_send 15 = .ok (.getfield 56, 3) := by decide +kernel
theorem dX5_send_18 : decode cX5_send 18 = .ok (.iload 4, 2) := by decide +kernel
theorem dX5_send_20 : decode cX5_send 20 = .ok (.iload_n 2, 1) := by decide +kernel
theorem dX5_send_21 : decode cX5_send 21 = .ok (.iastore, 1) := by decide +kernel
theorem dX5_send_22 : decode cX5_send 22 = .ok (.aload_n 0, 1) := by decide +kernel
theorem dX5_send_23 : decode cX5_send 23 = .ok (.getfield 59, 3) := by decide +kernel
theorem dX5_send_26 : decode cX5_send 26 = .ok (.iload 4, 2) := by decide +kernel
theorem dX5_send_28 : decode cX5_send 28 = .ok (.iload_n 3, 1) := by decide +kernel
theorem dX5_send_29 : decode cX5_send 29 = .ok (.iastore, 1) := by decide +kernel
theorem dX5_send_30 : decode cX5_send 30 = .ok (.aload_n 0, 1) := by decide +kernel
theorem dX5_send_31 : decode cX5_send 31 = .ok (.getfield 62, 3) := by decide +kernel
theorem dX5_send_34 : decode cX5_send 34 = .ok (.iload 4, 2) := by decide +kernel
theorem dX5_send_36 : decode cX5_send 36 = .ok (.aload_n 0, 1) := by decide +kernel
theorem dX5_send_37 : decode cX5_send 37 = .ok (.getfield 17, 3) := by decide +kernel
theorem dX5_send_40 : decode cX5_send 40 = .ok (.iload_n 2, 1) := by decide +kernel
theorem dX5_send_41 : decode cX5_send 41 = .ok (.iaload, 1) := by decide +kernel
theorem dX5_send_42 : decode cX5_send 42 = .ok (.iastore, 1) := by decide +kernel
theorem dX5_send_43 : decode cX5_send 43 = .ok (.iload 4, 2) := by decide +kernel
theorem dX5_send_45 : decode cX5_send 45 = .ok (.ireturn, 1) := by decide +kernel
theorem dX5_answer_0 : decode cX5_answer 0 = .ok (.aload_n 0, 1) := by decide +kernel
theorem dX5_answer_1 : decode cX5_answer 1 = .ok (.iload_n 1, 1) := by decide +kernel
theorem dX5_answer_2 : decode cX5_answer 2 = .ok (.iload_n 2, 1) := by decide +kernel
theorem dX5_answer_3 : decode cX5_answer 3 = .ok (.iload_n 3, 1) := by decide +kernel
theorem dX5_answer_4 : decode cX5_answer 4 = .ok (.invokevirtual 113, 3) := by decide +kernel
theorem dX5_answer_7 : decode cX5_answer 7 = .ok (.istore 6, 2) := by decide +kernel
theorem dX5_answer_9 : decode cX5_answer 9 = .ok (.aload_n 0, 1) := by decide +kernel
theorem dX5_answer_10 : decode cX5_answer 10 = .ok (.getfield 71, 3) := by decide +kernel
theorem dX5_answer_13 : decode cX5_answer 13 = .ok (.iload 6, 2) := by decide +kernel
theorem dX5_answer_15 : decode cX5_answer 15 = .ok (.iload 4, 2) := by decide +kernel
theorem dX5_answer_17 : decode cX5_answer 17 = .ok (.bastore, 1) := by decide +kernel
theorem dX5_answer_18 : decode cX5_answer 18 = .ok (.aload_n 0, 1) := by decide +kernel
theorem dX5_answer_19 : decode cX5_answer 19 = .ok (.getfield 65, 3) := by decide +kernel
theorem dX5_answer_22 : decode cX5_answer 22 = .ok (.iload 6, 2) := by decide +kernel
theorem dX5_answer_24 : decode cX5_answer 24 = .ok (.iload 5, 2) := by decide +kernel
theorem dX5_answer_26 : decode cX5_answer 26 = .ok (.iastore, 1) := by decide +kernel
theorem dX5_answer_27 : decode cX5_answer 27 = .ok (.return_, 1) := by decide +kernel
theorem dX5_timeout_0 : decode cX5_timeout 0 = .ok (.aload_n 0, 1) := by decide +kernel
theorem dX5_timeout_1 : decode cX5_timeout 1 = .ok (.iload_n 1, 1) := by decide +kernel
theorem dX5_timeout_2 : decode cX5_timeout 2 = .ok (.invokevirtual 116, 3) := by decide +kernel
theorem dX5_timeout_5 : decode cX5_timeout 5 = .ok (.ifCond .ne 5, 3) := by decide +kernel
theorem dX5_timeout_8 : decode cX5_timeout 8 = .ok (.iconst (-1), 1) := by decide +kernel
theorem dX5_timeout_9 : decode cX5_timeout 9 = .ok (.ireturn, 1) := by decide +kernel
theorem dX5_timeout_10 : decode cX5_timeout 10 = .ok (.aload_n 0, 1) := by decide +kernel
theorem dX5_timeout_11 : decode cX5_timeout 11 = .ok (.getfield 7, 3) := by decide +kernel
theorem dX5_timeout_14 : decode cX5_timeout 14 = .ok (.iload_n 1, 1) := by decide +kernel
theorem dX5_timeout_15 : decode cX5_timeout 15 = .ok (.baload, 1) := by decide +kernel
theorem dX5_timeout_16 : decode cX5_timeout 16 = .ok (.ifCond .ne 6, 3) := by decide +kernel
theorem dX5_timeout_19 : decode cX5_timeout 19 = .ok (.bipush (-2), 2) := by decide +kernel
theorem dX5_timeout_21 : decode cX5_timeout 21 = .ok (.ireturn, 1) := by decide +kernel
theorem dX5_timeout_22 : decode cX5_timeout 22 = .ok (.aload_n 0, 1) := by decide +kernel
theorem dX5_timeout_23 : decode cX5_timeout 23 = .ok (.getfield 13, 3) := by decide +kernel
theorem dX5_timeout_26 : decode cX5_timeout 26 = .ok (.iload_n 1, 1) := by decide +kernel
theorem dX5_timeout_27 : decode cX5_timeout 27 = .ok (.iaload, 1) := by decide +kernel
theorem dX5_timeout_28 : decode cX5_timeout 28 = .ok (.iconst 2, 1) := by decide +kernel
theorem dX5_timeout_29 : decode cX5_timeout 29 = .ok (.if_icmp .ne 6, 3) := by decide +kernel
theorem dX5_timeout_32 : decode cX5_timeout 32 = .ok (.bipush (-3), 2) := by decide +kernel
theorem dX5_timeout_34 : decode cX5_timeout 34 = .ok (.ireturn, 1) := by decide +kernel
theorem dX5_timeout_35 : decode cX5_timeout 35 = .ok (.aload_n 0, 1) := by decide +kernel
theorem dX5_timeout_36 : decode cX5_timeout 36 = .ok (.getfield 94, 3) := by decide +kernel
theorem dX5_timeout_39 : decode cX5_timeout 39 = .ok (.aload_n 0, 1) := by decide +kernel
theorem dX5_timeout_40 : decode cX5_timeout 40 = .ok (.invokevirtual 120, 3) := by decide +kernel
theorem dX5_timeout_43 : decode cX5_timeout 43 = .ok (.isub, 1) := by decide +kernel
theorem dX5_timeout_44 : decode cX5_timeout 44 = .ok (.aload_n 0, 1) := by decide +kernel
theorem dX5_timeout_45 : decode cX5_timeout 45 = .ok (.getfield 87, 3) := by decide +kernel
theorem dX5_timeout_48 : decode cX5_timeout 48 = .ok (.iconst 1, 1) := by decide +kernel
theorem dX5_timeout_49 : decode cX5_timeout 49 = .ok (.isub, 1) := by decide +kernel
theorem dX5_timeout_50 : decode cX5_timeout 50 = .ok (.if_icmp .ge 6, 3) := by decide +kernel
theorem dX5_timeout_53 : decode cX5_timeout 53 = .ok (.bipush (-4), 2) := by decide +kernel
theorem dX5_timeout_55 : decode cX5_timeout 55 = .ok (.ireturn, 1) := by decide +kernel
theorem dX5_timeout_56 : decode cX5_timeout 56 = .ok (.aload_n 0, 1) := by decide +kernel
theorem dX5_timeout_57 : decode cX5_timeout 57 = .ok (.getfield 13, 3) := by decide +kernel
theorem dX5_timeout_60 : decode cX5_timeout 60 = .ok (.iload_n 1, 1) := by decide +kernel
theorem dX5_timeout_61 : decode cX5_timeout 61 = .ok (.iconst 1, 1) := by decide +kernel
theorem dX5_timeout_62 : decode cX5_timeout 62 = .ok (.iastore, 1) := by decide +kernel
theorem dX5_timeout_63 : decode cX5_timeout 63 = .ok (.aload_n 0, 1) := by decide +kernel
theorem dX5_timeout_64 : decode cX5_timeout 64 = .ok (.getfield 17, 3) := by decide +kernel
theorem dX5_timeout_67 : decode cX5_timeout 67 = .ok (.iload_n 1, 1) := by decide +kernel
theorem dX5_timeout_68 : decode cX5_timeout 68 = .ok (.dup2, 1) := by decide +kernel
theorem dX5_timeout_69 : decode cX5_timeout 69 = .ok (.iaload, 1) := by decide +kernel
theorem dX5_timeout_70 : decode cX5_timeout 70 = .ok (.iconst 1, 1) := by decide +kernel
theorem dX5_timeout_71 : decode cX5_timeout 71 = .ok (.iadd, 1) := by decide +kernel
theorem dX5_timeout_72 : decode cX5_timeout 72 = .ok (.iastore, 1) := by decide +kernel
theorem dX5_timeout_73 : decode cX5_timeout 73 = .ok (.aload_n 0, 1) := by decide +kernel
theorem dX5_timeout_74 : decode cX5_timeout 74 = .ok (.getfield 20, 3) := by decide +kernel
theorem dX5_timeout_77 : decode cX5_timeout 77 = .ok (.iload_n 1, 1) := by decide +kernel
theorem dX5_timeout_78 : decode cX5_timeout 78 = .ok (.iload_n 1, 1) := by decide +kernel
theorem dX5_timeout_79 : decode cX5_timeout 79 = .ok (.iastore, 1) := by decide +kernel
theorem dX5_timeout_80 : decode cX5_timeout 80 = .ok (.aload_n 0, 1) := by decide +kernel
theorem dX5_timeout_81 : decode cX5_timeout 81 = .ok (.getfield 35, 3) := by decide +kernel
theorem dX5_timeout_84 : decode cX5_timeout 84 = .ok (.iload_n 1, 1) := by decide +kernel
theorem dX5_timeout_85 : decode cX5_timeout 85 = .ok (.iconst 1, 1) := by decide +kernel
theorem dX5_timeout_86 : decode cX5_timeout 86 = .ok (.iload_n 1, 1) := by decide +kernel
theorem dX5_timeout_87 : decode cX5_timeout 87 = .ok (.ishl, 1) := by decide +kernel
theorem dX5_timeout_88 : decode cX5_timeout 88 = .ok (.iastore, 1) := by decide +kernel
theorem dX5_timeout_89 : decode cX5_timeout 89 = .ok (.iconst 0, 1) := by decide +kernel
theorem dX5_timeout_90 : decode cX5_timeout 90 = .ok (.istore_n 2, 1) := by decide +kernel
theorem dX5_timeout_91 : decode cX5_timeout 91 = .ok (.iload_n 2, 1) := by decide +kernel
theorem dX5_timeout_92 : decode cX5_timeout 92 = .ok (.aload_n 0, 1) := by decide +kernel
theorem dX5_timeout_93 : decode cX5_timeout 93 = .ok (.getfield 87, 3) := by decide +kernel
theorem dX5_timeout_96 : decode cX5_timeout 96 = .ok (.if_icmp .ge 49, 3) := by decide +kernel
theorem dX5_timeout_99 : decode cX5_timeout 99 = .ok (.iload_n 2, 1) := by decide +kernel
theorem dX5_timeout_100 : decode cX5_timeout 100 = .ok (.iload_n 1, 1) := by decide +kernel
theorem dX5_timeout_101 : decode cX5_timeout 101 = .ok (.if_icmp .eq 38, 3) := by decide +kernel
theorem dX5_timeout_104 : decode cX5_timeout 104 = .ok (.aload_n 0, 1) := by decide +kernel
theorem dX5_timeout_105 : decode cX5_timeout 105 = .ok (.iconst 1, 1) := by decide +kernel
theorem dX5_timeout_106 : decode cX5_timeout 106 = .ok (.iload_n 1, 1) := by decide +kernel
theorem dX5_timeout_107 : decode cX5_timeout 107 = .ok (.iload_n 2, 1) := by decide +kernel
theorem dX5_timeout_108 : decode cX5_timeout 108 = .ok (.invokevirtual 113, 3) := by decide +kernel
theorem dX5_timeout_111 : decode cX5_timeout 111 = .ok (.istore_n 3, 1) := by decide +kernel
theorem dX5_timeout_112 : decode cX5_timeout 112 = .ok (.aload_n 0, 1) := by decide +kernel
theorem dX5_timeout_113 : decode cX5_timeout 113 = .ok (.getfield 65, 3) := by decide +kernel
theorem dX5_timeout_116 : decode cX5_timeout 116 = .ok (.iload_n 3, 1) := by decide +kernel
theorem dX5_timeout_117 : decode cX5_timeout 117 = .ok (.aload_n 0, 1) := by decide +kernel
theorem dX5_timeout_118 : decode cX5_timeout 118 = .ok (.iload_n 1, 1) := by decide +kernel
theorem dX5_timeout_119 : decode cX5_timeout 119 = .ok (.invokevirtual 97, 3) := by decide +kernel
theorem dX5_timeout_122 : decode cX5_timeout 122 = .ok (.iastore, 1) := by decide +kernel
theorem dX5_timeout_123 : decode cX5_timeout 123 = .ok (.aload_n 0, 1) := by decide +kernel
theorem dX5_timeout_124 : decode cX5_timeout 124 = .ok (.getfield 68, 3) := by decide +kernel
theorem dX5_timeout_127 : decode cX5_timeout 127 = .ok (.iload_n 3, 1) := by decide +kernel
theorem dX5_timeout_128 : decode cX5_timeout 128 = .ok (.aload_n 0, 1) := by decide +kernel
theorem dX5_timeout_129 : decode cX5_timeout 129 = .ok (.iload_n 1, 1) := by decide +kernel
theorem dX5_timeout_130 : decode cX5_timeout 130 = .ok (.aload_n 0, 1) := by decide +kernel
theorem dX5_timeout_131 : decode cX5_timeout 131 = .ok (.iload_n 1, 1) := by decide +kernel
theorem dX5_timeout_132 : decode cX5_timeout 132 = .ok (.invokevirtual 97, 3) := by decide +kernel
theorem dX5_timeout_135 : decode cX5_timeout 135 = .ok (.invokevirtual 123, 3) := by decide +kernel
theorem dX5_timeout_138 : decode cX5_timeout 138 = .ok (.iastore, 1) := by decide +kernel
theorem dX5_timeout_139 : decode cX5_timeout 139 = .ok (.iinc 2 1, 3) := by decide +kernel
theorem dX5_timeout_142 : decode cX5_timeout 142 = .ok (.goto (-51), 3) := by decide +kernel
theorem dX5_timeout_145 : decode cX5_timeout 145 = .ok (.iconst 0, 1) := by decide +kernel
theorem dX5_timeout_146 : decode cX5_timeout 146 = .ok (.ireturn, 1) := by decide +kernel
theorem dX5_heartbeat_0 : decode cX5_heartbeat 0 = .ok (.aload_n 0, 1) := by decide +kernel
theorem dX5_heartbeat_1 : decode cX5_heartbeat 1 = .ok (.iload_n 1, 1) := by decide +kernel
theorem dX5_heartbeat_2 : decode cX5_heartbeat 2 = .ok (.invokevirtual 116, 3) := by decide +kernel
theorem dX5_heartbeat_5 : decode cX5_heartbeat 5 = .ok (.ifCond .eq 16, 3) := by decide +kernel
theorem dX5_heartbeat_8 : decode cX5_heartbeat 8 = .ok (.aload_n 0, 1) := by decide +kernel
theorem dX5_heartbeat_9 : decode cX5_heartbeat 9 = .ok (.iload_n 2, 1) := by decide +kernel
theorem dX5_heartbeat_10 : decode cX5_heartbeat 10 = .ok (.invokevirtual 116, 3) := by decide +kernel
theorem dX5_heartbeat_13 : decode cX5_heartbeat 13 = .ok (.ifCond .eq 8, 3) := by decide +kernel
theorem dX5_heartbeat_16 : decode cX5_heartbeat 16 = .ok (.iload_n 1, 1) := by decide +kernel
theorem dX5_heartbeat_17 : decode cX5_heartbeat 17 = .ok (.iload_n 2, 1) := by decide +kernel
theorem dX5_heartbeat_18 : decode cX5_heartbeat 18 = .ok (.if_icmp .ne 5, 3) := by decide +kernel
theorem dX5_heartbeat_21 : decode cX5_heartbeat 21 = .ok (.iconst (-1), 1) := by decide +kernel
theorem dX5_heartbeat_22 : decode cX5_heartbeat 22 = .ok (.ireturn, 1) := by decide +kernel
theorem dX5_heartbeat_23 : decode cX5_heartbeat 23 = .ok (.aload_n 0, 1) := by decide +kernel
theorem dX5_heartbeat_24 : decode cX5_heartbeat 24 = .ok (.getfield 7, 3) := by decide +kernel
theorem dX5_heartbeat_27 : decode cX5_heartbeat 27 = .ok (.iload_n 1, 1) := by decide +kernel
theorem dX5_heartbeat_28 : decode cX5_heartbeat 28 = .ok (.baload, 1) := by decide +kernel
theorem dX5_heartbeat_29 : decode cX5_heartbeat 29 = .ok (.ifCond .ne 6, 3) := by decide +kernel
theorem dX5_heartbeat_32 : decode cX5_heartbeat 32 = .ok (.bipush (-2), 2) := by decide +kernel
theorem dX5_heartbeat_34 : decode cX5_heartbeat 34 = .ok (.ireturn, 1) := by decide +kernel
theorem dX5_heartbeat_35 : decode cX5_heartbeat 35 = .ok (.aload_n 0, 1) := by decide +kernel
theorem dX5_heartbeat_36 : decode cX5_heartbeat 36 = .ok (.getfield 13, 3) := by decide +kernel
theorem dX5_heartbeat_39 : decode cX5_heartbeat 39 = .ok (.iload_n 1, 1) := by decide +kernel
theorem dX5_heartbeat_40 : decode cX5_heartbeat 40 = .ok (.iaload, 1) := by decide +kernel
theorem dX5_heartbeat_41 : decode cX5_heartbeat 41 = .ok (.iconst 2, 1) := by decide +kernel
theorem dX5_heartbeat_42 : decode cX5_heartbeat 42 = .ok (.if_icmp .eq 6, 3) := by decide +kernel
theorem dX5_heartbeat_45 : decode cX5_heartbeat 45 = .ok (.bipush (-3), 2) := by decide +kernel
theorem dX5_heartbeat_47 : decode cX5_heartbeat 47 = .ok (.ireturn, 1) := by decide +kernel
theorem dX5_heartbeat_48 : decode cX5_heartbeat 48 = .ok (.aload_n 0, 1) := by decide +kernel
theorem dX5_heartbeat_49 : decode cX5_heartbeat 49 = .ok (.invokevirtual 109, 3) := by decide +kernel
theorem dX5_heartbeat_52 : decode cX5_heartbeat 52 = .ok (.ifCond .ge 6, 3) := by decide +kernel
theorem dX5_heartbeat_55 : decode cX5_heartbeat 55 = .ok (.bipush (-4), 2) := by decide +kernel
theorem dX5_heartbeat_57 : decode cX5_heartbeat 57 = .ok (.ireturn, 1) := by decide +kernel
theorem dX5_heartbeat_58 : decode cX5_heartbeat 58 = .ok (.aload_n 0, 1) := by decide +kernel
theorem dX5_heartbeat_59 : decode cX5_heartbeat 59 = .ok (.getfield 47, 3) := by decide +kernel
theorem dX5_heartbeat_62 : decode cX5_heartbeat 62 = .ok (.iconst 5, 1) := by decide +kernel
theorem dX5_heartbeat_63 : decode cX5_heartbeat 63 = .ok (.iload_n 1, 1) := by decide +kernel
theorem dX5_heartbeat_64 : decode cX5_heartbeat 64 = .ok (.imul, 1) := by decide +kernel
theorem dX5_heartbeat_65 : decode cX5_heartbeat 65 = .ok (.iload_n 2, 1) := by decide +kernel
theorem dX5_heartbeat_66 : decode cX5_heartbeat 66 = .ok (.iadd, 1) := by decide +kernel
theorem dX5_heartbeat_67 : decode cX5_heartbeat 67 = .ok (.iaload, 1) := by decide +kernel
theorem dX5_heartbeat_68 : decode cX5_heartbeat 68 = .ok (.istore_n 3, 1) := by decide +kernel
theorem dX5_heartbeat_69 : decode cX5_heartbeat 69 = .ok (.iload_n 3, 1) := by decide +kernel
theorem dX5_heartbeat_70 : decode cX5_heartbeat 70 = .ok (.aload_n 0, 1) := by decide +kernel
theorem dX5_heartbeat_71 : decode cX5_heartbeat 71 = .ok (.getfield 23, 3) := by decide +kernel
theorem dX5_heartbeat_74 : decode cX5_heartbeat 74 = .ok (.iload_n 1, 1) := by decide +kernel
theorem dX5_heartbeat_75 : decode cX5_heartbeat 75 = .ok (.iaload, 1) := by decide +kernel
theorem dX5_heartbeat_76 : decode cX5_heartbeat 76 = .ok (.if_icmp .gt 53, 3) := by decide +kernel
theorem dX5_heartbeat_79 : decode cX5_heartbeat 79 = .ok (.aload_n 0, 1) := by decide +kernel
theorem dX5_heartbeat_80 : decode cX5_heartbeat 80 = .ok (.iconst 5, 1) := by decide +kernel
theorem dX5_heartbeat_81 : decode cX5_heartbeat 81 = .ok (.iload_n 1, 1) := by decide +kernel
theorem dX5_heartbeat_82 : decode cX5_heartbeat 82 = .ok (.iload_n 2, 1) := by decide +kernel
theorem dX5_heartbeat_83 : decode cX5_heartbeat 83 = .ok (.invokevirtual 113, 3) := by decide +kernel
theorem dX5_heartbeat_86 : decode cX5_heartbeat 86 = .ok (.istore 4, 2) := by decide +kernel
theorem dX5_heartbeat_88 : decode cX5_heartbeat 88 = .ok (.aload_n 0, 1) := by decide +kernel
theorem dX5_heartbeat_89 : decode cX5_heartbeat 89 = .ok (.getfield 65, 3) := by decide +kernel
theorem dX5_heartbeat_92 : decode cX5_heartbeat 92 = .ok (.iload 4, 2) := by decide +kernel
theorem dX5_heartbeat_94 : decode cX5_heartbeat 94 = .ok (.aload_n 0, 1) := by decide +kernel
theorem dX5_heartbeat_95 : decode cX5_heartbeat 95 = .ok (.getfield 23, 3) := by decide +kernel
theorem dX5_heartbeat_98 : decode cX5_heartbeat 98 = .ok (.iload_n 1, 1) := by decide +kernel
theorem dX5_heartbeat_99 : decode cX5_heartbeat 99 = .ok (.iaload, 1) := by decide +kernel
theorem dX5_heartbeat_100 : decode cX5_heartbeat 100 = .ok (.iastore, 1) := by decide +kernel
theorem dX5_heartbeat_101 : decode cX5_heartbeat 101 = .ok (.aload_n 0, 1) := by decide +kernel
theorem dX5_heartbeat_102 : decode cX5_heartbeat 102 = .ok (.getfield 68, 3) := by decide +kernel
theorem dX5_heartbeat_105 : decode cX5_heartbeat 105 = .ok (.iload 4, 2) := by decide +kernel
theorem dX5_heartbeat_107 : decode cX5_heartbeat 107 = .ok (.aload_n 0, 1) := by decide +kernel
theorem dX5_heartbeat_108 : decode cX5_heartbeat 108 = .ok (.getfield 26, 3) := by decide +kernel
theorem dX5_heartbeat_111 : decode cX5_heartbeat 111 = .ok (.iload_n 1, 1) := by decide +kernel
theorem dX5_heartbeat_112 : decode cX5_heartbeat 112 = .ok (.iaload, 1) := by decide +kernel
theorem dX5_heartbeat_113 : decode cX5_heartbeat 113 = .ok (.iastore, 1) := by decide +kernel
theorem dX5_heartbeat_114 : decode cX5_heartbeat 114 = .ok (.aload_n 0, 1) := by decide +kernel
theorem dX5_heartbeat_115 : decode cX5_heartbeat 115 = .ok (.getfield 77, 3) := by decide +kernel
theorem dX5_heartbeat_118 : decode cX5_heartbeat 118 = .ok (.iload 4, 2) := by decide +kernel
theorem dX5_heartbeat_120 : decode cX5_heartbeat 120 = .ok (.aload_n 0, 1) := by decide +kernel
theorem dX5_heartbeat_121 : decode cX5_heartbeat 121 = .ok (.getfield 29, 3) := by decide +kernel
theorem dX5_heartbeat_124 : decode cX5_heartbeat 124 = .ok (.iload_n 1, 1) := by decide +kernel
theorem dX5_heartbeat_125 : decode cX5_heartbeat 125 = .ok (.iaload, 1) := by decide +kernel
theorem dX5_heartbeat_126 : decode cX5_heartbeat 126 = .ok (.iastore, 1) := by decide +kernel
theorem dX5_heartbeat_127 : decode cX5_heartbeat 127 = .ok (.iconst 5, 1) := by decide +kernel
theorem dX5_heartbeat_128 : decode cX5_heartbeat 128 = .ok (.ireturn, 1) := by decide +kernel
theorem dX5_heartbeat_129 : decode cX5_heartbeat 129 = .ok (.aload_n 0, 1) := by decide +kernel
theorem dX5_heartbeat_130 : decode cX5_heartbeat 130 = .ok (.iconst 3, 1) := by decide +kernel
theorem dX5_heartbeat_131 : decode cX5_heartbeat 131 = .ok (.iload_n 1, 1) := by decide +kernel
theorem dX5_heartbeat_132 : decode cX5_heartbeat 132 = .ok (.iload_n 2, 1) := by decide +kernel
theorem dX5_heartbeat_133 : decode cX5_heartbeat 133 = .ok (.invokevirtual 113, 3) := by decide +kernel
theorem dX5_heartbeat_136 : decode cX5_heartbeat 136 = .ok (.istore 4, 2) := by decide +kernel
theorem dX5_heartbeat_138 : decode cX5_heartbeat 138 = .ok (.aload_n 0, 1) := by decide +kernel
theorem dX5_heartbeat_139 : decode cX5_heartbeat 139 = .ok (.getfield 65, 3) := by decide +kernel
theorem dX5_heartbeat_142 : decode cX5_heartbeat 142 = .ok (.iload 4, 2) := by decide +kernel
theorem dX5_heartbeat_144 : decode cX5_heartbeat 144 = .ok (.iload_n 3, 1) := by decide +kernel
theorem dX5_heartbeat_145 : decode cX5_heartbeat 145 = .ok (.iconst 1, 1) := by decide +kernel
theorem dX5_heartbeat_146 : decode cX5_heartbeat 146 = .ok (.isub, 1) := by decide +kernel
theorem dX5_heartbeat_147 : decode cX5_heartbeat 147 = .ok (.iastore, 1) := by decide +kernel
theorem dX5_heartbeat_148 : decode cX5_heartbeat 148 = .ok (.aload_n 0, 1) := by decide +kernel
theorem dX5_heartbeat_149 : decode cX5_heartbeat 149 = .ok (.getfield 68, 3) := by decide +kernel
theorem dX5_heartbeat_152 : decode cX5_heartbeat 152 = .ok (.iload 4, 2) := by decide +kernel
theorem dX5_heartbeat_154 : decode cX5_heartbeat 154 = .ok (.aload_n 0, 1) := by decide +kernel
theorem dX5_heartbeat_155 : decode cX5_heartbeat 155 = .ok (.iload_n 1, 1) := by decide +kernel
theorem dX5_heartbeat_156 : decode cX5_heartbeat 156 = .ok (.iload_n 3, 1) := by decide +kernel
theorem dX5_heartbeat_157 : decode cX5_heartbeat 157 = .ok (.iconst 1, 1) := by decide +kernel
theorem dX5_heartbeat_158 : decode cX5_heartbeat 158 = .ok (.isub, 1) := by decide +kernel
theorem dX5_heartbeat_159 : decode cX5_heartbeat 159 = .ok (.invokevirtual 123, 3) := by decide +kernel
theorem dX5_heartbeat_162 : decode cX5_heartbeat 162 = .ok (.iastore, 1) := by decide +kernel
theorem dX5_heartbeat_163 : decode cX5_heartbeat 163 = .ok (.aload_n 0, 1) := by decide +kernel
theorem dX5_heartbeat_164 : decode cX5_heartbeat 164 = .ok (.getfield 80, 3) := by decide +kernel
theorem dX5_heartbeat_167 : decode cX5_heartbeat 167 = .ok (.iload 4, 2) := by decide +kernel
theorem dX5_heartbeat_169 : decode cX5_heartbeat 169 = .ok (.aload_n 0, 1) := by decide +kernel
theorem dX5_heartbeat_170 : decode cX5_heartbeat 170 = .ok (.getfield 32, 3) := by decide +kernel
theorem dX5_heartbeat_173 : decode cX5_heartbeat 173 = .ok (.iload_n 1, 1) := by decide +kernel
theorem dX5_heartbeat_174 : decode cX5_heartbeat 174 = .ok (.iaload, 1) := by decide +kernel
theorem dX5_heartbeat_175 : decode cX5_heartbeat 175 = .ok (.iastore, 1) := by decide +kernel
theorem dX5_heartbeat_176 : decode cX5_heartbeat 176 = .ok (.aload_n 0, 1) := by decide +kernel
theorem dX5_heartbeat_177 : decode cX5_heartbeat 177 = .ok (.getfield 71, 3) := by decide +kernel
theorem dX5_heartbeat_180 : decode cX5_heartbeat 180 = .ok (.iload 4, 2) := by decide +kernel
theorem dX5_heartbeat_182 : decode cX5_heartbeat 182 = .ok (.aload_n 0, 1) := by decide +kernel
theorem dX5_heartbeat_183 : decode cX5_heartbeat 183 = .ok (.iload_n 1, 1) := by decide +kernel
theorem dX5_heartbeat_184 : decode cX5_heartbeat 184 = .ok (.iload_n 3, 1) := by decide +kernel
theorem dX5_heartbeat_185 : decode cX5_heartbeat 185 = .ok (.invokevirtual 101, 3) := by decide +kernel
theorem dX5_heartbeat_188 : decode cX5_heartbeat 188 = .ok (.bastore, 1) := by decide +kernel
theorem dX5_heartbeat_189 : decode cX5_heartbeat 189 = .ok (.aload_n 0, 1) := by decide +kernel
theorem dX5_heartbeat_190 : decode cX5_heartbeat 190 = .ok (.getfield 74, 3) := by decide +kernel
theorem dX5_heartbeat_193 : decode cX5_heartbeat 193 = .ok (.iload 4, 2) := by decide +kernel
theorem dX5_heartbeat_195 : decode cX5_heartbeat 195 = .ok (.aload_n 0, 1) := by decide +kernel
theorem dX5_heartbeat_196 : decode cX5_heartbeat 196 = .ok (.getfield 71, 3) := by decide +kernel
theorem dX5_heartbeat_199 : decode cX5_heartbeat 199 = .ok (.iload 4, 2) := by decide +kernel
theorem dX5_heartbeat_201 : decode cX5_heartbeat 201 = .ok (.baload, 1) := by decide +kernel
theorem dX5_heartbeat_202 : decode cX5_heartbeat 202 = .ok (.ifCond .eq 17, 3) := by decide +kernel
theorem dX5_heartbeat_205 : decode cX5_heartbeat 205 = .ok (.aload_n 0, 1) := by decide +kernel
theorem dX5_heartbeat_206 : decode cX5_heartbeat 206 = .ok (.getfield 41, 3) := by decide +kernel
theorem dX5_heartbeat_209 : decode cX5_heartbeat 209 = .ok (.aload_n 0, 1) := by decide +kernel
theorem dX5_heartbeat_210 : decode cX5_heartbeat 210 = .ok (.iload_n 1, 1) := by decide +kernel
theorem dX5_heartbeat_211 : decode cX5_heartbeat 211 = .ok (.iload_n 3, 1) := by decide +kernel
theorem dX5_heartbeat_212 : decode cX5_heartbeat 212 = .ok (.invokevirtual 105, 3) := by decide +kernel
theorem dX5_heartbeat_215 : decode cX5_heartbeat 215 = .ok (.iaload, 1) := by decide +kernel
theorem dX5_heartbeat_216 : decode cX5_heartbeat 216 = .ok (.goto 4, 3) := by decide +kernel
theorem dX5_heartbeat_219 : decode cX5_heartbeat 219 = .ok (.iconst 0, 1) := by decide +kernel
theorem dX5_heartbeat_220 : decode cX5_heartbeat 220 = .ok (.iastore, 1) := by decide +kernel
theorem dX5_heartbeat_221 : decode cX5_heartbeat 221 = .ok (.aload_n 0, 1) := by decide +kernel
theorem dX5_heartbeat_222 : decode cX5_heartbeat 222 = .ok (.getfield 77, 3) := by decide +kernel
theorem dX5_heartbeat_225 : decode cX5_heartbeat 225 = .ok (.iload 4, 2) := by decide +kernel
theorem dX5_heartbeat_227 : decode cX5_heartbeat 227 = .ok (.aload_n 0, 1) := by decide +kernel
theorem dX5_heartbeat_228 : decode cX5_heartbeat 228 = .ok (.getfield 71, 3) := by decide +kernel
theorem dX5_heartbeat_231 : decode cX5_heartbeat 231 = .ok (.iload 4, 2) := by decide +kernel
theorem dX5_heartbeat_233 : decode cX5_heartbeat 233 = .ok (.baload, 1) := by decide +kernel
theorem dX5_heartbeat_234 : decode cX5_heartbeat 234 = .ok (.ifCond .eq 17, 3) := by decide +kernel
theorem dX5_heartbeat_237 : decode cX5_heartbeat 237 = .ok (.aload_n 0, 1) := by decide +kernel
theorem dX5_heartbeat_238 : decode cX5_heartbeat 238 = .ok (.getfield 44, 3) := by decide +kernel
theorem dX5_heartbeat_241 : decode cX5_heartbeat 241 = .ok (.aload_n 0, 1) := by decide +kernel
theorem dX5_heartbeat_242 : decode cX5_heartbeat 242 = .ok (.iload_n 1, 1) := by decide +kernel
theorem dX5_heartbeat_243 : decode cX5_heartbeat 243 = .ok (.iload_n 3, 1) := by decide +kernel
theorem dX5_heartbeat_244 : decode cX5_heartbeat 244 = .ok (.invokevirtual 105, 3) := by decide +kernel
theorem dX5_heartbeat_247 : decode cX5_heartbeat 247 = .ok (.iaload, 1) := by decide +kernel
theorem dX5_heartbeat_248 : decode cX5_heartbeat 248 = .ok (.goto 4, 3) := by decide +kernel
theorem dX5_heartbeat_251 : decode cX5_heartbeat 251 = .ok (.iconst 0, 1) := by decide +kernel
theorem dX5_heartbeat_252 : decode cX5_heartbeat 252 = .ok (.iastore, 1) := by decide +kernel
theorem dX5_heartbeat_253 : decode cX5_heartbeat 253 = .ok (.iconst 3, 1) := by decide +kernel
theorem dX5_heartbeat_254 : decode cX5_heartbeat 254 = .ok (.ireturn, 1) := by decide +kernel
theorem dX5_propose_0 : decode cX5_propose 0 = .ok (.aload_n 0, 1) := by decide +kernel
theorem dX5_propose_1 : decode cX5_propose 1 = .ok (.iload_n 1, 1) := by decide +kernel
theorem dX5_propose_2 : decode cX5_propose 2 = .ok (.invokevirtual 116, 3) := by decide +kernel
theorem dX5_propose_5 : decode cX5_propose 5 = .ok (.ifCond .ne 5, 3) := by decide +kernel
theorem dX5_propose_8 : decode cX5_propose 8 = .ok (.iconst (-1), 1) := by decide +kernel
theorem dX5_propose_9 : decode cX5_propose 9 = .ok (.ireturn, 1) := by decide +kernel
theorem dX5_propose_10 : decode cX5_propose 10 = .ok (.aload_n 0, 1) := by decide +kernel
theorem dX5_propose_11 : decode cX5_propose 11 = .ok (.getfield 7, 3) := by decide +kernel
theorem dX5_propose_14 : decode cX5_propose 14 = .ok (.iload_n 1, 1) := by decide +kernel
theorem dX5_propose_15 : decode cX5_propose 15 = .ok (.baload, 1) := by decide +kernel
theorem dX5_propose_16 : decode cX5_propose 16 = .ok (.ifCond .ne 6, 3) := by decide +kernel
theorem dX5_propose_19 : decode cX5_propose 19 = .ok (.bipush (-2), 2) := by decide +kernel
theorem dX5_propose_21 : decode cX5_propose 21 = .ok (.ireturn, 1) := by decide +kernel
theorem dX5_propose_22 : decode cX5_propose 22 = .ok (.aload_n 0, 1) := by decide +kernel
theorem dX5_propose_23 : decode cX5_propose 23 = .ok (.getfield 13, 3) := by decide +kernel
theorem dX5_propose_26 : decode cX5_propose 26 = .ok (.iload_n 1, 1) := by decide +kernel
theorem dX5_propose_27 : decode cX5_propose 27 = .ok (.iaload, 1) := by decide +kernel
theorem dX5_propose_28 : decode cX5_propose 28 = .ok (.iconst 2, 1) := by decide +kernel
theorem dX5_propose_29 : decode cX5_propose 29 = .ok (.if_icmp .eq 6, 3) := by decide +kernel
theorem dX5_propose_32 : decode cX5_propose 32 = .ok (.bipush (-3), 2) := by decide +kernel
theorem dX5_propose_34 : decode cX5_propose 34 = .ok (.ireturn, 1) := by decide +kernel
theorem dX5_propose_35 : decode cX5_propose 35 = .ok (.aload_n 0, 1) := by decide +kernel
theorem dX5_propose_36 : decode cX5_propose 36 = .ok (.getfield 38, 3) := by decide +kernel
theorem dX5_propose_39 : decode cX5_propose 39 = .ok (.iload_n 1, 1) := by decide +kernel
theorem dX5_propose_40 : decode cX5_propose 40 = .ok (.iaload, 1) := by decide +kernel
theorem dX5_propose_41 : decode cX5_propose 41 = .ok (.aload_n 0, 1) := by decide +kernel
theorem dX5_propose_42 : decode cX5_propose 42 = .ok (.getfield 91, 3) := by decide +kernel
theorem dX5_propose_45 : decode cX5_propose 45 = .ok (.if_icmp .ne 6, 3) := by decide +kernel
theorem dX5_propose_48 : decode cX5_propose 48 = .ok (.bipush (-4), 2) := by decide +kernel
theorem dX5_propose_50 : decode cX5_propose 50 = .ok (.ireturn, 1) := by decide +kernel
theorem dX5_propose_51 : decode cX5_propose 51 = .ok (.aload_n 0, 1) := by decide +kernel
theorem dX5_propose_52 : decode cX5_propose 52 = .ok (.iload_n 1, 1) := by decide +kernel
theorem dX5_propose_53 : decode cX5_propose 53 = .ok (.aload_n 0, 1) := by decide +kernel
theorem dX5_propose_54 : decode cX5_propose 54 = .ok (.getfield 17, 3) := by decide +kernel
theorem dX5_propose_57 : decode cX5_propose 57 = .ok (.iload_n 1, 1) := by decide +kernel
theorem dX5_propose_58 : decode cX5_propose 58 = .ok (.iaload, 1) := by decide +kernel
theorem dX5_propose_59 : decode cX5_propose 59 = .ok (.iload_n 2, 1) := by decide +kernel
theorem dX5_propose_60 : decode cX5_propose 60 = .ok (.invokevirtual 126, 3) := by decide +kernel
theorem dX5_propose_63 : decode cX5_propose 63 = .ok (.aload_n 0, 1) := by decide +kernel
theorem dX5_propose_64 : decode cX5_propose 64 = .ok (.iload_n 1, 1) := by decide +kernel
theorem dX5_propose_65 : decode cX5_propose 65 = .ok (.invokevirtual 97, 3) := by decide +kernel
theorem dX5_propose_68 : decode cX5_propose 68 = .ok (.ireturn, 1) := by decide +kernel
theorem dX5_compact_0 : decode cX5_compact 0 = .ok (.aload_n 0, 1) := by decide +kernel
theorem dX5_compact_1 : decode cX5_compact 1 = .ok (.iload_n 1, 1) := by decide +kernel
theorem dX5_compact_2 : decode cX5_compact 2 = .ok (.invokevirtual 116, 3) := by decide +kernel
theorem dX5_compact_5 : decode cX5_compact 5 = .ok (.ifCond .ne 5, 3) := by decide +kernel
theorem dX5_compact_8 : decode cX5_compact 8 = .ok (.iconst (-1), 1) := by decide +kernel
theorem dX5_compact_9 : decode cX5_compact 9 = .ok (.ireturn, 1) := by decide +kernel
theorem dX5_compact_10 : decode cX5_compact 10 = .ok (.aload_n 0, 1) := by decide +kernel
theorem dX5_compact_11 : decode cX5_compact 11 = .ok (.getfield 7, 3) := by decide +kernel
theorem dX5_compact_14 : decode cX5_compact 14 = .ok (.iload_n 1, 1) := by decide +kernel
theorem dX5_compact_15 : decode cX5_compact 15 = .ok (.baload, 1) := by decide +kernel
theorem dX5_compact_16 : decode cX5_compact 16 = .ok (.ifCond .ne 6, 3) := by decide +kernel
theorem dX5_compact_19 : decode cX5_compact 19 = .ok (.bipush (-2), 2) := by decide +kernel
theorem dX5_compact_21 : decode cX5_compact 21 = .ok (.ireturn, 1) := by decide +kernel
theorem dX5_compact_22 : decode cX5_compact 22 = .ok (.aload_n 0, 1) := by decide +kernel
theorem dX5_compact_23 : decode cX5_compact 23 = .ok (.getfield 32, 3) := by decide +kernel
theorem dX5_compact_26 : decode cX5_compact 26 = .ok (.iload_n 1, 1) := by decide +kernel
theorem dX5_compact_27 : decode cX5_compact 27 = .ok (.iaload, 1) := by decide +kernel
theorem dX5_compact_28 : decode cX5_compact 28 = .ok (.aload_n 0, 1) := by decide +kernel
theorem dX5_compact_29 : decode cX5_compact 29 = .ok (.getfield 23, 3) := by decide +kernel
theorem dX5_compact_32 : decode cX5_compact 32 = .ok (.iload_n 1, 1) := by decide +kernel
theorem dX5_compact_33 : decode cX5_compact 33 = .ok (.iaload, 1) := by decide +kernel
theorem dX5_compact_34 : decode cX5_compact 34 = .ok (.isub, 1) := by decide +kernel
theorem dX5_compact_35 : decode cX5_compact 35 = .ok (.istore_n 2, 1) := by decide +kernel
theorem dX5_compact_36 : decode cX5_compact 36 = .ok (.aload_n 0, 1) := by decide +kernel
theorem dX5_compact_37 : decode cX5_compact 37 = .ok (.iload_n 1, 1) := by decide +kernel
theorem dX5_compact_38 : decode cX5_compact 38 = .ok (.aload_n 0, 1) := by decide +kernel
theorem dX5_compact_39 : decode cX5_compact 39 = .ok (.getfield 32, 3) := by decide +kernel
theorem dX5_compact_42 : decode cX5_compact 42 = .ok (.iload_n 1, 1) := by decide +kernel
theorem dX5_compact_43 : decode cX5_compact 43 = .ok (.iaload, 1) := by decide +kernel
theorem dX5_compact_44 : decode cX5_compact 44 = .ok (.invokevirtual 123, 3) := by decide +kernel
theorem dX5_compact_47 : decode cX5_compact 47 = .ok (.istore_n 3, 1) := by decide +kernel
theorem dX5_compact_48 : decode cX5_compact 48 = .ok (.aload_n 0, 1) := by decide +kernel
theorem dX5_compact_49 : decode cX5_compact 49 = .ok (.iload_n 1, 1) := by decide +kernel
theorem dX5_compact_50 : decode cX5_compact 50 = .ok (.aload_n 0, 1) := by decide +kernel
theorem dX5_compact_51 : decode cX5_compact 51 = .ok (.getfield 32, 3) := by decide +kernel
theorem dX5_compact_54 : decode cX5_compact 54 = .ok (.iload_n 1, 1) := by decide +kernel
theorem dX5_compact_55 : decode cX5_compact 55 = .ok (.iaload, 1) := by decide +kernel
theorem dX5_compact_56 : decode cX5_compact 56 = .ok (.invokevirtual 130, 3) := by decide +kernel
theorem dX5_compact_59 : decode cX5_compact 59 = .ok (.istore 4, 2) := by decide +kernel
theorem dX5_compact_61 : decode cX5_compact 61 = .ok (.aload_n 0, 1) := by decide +kernel
theorem dX5_compact_62 : decode cX5_compact 62 = .ok (.iload_n 1, 1) := by decide +kernel
theorem dX5_compact_63 : decode cX5_compact 63 = .ok (.iload_n 2, 1) := by decide +kernel
theorem dX5_compact_64 : decode cX5_compact 64 = .ok (.invokevirtual 133, 3) := by decide +kernel
theorem dX5_compact_67 : decode cX5_compact 67 = .ok (.aload_n 0, 1) := by decide +kernel
theorem dX5_compact_68 : decode cX5_compact 68 = .ok (.getfield 23, 3) := by decide +kernel
theorem dX5_compact_71 : decode cX5_compact 71 = .ok (.iload_n 1, 1) := by decide +kernel
theorem dX5_compact_72 : decode cX5_compact 72 = .ok (.aload_n 0, 1) := by decide +kernel
theorem dX5_compact_73 : decode cX5_compact 73 = .ok (.getfield 32, 3) := by decide +kernel
theorem dX5_compact_76 : decode cX5_compact 76 = .ok (.iload_n 1, 1) := by decide +kernel
theorem dX5_compact_77 : decode cX5_compact 77 = .ok (.iaload, 1) := by decide +kernel
theorem dX5_compact_78 : decode cX5_compact 78 = .ok (.iastore, 1) := by decide +kernel
theorem dX5_compact_79 : decode cX5_compact 79 = .ok (.aload_n 0, 1) := by decide +kernel
theorem dX5_compact_80 : decode cX5_compact 80 = .ok (.getfield 26, 3) := by decide +kernel
theorem dX5_compact_83 : decode cX5_compact 83 = .ok (.iload_n 1, 1) := by decide +kernel
theorem dX5_compact_84 : decode cX5_compact 84 = .ok (.iload_n 3, 1) := by decide +kernel
theorem dX5_compact_85 : decode cX5_compact 85 = .ok (.iastore, 1) := by decide +kernel
theorem dX5_compact_86 : decode cX5_compact 86 = .ok (.aload_n 0, 1) := by decide +kernel
theorem dX5_compact_87 : decode cX5_compact 87 = .ok (.getfield 29, 3) := by decide +kernel
theorem dX5_compact_90 : decode cX5_compact 90 = .ok (.iload_n 1, 1) := by decide +kernel
theorem dX5_compact_91 : decode cX5_compact 91 = .ok (.iload 4, 2) := by decide +kernel
theorem dX5_compact_93 : decode cX5_compact 93 = .ok (.iastore, 1) := by decide +kernel
theorem dX5_compact_94 : decode cX5_compact 94 = .ok (.iload_n 2, 1) := by decide +kernel
theorem dX5_compact_95 : decode cX5_compact 95 = .ok (.ireturn, 1) := by decide +kernel
theorem dX5_isSlot_0 : decode cX5_isSlot 0 = .ok (.iload_n 1, 1) := by decide +kernel
theorem dX5_isSlot_1 : decode cX5_isSlot 1 = .ok (.ifCond .lt 15, 3) := by decide +kernel
theorem dX5_isSlot_4 : decode cX5_isSlot 4 = .ok (.iload_n 1, 1) := by decide +kernel
theorem dX5_isSlot_5 : decode cX5_isSlot 5 = .ok (.aload_n 0, 1) := by decide +kernel
theorem dX5_isSlot_6 : decode cX5_isSlot 6 = .ok (.getfield 94, 3) := by decide +kernel
theorem dX5_isSlot_9 : decode cX5_isSlot 9 = .ok (.if_icmp .ge 7, 3) := by decide +kernel
theorem dX5_isSlot_12 : decode cX5_isSlot 12 = .ok (.iconst 1, 1) := by decide +kernel
theorem dX5_isSlot_13 : decode cX5_isSlot 13 = .ok (.goto 4, 3) := by decide +kernel
theorem dX5_isSlot_16 : decode cX5_isSlot 16 = .ok (.iconst 0, 1) := by decide +kernel
theorem dX5_isSlot_17 : decode cX5_isSlot 17 = .ok (.ireturn, 1) := by decide +kernel
theorem dX5_deliver_0 : decode cX5_deliver 0 = .ok (.aload_n 0, 1) := by decide +kernel
theorem dX5_deliver_1 : decode cX5_deliver 1 = .ok (.iload_n 1, 1) := by decide +kernel
theorem dX5_deliver_2 : decode cX5_deliver 2 = .ok (.invokevirtual 137, 3) := by decide +kernel
theorem dX5_deliver_5 : decode cX5_deliver 5 = .ok (.ifCond .ne 5, 3) := by decide +kernel
theorem dX5_deliver_8 : decode cX5_deliver 8 = .ok (.iconst (-1), 1) := by decide +kernel
theorem dX5_deliver_9 : decode cX5_deliver 9 = .ok (.ireturn, 1) := by decide +kernel
theorem dX5_deliver_10 : decode cX5_deliver 10 = .ok (.aload_n 0, 1) := by decide +kernel
theorem dX5_deliver_11 : decode cX5_deliver 11 = .ok (.getfield 53, 3) := by decide +kernel
theorem dX5_deliver_14 : decode cX5_deliver 14 = .ok (.iload_n 1, 1) := by decide +kernel
theorem dX5_deliver_15 : decode cX5_deliver 15 = .ok (.iaload, 1) := by decide +kernel
theorem dX5_deliver_16 : decode cX5_deliver 16 = .ok (.istore_n 2, 1) := by decide +kernel
theorem dX5_deliver_17 : decode cX5_deliver 17 = .ok (.iload_n 2, 1) := by decide +kernel
theorem dX5_deliver_18 : decode cX5_deliver 18 = .ok (.ifCond .ne 6, 3) := by decide +kernel
theorem dX5_deliver_21 : decode cX5_deliver 21 = .ok (.bipush (-5), 2) := by decide +kernel
theorem dX5_deliver_23 : decode cX5_deliver 23 = .ok (.ireturn, 1) := by decide +kernel
theorem dX5_deliver_24 : decode cX5_deliver 24 = .ok (.aload_n 0, 1) := by decide +kernel
theorem dX5_deliver_25 : decode cX5_deliver 25 = .ok (.getfield 53, 3) := by decide +kernel
theorem dX5_deliver_28 : decode cX5_deliver 28 = .ok (.iload_n 1, 1) := by decide +kernel
theorem dX5_deliver_29 : decode cX5_deliver 29 = .ok (.iconst 0, 1) := by decide +kernel
theorem dX5_deliver_30 : decode cX5_deliver 30 = .ok (.iastore, 1) := by decide +kernel
theorem dX5_deliver_31 : decode cX5_deliver 31 = .ok (.aload_n 0, 1) := by decide +kernel
theorem dX5_deliver_32 : decode cX5_deliver 32 = .ok (.getfield 59, 3) := by decide +kernel
theorem dX5_deliver_35 : decode cX5_deliver 35 = .ok (.iload_n 1, 1) := by decide +kernel
theorem dX5_deliver_36 : decode cX5_deliver 36 = .ok (.iaload, 1) := by decide +kernel
theorem dX5_deliver_37 : decode cX5_deliver 37 = .ok (.istore_n 3, 1) := by decide +kernel
theorem dX5_deliver_38 : decode cX5_deliver 38 = .ok (.aload_n 0, 1) := by decide +kernel
theorem dX5_deliver_39 : decode cX5_deliver 39 = .ok (.getfield 7, 3) := by decide +kernel
theorem dX5_deliver_42 : decode cX5_deliver 42 = .ok (.iload_n 3, 1) := by decide +kernel
theorem dX5_deliver_43 : decode cX5_deliver 43 = .ok (.baload, 1) := by decide +kernel
theorem dX5_deliver_44 : decode cX5_deliver 44 = .ok (.ifCond .ne 5, 3) := by decide +kernel
theorem dX5_deliver_47 : decode cX5_deliver 47 = .ok (.iload_n 2, 1) := by decide +kernel
theorem dX5_deliver_48 : decode cX5_deliver 48 = .ok (.ireturn, 1) := by decide +kernel
theorem dX5_deliver_49 : decode cX5_deliver 49 = .ok (.aload_n 0, 1) := by decide +kernel
theorem dX5_deliver_50 : decode cX5_deliver 50 = .ok (.getfield 62, 3) := by decide +kernel
theorem dX5_deliver_53 : decode cX5_deliver 53 = .ok (.iload_n 1, 1) := by decide +kernel
theorem dX5_deliver_54 : decode cX5_deliver 54 = .ok (.iaload, 1) := by decide +kernel
theorem dX5_deliver_55 : decode cX5_deliver 55 = .ok (.aload_n 0, 1) := by decide +kernel
theorem dX5_deliver_56 : decode cX5_deliver 56 = .ok (.getfield 17, 3) := by decide +kernel
theorem dX5_deliver_59 : decode cX5_deliver 59 = .ok (.iload_n 3, 1) := by decide +kernel
theorem dX5_deliver_60 : decode cX5_deliver 60 = .ok (.iaload, 1) := by decide +kernel
theorem dX5_deliver_61 : decode cX5_deliver 61 = .ok (.if_icmp .le 29, 3) := by decide +kernel
theorem dX5_deliver_64 : decode cX5_deliver 64 = .ok (.aload_n 0, 1) := by decide +kernel
theorem dX5_deliver_65 : decode cX5_deliver 65 = .ok (.getfield 17, 3) := by decide +kernel
theorem dX5_deliver_68 : decode cX5_deliver 68 = .ok (.iload_n 3, 1) := by decide +kernel
theorem dX5_deliver_69 : decode cX5_deliver 69 = .ok (.aload_n 0, 1) := by decide +kernel
theorem dX5_deliver_70 : decode cX5_deliver 70 = .ok (.getfield 62, 3) := by decide +kernel
theorem dX5_deliver_73 : decode cX5_deliver 73 = .ok (.iload_n 1, 1) := by decide +kernel
theorem dX5_deliver_74 : decode cX5_deliver 74 = .ok (.iaload, 1) := by decide +kernel
theorem dX5_deliver_75 : decode cX5_deliver 75 = .ok (.iastore, 1) := by decide +kernel
theorem dX5_deliver_76 : decode cX5_deliver 76 = .ok (.aload_n 0, 1) := by decide +kernel
theorem dX5_deliver_77 : decode cX5_deliver 77 = .ok (.getfield 13, 3) := by decide +kernel
theorem dX5_deliver_80 : decode cX5_deliver 80 = .ok (.iload_n 3, 1) := by decide +kernel
theorem dX5_deliver_81 : decode cX5_deliver 81 = .ok (.iconst 0, 1) := by decide +kernel
theorem dX5_deliver_82 : decode cX5_deliver 82 = .ok (.iastore, 1) := by decide +kernel
theorem dX5_deliver_83 : decode cX5_deliver 83 = .ok (.aload_n 0, 1) := by decide +kernel
theorem dX5_deliver_84 : decode cX5_deliver 84 = .ok (.getfield 20, 3) := by decide +kernel
theorem dX5_deliver_87 : decode cX5_deliver 87 = .ok (.iload_n 3, 1) := by decide +kernel
theorem dX5_deliver_88 : decode cX5_deliver 88 = .ok (.iconst (-1), 1) := by decide +kernel
theorem dX5_deliver_89 : decode cX5_deliver 89 = .ok (.iastore, 1) := by decide +kernel
theorem dX5_deliver_90 : decode cX5_deliver 90 = .ok (.aload_n 0, 1) := by decide +kernel
theorem dX5_deliver_91 : decode cX5_deliver 91 = .ok (.iload_n 2, 1) := by decide +kernel
theorem dX5_deliver_92 : decode cX5_deliver 92 = .ok (.iload_n 1, 1) := by decide +kernel
theorem dX5_deliver_93 : decode cX5_deliver 93 = .ok (.iload_n 3, 1) := by decide +kernel
theorem dX5_deliver_94 : decode cX5_deliver 94 = .ok (.aload_n 0, 1) := by decide +kernel
theorem dX5_deliver_95 : decode cX5_deliver 95 = .ok (.getfield 56, 3) := by decide +kernel
theorem dX5_deliver_98 : decode cX5_deliver 98 = .ok (.iload_n 1, 1) := by decide +kernel
theorem dX5_deliver_99 : decode cX5_deliver 99 = .ok (.iaload, 1) := by decide +kernel
theorem dX5_deliver_100 : decode cX5_deliver 100 = .ok (.invokevirtual 140, 3) := by decide +kernel
theorem dX5_deliver_103 : decode cX5_deliver 103 = .ok (.iload_n 2, 1) := by decide +kernel
theorem dX5_deliver_104 : decode cX5_deliver 104 = .ok (.ireturn, 1) := by decide +kernel
theorem dX5_act_0 : decode cX5_act 0 = .ok (.iload_n 1, 1) := by decide +kernel
theorem dX5_act_1 : decode cX5_act 1 = .ok (.tableswitch 75 1 4 #[31, 42, 53, 64], 31) := by decide +kernel
theorem dX5_act_32 : decode cX5_act 32 = .ok (.aload_n 0, 1) := by decide +kernel
theorem dX5_act_33 : decode cX5_act 33 = .ok (.iload_n 2, 1) := by decide +kernel
theorem dX5_act_34 : decode cX5_act 34 = .ok (.iload_n 3, 1) := by decide +kernel
theorem dX5_act_35 : decode cX5_act 35 = .ok (.iload 4, 2) := by decide +kernel
theorem dX5_act_37 : decode cX5_act 37 = .ok (.invokevirtual 144, 3) := by decide +kernel
theorem dX5_act_40 : decode cX5_act 40 = .ok (.goto 44, 3) := by decide +kernel
theorem dX5_act_43 : decode cX5_act 43 = .ok (.aload_n 0, 1) := by decide +kernel
theorem dX5_act_44 : decode cX5_act 44 = .ok (.iload_n 2, 1) := by decide +kernel
theorem dX5_act_45 : decode cX5_act 45 = .ok (.iload_n 3, 1) := by decide +kernel
theorem dX5_act_46 : decode cX5_act 46 = .ok (.iload 4, 2) := by decide +kernel
theorem dX5_act_48 : decode cX5_act 48 = .ok (.invokevirtual 147, 3) := by decide +kernel
theorem dX5_act_51 : decode cX5_act 51 = .ok (.goto 33, 3) := by decide +kernel
theorem dX5_act_54 : decode cX5_act 54 = .ok (.aload_n 0, 1) := by decide +kernel
theorem dX5_act_55 : decode cX5_act 55 = .ok (.iload_n 2, 1) := by decide +kernel
theorem dX5_act_56 : decode cX5_act 56 = .ok (.iload_n 3, 1) := by decide +kernel
theorem dX5_act_57 : decode cX5_act 57 = .ok (.iload 4, 2) := by decide +kernel
theorem dX5_act_59 : decode cX5_act 59 = .ok (.invokevirtual 150, 3) := by decide +kernel
theorem dX5_act_62 : decode cX5_act 62 = .ok (.goto 22, 3) := by decide +kernel
theorem dX5_act_65 : decode cX5_act 65 = .ok (.aload_n 0, 1) := by decide +kernel
theorem dX5_act_66 : decode cX5_act 66 = .ok (.iload_n 2, 1) := by decide +kernel
theorem dX5_act_67 : decode cX5_act 67 = .ok (.iload_n 3, 1) := by decide +kernel
theorem dX5_act_68 : decode cX5_act 68 = .ok (.iload 4, 2) := by decide +kernel
theorem dX5_act_70 : decode cX5_act 70 = .ok (.invokevirtual 153, 3) := by decide +kernel
theorem dX5_act_73 : decode cX5_act 73 = .ok (.goto 11, 3) := by decide +kernel
theorem dX5_act_76 : decode cX5_act 76 = .ok (.aload_n 0, 1) := by decide +kernel
theorem dX5_act_77 : decode cX5_act 77 = .ok (.iload_n 2, 1) := by decide +kernel
theorem dX5_act_78 : decode cX5_act 78 = .ok (.iload_n 3, 1) := by decide +kernel
theorem dX5_act_79 : decode cX5_act 79 = .ok (.iload 4, 2) := by decide +kernel
theorem dX5_act_81 : decode cX5_act 81 = .ok (.invokevirtual 156, 3) := by decide +kernel
theorem dX5_act_84 : decode cX5_act 84 = .ok (.return_, 1) := by decide +kernel
theorem dX5_asked_0 : decode cX5_asked 0 = .ok (.aload_n 0, 1) := by decide +kernel
theorem dX5_asked_1 : decode cX5_asked 1 = .ok (.iload_n 2, 1) := by decide +kernel
theorem dX5_asked_2 : decode cX5_asked 2 = .ok (.aload_n 0, 1) := by decide +kernel
theorem dX5_asked_3 : decode cX5_asked 3 = .ok (.iload_n 2, 1) := by decide +kernel
theorem dX5_asked_4 : decode cX5_asked 4 = .ok (.invokevirtual 97, 3) := by decide +kernel
theorem dX5_asked_7 : decode cX5_asked 7 = .ok (.invokevirtual 123, 3) := by decide +kernel
theorem dX5_asked_10 : decode cX5_asked 10 = .ok (.istore 4, 2) := by decide +kernel
theorem dX5_asked_12 : decode cX5_asked 12 = .ok (.aload_n 0, 1) := by decide +kernel
theorem dX5_asked_13 : decode cX5_asked 13 = .ok (.getfield 68, 3) := by decide +kernel
theorem dX5_asked_16 : decode cX5_asked 16 = .ok (.iload_n 1, 1) := by decide +kernel
theorem dX5_asked_17 : decode cX5_asked 17 = .ok (.iaload, 1) := by decide +kernel
theorem dX5_asked_18 : decode cX5_asked 18 = .ok (.iload 4, 2) := by decide +kernel
theorem dX5_asked_20 : decode cX5_asked 20 = .ok (.if_icmp .gt 28, 3) := by decide +kernel
theorem dX5_asked_23 : decode cX5_asked 23 = .ok (.aload_n 0, 1) := by decide +kernel
theorem dX5_asked_24 : decode cX5_asked 24 = .ok (.getfield 68, 3) := by decide +kernel
theorem dX5_asked_27 : decode cX5_asked 27 = .ok (.iload_n 1, 1) := by decide +kernel
theorem dX5_asked_28 : decode cX5_asked 28 = .ok (.iaload, 1) := by decide +kernel
theorem dX5_asked_29 : decode cX5_asked 29 = .ok (.iload 4, 2) := by decide +kernel
theorem dX5_asked_31 : decode cX5_asked 31 = .ok (.if_icmp .ne 21, 3) := by decide +kernel
theorem dX5_asked_34 : decode cX5_asked 34 = .ok (.aload_n 0, 1) := by decide +kernel
theorem dX5_asked_35 : decode cX5_asked 35 = .ok (.getfield 65, 3) := by decide +kernel
theorem dX5_asked_38 : decode cX5_asked 38 = .ok (.iload_n 1, 1) := by decide +kernel
theorem dX5_asked_39 : decode cX5_asked 39 = .ok (.iaload, 1) := by decide +kernel
theorem dX5_asked_40 : decode cX5_asked 40 = .ok (.aload_n 0, 1) := by decide +kernel
theorem dX5_asked_41 : decode cX5_asked 41 = .ok (.iload_n 2, 1) := by decide +kernel
theorem dX5_asked_42 : decode cX5_asked 42 = .ok (.invokevirtual 97, 3) := by decide +kernel
theorem dX5_asked_45 : decode cX5_asked 45 = .ok (.if_icmp .lt 7, 3) := by decide +kernel
theorem dX5_asked_48 : decode cX5_asked 48 = .ok (.iconst 1, 1) := by decide +kernel
theorem dX5_asked_49 : decode cX5_asked 49 = .ok (.goto 4, 3) := by decide +kernel
theorem dX5_asked_52 : decode cX5_asked 52 = .ok (.iconst 0, 1) := by decide +kernel
theorem dX5_asked_53 : decode cX5_asked 53 = .ok (.istore 5, 2) := by decide +kernel
theorem dX5_asked_55 : decode cX5_asked 55 = .ok (.aload_n 0, 1) := by decide +kernel
theorem dX5_asked_56 : decode cX5_asked 56 = .ok (.getfield 62, 3) := by decide +kernel
theorem dX5_asked_59 : decode cX5_asked 59 = .ok (.iload_n 1, 1) := by decide +kernel
theorem dX5_asked_60 : decode cX5_asked 60 = .ok (.iaload, 1) := by decide +kernel
theorem dX5_asked_61 : decode cX5_asked 61 = .ok (.aload_n 0, 1) := by decide +kernel
theorem dX5_asked_62 : decode cX5_asked 62 = .ok (.getfield 17, 3) := by decide +kernel
theorem dX5_asked_65 : decode cX5_asked 65 = .ok (.iload_n 2, 1) := by decide +kernel
theorem dX5_asked_66 : decode cX5_asked 66 = .ok (.iaload, 1) := by decide +kernel
theorem dX5_asked_67 : decode cX5_asked 67 = .ok (.if_icmp .ne 32, 3) := by decide +kernel
theorem dX5_asked_70 : decode cX5_asked 70 = .ok (.aload_n 0, 1) := by decide +kernel
theorem dX5_asked_71 : decode cX5_asked 71 = .ok (.getfield 20, 3) := by decide +kernel
theorem dX5_asked_74 : decode cX5_asked 74 = .ok (.iload_n 2, 1) := by decide +kernel
theorem dX5_asked_75 : decode cX5_asked 75 = .ok (.iaload, 1) := by decide +kernel
theorem dX5_asked_76 : decode cX5_asked 76 = .ok (.iconst (-1), 1) := by decide +kernel
theorem dX5_asked_77 : decode cX5_asked 77 = .ok (.if_icmp .eq 13, 3) := by decide +kernel
theorem dX5_asked_80 : decode cX5_asked 80 = .ok (.aload_n 0, 1) := by decide +kernel
theorem dX5_asked_81 : decode cX5_asked 81 = .ok (.getfield 20, 3) := by decide +kernel
theorem dX5_asked_84 : decode cX5_asked 84 = .ok (.iload_n 2, 1) := by decide +kernel
theorem dX5_asked_85 : decode cX5_asked 85 = .ok (.iaload, 1) := by decide +kernel
theorem dX5_asked_86 : decode cX5_asked 86 = .ok (.iload_n 3, 1) := by decide +kernel
theorem dX5_asked_87 : decode cX5_asked 87 = .ok (.if_icmp .ne 12, 3) := by decide +kernel
theorem dX5_asked_90 : decode cX5_asked 90 = .ok (.iload 5, 2) := by decide +kernel
theorem dX5_asked_92 : decode cX5_asked 92 = .ok (.ifCond .eq 7, 3) := by decide +kernel
theorem dX5_asked_95 : decode cX5_asked 95 = .ok (.iconst 1, 1) := by decide +kernel
theorem dX5_asked_96 : decode cX5_asked 96 = .ok (.goto 4, 3) := by decide +kernel
theorem dX5_asked_99 : decode cX5_asked 99 = .ok (.iconst 0, 1) := by decide +kernel
theorem dX5_asked_100 : decode cX5_asked 100 = .ok (.istore 6, 2) := by decide +kernel
theorem dX5_asked_102 : decode cX5_asked 102 = .ok (.aload_n 0, 1) := by decide +kernel
theorem dX5_asked_103 : decode cX5_asked 103 = .ok (.getfield 20, 3) := by decide +kernel
theorem dX5_asked_106 : decode cX5_asked 106 = .ok (.iload_n 2, 1) := by decide +kernel
theorem dX5_asked_107 : decode cX5_asked 107 = .ok (.iload 6, 2) := by decide +kernel
theorem dX5_asked_109 : decode cX5_asked 109 = .ok (.ifCond .eq 7, 3) := by decide +kernel
theorem dX5_asked_112 : decode cX5_asked 112 = .ok (.iload_n 3, 1) := by decide +kernel
theorem dX5_asked_113 : decode cX5_asked 113 = .ok (.goto 9, 3) := by decide +kernel
theorem dX5_asked_116 : decode cX5_asked 116 = .ok (.aload_n 0, 1) := by decide +kernel
theorem dX5_asked_117 : decode cX5_asked 117 = .ok (.getfield 20, 3) := by decide +kernel
theorem dX5_asked_120 : decode cX5_asked 120 = .ok (.iload_n 2, 1) := by decide +kernel
theorem dX5_asked_121 : decode cX5_asked 121 = .ok (.iaload, 1) := by decide +kernel
theorem dX5_asked_122 : decode cX5_asked 122 = .ok (.iastore, 1) := by decide +kernel
theorem dX5_asked_123 : decode cX5_asked 123 = .ok (.aload_n 0, 1) := by decide +kernel
theorem dX5_asked_124 : decode cX5_asked 124 = .ok (.iconst 2, 1) := by decide +kernel
theorem dX5_asked_125 : decode cX5_asked 125 = .ok (.iload_n 2, 1) := by decide +kernel
theorem dX5_asked_126 : decode cX5_asked 126 = .ok (.iload_n 3, 1) := by decide +kernel
theorem dX5_asked_127 : decode cX5_asked 127 = .ok (.iload 6, 2) := by decide +kernel
theorem dX5_asked_129 : decode cX5_asked 129 = .ok (.iconst 0, 1) := by decide +kernel
theorem dX5_asked_130 : decode cX5_asked 130 = .ok (.invokevirtual 159, 3) := by decide +kernel
theorem dX5_asked_133 : decode cX5_asked 133 = .ok (.return_, 1) := by decide +kernel
theorem dX5_isMost_0 : decode cX5_isMost 0 = .ok (.iconst 0, 1) := by decide +kernel
theorem dX5_isMost_1 : decode cX5_isMost 1 = .ok (.istore_n 2, 1) := by decide +kernel
theorem dX5_isMost_2 : decode cX5_isMost 2 = .ok (.iconst 0, 1) := by decide +kernel
theorem dX5_isMost_3 : decode cX5_isMost 3 = .ok (.istore_n 3, 1) := by decide +kernel
theorem dX5_isMost_4 : decode cX5_isMost 4 = .ok (.iload_n 3, 1) := by decide +kernel
theorem dX5_isMost_5 : decode cX5_isMost 5 = .ok (.iconst 5, 1) := by decide +kernel
theorem dX5_isMost_6 : decode cX5_isMost 6 = .ok (.if_icmp .ge 17, 3) := by decide +kernel
theorem dX5_isMost_9 : decode cX5_isMost 9 = .ok (.iload_n 2, 1) := by decide +kernel
theorem dX5_isMost_10 : decode cX5_isMost 10 = .ok (.iload_n 0, 1) := by decide +kernel
theorem dX5_isMost_11 : decode cX5_isMost 11 = .ok (.iload_n 3, 1) := by decide +kernel
theorem dX5_isMost_12 : decode cX5_isMost 12 = .ok (.ishr, 1) := by decide +kernel
theorem dX5_isMost_13 : decode cX5_isMost 13 = .ok (.iconst 1, 1) := by decide +kernel
theorem dX5_isMost_14 : decode cX5_isMost 14 = .ok (.iand, 1) := by decide +kernel
theorem dX5_isMost_15 : decode cX5_isMost 15 = .ok (.iadd, 1) := by decide +kernel
theorem dX5_isMost_16 : decode cX5_isMost 16 = .ok (.istore_n 2, 1) := by decide +kernel
theorem dX5_isMost_17 : decode cX5_isMost 17 = .ok (.iinc 3 1, 3) := by decide +kernel
theorem dX5_isMost_20 : decode cX5_isMost 20 = .ok (.goto (-16), 3) := by decide +kernel
theorem dX5_isMost_23 : decode cX5_isMost 23 = .ok (.iconst 2, 1) := by decide +kernel
theorem dX5_isMost_24 : decode cX5_isMost 24 = .ok (.iload_n 2, 1) := by decide +kernel
theorem dX5_isMost_25 : decode cX5_isMost 25 = .ok (.imul, 1) := by decide +kernel
theorem dX5_isMost_26 : decode cX5_isMost 26 = .ok (.iload_n 1, 1) := by decide +kernel
theorem dX5_isMost_27 : decode cX5_isMost 27 = .ok (.if_icmp .le 7, 3) := by decide +kernel
theorem dX5_isMost_30 : decode cX5_isMost 30 = .ok (.iconst 1, 1) := by decide +kernel
theorem dX5_isMost_31 : decode cX5_isMost 31 = .ok (.goto 4, 3) := by decide +kernel
theorem dX5_isMost_34 : decode cX5_isMost 34 = .ok (.iconst 0, 1) := by decide +kernel
theorem dX5_isMost_35 : decode cX5_isMost 35 = .ok (.ireturn, 1) := by decide +kernel
theorem dX5_voted_0 : decode cX5_voted 0 = .ok (.aload_n 0, 1) := by decide +kernel
theorem dX5_voted_1 : decode cX5_voted 1 = .ok (.getfield 13, 3) := by decide +kernel
theorem dX5_voted_4 : decode cX5_voted 4 = .ok (.iload_n 2, 1) := by decide +kernel
theorem dX5_voted_5 : decode cX5_voted 5 = .ok (.iaload, 1) := by decide +kernel
theorem dX5_voted_6 : decode cX5_voted 6 = .ok (.iconst 1, 1) := by decide +kernel
theorem dX5_voted_7 : decode cX5_voted 7 = .ok (.if_icmp .ne 27, 3) := by decide +kernel
theorem dX5_voted_10 : decode cX5_voted 10 = .ok (.aload_n 0, 1) := by decide +kernel
theorem dX5_voted_11 : decode cX5_voted 11 = .ok (.getfield 62, 3) := by decide +kernel
theorem dX5_voted_14 : decode cX5_voted 14 = .ok (.iload_n 1, 1) := by decide +kernel
theorem dX5_voted_15 : decode cX5_voted 15 = .ok (.iaload, 1) := by decide +kernel
theorem dX5_voted_16 : decode cX5_voted 16 = .ok (.aload_n 0, 1) := by decide +kernel
theorem dX5_voted_17 : decode cX5_voted 17 = .ok (.getfield 17, 3) := by decide +kernel
theorem dX5_voted_20 : decode cX5_voted 20 = .ok (.iload_n 2, 1) := by decide +kernel
theorem dX5_voted_21 : decode cX5_voted 21 = .ok (.iaload, 1) := by decide +kernel
theorem dX5_voted_22 : decode cX5_voted 22 = .ok (.if_icmp .ne 12, 3) := by decide +kernel
theorem dX5_voted_25 : decode cX5_voted 25 = .ok (.aload_n 0, 1) := by decide +kernel
theorem dX5_voted_26 : decode cX5_voted 26 = .ok (.getfield 71, 3) := by decide +kernel
theorem dX5_voted_29 : decode cX5_voted 29 = .ok (.iload_n 1, 1) := by decide +kernel
theorem dX5_voted_30 : decode cX5_voted 30 = .ok (.baload, 1) := by decide +kernel
theorem dX5_voted_31 : decode cX5_voted 31 = .ok (.ifCond .ne 4, 3) := by decide +kernel
theorem dX5_voted_34 : decode cX5_voted 34 = .ok (.return_, 1) := by decide +kernel
theorem dX5_voted_35 : decode cX5_voted 35 = .ok (.aload_n 0, 1) := by decide +kernel
theorem dX5_voted_36 : decode cX5_voted 36 = .ok (.getfield 35, 3) := by decide +kernel
theorem dX5_voted_39 : decode cX5_voted 39 = .ok (.iload_n 2, 1) := by decide +kernel
theorem dX5_voted_40 : decode cX5_voted 40 = .ok (.aload_n 0, 1) := by decide +kernel
theorem dX5_voted_41 : decode cX5_voted 41 = .ok (.getfield 35, 3) := by decide +kernel
theorem dX5_voted_44 : decode cX5_voted 44 = .ok (.iload_n 2, 1) := by decide +kernel
theorem dX5_voted_45 : decode cX5_voted 45 = .ok (.iaload, 1) := by decide +kernel
theorem dX5_voted_46 : decode cX5_voted 46 = .ok (.iconst 1, 1) := by decide +kernel
theorem dX5_voted_47 : decode cX5_voted 47 = .ok (.iload_n 3, 1) := by decide +kernel
theorem dX5_voted_48 : decode cX5_voted 48 = .ok (.ishl, 1) := by decide +kernel
theorem dX5_voted_49 : decode cX5_voted 49 = .ok (.ior, 1) := by decide +kernel
theorem dX5_voted_50 : decode cX5_voted 50 = .ok (.iastore, 1) := by decide +kernel
theorem dX5_voted_51 : decode cX5_voted 51 = .ok (.aload_n 0, 1) := by decide +kernel
theorem dX5_voted_52 : decode cX5_voted 52 = .ok (.getfield 35, 3) := by decide +kernel
theorem dX5_voted_55 : decode cX5_voted 55 = .ok (.iload_n 2, 1) := by decide +kernel
theorem dX5_voted_56 : decode cX5_voted 56 = .ok (.iaload, 1) := by decide +kernel
theorem dX5_voted_57 : decode cX5_voted 57 = .ok (.aload_n 0, 1) := by decide +kernel
theorem dX5_voted_58 : decode cX5_voted 58 = .ok (.getfield 87, 3) := by decide +kernel
theorem dX5_voted_61 : decode cX5_voted 61 = .ok (.invokestatic 163, 3) := by decide +kernel
theorem dX5_voted_64 : decode cX5_voted 64 = .ok (.ifCond .ne 4, 3) := by decide +kernel
theorem dX5_voted_67 : decode cX5_voted 67 = .ok (.return_, 1) := by decide +kernel
theorem dX5_voted_68 : decode cX5_voted 68 = .ok (.aload_n 0, 1) := by decide +kernel
theorem dX5_voted_69 : decode cX5_voted 69 = .ok (.getfield 13, 3) := by decide +kernel
theorem dX5_voted_72 : decode cX5_voted 72 = .ok (.iload_n 2, 1) := by decide +kernel
theorem dX5_voted_73 : decode cX5_voted 73 = .ok (.iconst 2, 1) := by decide +kernel
theorem dX5_voted_74 : decode cX5_voted 74 = .ok (.iastore, 1) := by decide +kernel
theorem dX5_voted_75 : decode cX5_voted 75 = .ok (.iconst 0, 1) := by decide +kernel
theorem dX5_voted_76 : decode cX5_voted 76 = .ok (.istore 4, 2) := by decide +kernel
theorem dX5_voted_78 : decode cX5_voted 78 = .ok (.iload 4, 2) := by decide +kernel
theorem dX5_voted_80 : decode cX5_voted 80 = .ok (.iconst 5, 1) := by decide +kernel
theorem dX5_voted_81 : decode cX5_voted 81 = .ok (.if_icmp .ge 39, 3) := by decide +kernel
theorem dX5_voted_84 : decode cX5_voted 84 = .ok (.aload_n 0, 1) := by decide +kernel
theorem dX5_voted_85 : decode cX5_voted 85 = .ok (.getfield 47, 3) := by decide +kernel
theorem dX5_voted_88 : decode cX5_voted 88 = .ok (.iconst 5, 1) := by decide +kernel
theorem dX5_voted_89 : decode cX5_voted 89 = .ok (.iload_n 2, 1) := by decide +kernel
theorem dX5_voted_90 : decode cX5_voted 90 = .ok (.imul, 1) := by decide +kernel
theorem dX5_voted_91 : decode cX5_voted 91 = .ok (.iload 4, 2) := by decide +kernel
theorem dX5_voted_93 : decode cX5_voted 93 = .ok (.iadd, 1) := by decide +kernel
theorem dX5_voted_94 : decode cX5_voted 94 = .ok (.aload_n 0, 1) := by decide +kernel
theorem dX5_voted_95 : decode cX5_voted 95 = .ok (.iload_n 2, 1) := by decide +kernel
theorem dX5_voted_96 : decode cX5_voted 96 = .ok (.invokevirtual 97, 3) := by decide +kernel
theorem dX5_voted_99 : decode cX5_voted 99 = .ok (.iconst 1, 1) := by decide +kernel
theorem dX5_voted_100 : decode cX5_voted 100 = .ok (.iadd, 1) := by decide +kernel
theorem dX5_voted_101 : decode cX5_voted 101 = .ok (.iastore, 1) := by decide +kernel
theorem dX5_voted_102 : decode cX5_voted 102 = .ok (.aload_n 0, 1) := by decide +kernel
theorem dX5_voted_103 : decode cX5_voted 103 = .ok (.getfield 50, 3) := by decide +kernel
theorem dX5_voted_106 : decode cX5_voted 106 = .ok (.iconst 5, 1) := by decide +kernel
theorem dX5_voted_107 : decode cX5_voted 107 = .ok (.iload_n 2, 1) := by decide +kernel
theorem dX5_voted_108 : decode cX5_voted 108 = .ok (.imul, 1) := by decide +kernel
theorem dX5_voted_109 : decode cX5_voted 109 = .ok (.iload 4, 2) := by decide +kernel
theorem dX5_voted_111 : decode cX5_voted 111 = .ok (.iadd, 1) := by decide +kernel
theorem dX5_voted_112 : decode cX5_voted 112 = .ok (.iconst 0, 1) := by decide +kernel
theorem dX5_voted_113 : decode cX5_voted 113 = .ok (.iastore, 1) := by decide +kernel
theorem dX5_voted_114 : decode cX5_voted 114 = .ok (.iinc 4 1, 3) := by decide +kernel
theorem dX5_voted_117 : decode cX5_voted 117 = .ok (.goto (-39), 3) := by decide +kernel
theorem dX5_voted_120 : decode cX5_voted 120 = .ok (.return_, 1) := by decide +kernel
theorem dX5_append_0 : decode cX5_append 0 = .ok (.aload_n 0, 1) := by decide +kernel
theorem dX5_append_1 : decode cX5_append 1 = .ok (.getfield 62, 3) := by decide +kernel
theorem dX5_append_4 : decode cX5_append 4 = .ok (.iload_n 1, 1) := by decide +kernel
theorem dX5_append_5 : decode cX5_append 5 = .ok (.iaload, 1) := by decide +kernel
theorem dX5_append_6 : decode cX5_append 6 = .ok (.aload_n 0, 1) := by decide +kernel
theorem dX5_append_7 : decode cX5_append 7 = .ok (.getfield 17, 3) := by decide +kernel
theorem dX5_append_10 : decode cX5_append 10 = .ok (.iload_n 2, 1) := by decide +kernel
theorem dX5_append_11 : decode cX5_append 11 = .ok (.iaload, 1) := by decide +kernel
theorem dX5_append_12 : decode cX5_append 12 = .ok (.if_icmp .ge 13, 3) := by decide +kernel
theorem dX5_append_15 : decode cX5_append 15 = .ok (.aload_n 0, 1) := by decide +kernel
theorem dX5_append_16 : decode cX5_append 16 = .ok (.iconst 4, 1) := by decide +kernel
theorem dX5_append_17 : decode cX5_append 17 = .ok (.iload_n 2, 1) := by decide +kernel
theorem dX5_append_18 : decode cX5_append 18 = .ok (.iload_n 3, 1) := by decide +kernel
theorem dX5_append_19 : decode cX5_append 19 = .ok (.iconst 0, 1) := by decide +kernel
theorem dX5_append_20 : decode cX5_append 20 = .ok (.iconst 0, 1) := by decide +kernel
theorem dX5_append_21 : decode cX5_append 21 = .ok (.invokevirtual 159, 3) := by decide +kernel
theorem dX5_append_24 : decode cX5_append 24 = .ok (.return_, 1) := by decide +kernel
theorem dX5_append_25 : decode cX5_append 25 = .ok (.aload_n 0, 1) := by decide +kernel
theorem dX5_append_26 : decode cX5_append 26 = .ok (.getfield 13, 3) := by decide +kernel
theorem dX5_append_29 : decode cX5_append 29 = .ok (.iload_n 2, 1) := by decide +kernel
theorem dX5_append_30 : decode cX5_append 30 = .ok (.iconst 0, 1) := by decide +kernel
theorem dX5_append_31 : decode cX5_append 31 = .ok (.iastore, 1) := by decide +kernel
theorem dX5_append_32 : decode cX5_append 32 = .ok (.aload_n 0, 1) := by decide +kernel
theorem dX5_append_33 : decode cX5_append 33 = .ok (.getfield 65, 3) := by decide +kernel
theorem dX5_append_36 : decode cX5_append 36 = .ok (.iload_n 1, 1) := by decide +kernel
theorem dX5_append_37 : decode cX5_append 37 = .ok (.iaload, 1) := by decide +kernel
theorem dX5_append_38 : decode cX5_append 38 = .ok (.istore 4, 2) := by decide +kernel
theorem dX5_append_40 : decode cX5_append 40 = .ok (.iload 4, 2) := by decide +kernel
theorem dX5_append_42 : decode cX5_append 42 = .ok (.aload_n 0, 1) := by decide +kernel
theorem dX5_append_43 : decode cX5_append 43 = .ok (.getfield 23, 3) := by decide +kernel
theorem dX5_append_46 : decode cX5_append 46 = .ok (.iload_n 2, 1) := by decide +kernel
theorem dX5_append_47 : decode cX5_append 47 = .ok (.iaload, 1) := by decide +kernel
theorem dX5_append_48 : decode cX5_append 48 = .ok (.if_icmp .ge 20, 3) := by decide +kernel
theorem dX5_append_51 : decode cX5_append 51 = .ok (.aload_n 0, 1) := by decide +kernel
theorem dX5_append_52 : decode cX5_append 52 = .ok (.iconst 4, 1) := by decide +kernel
theorem dX5_append_53 : decode cX5_append 53 = .ok (.iload_n 2, 1) := by decide +kernel
theorem dX5_append_54 : decode cX5_append 54 = .ok (.iload_n 3, 1) := by decide +kernel
theorem dX5_append_55 : decode cX5_append 55 = .ok (.iconst 1, 1) := by decide +kernel
theorem dX5_append_56 : decode cX5_append 56 = .ok (.aload_n 0, 1) := by decide +kernel
theorem dX5_append_57 : decode cX5_append 57 = .ok (.getfield 23, 3) := by decide +kernel
theorem dX5_append_60 : decode cX5_append 60 = .ok (.iload_n 2, 1) := by decide +kernel
theorem dX5_append_61 : decode cX5_append 61 = .ok (.iaload, 1) := by decide +kernel
theorem dX5_append_62 : decode cX5_append 62 = .ok (.invokevirtual 159, 3) := by decide +kernel
theorem dX5_append_65 : decode cX5_append 65 = .ok (.goto 140, 3) := by decide +kernel
theorem dX5_append_68 : decode cX5_append 68 = .ok (.iload 4, 2) := by decide +kernel
theorem dX5_append_70 : decode cX5_append 70 = .ok (.aload_n 0, 1) := by decide +kernel
theorem dX5_append_71 : decode cX5_append 71 = .ok (.iload_n 2, 1) := by decide +kernel
theorem dX5_append_72 : decode cX5_append 72 = .ok (.invokevirtual 97, 3) := by decide +kernel
theorem dX5_append_75 : decode cX5_append 75 = .ok (.if_icmp .gt 19, 3) := by decide +kernel
theorem dX5_append_78 : decode cX5_append 78 = .ok (.aload_n 0, 1) := by decide +kernel
theorem dX5_append_79 : decode cX5_append 79 = .ok (.iload_n 2, 1) := by decide +kernel
theorem dX5_append_80 : decode cX5_append 80 = .ok (.iload 4, 2) := by decide +kernel
theorem dX5_append_82 : decode cX5_append 82 = .ok (.invokevirtual 123, 3) := by decide +kernel
theorem dX5_append_85 : decode cX5_append 85 = .ok (.aload_n 0, 1) := by decide +kernel
theorem dX5_append_86 : decode cX5_append 86 = .ok (.getfield 68, 3) := by decide +kernel
theorem dX5_append_89 : decode cX5_append 89 = .ok (.iload_n 1, 1) := by decide +kernel
theorem dX5_append_90 : decode cX5_append 90 = .ok (.iaload, 1) := by decide +kernel
theorem dX5_append_91 : decode cX5_append 91 = .ok (.if_icmp .eq 15, 3) := by decide +kernel
theorem dX5_append_94 : decode cX5_append 94 = .ok (.aload_n 0, 1) := by decide +kernel
theorem dX5_append_95 : decode cX5_append 95 = .ok (.iconst 4, 1) := by decide +kernel
theorem dX5_append_96 : decode cX5_append 96 = .ok (.iload_n 2, 1) := by decide +kernel
theorem dX5_append_97 : decode cX5_append 97 = .ok (.iload_n 3, 1) := by decide +kernel
theorem dX5_append_98 : decode cX5_append 98 = .ok (.iconst 0, 1) := by decide +kernel
theorem dX5_append_99 : decode cX5_append 99 = .ok (.iconst 0, 1) := by decide +kernel
theorem dX5_append_100 : decode cX5_append 100 = .ok (.invokevirtual 159, 3) := by decide +kernel
theorem dX5_append_103 : decode cX5_append 103 = .ok (.goto 102, 3) := by decide +kernel
theorem dX5_append_106 : decode cX5_append 106 = .ok (.aload_n 0, 1) := by decide +kernel
theorem dX5_append_107 : decode cX5_append 107 = .ok (.getfield 71, 3) := by decide +kernel
theorem dX5_append_110 : decode cX5_append 110 = .ok (.iload_n 1, 1) := by decide +kernel
theorem dX5_append_111 : decode cX5_append 111 = .ok (.baload, 1) := by decide +kernel
theorem dX5_append_112 : decode cX5_append 112 = .ok (.ifCond .eq 27, 3) := by decide +kernel
theorem dX5_append_115 : decode cX5_append 115 = .ok (.aload_n 0, 1) := by decide +kernel
theorem dX5_append_116 : decode cX5_append 116 = .ok (.iload_n 2, 1) := by decide +kernel
theorem dX5_append_117 : decode cX5_append 117 = .ok (.iload 4, 2) := by decide +kernel
theorem dX5_append_119 : decode cX5_append 119 = .ok (.iconst 1, 1) := by decide +kernel
theorem dX5_append_120 : decode cX5_append 120 = .ok (.iadd, 1) := by decide +kernel
theorem dX5_append_121 : decode cX5_append 121 = .ok (.aload_n 0, 1) := by decide +kernel
theorem dX5_append_122 : decode cX5_append 122 = .ok (.getfield 74, 3) := by decide +kernel
theorem dX5_append_125 : decode cX5_append 125 = .ok (.iload_n 1, 1) := by decide +kernel
theorem dX5_append_126 : decode cX5_append 126 = .ok (.iaload, 1) := by decide +kernel
theorem dX5_append_127 : decode cX5_append 127 = .ok (.aload_n 0, 1) := by decide +kernel
theorem dX5_append_128 : decode cX5_append 128 = .ok (.getfield 77, 3) := by decide +kernel
theorem dX5_append_131 : decode cX5_append 131 = .ok (.iload_n 1, 1) := by decide +kernel
theorem dX5_append_132 : decode cX5_append 132 = .ok (.iaload, 1) := by decide +kernel
theorem dX5_append_133 : decode cX5_append 133 = .ok (.invokevirtual 166, 3) := by decide +kernel
theorem dX5_append_136 : decode cX5_append 136 = .ok (.goto 5, 3) := by decide +kernel
theorem dX5_append_139 : decode cX5_append 139 = .ok (.iload 4, 2) := by decide +kernel
theorem dX5_append_141 : decode cX5_append 141 = .ok (.istore 5, 2) := by decide +kernel
theorem dX5_append_143 : decode cX5_append 143 = .ok (.aload_n 0, 1) := by decide +kernel
theorem dX5_append_144 : decode cX5_append 144 = .ok (.getfield 80, 3) := by decide +kernel
theorem dX5_append_147 : decode cX5_append 147 = .ok (.iload_n 1, 1) := by decide +kernel
theorem dX5_append_148 : decode cX5_append 148 = .ok (.iaload, 1) := by decide +kernel
theorem dX5_append_149 : decode cX5_append 149 = .ok (.iload 5, 2) := by decide +kernel
theorem dX5_append_151 : decode cX5_append 151 = .ok (.if_icmp .ge 12, 3) := by decide +kernel
theorem dX5_append_154 : decode cX5_append 154 = .ok (.aload_n 0, 1) := by decide +kernel
theorem dX5_append_155 : decode cX5_append 155 = .ok (.getfield 80, 3) := by decide +kernel
theorem dX5_append_158 : decode cX5_append 158 = .ok (.iload_n 1, 1) := by decide +kernel
theorem dX5_append_159 : decode cX5_append 159 = .ok (.iaload, 1) := by decide +kernel
theorem dX5_append_160 : decode cX5_append 160 = .ok (.goto 5, 3) := by decide +kernel
theorem dX5_append_163 : decode cX5_append 163 = .ok (.iload 5, 2) := by decide +kernel
theorem dX5_append_165 : decode cX5_append 165 = .ok (.istore 6, 2) := by decide +kernel
theorem dX5_append_167 : decode cX5_append 167 = .ok (.aload_n 0, 1) := by decide +kernel
theorem dX5_append_168 : decode cX5_append 168 = .ok (.getfield 32, 3) := by decide +kernel
theorem dX5_append_171 : decode cX5_append 171 = .ok (.iload_n 2, 1) := by decide +kernel
theorem dX5_append_172 : decode cX5_append 172 = .ok (.iload 6, 2) := by decide +kernel
theorem dX5_append_174 : decode cX5_append 174 = .ok (.aload_n 0, 1) := by decide +kernel
theorem dX5_append_175 : decode cX5_append 175 = .ok (.getfield 32, 3) := by decide +kernel
theorem dX5_append_178 : decode cX5_append 178 = .ok (.iload_n 2, 1) := by decide +kernel
theorem dX5_append_179 : decode cX5_append 179 = .ok (.iaload, 1) := by decide +kernel
theorem dX5_append_180 : decode cX5_append 180 = .ok (.if_icmp .le 8, 3) := by decide +kernel
theorem dX5_append_183 : decode cX5_append 183 = .ok (.iload 6, 2) := by decide +kernel
theorem dX5_append_185 : decode cX5_append 185 = .ok (.goto 9, 3) := by decide +kernel
theorem dX5_append_188 : decode cX5_append 188 = .ok (.aload_n 0, 1) := by decide +kernel
theorem dX5_append_189 : decode cX5_append 189 = .ok (.getfield 32, 3) := by decide +kernel
theorem dX5_append_192 : decode cX5_append 192 = .ok (.iload_n 2, 1) := by decide +kernel
theorem dX5_append_193 : decode cX5_append 193 = .ok (.iaload, 1) := by decide +kernel
theorem dX5_append_194 : decode cX5_append 194 = .ok (.iastore, 1) := by decide +kernel
theorem dX5_append_195 : decode cX5_append 195 = .ok (.aload_n 0, 1) := by decide +kernel
theorem dX5_append_196 : decode cX5_append 196 = .ok (.iconst 4, 1) := by decide +kernel
theorem dX5_append_197 : decode cX5_append 197 = .ok (.iload_n 2, 1) := by decide +kernel
theorem dX5_append_198 : decode cX5_append 198 = .ok (.iload_n 3, 1) := by decide +kernel
theorem dX5_append_199 : decode cX5_append 199 = .ok (.iconst 1, 1) := by decide +kernel
theorem dX5_append_200 : decode cX5_append 200 = .ok (.iload 5, 2) := by decide +kernel
theorem dX5_append_202 : decode cX5_append 202 = .ok (.invokevirtual 159, 3) := by decide +kernel
theorem dX5_append_205 : decode cX5_append 205 = .ok (.return_, 1) := by decide +kernel
theorem dX5_takeEntry_0 : decode cX5_takeEntry 0 = .ok (.aload_n 0, 1) := by decide +kernel
theorem dX5_takeEntry_1 : decode cX5_takeEntry 1 = .ok (.iload_n 1, 1) := by decide +kernel
theorem dX5_takeEntry_2 : decode cX5_takeEntry 2 = .ok (.iload_n 2, 1) := by decide +kernel
theorem dX5_takeEntry_3 : decode cX5_takeEntry 3 = .ok (.invokevirtual 101, 3) := by decide +kernel
theorem dX5_takeEntry_6 : decode cX5_takeEntry 6 = .ok (.ifCond .eq 68, 3) := by decide +kernel
theorem dX5_takeEntry_9 : decode cX5_takeEntry 9 = .ok (.aload_n 0, 1) := by decide +kernel
theorem dX5_takeEntry_10 : decode cX5_takeEntry 10 = .ok (.getfield 41, 3) := by decide +kernel
theorem dX5_takeEntry_13 : decode cX5_takeEntry 13 = .ok (.aload_n 0, 1) := by decide +kernel
theorem dX5_takeEntry_14 : decode cX5_takeEntry 14 = .ok (.iload_n 1, 1) := by decide +kernel
theorem dX5_takeEntry_15 : decode cX5_takeEntry 15 = .ok (.iload_n 2, 1) := by decide +kernel
theorem dX5_takeEntry_16 : decode cX5_takeEntry 16 = .ok (.invokevirtual 105, 3) := by decide +kernel
theorem dX5_takeEntry_19 : decode cX5_takeEntry 19 = .ok (.iaload, 1) := by decide +kernel
theorem dX5_takeEntry_20 : decode cX5_takeEntry 20 = .ok (.iload_n 3, 1) := by decide +kernel
theorem dX5_takeEntry_21 : decode cX5_takeEntry 21 = .ok (.if_icmp .eq 53, 3) := by decide +kernel
theorem dX5_takeEntry_24 : decode cX5_takeEntry 24 = .ok (.aload_n 0, 1) := by decide +kernel
theorem dX5_takeEntry_25 : decode cX5_takeEntry 25 = .ok (.getfield 38, 3) := by decide +kernel
theorem dX5_takeEntry_28 : decode cX5_takeEntry 28 = .ok (.iload_n 1, 1) := by decide +kernel
theorem dX5_takeEntry_29 : decode cX5_takeEntry 29 = .ok (.iload_n 2, 1) := by decide +kernel
theorem dX5_takeEntry_30 : decode cX5_takeEntry 30 = .ok (.iconst 1, 1) := by decide +kernel
theorem dX5_takeEntry_31 : decode cX5_takeEntry 31 = .ok (.isub, 1) := by decide +kernel
theorem dX5_takeEntry_32 : decode cX5_takeEntry 32 = .ok (.aload_n 0, 1) := by decide +kernel
theorem dX5_takeEntry_33 : decode cX5_takeEntry 33 = .ok (.getfield 23, 3) := by decide +kernel
theorem dX5_takeEntry_36 : decode cX5_takeEntry 36 = .ok (.iload_n 1, 1) := by decide +kernel
theorem dX5_takeEntry_37 : decode cX5_takeEntry 37 = .ok (.iaload, 1) := by decide +kernel
theorem dX5_takeEntry_38 : decode cX5_takeEntry 38 = .ok (.isub, 1) := by decide +kernel
theorem dX5_takeEntry_39 : decode cX5_takeEntry 39 = .ok (.iastore, 1) := by decide +kernel
theorem dX5_takeEntry_40 : decode cX5_takeEntry 40 = .ok (.aload_n 0, 1) := by decide +kernel
theorem dX5_takeEntry_41 : decode cX5_takeEntry 41 = .ok (.getfield 32, 3) := by decide +kernel
theorem dX5_takeEntry_44 : decode cX5_takeEntry 44 = .ok (.iload_n 1, 1) := by decide +kernel
theorem dX5_takeEntry_45 : decode cX5_takeEntry 45 = .ok (.aload_n 0, 1) := by decide +kernel
theorem dX5_takeEntry_46 : decode cX5_takeEntry 46 = .ok (.getfield 32, 3) := by decide +kernel
theorem dX5_takeEntry_49 : decode cX5_takeEntry 49 = .ok (.iload_n 1, 1) := by decide +kernel
theorem dX5_takeEntry_50 : decode cX5_takeEntry 50 = .ok (.iaload, 1) := by decide +kernel
theorem dX5_takeEntry_51 : decode cX5_takeEntry 51 = .ok (.aload_n 0, 1) := by decide +kernel
theorem dX5_takeEntry_52 : decode cX5_takeEntry 52 = .ok (.iload_n 1, 1) := by decide +kernel
theorem dX5_takeEntry_53 : decode cX5_takeEntry 53 = .ok (.invokevirtual 97, 3) := by decide +kernel
theorem dX5_takeEntry_56 : decode cX5_takeEntry 56 = .ok (.if_icmp .ge 12, 3) := by decide +kernel
theorem dX5_takeEntry_59 : decode cX5_takeEntry 59 = .ok (.aload_n 0, 1) := by decide +kernel
theorem dX5_takeEntry_60 : decode cX5_takeEntry 60 = .ok (.getfield 32, 3) := by decide +kernel
theorem dX5_takeEntry_63 : decode cX5_takeEntry 63 = .ok (.iload_n 1, 1) := by decide +kernel
theorem dX5_takeEntry_64 : decode cX5_takeEntry 64 = .ok (.iaload, 1) := by decide +kernel
theorem dX5_takeEntry_65 : decode cX5_takeEntry 65 = .ok (.goto 8, 3) := by decide +kernel
theorem dX5_takeEntry_68 : decode cX5_takeEntry 68 = .ok (.aload_n 0, 1) := by decide +kernel
theorem dX5_takeEntry_69 : decode cX5_takeEntry 69 = .ok (.iload_n 1, 1) := by decide +kernel
theorem dX5_takeEntry_70 : decode cX5_takeEntry 70 = .ok (.invokevirtual 97, 3) := by decide +kernel
theorem dX5_takeEntry_73 : decode cX5_takeEntry 73 = .ok (.iastore, 1) := by decide +kernel
theorem dX5_takeEntry_74 : decode cX5_takeEntry 74 = .ok (.aload_n 0, 1) := by decide +kernel
theorem dX5_takeEntry_75 : decode cX5_takeEntry 75 = .ok (.iload_n 1, 1) := by decide +kernel
theorem dX5_takeEntry_76 : decode cX5_takeEntry 76 = .ok (.iload_n 2, 1) := by decide +kernel
theorem dX5_takeEntry_77 : decode cX5_takeEntry 77 = .ok (.invokevirtual 101, 3) := by decide +kernel
theorem dX5_takeEntry_80 : decode cX5_takeEntry 80 = .ok (.ifCond .ne 24, 3) := by decide +kernel
theorem dX5_takeEntry_83 : decode cX5_takeEntry 83 = .ok (.aload_n 0, 1) := by decide +kernel
theorem dX5_takeEntry_84 : decode cX5_takeEntry 84 = .ok (.getfield 38, 3) := by decide +kernel
theorem dX5_takeEntry_87 : decode cX5_takeEntry 87 = .ok (.iload_n 1, 1) := by decide +kernel
theorem dX5_takeEntry_88 : decode cX5_takeEntry 88 = .ok (.iaload, 1) := by decide +kernel
theorem dX5_takeEntry_89 : decode cX5_takeEntry 89 = .ok (.aload_n 0, 1) := by decide +kernel
theorem dX5_takeEntry_90 : decode cX5_takeEntry 90 = .ok (.getfield 91, 3) := by decide +kernel
theorem dX5_takeEntry_93 : decode cX5_takeEntry 93 = .ok (.if_icmp .ge 11, 3) := by decide +kernel
theorem dX5_takeEntry_96 : decode cX5_takeEntry 96 = .ok (.aload_n 0, 1) := by decide +kernel
theorem dX5_takeEntry_97 : decode cX5_takeEntry 97 = .ok (.iload_n 1, 1) := by decide +kernel
theorem dX5_takeEntry_98 : decode cX5_takeEntry 98 = .ok (.iload_n 3, 1) := by decide +kernel
theorem dX5_takeEntry_99 : decode cX5_takeEntry 99 = .ok (.iload 4, 2) := by decide +kernel
theorem dX5_takeEntry_101 : decode cX5_takeEntry 101 = .ok (.invokevirtual 126, 3) := by decide +kernel
theorem dX5_takeEntry_104 : decode cX5_takeEntry 104 = .ok (.aload_n 0, 1) := by decide +kernel
theorem dX5_takeEntry_105 : decode cX5_takeEntry 105 = .ok (.iload_n 1, 1) := by decide +kernel
theorem dX5_takeEntry_106 : decode cX5_takeEntry 106 = .ok (.iload_n 2, 1) := by decide +kernel
theorem dX5_takeEntry_107 : decode cX5_takeEntry 107 = .ok (.invokevirtual 101, 3) := by decide +kernel
theorem dX5_takeEntry_110 : decode cX5_takeEntry 110 = .ok (.ifCond .eq 7, 3) := by decide +kernel
theorem dX5_takeEntry_113 : decode cX5_takeEntry 113 = .ok (.iload_n 2, 1) := by decide +kernel
theorem dX5_takeEntry_114 : decode cX5_takeEntry 114 = .ok (.goto 6, 3) := by decide +kernel
theorem dX5_takeEntry_117 : decode cX5_takeEntry 117 = .ok (.iload_n 2, 1) := by decide +kernel
theorem dX5_takeEntry_118 : decode cX5_takeEntry 118 = .ok (.iconst 1, 1) := by decide +kernel
theorem dX5_takeEntry_119 : decode cX5_takeEntry 119 = .ok (.isub, 1) := by decide +kernel
theorem dX5_takeEntry_120 : decode cX5_takeEntry 120 = .ok (.ireturn, 1) := by decide +kernel
theorem dX5_appended_0 : decode cX5_appended 0 = .ok (.aload_n 0, 1) := by decide +kernel
theorem dX5_appended_1 : decode cX5_appended 1 = .ok (.getfield 13, 3) := by decide +kernel
theorem dX5_appended_4 : decode cX5_appended 4 = .ok (.iload_n 2, 1) := by decide +kernel
theorem dX5_appended_5 : decode cX5_appended 5 = .ok (.iaload, 1) := by decide +kernel
theorem dX5_appended_6 : decode cX5_appended 6 = .ok (.iconst 2, 1) := by decide +kernel
theorem dX5_appended_7 : decode cX5_appended 7 = .ok (.if_icmp .ne 18, 3) := by decide +kernel
theorem dX5_appended_10 : decode cX5_appended 10 = .ok (.aload_n 0, 1) := by decide +kernel
theorem dX5_appended_11 : decode cX5_appended 11 = .ok (.getfield 62, 3) := by decide +kernel
theorem dX5_appended_14 : decode cX5_appended 14 = .ok (.iload_n 1, 1) := by decide +kernel
theorem dX5_appended_15 : decode cX5_appended 15 = .ok (.iaload, 1) := by decide +kernel
theorem dX5_appended_16 : decode cX5_appended 16 = .ok (.aload_n 0, 1) := by decide +kernel
theorem dX5_appended_17 : decode cX5_appended 17 = .ok (.getfield 17, 3) := by decide +kernel
theorem dX5_appended_20 : decode cX5_appended 20 = .ok (.iload_n 2, 1) := by decide +kernel
theorem dX5_appended_21 : decode cX5_appended 21 = .ok (.iaload, 1) := by decide +kernel
theorem dX5_appended_22 : decode cX5_appended 22 = .ok (.if_icmp .eq 4, 3) := by decide +kernel
theorem dX5_appended_25 : decode cX5_appended 25 = .ok (.return_, 1) := by decide +kernel
theorem dX5_appended_26 : decode cX5_appended 26 = .ok (.iconst 5, 1) := by decide +kernel
theorem dX5_appended_27 : decode cX5_appended 27 = .ok (.iload_n 2, 1) := by decide +kernel
theorem dX5_appended_28 : decode cX5_appended 28 = .ok (.imul, 1) := by decide +kernel
theorem dX5_appended_29 : decode cX5_appended 29 = .ok (.iload_n 3, 1) := by decide +kernel
theorem dX5_appended_30 : decode cX5_appended 30 = .ok (.iadd, 1) := by decide +kernel
theorem dX5_appended_31 : decode cX5_appended 31 = .ok (.istore 4, 2) := by decide +kernel
theorem dX5_appended_33 : decode cX5_appended 33 = .ok (.aload_n 0, 1) := by decide +kernel
theorem dX5_appended_34 : decode cX5_appended 34 = .ok (.getfield 71, 3) := by decide +kernel
theorem dX5_appended_37 : decode cX5_appended 37 = .ok (.iload_n 1, 1) := by decide +kernel
theorem dX5_appended_38 : decode cX5_appended 38 = .ok (.baload, 1) := by decide +kernel
theorem dX5_appended_39 : decode cX5_appended 39 = .ok (.ifCond .eq 66, 3) := by decide +kernel
theorem dX5_appended_42 : decode cX5_appended 42 = .ok (.aload_n 0, 1) := by decide +kernel
theorem dX5_appended_43 : decode cX5_appended 43 = .ok (.getfield 50, 3) := by decide +kernel
theorem dX5_appended_46 : decode cX5_appended 46 = .ok (.iload 4, 2) := by decide +kernel
theorem dX5_appended_48 : decode cX5_appended 48 = .ok (.aload_n 0, 1) := by decide +kernel
theorem dX5_appended_49 : decode cX5_appended 49 = .ok (.getfield 65, 3) := by decide +kernel
theorem dX5_appended_52 : decode cX5_appended 52 = .ok (.iload_n 1, 1) := by decide +kernel
theorem dX5_appended_53 : decode cX5_appended 53 = .ok (.iaload, 1) := by decide +kernel
theorem dX5_appended_54 : decode cX5_appended 54 = .ok (.aload_n 0, 1) := by decide +kernel
theorem dX5_appended_55 : decode cX5_appended 55 = .ok (.getfield 50, 3) := by decide +kernel
theorem dX5_appended_58 : decode cX5_appended 58 = .ok (.iload 4, 2) := by decide +kernel
theorem dX5_appended_60 : decode cX5_appended 60 = .ok (.iaload, 1) := by decide +kernel
theorem dX5_appended_61 : decode cX5_appended 61 = .ok (.if_icmp .le 12, 3) := by decide +kernel
theorem dX5_appended_64 : decode cX5_appended 64 = .ok (.aload_n 0, 1) := by decide +kernel
theorem dX5_appended_65 : decode cX5_appended 65 = .ok (.getfield 65, 3) := by decide +kernel
theorem dX5_appended_68 : decode cX5_appended 68 = .ok (.iload_n 1, 1) := by decide +kernel
theorem dX5_appended_69 : decode cX5_appended 69 = .ok (.iaload, 1) := by decide +kernel
theorem dX5_appended_70 : decode cX5_appended 70 = .ok (.goto 10, 3) := by decide +kernel
theorem dX5_appended_73 : decode cX5_appended 73 = .ok (.aload_n 0, 1) := by decide +kernel
theorem dX5_appended_74 : decode cX5_appended 74 = .ok (.getfield 50, 3) := by decide +kernel
theorem dX5_appended_77 : decode cX5_appended 77 = .ok (.iload 4, 2) := by decide +kernel
theorem dX5_appended_79 : decode cX5_appended 79 = .ok (.iaload, 1) := by decide +kernel
theorem dX5_appended_80 : decode cX5_appended 80 = .ok (.iastore, 1) := by decide +kernel
theorem dX5_appended_81 : decode cX5_appended 81 = .ok (.aload_n 0, 1) := by decide +kernel
theorem dX5_appended_82 : decode cX5_appended 82 = .ok (.getfield 47, 3) := by decide +kernel
theorem dX5_appended_85 : decode cX5_appended 85 = .ok (.iload 4, 2) := by decide +kernel
theorem dX5_appended_87 : decode cX5_appended 87 = .ok (.aload_n 0, 1) := by decide +kernel
theorem dX5_appended_88 : decode cX5_appended 88 = .ok (.getfield 50, 3) := by decide +kernel
theorem dX5_appended_91 : decode cX5_appended 91 = .ok (.iload 4, 2) := by decide +kernel
theorem dX5_appended_93 : decode cX5_appended 93 = .ok (.iaload, 1) := by decide +kernel
theorem dX5_appended_94 : decode cX5_appended 94 = .ok (.iconst 1, 1) := by decide +kernel
theorem dX5_appended_95 : decode cX5_appended 95 = .ok (.iadd, 1) := by decide +kernel
theorem dX5_appended_96 : decode cX5_appended 96 = .ok (.iastore, 1) := by decide +kernel
theorem dX5_appended_97 : decode cX5_appended 97 = .ok (.aload_n 0, 1) := by decide +kernel
theorem dX5_appended_98 : decode cX5_appended 98 = .ok (.iload_n 2, 1) := by decide +kernel
theorem dX5_appended_99 : decode cX5_appended 99 = .ok (.invokevirtual 170, 3) := by decide +kernel
theorem dX5_appended_102 : decode cX5_appended 102 = .ok (.goto 34, 3) := by decide +kernel
theorem dX5_appended_105 : decode cX5_appended 105 = .ok (.aload_n 0, 1) := by decide +kernel
theorem dX5_appended_106 : decode cX5_appended 106 = .ok (.getfield 47, 3) := by decide +kernel
theorem dX5_appended_109 : decode cX5_appended 109 = .ok (.iload 4, 2) := by decide +kernel
theorem dX5_appended_111 : decode cX5_appended 111 = .ok (.aload_n 0, 1) := by decide +kernel
theorem dX5_appended_112 : decode cX5_appended 112 = .ok (.getfield 47, 3) := by decide +kernel
theorem dX5_appended_115 : decode cX5_appended 115 = .ok (.iload 4, 2) := by decide +kernel
theorem dX5_appended_117 : decode cX5_appended 117 = .ok (.iaload, 1) := by decide +kernel
theorem dX5_appended_118 : decode cX5_appended 118 = .ok (.iconst 2, 1) := by decide +kernel
theorem dX5_appended_119 : decode cX5_appended 119 = .ok (.if_icmp .le 15, 3) := by decide +kernel
theorem dX5_appended_122 : decode cX5_appended 122 = .ok (.aload_n 0, 1) := by decide +kernel
theorem dX5_appended_123 : decode cX5_appended 123 = .ok (.getfield 47, 3) := by decide +kernel
theorem dX5_appended_126 : decode cX5_appended 126 = .ok (.iload 4, 2) := by decide +kernel
theorem dX5_appended_128 : decode cX5_appended 128 = .ok (.iaload, 1) := by decide +kernel
theorem dX5_appended_129 : decode cX5_appended 129 = .ok (.iconst 1, 1) := by decide +kernel
theorem dX5_appended_130 : decode cX5_appended 130 = .ok (.isub, 1) := by decide +kernel
theorem dX5_appended_131 : decode cX5_appended 131 = .ok (.goto 4, 3) := by decide +kernel
theorem dX5_appended_134 : decode cX5_appended 134 = .ok (.iconst 1, 1) := by decide +kernel
theorem dX5_appended_135 : decode cX5_appended 135 = .ok (.iastore, 1) := by decide +kernel
theorem dX5_appended_136 : decode cX5_appended 136 = .ok (.return_, 1) := by decide +kernel
theorem dX5_count_0 : decode cX5_count 0 = .ok (.aload_n 0, 1) := by decide +kernel
theorem dX5_count_1 : decode cX5_count 1 = .ok (.getfield 32, 3) := by decide +kernel
theorem dX5_count_4 : decode cX5_count 4 = .ok (.iload_n 1, 1) := by decide +kernel
theorem dX5_count_5 : decode cX5_count 5 = .ok (.iaload, 1) := by decide +kernel
theorem dX5_count_6 : decode cX5_count 6 = .ok (.istore_n 2, 1) := by decide +kernel
theorem dX5_count_7 : decode cX5_count 7 = .ok (.aload_n 0, 1) := by decide +kernel
theorem dX5_count_8 : decode cX5_count 8 = .ok (.getfield 32, 3) := by decide +kernel
theorem dX5_count_11 : decode cX5_count 11 = .ok (.iload_n 1, 1) := by decide +kernel
theorem dX5_count_12 : decode cX5_count 12 = .ok (.iaload, 1) := by decide +kernel
theorem dX5_count_13 : decode cX5_count 13 = .ok (.iconst 1, 1) := by decide +kernel
theorem dX5_count_14 : decode cX5_count 14 = .ok (.iadd, 1) := by decide +kernel
theorem dX5_count_15 : decode cX5_count 15 = .ok (.istore_n 3, 1) := by decide +kernel
theorem dX5_count_16 : decode cX5_count 16 = .ok (.iload_n 3, 1) := by decide +kernel
theorem dX5_count_17 : decode cX5_count 17 = .ok (.aload_n 0, 1) := by decide +kernel
theorem dX5_count_18 : decode cX5_count 18 = .ok (.iload_n 1, 1) := by decide +kernel
theorem dX5_count_19 : decode cX5_count 19 = .ok (.invokevirtual 97, 3) := by decide +kernel
theorem dX5_count_22 : decode cX5_count 22 = .ok (.if_icmp .gt 94, 3) := by decide +kernel
theorem dX5_count_25 : decode cX5_count 25 = .ok (.iconst 1, 1) := by decide +kernel
theorem dX5_count_26 : decode cX5_count 26 = .ok (.iload_n 1, 1) := by decide +kernel
theorem dX5_count_27 : decode cX5_count 27 = .ok (.ishl, 1) := by decide +kernel
theorem dX5_count_28 : decode cX5_count 28 = .ok (.istore 4, 2) := by decide +kernel
theorem dX5_count_30 : decode cX5_count 30 = .ok (.iconst 0, 1) := by decide +kernel
theorem dX5_count_31 : decode cX5_count 31 = .ok (.istore 5, 2) := by decide +kernel
theorem dX5_count_33 : decode cX5_count 33 = .ok (.iload 5, 2) := by decide +kernel
theorem dX5_count_35 : decode cX5_count 35 = .ok (.aload_n 0, 1) := by decide +kernel
theorem dX5_count_36 : decode cX5_count 36 = .ok (.getfield 87, 3) := by decide +kernel
theorem dX5_count_39 : decode cX5_count 39 = .ok (.if_icmp .ge 38, 3) := by decide +kernel
theorem dX5_count_42 : decode cX5_count 42 = .ok (.aload_n 0, 1) := by decide +kernel
theorem dX5_count_43 : decode cX5_count 43 = .ok (.getfield 50, 3) := by decide +kernel
theorem dX5_count_46 : decode cX5_count 46 = .ok (.iconst 5, 1) := by decide +kernel
theorem dX5_count_47 : decode cX5_count 47 = .ok (.iload_n 1, 1) := by decide +kernel
theorem dX5_count_48 : decode cX5_count 48 = .ok (.imul, 1) := by decide +kernel
theorem dX5_count_49 : decode cX5_count 49 = .ok (.iload 5, 2) := by decide +kernel
theorem dX5_count_51 : decode cX5_count 51 = .ok (.iadd, 1) := by decide +kernel
theorem dX5_count_52 : decode cX5_count 52 = .ok (.iaload, 1) := by decide +kernel
theorem dX5_count_53 : decode cX5_count 53 = .ok (.iload_n 3, 1) := by decide +kernel
theorem dX5_count_54 : decode cX5_count 54 = .ok (.if_icmp .lt 13, 3) := by decide +kernel
theorem dX5_count_57 : decode cX5_count 57 = .ok (.iload 4, 2) := by decide +kernel
theorem dX5_count_59 : decode cX5_count 59 = .ok (.iconst 1, 1) := by decide +kernel
theorem dX5_count_60 : decode cX5_count 60 = .ok (.iload 5, 2) := by decide +kernel
theorem dX5_count_62 : decode cX5_count 62 = .ok (.ishl, 1) := by decide +kernel
theorem dX5_count_63 : decode cX5_count 63 = .ok (.ior, 1) := by decide +kernel
theorem dX5_count_64 : decode cX5_count 64 = .ok (.goto 5, 3) := by decide +kernel
theorem dX5_count_67 : decode cX5_count 67 = .ok (.iload 4, 2) := by decide +kernel
theorem dX5_count_69 : decode cX5_count 69 = .ok (.istore 4, 2) := by decide +kernel
theorem dX5_count_71 : decode cX5_count 71 = .ok (.iinc 5 1, 3) := by decide +kernel
theorem dX5_count_74 : decode cX5_count 74 = .ok (.goto (-41), 3) := by decide +kernel
theorem dX5_count_77 : decode cX5_count 77 = .ok (.aload_n 0, 1) := by decide +kernel
theorem dX5_count_78 : decode cX5_count 78 = .ok (.iload_n 1, 1) := by decide +kernel
theorem dX5_count_79 : decode cX5_count 79 = .ok (.iload_n 3, 1) := by decide +kernel
theorem dX5_count_80 : decode cX5_count 80 = .ok (.invokevirtual 123, 3) := by decide +kernel
theorem dX5_count_83 : decode cX5_count 83 = .ok (.aload_n 0, 1) := by decide +kernel
theorem dX5_count_84 : decode cX5_count 84 = .ok (.getfield 17, 3) := by decide +kernel
theorem dX5_count_87 : decode cX5_count 87 = .ok (.iload_n 1, 1) := by decide +kernel
theorem dX5_count_88 : decode cX5_count 88 = .ok (.iaload, 1) := by decide +kernel
theorem dX5_count_89 : decode cX5_count 89 = .ok (.if_icmp .ne 19, 3) := by decide +kernel
theorem dX5_count_92 : decode cX5_count 92 = .ok (.iload 4, 2) := by decide +kernel
theorem dX5_count_94 : decode cX5_count 94 = .ok (.aload_n 0, 1) := by decide +kernel
theorem dX5_count_95 : decode cX5_count 95 = .ok (.getfield 87, 3) := by decide +kernel
theorem dX5_count_98 : decode cX5_count 98 = .ok (.invokestatic 163, 3) := by decide +kernel
theorem dX5_count_101 : decode cX5_count 101 = .ok (.ifCond .eq 7, 3) := by decide +kernel
theorem dX5_count_104 : decode cX5_count 104 = .ok (.iload_n 3, 1) := by decide +kernel
theorem dX5_count_105 : decode cX5_count 105 = .ok (.goto 4, 3) := by decide +kernel
theorem dX5_count_108 : decode cX5_count 108 = .ok (.iload_n 2, 1) := by decide +kernel
theorem dX5_count_109 : decode cX5_count 109 = .ok (.istore_n 2, 1) := by decide +kernel
theorem dX5_count_110 : decode cX5_count 110 = .ok (.iinc 3 1, 3) := by decide +kernel
theorem dX5_count_113 : decode cX5_count 113 = .ok (.goto (-97), 3) := by decide +kernel
theorem dX5_count_116 : decode cX5_count 116 = .ok (.aload_n 0, 1) := by decide +kernel
theorem dX5_count_117 : decode cX5_count 117 = .ok (.getfield 32, 3) := by decide +kernel
theorem dX5_count_120 : decode cX5_count 120 = .ok (.iload_n 1, 1) := by decide +kernel
theorem dX5_count_121 : decode cX5_count 121 = .ok (.iload_n 2, 1) := by decide +kernel
theorem dX5_count_122 : decode cX5_count 122 = .ok (.iastore, 1) := by decide +kernel
theorem dX5_count_123 : decode cX5_count 123 = .ok (.return_, 1) := by decide +kernel
theorem dX5_snapshot_0 : decode cX5_snapshot 0 = .ok (.aload_n 0, 1) := by decide +kernel
theorem dX5_snapshot_1 : decode cX5_snapshot 1 = .ok (.getfield 62, 3) := by decide +kernel
theorem dX5_snapshot_4 : decode cX5_snapshot 4 = .ok (.iload_n 1, 1) := by decide +kernel
theorem dX5_snapshot_5 : decode cX5_snapshot 5 = .ok (.iaload, 1) := by decide +kernel
theorem dX5_snapshot_6 : decode cX5_snapshot 6 = .ok (.aload_n 0, 1) := by decide +kernel
theorem dX5_snapshot_7 : decode cX5_snapshot 7 = .ok (.getfield 17, 3) := by decide +kernel
theorem dX5_snapshot_10 : decode cX5_snapshot 10 = .ok (.iload_n 2, 1) := by decide +kernel
theorem dX5_snapshot_11 : decode cX5_snapshot 11 = .ok (.iaload, 1) := by decide +kernel
theorem dX5_snapshot_12 : decode cX5_snapshot 12 = .ok (.if_icmp .ge 13, 3) := by decide +kernel
theorem dX5_snapshot_15 : decode cX5_snapshot 15 = .ok (.aload_n 0, 1) := by decide +kernel
theorem dX5_snapshot_16 : decode cX5_snapshot 16 = .ok (.iconst 4, 1) := by decide +kernel
theorem dX5_snapshot_17 : decode cX5_snapshot 17 = .ok (.iload_n 2, 1) := by decide +kernel
theorem dX5_snapshot_18 : decode cX5_snapshot 18 = .ok (.iload_n 3, 1) := by decide +kernel
theorem dX5_snapshot_19 : decode cX5_snapshot 19 = .ok (.iconst 0, 1) := by decide +kernel
theorem dX5_snapshot_20 : decode cX5_snapshot 20 = .ok (.iconst 0, 1) := by decide +kernel
theorem dX5_snapshot_21 : decode cX5_snapshot 21 = .ok (.invokevirtual 159, 3) := by decide +kernel
theorem dX5_snapshot_24 : decode cX5_snapshot 24 = .ok (.return_, 1) := by decide +kernel
theorem dX5_snapshot_25 : decode cX5_snapshot 25 = .ok (.aload_n 0, 1) := by decide +kernel
theorem dX5_snapshot_26 : decode cX5_snapshot 26 = .ok (.getfield 13, 3) := by decide +kernel
theorem dX5_snapshot_29 : decode cX5_snapshot 29 = .ok (.iload_n 2, 1) := by decide +kernel
theorem dX5_snapshot_30 : decode cX5_snapshot 30 = .ok (.iconst 0, 1) := by decide +kernel
theorem dX5_snapshot_31 : decode cX5_snapshot 31 = .ok (.iastore, 1) := by decide +kernel
theorem dX5_snapshot_32 : decode cX5_snapshot 32 = .ok (.aload_n 0, 1) := by decide +kernel
theorem dX5_snapshot_33 : decode cX5_snapshot 33 = .ok (.getfield 65, 3) := by decide +kernel
theorem dX5_snapshot_36 : decode cX5_snapshot 36 = .ok (.iload_n 1, 1) := by decide +kernel
theorem dX5_snapshot_37 : decode cX5_snapshot 37 = .ok (.iaload, 1) := by decide +kernel
theorem dX5_snapshot_38 : decode cX5_snapshot 38 = .ok (.istore 4, 2) := by decide +kernel
theorem dX5_snapshot_40 : decode cX5_snapshot 40 = .ok (.iload 4, 2) := by decide +kernel
theorem dX5_snapshot_42 : decode cX5_snapshot 42 = .ok (.aload_n 0, 1) := by decide +kernel
theorem dX5_snapshot_43 : decode cX5_snapshot 43 = .ok (.getfield 32, 3) := by decide +kernel
theorem dX5_snapshot_46 : decode cX5_snapshot 46 = .ok (.iload_n 2, 1) := by decide +kernel
theorem dX5_snapshot_47 : decode cX5_snapshot 47 = .ok (.iaload, 1) := by decide +kernel
theorem dX5_snapshot_48 : decode cX5_snapshot 48 = .ok (.if_icmp .gt 18, 3) := by decide +kernel
theorem dX5_snapshot_51 : decode cX5_snapshot 51 = .ok (.aload_n 0, 1) := by decide +kernel
theorem dX5_snapshot_52 : decode cX5_snapshot 52 = .ok (.iconst 4, 1) := by decide +kernel
theorem dX5_snapshot_53 : decode cX5_snapshot 53 = .ok (.iload_n 2, 1) := by decide +kernel
theorem dX5_snapshot_54 : decode cX5_snapshot 54 = .ok (.iload_n 3, 1) := by decide +kernel
theorem dX5_snapshot_55 : decode cX5_snapshot 55 = .ok (.iconst 1, 1) := by decide +kernel
theorem dX5_snapshot_56 : decode cX5_snapshot 56 = .ok (.aload_n 0, 1) := by decide +kernel
theorem dX5_snapshot_57 : decode cX5_snapshot 57 = .ok (.getfield 32, 3) := by decide +kernel
theorem dX5_snapshot_60 : decode cX5_snapshot 60 = .ok (.iload_n 2, 1) := by decide +kernel
theorem dX5_snapshot_61 : decode cX5_snapshot 61 = .ok (.iaload, 1) := by decide +kernel
theorem dX5_snapshot_62 : decode cX5_snapshot 62 = .ok (.invokevirtual 159, 3) := by decide +kernel
theorem dX5_snapshot_65 : decode cX5_snapshot 65 = .ok (.return_, 1) := by decide +kernel
theorem dX5_snapshot_66 : decode cX5_snapshot 66 = .ok (.aload_n 0, 1) := by decide +kernel
theorem dX5_snapshot_67 : decode cX5_snapshot 67 = .ok (.iload_n 2, 1) := by decide +kernel
theorem dX5_snapshot_68 : decode cX5_snapshot 68 = .ok (.iload 4, 2) := by decide +kernel
theorem dX5_snapshot_70 : decode cX5_snapshot 70 = .ok (.invokevirtual 101, 3) := by decide +kernel
theorem dX5_snapshot_73 : decode cX5_snapshot 73 = .ok (.ifCond .eq 28, 3) := by decide +kernel
theorem dX5_snapshot_76 : decode cX5_snapshot 76 = .ok (.aload_n 0, 1) := by decide +kernel
theorem dX5_snapshot_77 : decode cX5_snapshot 77 = .ok (.getfield 41, 3) := by decide +kernel
theorem dX5_snapshot_80 : decode cX5_snapshot 80 = .ok (.aload_n 0, 1) := by decide +kernel
theorem dX5_snapshot_81 : decode cX5_snapshot 81 = .ok (.iload_n 2, 1) := by decide +kernel
theorem dX5_snapshot_82 : decode cX5_snapshot 82 = .ok (.iload 4, 2) := by decide +kernel
theorem dX5_snapshot_84 : decode cX5_snapshot 84 = .ok (.invokevirtual 105, 3) := by decide +kernel
theorem dX5_snapshot_87 : decode cX5_snapshot 87 = .ok (.iaload, 1) := by decide +kernel
theorem dX5_snapshot_88 : decode cX5_snapshot 88 = .ok (.aload_n 0, 1) := by decide +kernel
theorem dX5_snapshot_89 : decode cX5_snapshot 89 = .ok (.getfield 68, 3) := by decide +kernel
theorem dX5_snapshot_92 : decode cX5_snapshot 92 = .ok (.iload_n 1, 1) := by decide +kernel
theorem dX5_snapshot_93 : decode cX5_snapshot 93 = .ok (.iaload, 1) := by decide +kernel
theorem dX5_snapshot_94 : decode cX5_snapshot 94 = .ok (.if_icmp .ne 7, 3) := by decide +kernel
theorem dX5_snapshot_97 : decode cX5_snapshot 97 = .ok (.iconst 1, 1) := by decide +kernel
theorem dX5_snapshot_98 : decode cX5_snapshot 98 = .ok (.goto 4, 3) := by decide +kernel
theorem dX5_snapshot_101 : decode cX5_snapshot 101 = .ok (.iconst 0, 1) := by decide +kernel
theorem dX5_snapshot_102 : decode cX5_snapshot 102 = .ok (.istore 5, 2) := by decide +kernel
theorem dX5_snapshot_104 : decode cX5_snapshot 104 = .ok (.aload_n 0, 1) := by decide +kernel
theorem dX5_snapshot_105 : decode cX5_snapshot 105 = .ok (.iload_n 2, 1) := by decide +kernel
theorem dX5_snapshot_106 : decode cX5_snapshot 106 = .ok (.iload 5, 2) := by decide +kernel
theorem dX5_snapshot_108 : decode cX5_snapshot 108 = .ok (.ifCond .eq 15, 3) := by decide +kernel
theorem dX5_snapshot_111 : decode cX5_snapshot 111 = .ok (.iload 4, 2) := by decide +kernel
theorem dX5_snapshot_113 : decode cX5_snapshot 113 = .ok (.aload_n 0, 1) := by decide +kernel
theorem dX5_snapshot_114 : decode cX5_snapshot 114 = .ok (.getfield 23, 3) := by decide +kernel
theorem dX5_snapshot_117 : decode cX5_snapshot 117 = .ok (.iload_n 2, 1) := by decide +kernel
theorem dX5_snapshot_118 : decode cX5_snapshot 118 = .ok (.iaload, 1) := by decide +kernel
theorem dX5_snapshot_119 : decode cX5_snapshot 119 = .ok (.isub, 1) := by decide +kernel
theorem dX5_snapshot_120 : decode cX5_snapshot 120 = .ok (.goto 9, 3) := by decide +kernel
theorem dX5_snapshot_123 : decode cX5_snapshot 123 = .ok (.aload_n 0, 1) := by decide +kernel
theorem dX5_snapshot_124 : decode cX5_snapshot 124 = .ok (.getfield 38, 3) := by decide +kernel
theorem dX5_snapshot_127 : decode cX5_snapshot 127 = .ok (.iload_n 2, 1) := by decide +kernel
theorem dX5_snapshot_128 : decode cX5_snapshot 128 = .ok (.iaload, 1) := by decide +kernel
theorem dX5_snapshot_129 : decode cX5_snapshot 129 = .ok (.invokevirtual 133, 3) := by decide +kernel
theorem dX5_snapshot_132 : decode cX5_snapshot 132 = .ok (.aload_n 0, 1) := by decide +kernel
theorem dX5_snapshot_133 : decode cX5_snapshot 133 = .ok (.getfield 23, 3) := by decide +kernel
theorem dX5_snapshot_136 : decode cX5_snapshot 136 = .ok (.iload_n 2, 1) := by decide +kernel
theorem dX5_snapshot_137 : decode cX5_snapshot 137 = .ok (.iload 4, 2) := by decide +kernel
theorem dX5_snapshot_139 : decode cX5_snapshot 139 = .ok (.iastore, 1) := by decide +kernel
theorem dX5_snapshot_140 : decode cX5_snapshot 140 = .ok (.aload_n 0, 1) := by decide +kernel
theorem dX5_snapshot_141 : decode cX5_snapshot 141 = .ok (.getfield 26, 3) := by decide +kernel
theorem dX5_snapshot_144 : decode cX5_snapshot 144 = .ok (.iload_n 2, 1) := by decide +kernel
theorem dX5_snapshot_145 : decode cX5_snapshot 145 = .ok (.aload_n 0, 1) := by decide +kernel
theorem dX5_snapshot_146 : decode cX5_snapshot 146 = .ok (.getfield 68, 3) := by decide +kernel
theorem dX5_snapshot_149 : decode cX5_snapshot 149 = .ok (.iload_n 1, 1) := by decide +kernel
theorem dX5_snapshot_150 : decode cX5_snapshot 150 = .ok (.iaload, 1) := by decide +kernel
theorem dX5_snapshot_151 : decode cX5_snapshot 151 = .ok (.iastore, 1) := by decide +kernel
theorem dX5_snapshot_152 : decode cX5_snapshot 152 = .ok (.aload_n 0, 1) := by decide +kernel
theorem dX5_snapshot_153 : decode cX5_snapshot 153 = .ok (.getfield 29, 3) := by decide +kernel
theorem dX5_snapshot_156 : decode cX5_snapshot 156 = .ok (.iload_n 2, 1) := by decide +kernel
theorem dX5_snapshot_157 : decode cX5_snapshot 157 = .ok (.aload_n 0, 1) := by decide +kernel
theorem dX5_snapshot_158 : decode cX5_snapshot 158 = .ok (.getfield 77, 3) := by decide +kernel
theorem dX5_snapshot_161 : decode cX5_snapshot 161 = .ok (.iload_n 1, 1) := by decide +kernel
theorem dX5_snapshot_162 : decode cX5_snapshot 162 = .ok (.iaload, 1) := by decide +kernel
theorem dX5_snapshot_163 : decode cX5_snapshot 163 = .ok (.iastore, 1) := by decide +kernel
theorem dX5_snapshot_164 : decode cX5_snapshot 164 = .ok (.aload_n 0, 1) := by decide +kernel
theorem dX5_snapshot_165 : decode cX5_snapshot 165 = .ok (.getfield 32, 3) := by decide +kernel
theorem dX5_snapshot_168 : decode cX5_snapshot 168 = .ok (.iload_n 2, 1) := by decide +kernel
theorem dX5_snapshot_169 : decode cX5_snapshot 169 = .ok (.iload 4, 2) := by decide +kernel
theorem dX5_snapshot_171 : decode cX5_snapshot 171 = .ok (.iastore, 1) := by decide +kernel
theorem dX5_snapshot_172 : decode cX5_snapshot 172 = .ok (.aload_n 0, 1) := by decide +kernel
theorem dX5_snapshot_173 : decode cX5_snapshot 173 = .ok (.iconst 4, 1) := by decide +kernel
theorem dX5_snapshot_174 : decode cX5_snapshot 174 = .ok (.iload_n 2, 1) := by decide +kernel
theorem dX5_snapshot_175 : decode cX5_snapshot 175 = .ok (.iload_n 3, 1) := by decide +kernel
theorem dX5_snapshot_176 : decode cX5_snapshot 176 = .ok (.iconst 1, 1) := by decide +kernel
theorem dX5_snapshot_177 : decode cX5_snapshot 177 = .ok (.iload 4, 2) := by decide +kernel
theorem dX5_snapshot_179 : decode cX5_snapshot 179 = .ok (.invokevirtual 159, 3) := by decide +kernel
theorem dX5_snapshot_182 : decode cX5_snapshot 182 = .ok (.return_, 1) := by decide +kernel
theorem dX5_drop_0 : decode cX5_drop 0 = .ok (.aload_n 0, 1) := by decide +kernel
theorem dX5_drop_1 : decode cX5_drop 1 = .ok (.iload_n 1, 1) := by decide +kernel
theorem dX5_drop_2 : decode cX5_drop 2 = .ok (.invokevirtual 137, 3) := by decide +kernel
theorem dX5_drop_5 : decode cX5_drop 5 = .ok (.ifCond .ne 5, 3) := by decide +kernel
theorem dX5_drop_8 : decode cX5_drop 8 = .ok (.iconst (-1), 1) := by decide +kernel
theorem dX5_drop_9 : decode cX5_drop 9 = .ok (.ireturn, 1) := by decide +kernel
theorem dX5_drop_10 : decode cX5_drop 10 = .ok (.aload_n 0, 1) := by decide +kernel
theorem dX5_drop_11 : decode cX5_drop 11 = .ok (.getfield 53, 3) := by decide +kernel
theorem dX5_drop_14 : decode cX5_drop 14 = .ok (.iload_n 1, 1) := by decide +kernel
theorem dX5_drop_15 : decode cX5_drop 15 = .ok (.iaload, 1) := by decide +kernel
theorem dX5_drop_16 : decode cX5_drop 16 = .ok (.ifCond .ne 6, 3) := by decide +kernel
theorem dX5_drop_19 : decode cX5_drop 19 = .ok (.bipush (-5), 2) := by decide +kernel
theorem dX5_drop_21 : decode cX5_drop 21 = .ok (.ireturn, 1) := by decide +kernel
theorem dX5_drop_22 : decode cX5_drop 22 = .ok (.aload_n 0, 1) := by decide +kernel
theorem dX5_drop_23 : decode cX5_drop 23 = .ok (.getfield 53, 3) := by decide +kernel
theorem dX5_drop_26 : decode cX5_drop 26 = .ok (.iload_n 1, 1) := by decide +kernel
theorem dX5_drop_27 : decode cX5_drop 27 = .ok (.iconst 0, 1) := by decide +kernel
theorem dX5_drop_28 : decode cX5_drop 28 = .ok (.iastore, 1) := by decide +kernel
theorem dX5_drop_29 : decode cX5_drop 29 = .ok (.iconst 0, 1) := by decide +kernel
theorem dX5_drop_30 : decode cX5_drop 30 = .ok (.ireturn, 1) := by decide +kernel
theorem dX5_duplicate_0 : decode cX5_duplicate 0 = .ok (.aload_n 0, 1) := by decide +kernel
theorem dX5_duplicate_1 : decode cX5_duplicate 1 = .ok (.iload_n 1, 1) := by decide +kernel
theorem dX5_duplicate_2 : decode cX5_duplicate 2 = .ok (.invokevirtual 137, 3) := by decide +kernel
theorem dX5_duplicate_5 : decode cX5_duplicate 5 = .ok (.ifCond .ne 5, 3) := by decide +kernel
theorem dX5_duplicate_8 : decode cX5_duplicate 8 = .ok (.iconst (-1), 1) := by decide +kernel
theorem dX5_duplicate_9 : decode cX5_duplicate 9 = .ok (.ireturn, 1) := by decide +kernel
theorem dX5_duplicate_10 : decode cX5_duplicate 10 = .ok (.aload_n 0, 1) := by decide +kernel
theorem dX5_duplicate_11 : decode cX5_duplicate 11 = .ok (.getfield 53, 3) := by decide +kernel
theorem dX5_duplicate_14 : decode cX5_duplicate 14 = .ok (.iload_n 1, 1) := by decide +kernel
theorem dX5_duplicate_15 : decode cX5_duplicate 15 = .ok (.iaload, 1) := by decide +kernel
theorem dX5_duplicate_16 : decode cX5_duplicate 16 = .ok (.ifCond .ne 6, 3) := by decide +kernel
theorem dX5_duplicate_19 : decode cX5_duplicate 19 = .ok (.bipush (-5), 2) := by decide +kernel
theorem dX5_duplicate_21 : decode cX5_duplicate 21 = .ok (.ireturn, 1) := by decide +kernel
theorem dX5_duplicate_22 : decode cX5_duplicate 22 = .ok (.aload_n 0, 1) := by decide +kernel
theorem dX5_duplicate_23 : decode cX5_duplicate 23 = .ok (.invokevirtual 109, 3) := by decide +kernel
theorem dX5_duplicate_26 : decode cX5_duplicate 26 = .ok (.istore_n 2, 1) := by decide +kernel
theorem dX5_duplicate_27 : decode cX5_duplicate 27 = .ok (.iload_n 2, 1) := by decide +kernel
theorem dX5_duplicate_28 : decode cX5_duplicate 28 = .ok (.ifCond .ge 6, 3) := by decide +kernel
theorem dX5_duplicate_31 : decode cX5_duplicate 31 = .ok (.bipush (-4), 2) := by decide +kernel
theorem dX5_duplicate_33 : decode cX5_duplicate 33 = .ok (.ireturn, 1) := by decide +kernel
theorem dX5_duplicate_34 : decode cX5_duplicate 34 = .ok (.aload_n 0, 1) := by decide +kernel
theorem dX5_duplicate_35 : decode cX5_duplicate 35 = .ok (.getfield 53, 3) := by decide +kernel
theorem dX5_duplicate_38 : decode cX5_duplicate 38 = .ok (.iload_n 2, 1) := by decide +kernel
theorem dX5_duplicate_39 : decode cX5_duplicate 39 = .ok (.aload_n 0, 1) := by decide +kernel
theorem dX5_duplicate_40 : decode cX5_duplicate 40 = .ok (.getfield 53, 3) := by decide +kernel
theorem dX5_duplicate_43 : decode cX5_duplicate 43 = .ok (.iload_n 1, 1) := by decide +kernel
theorem dX5_duplicate_44 : decode cX5_duplicate 44 = .ok (.iaload, 1) := by decide +kernel
theorem dX5_duplicate_45 : decode cX5_duplicate 45 = .ok (.iastore, 1) := by decide +kernel
theorem dX5_duplicate_46 : decode cX5_duplicate 46 = .ok (.aload_n 0, 1) := by decide +kernel
theorem dX5_duplicate_47 : decode cX5_duplicate 47 = .ok (.getfield 56, 3) := by decide +kernel
theorem dX5_duplicate_50 : decode cX5_duplicate 50 = .ok (.iload_n 2, 1) := by decide +kernel
theorem dX5_duplicate_51 : decode cX5_duplicate 51 = .ok (.aload_n 0, 1) := by decide +kernel
theorem dX5_duplicate_52 : decode cX5_duplicate 52 = .ok (.getfield 56, 3) := by decide +kernel
theorem dX5_duplicate_55 : decode cX5_duplicate 55 = .ok (.iload_n 1, 1) := by decide +kernel
theorem dX5_duplicate_56 : decode cX5_duplicate 56 = .ok (.iaload, 1) := by decide +kernel
theorem dX5_duplicate_57 : decode cX5_duplicate 57 = .ok (.iastore, 1) := by decide +kernel
theorem dX5_duplicate_58 : decode cX5_duplicate 58 = .ok (.aload_n 0, 1) := by decide +kernel
theorem dX5_duplicate_59 : decode cX5_duplicate 59 = .ok (.getfield 59, 3) := by decide +kernel
theorem dX5_duplicate_62 : decode cX5_duplicate 62 = .ok (.iload_n 2, 1) := by decide +kernel
theorem dX5_duplicate_63 : decode cX5_duplicate 63 = .ok (.aload_n 0, 1) := by decide +kernel
theorem dX5_duplicate_64 : decode cX5_duplicate 64 = .ok (.getfield 59, 3) := by decide +kernel
theorem dX5_duplicate_67 : decode cX5_duplicate 67 = .ok (.iload_n 1, 1) := by decide +kernel
theorem dX5_duplicate_68 : decode cX5_duplicate 68 = .ok (.iaload, 1) := by decide +kernel
theorem dX5_duplicate_69 : decode cX5_duplicate 69 = .ok (.iastore, 1) := by decide +kernel
theorem dX5_duplicate_70 : decode cX5_duplicate 70 = .ok (.aload_n 0, 1) := by decide +kernel
theorem dX5_duplicate_71 : decode cX5_duplicate 71 = .ok (.getfield 62, 3) := by decide +kernel
theorem dX5_duplicate_74 : decode cX5_duplicate 74 = .ok (.iload_n 2, 1) := by decide +kernel
theorem dX5_duplicate_75 : decode cX5_duplicate 75 = .ok (.aload_n 0, 1) := by decide +kernel
theorem dX5_duplicate_76 : decode cX5_duplicate 76 = .ok (.getfield 62, 3) := by decide +kernel
theorem dX5_duplicate_79 : decode cX5_duplicate 79 = .ok (.iload_n 1, 1) := by decide +kernel
theorem dX5_duplicate_80 : decode cX5_duplicate 80 = .ok (.iaload, 1) := by decide +kernel
theorem dX5_duplicate_81 : decode cX5_duplicate 81 = .ok (.iastore, 1) := by decide +kernel
theorem dX5_duplicate_82 : decode cX5_duplicate 82 = .ok (.aload_n 0, 1) := by decide +kernel
theorem dX5_duplicate_83 : decode cX5_duplicate 83 = .ok (.getfield 65, 3) := by decide +kernel
theorem dX5_duplicate_86 : decode cX5_duplicate 86 = .ok (.iload_n 2, 1) := by decide +kernel
theorem dX5_duplicate_87 : decode cX5_duplicate 87 = .ok (.aload_n 0, 1) := by decide +kernel
theorem dX5_duplicate_88 : decode cX5_duplicate 88 = .ok (.getfield 65, 3) := by decide +kernel
theorem dX5_duplicate_91 : decode cX5_duplicate 91 = .ok (.iload_n 1, 1) := by decide +kernel
theorem dX5_duplicate_92 : decode cX5_duplicate 92 = .ok (.iaload, 1) := by decide +kernel
theorem dX5_duplicate_93 : decode cX5_duplicate 93 = .ok (.iastore, 1) := by decide +kernel
theorem dX5_duplicate_94 : decode cX5_duplicate 94 = .ok (.aload_n 0, 1) := by decide +kernel
theorem dX5_duplicate_95 : decode cX5_duplicate 95 = .ok (.getfield 68, 3) := by decide +kernel
theorem dX5_duplicate_98 : decode cX5_duplicate 98 = .ok (.iload_n 2, 1) := by decide +kernel
theorem dX5_duplicate_99 : decode cX5_duplicate 99 = .ok (.aload_n 0, 1) := by decide +kernel
theorem dX5_duplicate_100 : decode cX5_duplicate 100 = .ok (.getfield 68, 3) := by decide +kernel
theorem dX5_duplicate_103 : decode cX5_duplicate 103 = .ok (.iload_n 1, 1) := by decide +kernel
theorem dX5_duplicate_104 : decode cX5_duplicate 104 = .ok (.iaload, 1) := by decide +kernel
theorem dX5_duplicate_105 : decode cX5_duplicate 105 = .ok (.iastore, 1) := by decide +kernel
theorem dX5_duplicate_106 : decode cX5_duplicate 106 = .ok (.aload_n 0, 1) := by decide +kernel
theorem dX5_duplicate_107 : decode cX5_duplicate 107 = .ok (.getfield 71, 3) := by decide +kernel
theorem dX5_duplicate_110 : decode cX5_duplicate 110 = .ok (.iload_n 2, 1) := by decide +kernel
theorem dX5_duplicate_111 : decode cX5_duplicate 111 = .ok (.aload_n 0, 1) := by decide +kernel
theorem dX5_duplicate_112 : decode cX5_duplicate 112 = .ok (.getfield 71, 3) := by decide +kernel
theorem dX5_duplicate_115 : decode cX5_duplicate 115 = .ok (.iload_n 1, 1) := by decide +kernel
theorem dX5_duplicate_116 : decode cX5_duplicate 116 = .ok (.baload, 1) := by decide +kernel
theorem dX5_duplicate_117 : decode cX5_duplicate 117 = .ok (.bastore, 1) := by decide +kernel
theorem dX5_duplicate_118 : decode cX5_duplicate 118 = .ok (.aload_n 0, 1) := by decide +kernel
theorem dX5_duplicate_119 : decode cX5_duplicate 119 = .ok (.getfield 74, 3) := by decide +kernel
theorem dX5_duplicate_122 : decode cX5_duplicate 122 = .ok (.iload_n 2, 1) := by decide +kernel
theorem dX5_duplicate_123 : decode cX5_duplicate 123 = .ok (.aload_n 0, 1) := by decide +kernel
theorem dX5_duplicate_124 : decode cX5_duplicate 124 = .ok (.getfield 74, 3) := by decide +kernel
theorem dX5_duplicate_127 : decode cX5_duplicate 127 = .ok (.iload_n 1, 1) := by decide +kernel
theorem dX5_duplicate_128 : decode cX5_duplicate 128 = .ok (.iaload, 1) := by decide +kernel
theorem dX5_duplicate_129 : decode cX5_duplicate 129 = .ok (.iastore, 1) := by decide +kernel
theorem dX5_duplicate_130 : decode cX5_duplicate 130 = .ok (.aload_n 0, 1) := by decide +kernel
theorem dX5_duplicate_131 : decode cX5_duplicate 131 = .ok (.getfield 77, 3) := by decide +kernel
theorem dX5_duplicate_134 : decode cX5_duplicate 134 = .ok (.iload_n 2, 1) := by decide +kernel
theorem dX5_duplicate_135 : decode cX5_duplicate 135 = .ok (.aload_n 0, 1) := by decide +kernel
theorem dX5_duplicate_136 : decode cX5_duplicate 136 = .ok (.getfield 77, 3) := by decide +kernel
theorem dX5_duplicate_139 : decode cX5_duplicate 139 = .ok (.iload_n 1, 1) := by decide +kernel
theorem dX5_duplicate_140 : decode cX5_duplicate 140 = .ok (.iaload, 1) := by decide +kernel
theorem dX5_duplicate_141 : decode cX5_duplicate 141 = .ok (.iastore, 1) := by decide +kernel
theorem dX5_duplicate_142 : decode cX5_duplicate 142 = .ok (.aload_n 0, 1) := by decide +kernel
theorem dX5_duplicate_143 : decode cX5_duplicate 143 = .ok (.getfield 80, 3) := by decide +kernel
theorem dX5_duplicate_146 : decode cX5_duplicate 146 = .ok (.iload_n 2, 1) := by decide +kernel
theorem dX5_duplicate_147 : decode cX5_duplicate 147 = .ok (.aload_n 0, 1) := by decide +kernel
theorem dX5_duplicate_148 : decode cX5_duplicate 148 = .ok (.getfield 80, 3) := by decide +kernel
theorem dX5_duplicate_151 : decode cX5_duplicate 151 = .ok (.iload_n 1, 1) := by decide +kernel
theorem dX5_duplicate_152 : decode cX5_duplicate 152 = .ok (.iaload, 1) := by decide +kernel
theorem dX5_duplicate_153 : decode cX5_duplicate 153 = .ok (.iastore, 1) := by decide +kernel
theorem dX5_duplicate_154 : decode cX5_duplicate 154 = .ok (.iload_n 2, 1) := by decide +kernel
theorem dX5_duplicate_155 : decode cX5_duplicate 155 = .ok (.ireturn, 1) := by decide +kernel
theorem dX5_crash_0 : decode cX5_crash 0 = .ok (.aload_n 0, 1) := by decide +kernel
theorem dX5_crash_1 : decode cX5_crash 1 = .ok (.iload_n 1, 1) := by decide +kernel
theorem dX5_crash_2 : decode cX5_crash 2 = .ok (.invokevirtual 116, 3) := by decide +kernel
theorem dX5_crash_5 : decode cX5_crash 5 = .ok (.ifCond .ne 5, 3) := by decide +kernel
theorem dX5_crash_8 : decode cX5_crash 8 = .ok (.iconst (-1), 1) := by decide +kernel
theorem dX5_crash_9 : decode cX5_crash 9 = .ok (.ireturn, 1) := by decide +kernel
theorem dX5_crash_10 : decode cX5_crash 10 = .ok (.aload_n 0, 1) := by decide +kernel
theorem dX5_crash_11 : decode cX5_crash 11 = .ok (.getfield 7, 3) := by decide +kernel
theorem dX5_crash_14 : decode cX5_crash 14 = .ok (.iload_n 1, 1) := by decide +kernel
theorem dX5_crash_15 : decode cX5_crash 15 = .ok (.baload, 1) := by decide +kernel
theorem dX5_crash_16 : decode cX5_crash 16 = .ok (.ifCond .ne 6, 3) := by decide +kernel
theorem dX5_crash_19 : decode cX5_crash 19 = .ok (.bipush (-2), 2) := by decide +kernel
theorem dX5_crash_21 : decode cX5_crash 21 = .ok (.ireturn, 1) := by decide +kernel
theorem dX5_crash_22 : decode cX5_crash 22 = .ok (.aload_n 0, 1) := by decide +kernel
theorem dX5_crash_23 : decode cX5_crash 23 = .ok (.getfield 7, 3) := by decide +kernel
theorem dX5_crash_26 : decode cX5_crash 26 = .ok (.iload_n 1, 1) := by decide +kernel
theorem dX5_crash_27 : decode cX5_crash 27 = .ok (.iconst 0, 1) := by decide +kernel
theorem dX5_crash_28 : decode cX5_crash 28 = .ok (.bastore, 1) := by decide +kernel
theorem dX5_crash_29 : decode cX5_crash 29 = .ok (.aload_n 0, 1) := by decide +kernel
theorem dX5_crash_30 : decode cX5_crash 30 = .ok (.getfield 13, 3) := by decide +kernel
theorem dX5_crash_33 : decode cX5_crash 33 = .ok (.iload_n 1, 1) := by decide +kernel
theorem dX5_crash_34 : decode cX5_crash 34 = .ok (.iconst 0, 1) := by decide +kernel
theorem dX5_crash_35 : decode cX5_crash 35 = .ok (.iastore, 1) := by decide +kernel
theorem dX5_crash_36 : decode cX5_crash 36 = .ok (.iconst 0, 1) := by decide +kernel
theorem dX5_crash_37 : decode cX5_crash 37 = .ok (.ireturn, 1) := by decide +kernel
theorem dX5_restart_0 : decode cX5_restart 0 = .ok (.aload_n 0, 1) := by decide +kernel
theorem dX5_restart_1 : decode cX5_restart 1 = .ok (.iload_n 1, 1) := by decide +kernel
theorem dX5_restart_2 : decode cX5_restart 2 = .ok (.invokevirtual 116, 3) := by decide +kernel
theorem dX5_restart_5 : decode cX5_restart 5 = .ok (.ifCond .ne 5, 3) := by decide +kernel
theorem dX5_restart_8 : decode cX5_restart 8 = .ok (.iconst (-1), 1) := by decide +kernel
theorem dX5_restart_9 : decode cX5_restart 9 = .ok (.ireturn, 1) := by decide +kernel
theorem dX5_restart_10 : decode cX5_restart 10 = .ok (.aload_n 0, 1) := by decide +kernel
theorem dX5_restart_11 : decode cX5_restart 11 = .ok (.getfield 7, 3) := by decide +kernel
theorem dX5_restart_14 : decode cX5_restart 14 = .ok (.iload_n 1, 1) := by decide +kernel
theorem dX5_restart_15 : decode cX5_restart 15 = .ok (.baload, 1) := by decide +kernel
theorem dX5_restart_16 : decode cX5_restart 16 = .ok (.ifCond .eq 6, 3) := by decide +kernel
theorem dX5_restart_19 : decode cX5_restart 19 = .ok (.bipush (-2), 2) := by decide +kernel
theorem dX5_restart_21 : decode cX5_restart 21 = .ok (.ireturn, 1) := by decide +kernel
theorem dX5_restart_22 : decode cX5_restart 22 = .ok (.aload_n 0, 1) := by decide +kernel
theorem dX5_restart_23 : decode cX5_restart 23 = .ok (.getfield 7, 3) := by decide +kernel
theorem dX5_restart_26 : decode cX5_restart 26 = .ok (.iload_n 1, 1) := by decide +kernel
theorem dX5_restart_27 : decode cX5_restart 27 = .ok (.iconst 1, 1) := by decide +kernel
theorem dX5_restart_28 : decode cX5_restart 28 = .ok (.bastore, 1) := by decide +kernel
theorem dX5_restart_29 : decode cX5_restart 29 = .ok (.aload_n 0, 1) := by decide +kernel
theorem dX5_restart_30 : decode cX5_restart 30 = .ok (.getfield 32, 3) := by decide +kernel
theorem dX5_restart_33 : decode cX5_restart 33 = .ok (.iload_n 1, 1) := by decide +kernel
theorem dX5_restart_34 : decode cX5_restart 34 = .ok (.aload_n 0, 1) := by decide +kernel
theorem dX5_restart_35 : decode cX5_restart 35 = .ok (.getfield 23, 3) := by decide +kernel
theorem dX5_restart_38 : decode cX5_restart 38 = .ok (.iload_n 1, 1) := by decide +kernel
theorem dX5_restart_39 : decode cX5_restart 39 = .ok (.iaload, 1) := by decide +kernel
theorem dX5_restart_40 : decode cX5_restart 40 = .ok (.iastore, 1) := by decide +kernel
theorem dX5_restart_41 : decode cX5_restart 41 = .ok (.iconst 0, 1) := by decide +kernel
theorem dX5_restart_42 : decode cX5_restart 42 = .ok (.ireturn, 1) := by decide +kernel
theorem dX5_role_0 : decode cX5_role 0 = .ok (.aload_n 0, 1) := by decide +kernel
theorem dX5_role_1 : decode cX5_role 1 = .ok (.iload_n 1, 1) := by decide +kernel
theorem dX5_role_2 : decode cX5_role 2 = .ok (.invokevirtual 116, 3) := by decide +kernel
theorem dX5_role_5 : decode cX5_role 5 = .ok (.ifCond .eq 27, 3) := by decide +kernel
theorem dX5_role_8 : decode cX5_role 8 = .ok (.aload_n 0, 1) := by decide +kernel
theorem dX5_role_9 : decode cX5_role 9 = .ok (.getfield 13, 3) := by decide +kernel
theorem dX5_role_12 : decode cX5_role 12 = .ok (.iload_n 1, 1) := by decide +kernel
theorem dX5_role_13 : decode cX5_role 13 = .ok (.iaload, 1) := by decide +kernel
theorem dX5_role_14 : decode cX5_role 14 = .ok (.aload_n 0, 1) := by decide +kernel
theorem dX5_role_15 : decode cX5_role 15 = .ok (.getfield 7, 3) := by decide +kernel
theorem dX5_role_18 : decode cX5_role 18 = .ok (.iload_n 1, 1) := by decide +kernel
theorem dX5_role_19 : decode cX5_role 19 = .ok (.baload, 1) := by decide +kernel
theorem dX5_role_20 : decode cX5_role 20 = .ok (.ifCond .eq 7, 3) := by decide +kernel
theorem dX5_role_23 : decode cX5_role 23 = .ok (.iconst 4, 1) := by decide +kernel
theorem dX5_role_24 : decode cX5_role 24 = .ok (.goto 4, 3) := by decide +kernel
theorem dX5_role_27 : decode cX5_role 27 = .ok (.iconst 0, 1) := by decide +kernel
theorem dX5_role_28 : decode cX5_role 28 = .ok (.iadd, 1) := by decide +kernel
theorem dX5_role_29 : decode cX5_role 29 = .ok (.goto 4, 3) := by decide +kernel
theorem dX5_role_32 : decode cX5_role 32 = .ok (.iconst (-1), 1) := by decide +kernel
theorem dX5_role_33 : decode cX5_role 33 = .ok (.ireturn, 1) := by decide +kernel
theorem dX5_term_0 : decode cX5_term 0 = .ok (.aload_n 0, 1) := by decide +kernel
theorem dX5_term_1 : decode cX5_term 1 = .ok (.iload_n 1, 1) := by decide +kernel
theorem dX5_term_2 : decode cX5_term 2 = .ok (.invokevirtual 116, 3) := by decide +kernel
theorem dX5_term_5 : decode cX5_term 5 = .ok (.ifCond .eq 12, 3) := by decide +kernel
theorem dX5_term_8 : decode cX5_term 8 = .ok (.aload_n 0, 1) := by decide +kernel
theorem dX5_term_9 : decode cX5_term 9 = .ok (.getfield 17, 3) := by decide +kernel
theorem dX5_term_12 : decode cX5_term 12 = .ok (.iload_n 1, 1) := by decide +kernel
theorem dX5_term_13 : decode cX5_term 13 = .ok (.iaload, 1) := by decide +kernel
theorem dX5_term_14 : decode cX5_term 14 = .ok (.goto 4, 3) := by decide +kernel
theorem dX5_term_17 : decode cX5_term 17 = .ok (.iconst (-1), 1) := by decide +kernel
theorem dX5_term_18 : decode cX5_term 18 = .ok (.ireturn, 1) := by decide +kernel
theorem dX5_vote_0 : decode cX5_vote 0 = .ok (.aload_n 0, 1) := by decide +kernel
theorem dX5_vote_1 : decode cX5_vote 1 = .ok (.iload_n 1, 1) := by decide +kernel
theorem dX5_vote_2 : decode cX5_vote 2 = .ok (.invokevirtual 116, 3) := by decide +kernel
theorem dX5_vote_5 : decode cX5_vote 5 = .ok (.ifCond .eq 12, 3) := by decide +kernel
theorem dX5_vote_8 : decode cX5_vote 8 = .ok (.aload_n 0, 1) := by decide +kernel
theorem dX5_vote_9 : decode cX5_vote 9 = .ok (.getfield 20, 3) := by decide +kernel
theorem dX5_vote_12 : decode cX5_vote 12 = .ok (.iload_n 1, 1) := by decide +kernel
theorem dX5_vote_13 : decode cX5_vote 13 = .ok (.iaload, 1) := by decide +kernel
theorem dX5_vote_14 : decode cX5_vote 14 = .ok (.goto 4, 3) := by decide +kernel
theorem dX5_vote_17 : decode cX5_vote 17 = .ok (.iconst (-1), 1) := by decide +kernel
theorem dX5_vote_18 : decode cX5_vote 18 = .ok (.ireturn, 1) := by decide +kernel
theorem dX5_base_0 : decode cX5_base 0 = .ok (.aload_n 0, 1) := by decide +kernel
theorem dX5_base_1 : decode cX5_base 1 = .ok (.iload_n 1, 1) := by decide +kernel
theorem dX5_base_2 : decode cX5_base 2 = .ok (.invokevirtual 116, 3) := by decide +kernel
theorem dX5_base_5 : decode cX5_base 5 = .ok (.ifCond .eq 12, 3) := by decide +kernel
theorem dX5_base_8 : decode cX5_base 8 = .ok (.aload_n 0, 1) := by decide +kernel
theorem dX5_base_9 : decode cX5_base 9 = .ok (.getfield 23, 3) := by decide +kernel
theorem dX5_base_12 : decode cX5_base 12 = .ok (.iload_n 1, 1) := by decide +kernel
theorem dX5_base_13 : decode cX5_base 13 = .ok (.iaload, 1) := by decide +kernel
theorem dX5_base_14 : decode cX5_base 14 = .ok (.goto 4, 3) := by decide +kernel
theorem dX5_base_17 : decode cX5_base 17 = .ok (.iconst (-1), 1) := by decide +kernel
theorem dX5_base_18 : decode cX5_base 18 = .ok (.ireturn, 1) := by decide +kernel
theorem dX5_last_0 : decode cX5_last 0 = .ok (.aload_n 0, 1) := by decide +kernel
theorem dX5_last_1 : decode cX5_last 1 = .ok (.iload_n 1, 1) := by decide +kernel
theorem dX5_last_2 : decode cX5_last 2 = .ok (.invokevirtual 116, 3) := by decide +kernel
theorem dX5_last_5 : decode cX5_last 5 = .ok (.ifCond .eq 11, 3) := by decide +kernel
theorem dX5_last_8 : decode cX5_last 8 = .ok (.aload_n 0, 1) := by decide +kernel
theorem dX5_last_9 : decode cX5_last 9 = .ok (.iload_n 1, 1) := by decide +kernel
theorem dX5_last_10 : decode cX5_last 10 = .ok (.invokevirtual 97, 3) := by decide +kernel
theorem dX5_last_13 : decode cX5_last 13 = .ok (.goto 4, 3) := by decide +kernel
theorem dX5_last_16 : decode cX5_last 16 = .ok (.iconst (-1), 1) := by decide +kernel
theorem dX5_last_17 : decode cX5_last 17 = .ok (.ireturn, 1) := by decide +kernel
theorem dX5_commit_0 : decode cX5_commit 0 = .ok (.aload_n 0, 1) := by decide +kernel
theorem dX5_commit_1 : decode cX5_commit 1 = .ok (.iload_n 1, 1) := by decide +kernel
theorem dX5_commit_2 : decode cX5_commit 2 = .ok (.invokevirtual 116, 3) := by decide +kernel
theorem dX5_commit_5 : decode cX5_commit 5 = .ok (.ifCond .eq 12, 3) := by decide +kernel
theorem dX5_commit_8 : decode cX5_commit 8 = .ok (.aload_n 0, 1) := by decide +kernel
theorem dX5_commit_9 : decode cX5_commit 9 = .ok (.getfield 32, 3) := by decide +kernel
theorem dX5_commit_12 : decode cX5_commit 12 = .ok (.iload_n 1, 1) := by decide +kernel
theorem dX5_commit_13 : decode cX5_commit 13 = .ok (.iaload, 1) := by decide +kernel
theorem dX5_commit_14 : decode cX5_commit 14 = .ok (.goto 4, 3) := by decide +kernel
theorem dX5_commit_17 : decode cX5_commit 17 = .ok (.iconst (-1), 1) := by decide +kernel
theorem dX5_commit_18 : decode cX5_commit 18 = .ok (.ireturn, 1) := by decide +kernel
theorem dX5_termAt_0 : decode cX5_termAt 0 = .ok (.aload_n 0, 1) := by decide +kernel
theorem dX5_termAt_1 : decode cX5_termAt 1 = .ok (.iload_n 1, 1) := by decide +kernel
theorem dX5_termAt_2 : decode cX5_termAt 2 = .ok (.invokevirtual 116, 3) := by decide +kernel
theorem dX5_termAt_5 : decode cX5_termAt 5 = .ok (.ifCond .eq 12, 3) := by decide +kernel
theorem dX5_termAt_8 : decode cX5_termAt 8 = .ok (.aload_n 0, 1) := by decide +kernel
theorem dX5_termAt_9 : decode cX5_termAt 9 = .ok (.iload_n 1, 1) := by decide +kernel
theorem dX5_termAt_10 : decode cX5_termAt 10 = .ok (.iload_n 2, 1) := by decide +kernel
theorem dX5_termAt_11 : decode cX5_termAt 11 = .ok (.invokevirtual 123, 3) := by decide +kernel
theorem dX5_termAt_14 : decode cX5_termAt 14 = .ok (.goto 4, 3) := by decide +kernel
theorem dX5_termAt_17 : decode cX5_termAt 17 = .ok (.iconst (-1), 1) := by decide +kernel
theorem dX5_termAt_18 : decode cX5_termAt 18 = .ok (.ireturn, 1) := by decide +kernel
theorem dX5_commandAt_0 : decode cX5_commandAt 0 = .ok (.aload_n 0, 1) := by decide +kernel
theorem dX5_commandAt_1 : decode cX5_commandAt 1 = .ok (.iload_n 1, 1) := by decide +kernel
theorem dX5_commandAt_2 : decode cX5_commandAt 2 = .ok (.invokevirtual 116, 3) := by decide +kernel
theorem dX5_commandAt_5 : decode cX5_commandAt 5 = .ok (.ifCond .eq 26, 3) := by decide +kernel
theorem dX5_commandAt_8 : decode cX5_commandAt 8 = .ok (.aload_n 0, 1) := by decide +kernel
theorem dX5_commandAt_9 : decode cX5_commandAt 9 = .ok (.iload_n 1, 1) := by decide +kernel
theorem dX5_commandAt_10 : decode cX5_commandAt 10 = .ok (.iload_n 2, 1) := by decide +kernel
theorem dX5_commandAt_11 : decode cX5_commandAt 11 = .ok (.invokevirtual 101, 3) := by decide +kernel
theorem dX5_commandAt_14 : decode cX5_commandAt 14 = .ok (.ifCond .eq 17, 3) := by decide +kernel
theorem dX5_commandAt_17 : decode cX5_commandAt 17 = .ok (.aload_n 0, 1) := by decide +kernel
theorem dX5_commandAt_18 : decode cX5_commandAt 18 = .ok (.getfield 44, 3) := by decide +kernel
theorem dX5_commandAt_21 : decode cX5_commandAt 21 = .ok (.aload_n 0, 1) := by decide +kernel
theorem dX5_commandAt_22 : decode cX5_commandAt 22 = .ok (.iload_n 1, 1) := by decide +kernel
theorem dX5_commandAt_23 : decode cX5_commandAt 23 = .ok (.iload_n 2, 1) := by decide +kernel
theorem dX5_commandAt_24 : decode cX5_commandAt 24 = .ok (.invokevirtual 105, 3) := by decide +kernel
theorem dX5_commandAt_27 : decode cX5_commandAt 27 = .ok (.iaload, 1) := by decide +kernel
theorem dX5_commandAt_28 : decode cX5_commandAt 28 = .ok (.goto 4, 3) := by decide +kernel
theorem dX5_commandAt_31 : decode cX5_commandAt 31 = .ok (.iconst 0, 1) := by decide +kernel
theorem dX5_commandAt_32 : decode cX5_commandAt 32 = .ok (.ireturn, 1) := by decide +kernel
theorem dX5_state_0 : decode cX5_state 0 = .ok (.aload_n 0, 1) := by decide +kernel
theorem dX5_state_1 : decode cX5_state 1 = .ok (.iload_n 1, 1) := by decide +kernel
theorem dX5_state_2 : decode cX5_state 2 = .ok (.invokevirtual 116, 3) := by decide +kernel
theorem dX5_state_5 : decode cX5_state 5 = .ok (.ifCond .eq 17, 3) := by decide +kernel
theorem dX5_state_8 : decode cX5_state 8 = .ok (.aload_n 0, 1) := by decide +kernel
theorem dX5_state_9 : decode cX5_state 9 = .ok (.iload_n 1, 1) := by decide +kernel
theorem dX5_state_10 : decode cX5_state 10 = .ok (.aload_n 0, 1) := by decide +kernel
theorem dX5_state_11 : decode cX5_state 11 = .ok (.getfield 32, 3) := by decide +kernel
theorem dX5_state_14 : decode cX5_state 14 = .ok (.iload_n 1, 1) := by decide +kernel
theorem dX5_state_15 : decode cX5_state 15 = .ok (.iaload, 1) := by decide +kernel
theorem dX5_state_16 : decode cX5_state 16 = .ok (.invokevirtual 130, 3) := by decide +kernel
theorem dX5_state_19 : decode cX5_state 19 = .ok (.goto 4, 3) := by decide +kernel
theorem dX5_state_22 : decode cX5_state 22 = .ok (.iconst 0, 1) := by decide +kernel
theorem dX5_state_23 : decode cX5_state 23 = .ok (.ireturn, 1) := by decide +kernel
theorem dX5_peer_0 : decode cX5_peer 0 = .ok (.aload_n 0, 1) := by decide +kernel
theorem dX5_peer_1 : decode cX5_peer 1 = .ok (.iload_n 1, 1) := by decide +kernel
theorem dX5_peer_2 : decode cX5_peer 2 = .ok (.invokevirtual 116, 3) := by decide +kernel
theorem dX5_peer_5 : decode cX5_peer 5 = .ok (.ifCond .eq 26, 3) := by decide +kernel
theorem dX5_peer_8 : decode cX5_peer 8 = .ok (.aload_n 0, 1) := by decide +kernel
theorem dX5_peer_9 : decode cX5_peer 9 = .ok (.iload_n 2, 1) := by decide +kernel
theorem dX5_peer_10 : decode cX5_peer 10 = .ok (.invokevirtual 116, 3) := by decide +kernel
theorem dX5_peer_13 : decode cX5_peer 13 = .ok (.ifCond .eq 18, 3) := by decide +kernel
theorem dX5_peer_16 : decode cX5_peer 16 = .ok (.iload_n 1, 1) := by decide +kernel
theorem dX5_peer_17 : decode cX5_peer 17 = .ok (.iload_n 2, 1) := by decide +kernel
theorem dX5_peer_18 : decode cX5_peer 18 = .ok (.if_icmp .eq 13, 3) := by decide +kernel
theorem dX5_peer_21 : decode cX5_peer 21 = .ok (.aload_n 0, 1) := by decide +kernel
theorem dX5_peer_22 : decode cX5_peer 22 = .ok (.getfield 13, 3) := by decide +kernel
theorem dX5_peer_25 : decode cX5_peer 25 = .ok (.iload_n 1, 1) := by decide +kernel
theorem dX5_peer_26 : decode cX5_peer 26 = .ok (.iaload, 1) := by decide +kernel
theorem dX5_peer_27 : decode cX5_peer 27 = .ok (.iconst 2, 1) := by decide +kernel
theorem dX5_peer_28 : decode cX5_peer 28 = .ok (.if_icmp .eq 5, 3) := by decide +kernel
theorem dX5_peer_31 : decode cX5_peer 31 = .ok (.iconst (-1), 1) := by decide +kernel
theorem dX5_peer_32 : decode cX5_peer 32 = .ok (.ireturn, 1) := by decide +kernel
theorem dX5_peer_33 : decode cX5_peer 33 = .ok (.aload_n 0, 1) := by decide +kernel
theorem dX5_peer_34 : decode cX5_peer 34 = .ok (.getfield 50, 3) := by decide +kernel
theorem dX5_peer_37 : decode cX5_peer 37 = .ok (.iconst 5, 1) := by decide +kernel
theorem dX5_peer_38 : decode cX5_peer 38 = .ok (.iload_n 1, 1) := by decide +kernel
theorem dX5_peer_39 : decode cX5_peer 39 = .ok (.imul, 1) := by decide +kernel
theorem dX5_peer_40 : decode cX5_peer 40 = .ok (.iload_n 2, 1) := by decide +kernel
theorem dX5_peer_41 : decode cX5_peer 41 = .ok (.iadd, 1) := by decide +kernel
theorem dX5_peer_42 : decode cX5_peer 42 = .ok (.iaload, 1) := by decide +kernel
theorem dX5_peer_43 : decode cX5_peer 43 = .ok (.ldc 174, 2) := by decide +kernel
theorem dX5_peer_45 : decode cX5_peer 45 = .ok (.aload_n 0, 1) := by decide +kernel
theorem dX5_peer_46 : decode cX5_peer 46 = .ok (.getfield 47, 3) := by decide +kernel
theorem dX5_peer_49 : decode cX5_peer 49 = .ok (.iconst 5, 1) := by decide +kernel
theorem dX5_peer_50 : decode cX5_peer 50 = .ok (.iload_n 1, 1) := by decide +kernel
theorem dX5_peer_51 : decode cX5_peer 51 = .ok (.imul, 1) := by decide +kernel
theorem dX5_peer_52 : decode cX5_peer 52 = .ok (.iload_n 2, 1) := by decide +kernel
theorem dX5_peer_53 : decode cX5_peer 53 = .ok (.iadd, 1) := by decide +kernel
theorem dX5_peer_54 : decode cX5_peer 54 = .ok (.iaload, 1) := by decide +kernel
theorem dX5_peer_55 : decode cX5_peer 55 = .ok (.imul, 1) := by decide +kernel
theorem dX5_peer_56 : decode cX5_peer 56 = .ok (.iadd, 1) := by decide +kernel
theorem dX5_peer_57 : decode cX5_peer 57 = .ok (.ireturn, 1) := by decide +kernel
theorem dX5_pending_0 : decode cX5_pending 0 = .ok (.aload_n 0, 1) := by decide +kernel
theorem dX5_pending_1 : decode cX5_pending 1 = .ok (.invokevirtual 120, 3) := by decide +kernel
theorem dX5_pending_4 : decode cX5_pending 4 = .ok (.ireturn, 1) := by decide +kernel
theorem dX5_slot_0 : decode cX5_slot 0 = .ok (.aload_n 0, 1) := by decide +kernel
theorem dX5_slot_1 : decode cX5_slot 1 = .ok (.iload_n 1, 1) := by decide +kernel
theorem dX5_slot_2 : decode cX5_slot 2 = .ok (.invokevirtual 137, 3) := by decide +kernel
theorem dX5_slot_5 : decode cX5_slot 5 = .ok (.ifCond .ne 5, 3) := by decide +kernel
theorem dX5_slot_8 : decode cX5_slot 8 = .ok (.iconst (-1), 1) := by decide +kernel
theorem dX5_slot_9 : decode cX5_slot 9 = .ok (.ireturn, 1) := by decide +kernel
theorem dX5_slot_10 : decode cX5_slot 10 = .ok (.aload_n 0, 1) := by decide +kernel
theorem dX5_slot_11 : decode cX5_slot 11 = .ok (.getfield 53, 3) := by decide +kernel
theorem dX5_slot_14 : decode cX5_slot 14 = .ok (.iload_n 1, 1) := by decide +kernel
theorem dX5_slot_15 : decode cX5_slot 15 = .ok (.iaload, 1) := by decide +kernel
theorem dX5_slot_16 : decode cX5_slot 16 = .ok (.ifCond .ne 7, 3) := by decide +kernel
theorem dX5_slot_19 : decode cX5_slot 19 = .ok (.iconst 0, 1) := by decide +kernel
theorem dX5_slot_20 : decode cX5_slot 20 = .ok (.goto 40, 3) := by decide +kernel
theorem dX5_slot_23 : decode cX5_slot 23 = .ok (.aload_n 0, 1) := by decide +kernel
theorem dX5_slot_24 : decode cX5_slot 24 = .ok (.getfield 53, 3) := by decide +kernel
theorem dX5_slot_27 : decode cX5_slot 27 = .ok (.iload_n 1, 1) := by decide +kernel
theorem dX5_slot_28 : decode cX5_slot 28 = .ok (.iaload, 1) := by decide +kernel
theorem dX5_slot_29 : decode cX5_slot 29 = .ok (.bipush 8, 2) := by decide +kernel
theorem dX5_slot_31 : decode cX5_slot 31 = .ok (.aload_n 0, 1) := by decide +kernel
theorem dX5_slot_32 : decode cX5_slot 32 = .ok (.getfield 56, 3) := by decide +kernel
theorem dX5_slot_35 : decode cX5_slot 35 = .ok (.iload_n 1, 1) := by decide +kernel
theorem dX5_slot_36 : decode cX5_slot 36 = .ok (.iaload, 1) := by decide +kernel
theorem dX5_slot_37 : decode cX5_slot 37 = .ok (.imul, 1) := by decide +kernel
theorem dX5_slot_38 : decode cX5_slot 38 = .ok (.iadd, 1) := by decide +kernel
theorem dX5_slot_39 : decode cX5_slot 39 = .ok (.bipush 64, 2) := by decide +kernel
theorem dX5_slot_41 : decode cX5_slot 41 = .ok (.aload_n 0, 1) := by decide +kernel
theorem dX5_slot_42 : decode cX5_slot 42 = .ok (.getfield 59, 3) := by decide +kernel
theorem dX5_slot_45 : decode cX5_slot 45 = .ok (.iload_n 1, 1) := by decide +kernel
theorem dX5_slot_46 : decode cX5_slot 46 = .ok (.iaload, 1) := by decide +kernel
theorem dX5_slot_47 : decode cX5_slot 47 = .ok (.imul, 1) := by decide +kernel
theorem dX5_slot_48 : decode cX5_slot 48 = .ok (.iadd, 1) := by decide +kernel
theorem dX5_slot_49 : decode cX5_slot 49 = .ok (.sipush 512, 3) := by decide +kernel
theorem dX5_slot_52 : decode cX5_slot 52 = .ok (.aload_n 0, 1) := by decide +kernel
theorem dX5_slot_53 : decode cX5_slot 53 = .ok (.getfield 62, 3) := by decide +kernel
theorem dX5_slot_56 : decode cX5_slot 56 = .ok (.iload_n 1, 1) := by decide +kernel
theorem dX5_slot_57 : decode cX5_slot 57 = .ok (.iaload, 1) := by decide +kernel
theorem dX5_slot_58 : decode cX5_slot 58 = .ok (.imul, 1) := by decide +kernel
theorem dX5_slot_59 : decode cX5_slot 59 = .ok (.iadd, 1) := by decide +kernel
theorem dX5_slot_60 : decode cX5_slot 60 = .ok (.ireturn, 1) := by decide +kernel
