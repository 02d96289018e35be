theorem dX7_init_0 : decode cX7_init 0 = .ok (.aload_n 0, 1) := by decide +kernel
theorem dX7_init_1 : decode cX7_init 1 = .ok (.invokespecial 1, 3) := by decide +kernel
theorem dX7_init_4 : decode cX7_init 4 = .ok (.aload_n 0, 1) := by decide +kernel
theorem dX7_init_5 : decode cX7_init 5 = .ok (.bipush 6, 2) := by decide +kernel
theorem dX7_init_7 : decode cX7_init 7 = .ok (.newarray .char, 2) := by decide +kernel
theorem dX7_init_9 : decode cX7_init 9 = .ok (.putfield 7, 3) := by decide +kernel
theorem dX7_init_12 : decode cX7_init 12 = .ok (.aload_n 0, 1) := by decide +kernel
theorem dX7_init_13 : decode cX7_init 13 = .ok (.bipush 40, 2) := by decide +kernel
theorem dX7_init_15 : decode cX7_init 15 = .ok (.newarray .char, 2) := by decide +kernel
theorem dX7_init_17 : decode cX7_init 17 = .ok (.putfield 13, 3) := by decide +kernel
theorem dX7_init_20 : decode cX7_init 20 = .ok (.aload_n 0, 1) := by decide +kernel
theorem dX7_init_21 : decode cX7_init 21 = .ok (.bipush 6, 2) := by decide +kernel
theorem dX7_init_23 : decode cX7_init 23 = .ok (.newarray .int, 2) := by decide +kernel
theorem dX7_init_25 : decode cX7_init 25 = .ok (.putfield 16, 3) := by decide +kernel
theorem dX7_init_28 : decode cX7_init 28 = .ok (.aload_n 0, 1) := by decide +kernel
theorem dX7_init_29 : decode cX7_init 29 = .ok (.bipush 40, 2) := by decide +kernel
theorem dX7_init_31 : decode cX7_init 31 = .ok (.newarray .int, 2) := by decide +kernel
theorem dX7_init_33 : decode cX7_init 33 = .ok (.putfield 20, 3) := by decide +kernel
theorem dX7_init_36 : decode cX7_init 36 = .ok (.aload_n 0, 1) := by decide +kernel
theorem dX7_init_37 : decode cX7_init 37 = .ok (.bipush 40, 2) := by decide +kernel
theorem dX7_init_39 : decode cX7_init 39 = .ok (.newarray .int, 2) := by decide +kernel
theorem dX7_init_41 : decode cX7_init 41 = .ok (.putfield 23, 3) := by decide +kernel
theorem dX7_init_44 : decode cX7_init 44 = .ok (.aload_n 0, 1) := by decide +kernel
theorem dX7_init_45 : decode cX7_init 45 = .ok (.bipush 40, 2) := by decide +kernel
theorem dX7_init_47 : decode cX7_init 47 = .ok (.newarray .int, 2) := by decide +kernel
theorem dX7_init_49 : decode cX7_init 49 = .ok (.putfield 26, 3) := by decide +kernel
theorem dX7_init_52 : decode cX7_init 52 = .ok (.aload_n 0, 1) := by decide +kernel
theorem dX7_init_53 : decode cX7_init 53 = .ok (.bipush 40, 2) := by decide +kernel
theorem dX7_init_55 : decode cX7_init 55 = .ok (.newarray .int, 2) := by decide +kernel
theorem dX7_init_57 : decode cX7_init 57 = .ok (.putfield 29, 3) := by decide +kernel
theorem dX7_init_60 : decode cX7_init 60 = .ok (.aload_n 0, 1) := by decide +kernel
theorem dX7_init_61 : decode cX7_init 61 = .ok (.bipush 40, 2) := by decide +kernel
theorem dX7_init_63 : decode cX7_init 63 = .ok (.newarray .int, 2) := by decide +kernel
theorem dX7_init_65 : decode cX7_init 65 = .ok (.putfield 32, 3) := by decide +kernel
theorem dX7_init_68 : decode cX7_init 68 = .ok (.aload_n 0, 1) := by decide +kernel
theorem dX7_init_69 : decode cX7_init 69 = .ok (.bipush 40, 2) := by decide +kernel
theorem dX7_init_71 : decode cX7_init 71 = .ok (.newarray .boolean, 2) := by decide +kernel
theorem dX7_init_73 : decode cX7_init 73 = .ok (.putfield 35, 3) := by decide +kernel
theorem dX7_init_76 : decode cX7_init 76 = .ok (.aload_n 0, 1) := by decide +kernel
theorem dX7_init_77 : decode cX7_init 77 = .ok (.bipush 40, 2) := by decide +kernel
theorem dX7_init_79 : decode cX7_init 79 = .ok (.newarray .boolean, 2) := by decide +kernel
theorem dX7_init_81 : decode cX7_init 81 = .ok (.putfield 39, 3) := by decide +kernel
theorem dX7_init_84 : decode cX7_init 84 = .ok (.aload_n 0, 1) := by decide +kernel
theorem dX7_init_85 : decode cX7_init 85 = .ok (.bipush 120, 2) := by decide +kernel
theorem dX7_init_87 : decode cX7_init 87 = .ok (.newarray .int, 2) := by decide +kernel
theorem dX7_init_89 : decode cX7_init 89 = .ok (.putfield 42, 3) := by decide +kernel
theorem dX7_init_92 : decode cX7_init 92 = .ok (.aload_n 0, 1) := by decide +kernel
theorem dX7_init_93 : decode cX7_init 93 = .ok (.bipush 120, 2) := by decide +kernel
theorem dX7_init_95 : decode cX7_init 95 = .ok (.newarray .int, 2) := by decide +kernel
theorem dX7_init_97 : decode cX7_init 97 = .ok (.putfield 45, 3) := by decide +kernel
theorem dX7_init_100 : decode cX7_init 100 = .ok (.aload_n 0, 1) := by decide +kernel
theorem dX7_init_101 : decode cX7_init 101 = .ok (.bipush 120, 2) := by decide +kernel
theorem dX7_init_103 : decode cX7_init 103 = .ok (.newarray .int, 2) := by decide +kernel
theorem dX7_init_105 : decode cX7_init 105 = .ok (.putfield 48, 3) := by decide +kernel
theorem dX7_init_108 : decode cX7_init 108 = .ok (.aload_n 0, 1) := by decide +kernel
theorem dX7_init_109 : decode cX7_init 109 = .ok (.bipush 8, 2) := by decide +kernel
theorem dX7_init_111 : decode cX7_init 111 = .ok (.newarray .int, 2) := by decide +kernel
theorem dX7_init_113 : decode cX7_init 113 = .ok (.putfield 51, 3) := by decide +kernel
theorem dX7_init_116 : decode cX7_init 116 = .ok (.aload_n 0, 1) := by decide +kernel
theorem dX7_init_117 : decode cX7_init 117 = .ok (.bipush 8, 2) := by decide +kernel
theorem dX7_init_119 : decode cX7_init 119 = .ok (.newarray .int, 2) := by decide +kernel
theorem dX7_init_121 : decode cX7_init 121 = .ok (.putfield 54, 3) := by decide +kernel
theorem dX7_init_124 : decode cX7_init 124 = .ok (.aload_n 0, 1) := by decide +kernel
theorem dX7_init_125 : decode cX7_init 125 = .ok (.sipush 320, 3) := by decide +kernel
theorem dX7_init_128 : decode cX7_init 128 = .ok (.newarray .int, 2) := by decide +kernel
theorem dX7_init_130 : decode cX7_init 130 = .ok (.putfield 57, 3) := by decide +kernel
theorem dX7_init_133 : decode cX7_init 133 = .ok (.aload_n 0, 1) := by decide +kernel
theorem dX7_init_134 : decode cX7_init 134 = .ok (.sipush 320, 3) := by decide +kernel
theorem dX7_init_137 : decode cX7_init 137 = .ok (.newarray .int, 2) := by decide +kernel
theorem dX7_init_139 : decode cX7_init 139 = .ok (.putfield 60, 3) := by decide +kernel
theorem dX7_init_142 : decode cX7_init 142 = .ok (.aload_n 0, 1) := by decide +kernel
theorem dX7_init_143 : decode cX7_init 143 = .ok (.bipush 120, 2) := by decide +kernel
theorem dX7_init_145 : decode cX7_init 145 = .ok (.newarray .boolean, 2) := by decide +kernel
theorem dX7_init_147 : decode cX7_init 147 = .ok (.putfield 63, 3) := by decide +kernel
theorem dX7_init_150 : decode cX7_init 150 = .ok (.aload_n 0, 1) := by decide +kernel
theorem dX7_init_151 : decode cX7_init 151 = .ok (.sipush 320, 3) := by decide +kernel
theorem dX7_init_154 : decode cX7_init 154 = .ok (.newarray .boolean, 2) := by decide +kernel
theorem dX7_init_156 : decode cX7_init 156 = .ok (.putfield 66, 3) := by decide +kernel
theorem dX7_init_159 : decode cX7_init 159 = .ok (.aload_n 0, 1) := by decide +kernel
theorem dX7_init_160 : decode cX7_init 160 = .ok (.iconst 0, 1) := by decide +kernel
theorem dX7_init_161 : decode cX7_init 161 = .ok (.putfield 69, 3) := by decide +kernel
theorem dX7_init_164 : decode cX7_init 164 = .ok (.aload_n 0, 1) := by decide +kernel
theorem dX7_init_165 : decode cX7_init 165 = .ok (.iconst 0, 1) := by decide +kernel
theorem dX7_init_166 : decode cX7_init 166 = .ok (.putfield 73, 3) := by decide +kernel
theorem dX7_init_169 : decode cX7_init 169 = .ok (.aload_n 0, 1) := by decide +kernel
theorem dX7_init_170 : decode cX7_init 170 = .ok (.iconst 0, 1) := by decide +kernel
theorem dX7_init_171 : decode cX7_init 171 = .ok (.putfield 76, 3) := by decide +kernel
theorem dX7_init_174 : decode cX7_init 174 = .ok (.aload_n 0, 1) := by decide +kernel
theorem dX7_init_175 : decode cX7_init 175 = .ok (.iconst 0, 1) := by decide +kernel
theorem dX7_init_176 : decode cX7_init 176 = .ok (.putfield 79, 3) := by decide +kernel
theorem dX7_init_179 : decode cX7_init 179 = .ok (.aload_n 0, 1) := by decide +kernel
theorem dX7_init_180 : decode cX7_init 180 = .ok (.iconst 0, 1) := by decide +kernel
theorem dX7_init_181 : decode cX7_init 181 = .ok (.putfield 82, 3) := by decide +kernel
theorem dX7_init_184 : decode cX7_init 184 = .ok (.aload_n 0, 1) := by decide +kernel
theorem dX7_init_185 : decode cX7_init 185 = .ok (.iconst 0, 1) := by decide +kernel
theorem dX7_init_186 : decode cX7_init 186 = .ok (.putfield 85, 3) := by decide +kernel
theorem dX7_init_189 : decode cX7_init 189 = .ok (.aload_n 0, 1) := by decide +kernel
theorem dX7_init_190 : decode cX7_init 190 = .ok (.iconst 0, 1) := by decide +kernel
theorem dX7_init_191 : decode cX7_init 191 = .ok (.putfield 88, 3) := by decide +kernel
theorem dX7_init_194 : decode cX7_init 194 = .ok (.aload_n 0, 1) := by decide +kernel
theorem dX7_init_195 : decode cX7_init 195 = .ok (.iconst 0, 1) := by decide +kernel
theorem dX7_init_196 : decode cX7_init 196 = .ok (.putfield 91, 3) := by decide +kernel
theorem dX7_init_199 : decode cX7_init 199 = .ok (.aload_n 0, 1) := by decide +kernel
theorem dX7_init_200 : decode cX7_init 200 = .ok (.iconst 0, 1) := by decide +kernel
theorem dX7_init_201 : decode cX7_init 201 = .ok (.putfield 94, 3) := by decide +kernel
theorem dX7_init_204 : decode cX7_init 204 = .ok (.aload_n 0, 1) := by decide +kernel
theorem dX7_init_205 : decode cX7_init 205 = .ok (.iconst 0, 1) := by decide +kernel
theorem dX7_init_206 : decode cX7_init 206 = .ok (.putfield 97, 3) := by decide +kernel
theorem dX7_init_209 : decode cX7_init 209 = .ok (.aload_n 0, 1) := by decide +kernel
theorem dX7_init_210 : decode cX7_init 210 = .ok (.iconst 0, 1) := by decide +kernel
theorem dX7_init_211 : decode cX7_init 211 = .ok (.putfield 100, 3) := by decide +kernel
theorem dX7_init_214 : decode cX7_init 214 = .ok (.aload_n 0, 1) := by decide +kernel
theorem dX7_init_215 : decode cX7_init 215 = .ok (.iconst 0, 1) := by decide +kernel
theorem dX7_init_216 : decode cX7_init 216 = .ok (.putfield 103, 3) := by decide +kernel
theorem dX7_init_219 : decode cX7_init 219 = .ok (.aload_n 0, 1) := by decide +kernel
theorem dX7_init_220 : decode cX7_init 220 = .ok (.iconst 0, 1) := by decide +kernel
theorem dX7_init_221 : decode cX7_init 221 = .ok (.putfield 106, 3) := by decide +kernel
theorem dX7_init_224 : decode cX7_init 224 = .ok (.aload_n 0, 1) := by decide +kernel
theorem dX7_init_225 : decode cX7_init 225 = .ok (.bipush 105, 2) := by decide +kernel
theorem dX7_init_227 : decode cX7_init 227 = .ok (.putfield 109, 3) := by decide +kernel
theorem dX7_init_230 : decode cX7_init 230 = .ok (.iconst 0, 1) := by decide +kernel
theorem dX7_init_231 : decode cX7_init 231 = .ok (.istore_n 1, 1) := by decide +kernel
theorem dX7_init_232 : decode cX7_init 232 = .ok (.iload_n 1, 1) := by decide +kernel
theorem dX7_init_233 : decode cX7_init 233 = .ok (.bipush 40, 2) := by decide +kernel
theorem dX7_init_235 : decode cX7_init 235 = .ok (.if_icmp .ge 17, 3) := by decide +kernel
theorem dX7_init_238 : decode cX7_init 238 = .ok (.aload_n 0, 1) := by decide +kernel
theorem dX7_init_239 : decode cX7_init 239 = .ok (.getfield 13, 3) := by decide +kernel
theorem dX7_init_242 : decode cX7_init 242 = .ok (.iload_n 1, 1) := by decide +kernel
theorem dX7_init_243 : decode cX7_init 243 = .ok (.bipush 45, 2) := by decide +kernel
theorem dX7_init_245 : decode cX7_init 245 = .ok (.castore, 1) := by decide +kernel
theorem dX7_init_246 : decode cX7_init 246 = .ok (.iinc 1 1, 3) := by decide +kernel
theorem dX7_init_249 : decode cX7_init 249 = .ok (.goto (-17), 3) := by decide +kernel
theorem dX7_init_252 : decode cX7_init 252 = .ok (.iconst 0, 1) := by decide +kernel
theorem dX7_init_253 : decode cX7_init 253 = .ok (.istore_n 1, 1) := by decide +kernel
theorem dX7_init_254 : decode cX7_init 254 = .ok (.iload_n 1, 1) := by decide +kernel
theorem dX7_init_255 : decode cX7_init 255 = .ok (.bipush 8, 2) := by decide +kernel
theorem dX7_init_257 : decode cX7_init 257 = .ok (.if_icmp .ge 16, 3) := by decide +kernel
theorem dX7_init_260 : decode cX7_init 260 = .ok (.aload_n 0, 1) := by decide +kernel
theorem dX7_init_261 : decode cX7_init 261 = .ok (.getfield 51, 3) := by decide +kernel
theorem dX7_init_264 : decode cX7_init 264 = .ok (.iload_n 1, 1) := by decide +kernel
theorem dX7_init_265 : decode cX7_init 265 = .ok (.iconst (-1), 1) := by decide +kernel
theorem dX7_init_266 : decode cX7_init 266 = .ok (.iastore, 1) := by decide +kernel
theorem dX7_init_267 : decode cX7_init 267 = .ok (.iinc 1 1, 3) := by decide +kernel
theorem dX7_init_270 : decode cX7_init 270 = .ok (.goto (-16), 3) := by decide +kernel
theorem dX7_init_273 : decode cX7_init 273 = .ok (.return_, 1) := by decide +kernel
theorem dX7_thrown_0 : decode cX7_thrown 0 = .ok (.aload_n 0, 1) := by decide +kernel
theorem dX7_thrown_1 : decode cX7_thrown 1 = .ok (.getfield 69, 3) := by decide +kernel
theorem dX7_thrown_4 : decode cX7_thrown 4 = .ok (.ireturn, 1) := by decide +kernel
theorem dX7_in_0 : decode cX7_in 0 = .ok (.iload_n 0, 1) := by decide +kernel
theorem dX7_in_1 : decode cX7_in 1 = .ok (.iload_n 1, 1) := by decide +kernel
theorem dX7_in_2 : decode cX7_in 2 = .ok (.if_icmp .lt 12, 3) := by decide +kernel
theorem dX7_in_5 : decode cX7_in 5 = .ok (.iload_n 0, 1) := by decide +kernel
theorem dX7_in_6 : decode cX7_in 6 = .ok (.iload_n 2, 1) := by decide +kernel
theorem dX7_in_7 : decode cX7_in 7 = .ok (.if_icmp .gt 7, 3) := by decide +kernel
theorem dX7_in_10 : decode cX7_in 10 = .ok (.iconst 1, 1) := by decide +kernel
theorem dX7_in_11 : decode cX7_in 11 = .ok (.goto 4, 3) := by decide +kernel
theorem dX7_in_14 : decode cX7_in 14 = .ok (.iconst 0, 1) := by decide +kernel
theorem dX7_in_15 : decode cX7_in 15 = .ok (.ireturn, 1) := by decide +kernel
theorem dX7_plain_0 : decode cX7_plain 0 = .ok (.aload_n 0, 1) := by decide +kernel
theorem dX7_plain_1 : decode cX7_plain 1 = .ok (.iconst 0, 1) := by decide +kernel
theorem dX7_plain_2 : decode cX7_plain 2 = .ok (.putfield 69, 3) := by decide +kernel
theorem dX7_plain_5 : decode cX7_plain 5 = .ok (.iload_n 1, 1) := by decide +kernel
theorem dX7_plain_6 : decode cX7_plain 6 = .ok (.ireturn, 1) := by decide +kernel
theorem dX7_checked_0 : decode cX7_checked 0 = .ok (.aload_n 0, 1) := by decide +kernel
theorem dX7_checked_1 : decode cX7_checked 1 = .ok (.iload_n 1, 1) := by decide +kernel
theorem dX7_checked_2 : decode cX7_checked 2 = .ok (.ifCond .eq 7, 3) := by decide +kernel
theorem dX7_checked_5 : decode cX7_checked 5 = .ok (.iconst 0, 1) := by decide +kernel
theorem dX7_checked_6 : decode cX7_checked 6 = .ok (.goto 4, 3) := by decide +kernel
theorem dX7_checked_9 : decode cX7_checked 9 = .ok (.iconst 1, 1) := by decide +kernel
theorem dX7_checked_10 : decode cX7_checked 10 = .ok (.putfield 69, 3) := by decide +kernel
theorem dX7_checked_13 : decode cX7_checked 13 = .ok (.aload_n 0, 1) := by decide +kernel
theorem dX7_checked_14 : decode cX7_checked 14 = .ok (.getfield 69, 3) := by decide +kernel
theorem dX7_checked_17 : decode cX7_checked 17 = .ok (.ireturn, 1) := by decide +kernel
theorem dX7_isKey_0 : decode cX7_isKey 0 = .ok (.iload_n 0, 1) := by decide +kernel
theorem dX7_isKey_1 : decode cX7_isKey 1 = .ok (.iconst 0, 1) := by decide +kernel
theorem dX7_isKey_2 : decode cX7_isKey 2 = .ok (.bipush 39, 2) := by decide +kernel
theorem dX7_isKey_4 : decode cX7_isKey 4 = .ok (.invokestatic 113, 3) := by decide +kernel
theorem dX7_isKey_7 : decode cX7_isKey 7 = .ok (.ireturn, 1) := by decide +kernel
theorem dX7_isByTarget_0 : decode cX7_isByTarget 0 = .ok (.aload_n 0, 1) := by decide +kernel
theorem dX7_isByTarget_1 : decode cX7_isByTarget 1 = .ok (.getfield 109, 3) := by decide +kernel
theorem dX7_isByTarget_4 : decode cX7_isByTarget 4 = .ok (.bipush 116, 2) := by decide +kernel
theorem dX7_isByTarget_6 : decode cX7_isByTarget 6 = .ok (.if_icmp .eq 12, 3) := by decide +kernel
theorem dX7_isByTarget_9 : decode cX7_isByTarget 9 = .ok (.aload_n 0, 1) := by decide +kernel
theorem dX7_isByTarget_10 : decode cX7_isByTarget 10 = .ok (.getfield 109, 3) := by decide +kernel
theorem dX7_isByTarget_13 : decode cX7_isByTarget 13 = .ok (.bipush 100, 2) := by decide +kernel
theorem dX7_isByTarget_15 : decode cX7_isByTarget 15 = .ok (.if_icmp .ne 7, 3) := by decide +kernel
theorem dX7_isByTarget_18 : decode cX7_isByTarget 18 = .ok (.iconst 1, 1) := by decide +kernel
theorem dX7_isByTarget_19 : decode cX7_isByTarget 19 = .ok (.goto 4, 3) := by decide +kernel
theorem dX7_isByTarget_22 : decode cX7_isByTarget 22 = .ok (.iconst 0, 1) := by decide +kernel
theorem dX7_isByTarget_23 : decode cX7_isByTarget 23 = .ok (.ireturn, 1) := by decide +kernel
theorem dX7_areWithin_0 : decode cX7_areWithin 0 = .ok (.aload_n 0, 1) := by decide +kernel
theorem dX7_areWithin_1 : decode cX7_areWithin 1 = .ok (.getfield 103, 3) := by decide +kernel
theorem dX7_areWithin_4 : decode cX7_areWithin 4 = .ok (.iload_n 1, 1) := by decide +kernel
theorem dX7_areWithin_5 : decode cX7_areWithin 5 = .ok (.ineg, 1) := by decide +kernel
theorem dX7_areWithin_6 : decode cX7_areWithin 6 = .ok (.iload_n 1, 1) := by decide +kernel
theorem dX7_areWithin_7 : decode cX7_areWithin 7 = .ok (.invokestatic 113, 3) := by decide +kernel
theorem dX7_areWithin_10 : decode cX7_areWithin 10 = .ok (.ifCond .eq 20, 3) := by decide +kernel
theorem dX7_areWithin_13 : decode cX7_areWithin 13 = .ok (.aload_n 0, 1) := by decide +kernel
theorem dX7_areWithin_14 : decode cX7_areWithin 14 = .ok (.getfield 106, 3) := by decide +kernel
theorem dX7_areWithin_17 : decode cX7_areWithin 17 = .ok (.iload_n 1, 1) := by decide +kernel
theorem dX7_areWithin_18 : decode cX7_areWithin 18 = .ok (.ineg, 1) := by decide +kernel
theorem dX7_areWithin_19 : decode cX7_areWithin 19 = .ok (.iload_n 1, 1) := by decide +kernel
theorem dX7_areWithin_20 : decode cX7_areWithin 20 = .ok (.invokestatic 113, 3) := by decide +kernel
theorem dX7_areWithin_23 : decode cX7_areWithin 23 = .ok (.ifCond .eq 7, 3) := by decide +kernel
theorem dX7_areWithin_26 : decode cX7_areWithin 26 = .ok (.iconst 1, 1) := by decide +kernel
theorem dX7_areWithin_27 : decode cX7_areWithin 27 = .ok (.goto 4, 3) := by decide +kernel
theorem dX7_areWithin_30 : decode cX7_areWithin 30 = .ok (.iconst 0, 1) := by decide +kernel
theorem dX7_areWithin_31 : decode cX7_areWithin 31 = .ok (.ireturn, 1) := by decide +kernel
theorem dX7_steps_0 : decode cX7_steps 0 = .ok (.aload_n 0, 1) := by decide +kernel
theorem dX7_steps_1 : decode cX7_steps 1 = .ok (.getfield 7, 3) := by decide +kernel
theorem dX7_steps_4 : decode cX7_steps 4 = .ok (.iload_n 1, 1) := by decide +kernel
theorem dX7_steps_5 : decode cX7_steps 5 = .ok (.caload, 1) := by decide +kernel
theorem dX7_steps_6 : decode cX7_steps 6 = .ok (.bipush 112, 2) := by decide +kernel
theorem dX7_steps_8 : decode cX7_steps 8 = .ok (.if_icmp .ne 18, 3) := by decide +kernel
theorem dX7_steps_11 : decode cX7_steps 11 = .ok (.aload_n 0, 1) := by decide +kernel
theorem dX7_steps_12 : decode cX7_steps 12 = .ok (.dup, 1) := by decide +kernel
theorem dX7_steps_13 : decode cX7_steps 13 = .ok (.getfield 103, 3) := by decide +kernel
theorem dX7_steps_16 : decode cX7_steps 16 = .ok (.aload_n 0, 1) := by decide +kernel
theorem dX7_steps_17 : decode cX7_steps 17 = .ok (.getfield 16, 3) := by decide +kernel
theorem dX7_steps_20 : decode cX7_steps 20 = .ok (.iload_n 1, 1) := by decide +kernel
theorem dX7_steps_21 : decode cX7_steps 21 = .ok (.iaload, 1) := by decide +kernel
theorem dX7_steps_22 : decode cX7_steps 22 = .ok (.iadd, 1) := by decide +kernel
theorem dX7_steps_23 : decode cX7_steps 23 = .ok (.putfield 103, 3) := by decide +kernel
theorem dX7_steps_26 : decode cX7_steps 26 = .ok (.aload_n 0, 1) := by decide +kernel
theorem dX7_steps_27 : decode cX7_steps 27 = .ok (.getfield 7, 3) := by decide +kernel
theorem dX7_steps_30 : decode cX7_steps 30 = .ok (.iload_n 1, 1) := by decide +kernel
theorem dX7_steps_31 : decode cX7_steps 31 = .ok (.caload, 1) := by decide +kernel
theorem dX7_steps_32 : decode cX7_steps 32 = .ok (.bipush 109, 2) := by decide +kernel
theorem dX7_steps_34 : decode cX7_steps 34 = .ok (.if_icmp .ne 18, 3) := by decide +kernel
theorem dX7_steps_37 : decode cX7_steps 37 = .ok (.aload_n 0, 1) := by decide +kernel
theorem dX7_steps_38 : decode cX7_steps 38 = .ok (.dup, 1) := by decide +kernel
theorem dX7_steps_39 : decode cX7_steps 39 = .ok (.getfield 103, 3) := by decide +kernel
theorem dX7_steps_42 : decode cX7_steps 42 = .ok (.aload_n 0, 1) := by decide +kernel
theorem dX7_steps_43 : decode cX7_steps 43 = .ok (.getfield 16, 3) := by decide +kernel
theorem dX7_steps_46 : decode cX7_steps 46 = .ok (.iload_n 1, 1) := by decide +kernel
theorem dX7_steps_47 : decode cX7_steps 47 = .ok (.iaload, 1) := by decide +kernel
theorem dX7_steps_48 : decode cX7_steps 48 = .ok (.imul, 1) := by decide +kernel
theorem dX7_steps_49 : decode cX7_steps 49 = .ok (.putfield 103, 3) := by decide +kernel
theorem dX7_steps_52 : decode cX7_steps 52 = .ok (.aload_n 0, 1) := by decide +kernel
theorem dX7_steps_53 : decode cX7_steps 53 = .ok (.getfield 7, 3) := by decide +kernel
theorem dX7_steps_56 : decode cX7_steps 56 = .ok (.iload_n 1, 1) := by decide +kernel
theorem dX7_steps_57 : decode cX7_steps 57 = .ok (.caload, 1) := by decide +kernel
theorem dX7_steps_58 : decode cX7_steps 58 = .ok (.bipush 110, 2) := by decide +kernel
theorem dX7_steps_60 : decode cX7_steps 60 = .ok (.if_icmp .ne 12, 3) := by decide +kernel
theorem dX7_steps_63 : decode cX7_steps 63 = .ok (.aload_n 0, 1) := by decide +kernel
theorem dX7_steps_64 : decode cX7_steps 64 = .ok (.aload_n 0, 1) := by decide +kernel
theorem dX7_steps_65 : decode cX7_steps 65 = .ok (.getfield 103, 3) := by decide +kernel
theorem dX7_steps_68 : decode cX7_steps 68 = .ok (.ineg, 1) := by decide +kernel
theorem dX7_steps_69 : decode cX7_steps 69 = .ok (.putfield 103, 3) := by decide +kernel
theorem dX7_steps_72 : decode cX7_steps 72 = .ok (.aload_n 0, 1) := by decide +kernel
theorem dX7_steps_73 : decode cX7_steps 73 = .ok (.getfield 7, 3) := by decide +kernel
theorem dX7_steps_76 : decode cX7_steps 76 = .ok (.iload_n 1, 1) := by decide +kernel
theorem dX7_steps_77 : decode cX7_steps 77 = .ok (.caload, 1) := by decide +kernel
theorem dX7_steps_78 : decode cX7_steps 78 = .ok (.bipush 115, 2) := by decide +kernel
theorem dX7_steps_80 : decode cX7_steps 80 = .ok (.if_icmp .ne 16, 3) := by decide +kernel
theorem dX7_steps_83 : decode cX7_steps 83 = .ok (.aload_n 0, 1) := by decide +kernel
theorem dX7_steps_84 : decode cX7_steps 84 = .ok (.dup, 1) := by decide +kernel
theorem dX7_steps_85 : decode cX7_steps 85 = .ok (.getfield 106, 3) := by decide +kernel
theorem dX7_steps_88 : decode cX7_steps 88 = .ok (.aload_n 0, 1) := by decide +kernel
theorem dX7_steps_89 : decode cX7_steps 89 = .ok (.getfield 103, 3) := by decide +kernel
theorem dX7_steps_92 : decode cX7_steps 92 = .ok (.iadd, 1) := by decide +kernel
theorem dX7_steps_93 : decode cX7_steps 93 = .ok (.putfield 106, 3) := by decide +kernel
theorem dX7_steps_96 : decode cX7_steps 96 = .ok (.aload_n 0, 1) := by decide +kernel
theorem dX7_steps_97 : decode cX7_steps 97 = .ok (.getfield 7, 3) := by decide +kernel
theorem dX7_steps_100 : decode cX7_steps 100 = .ok (.iload_n 1, 1) := by decide +kernel
theorem dX7_steps_101 : decode cX7_steps 101 = .ok (.caload, 1) := by decide +kernel
theorem dX7_steps_102 : decode cX7_steps 102 = .ok (.bipush 120, 2) := by decide +kernel
theorem dX7_steps_104 : decode cX7_steps 104 = .ok (.if_icmp .ne 7, 3) := by decide +kernel
theorem dX7_steps_107 : decode cX7_steps 107 = .ok (.aload_n 0, 1) := by decide +kernel
theorem dX7_steps_108 : decode cX7_steps 108 = .ok (.invokevirtual 117, 3) := by decide +kernel
theorem dX7_steps_111 : decode cX7_steps 111 = .ok (.return_, 1) := by decide +kernel
theorem dX7_exchanges_0 : decode cX7_exchanges 0 = .ok (.aload_n 0, 1) := by decide +kernel
theorem dX7_exchanges_1 : decode cX7_exchanges 1 = .ok (.getfield 103, 3) := by decide +kernel
theorem dX7_exchanges_4 : decode cX7_exchanges 4 = .ok (.istore_n 1, 1) := by decide +kernel
theorem dX7_exchanges_5 : decode cX7_exchanges 5 = .ok (.aload_n 0, 1) := by decide +kernel
theorem dX7_exchanges_6 : decode cX7_exchanges 6 = .ok (.aload_n 0, 1) := by decide +kernel
theorem dX7_exchanges_7 : decode cX7_exchanges 7 = .ok (.getfield 106, 3) := by decide +kernel
theorem dX7_exchanges_10 : decode cX7_exchanges 10 = .ok (.putfield 103, 3) := by decide +kernel
theorem dX7_exchanges_13 : decode cX7_exchanges 13 = .ok (.aload_n 0, 1) := by decide +kernel
theorem dX7_exchanges_14 : decode cX7_exchanges 14 = .ok (.iload_n 1, 1) := by decide +kernel
theorem dX7_exchanges_15 : decode cX7_exchanges 15 = .ok (.putfield 106, 3) := by decide +kernel
theorem dX7_exchanges_18 : decode cX7_exchanges 18 = .ok (.return_, 1) := by decide +kernel
theorem dX7_turns_0 : decode cX7_turns 0 = .ok (.aload_n 0, 1) := by decide +kernel
theorem dX7_turns_1 : decode cX7_turns 1 = .ok (.iload_n 1, 1) := by decide +kernel
theorem dX7_turns_2 : decode cX7_turns 2 = .ok (.putfield 103, 3) := by decide +kernel
theorem dX7_turns_5 : decode cX7_turns 5 = .ok (.aload_n 0, 1) := by decide +kernel
theorem dX7_turns_6 : decode cX7_turns 6 = .ok (.iload_n 2, 1) := by decide +kernel
theorem dX7_turns_7 : decode cX7_turns 7 = .ok (.putfield 106, 3) := by decide +kernel
theorem dX7_turns_10 : decode cX7_turns 10 = .ok (.iconst 0, 1) := by decide +kernel
theorem dX7_turns_11 : decode cX7_turns 11 = .ok (.istore_n 3, 1) := by decide +kernel
theorem dX7_turns_12 : decode cX7_turns 12 = .ok (.iload_n 3, 1) := by decide +kernel
theorem dX7_turns_13 : decode cX7_turns 13 = .ok (.aload_n 0, 1) := by decide +kernel
theorem dX7_turns_14 : decode cX7_turns 14 = .ok (.getfield 73, 3) := by decide +kernel
theorem dX7_turns_17 : decode cX7_turns 17 = .ok (.if_icmp .ge 25, 3) := by decide +kernel
theorem dX7_turns_20 : decode cX7_turns 20 = .ok (.aload_n 0, 1) := by decide +kernel
theorem dX7_turns_21 : decode cX7_turns 21 = .ok (.iload_n 3, 1) := by decide +kernel
theorem dX7_turns_22 : decode cX7_turns 22 = .ok (.invokevirtual 120, 3) := by decide +kernel
theorem dX7_turns_25 : decode cX7_turns 25 = .ok (.aload_n 0, 1) := by decide +kernel
theorem dX7_turns_26 : decode cX7_turns 26 = .ok (.ldc 123, 2) := by decide +kernel
theorem dX7_turns_28 : decode cX7_turns 28 = .ok (.invokevirtual 124, 3) := by decide +kernel
theorem dX7_turns_31 : decode cX7_turns 31 = .ok (.ifCond .ne 5, 3) := by decide +kernel
theorem dX7_turns_34 : decode cX7_turns 34 = .ok (.iconst 0, 1) := by decide +kernel
theorem dX7_turns_35 : decode cX7_turns 35 = .ok (.ireturn, 1) := by decide +kernel
theorem dX7_turns_36 : decode cX7_turns 36 = .ok (.iinc 3 1, 3) := by decide +kernel
theorem dX7_turns_39 : decode cX7_turns 39 = .ok (.goto (-27), 3) := by decide +kernel
theorem dX7_turns_42 : decode cX7_turns 42 = .ok (.aload_n 0, 1) := by decide +kernel
theorem dX7_turns_43 : decode cX7_turns 43 = .ok (.sipush 999, 3) := by decide +kernel
theorem dX7_turns_46 : decode cX7_turns 46 = .ok (.invokevirtual 124, 3) := by decide +kernel
theorem dX7_turns_49 : decode cX7_turns 49 = .ok (.ireturn, 1) := by decide +kernel
theorem dX7_turnsBack_0 : decode cX7_turnsBack 0 = .ok (.aload_n 0, 1) := by decide +kernel
theorem dX7_turnsBack_1 : decode cX7_turnsBack 1 = .ok (.iload_n 1, 1) := by decide +kernel
theorem dX7_turnsBack_2 : decode cX7_turnsBack 2 = .ok (.putfield 103, 3) := by decide +kernel
theorem dX7_turnsBack_5 : decode cX7_turnsBack 5 = .ok (.aload_n 0, 1) := by decide +kernel
theorem dX7_turnsBack_6 : decode cX7_turnsBack 6 = .ok (.iload_n 2, 1) := by decide +kernel
theorem dX7_turnsBack_7 : decode cX7_turnsBack 7 = .ok (.putfield 106, 3) := by decide +kernel
theorem dX7_turnsBack_10 : decode cX7_turnsBack 10 = .ok (.aload_n 0, 1) := by decide +kernel
theorem dX7_turnsBack_11 : decode cX7_turnsBack 11 = .ok (.getfield 73, 3) := by decide +kernel
theorem dX7_turnsBack_14 : decode cX7_turnsBack 14 = .ok (.iconst 1, 1) := by decide +kernel
theorem dX7_turnsBack_15 : decode cX7_turnsBack 15 = .ok (.isub, 1) := by decide +kernel
theorem dX7_turnsBack_16 : decode cX7_turnsBack 16 = .ok (.istore_n 3, 1) := by decide +kernel
theorem dX7_turnsBack_17 : decode cX7_turnsBack 17 = .ok (.iload_n 3, 1) := by decide +kernel
theorem dX7_turnsBack_18 : decode cX7_turnsBack 18 = .ok (.ifCond .lt 147, 3) := by decide +kernel
theorem dX7_turnsBack_21 : decode cX7_turnsBack 21 = .ok (.aload_n 0, 1) := by decide +kernel
theorem dX7_turnsBack_22 : decode cX7_turnsBack 22 = .ok (.getfield 7, 3) := by decide +kernel
theorem dX7_turnsBack_25 : decode cX7_turnsBack 25 = .ok (.iload_n 3, 1) := by decide +kernel
theorem dX7_turnsBack_26 : decode cX7_turnsBack 26 = .ok (.caload, 1) := by decide +kernel
theorem dX7_turnsBack_27 : decode cX7_turnsBack 27 = .ok (.bipush 109, 2) := by decide +kernel
theorem dX7_turnsBack_29 : decode cX7_turnsBack 29 = .ok (.if_icmp .ne 19, 3) := by decide +kernel
theorem dX7_turnsBack_32 : decode cX7_turnsBack 32 = .ok (.aload_n 0, 1) := by decide +kernel
theorem dX7_turnsBack_33 : decode cX7_turnsBack 33 = .ok (.getfield 103, 3) := by decide +kernel
theorem dX7_turnsBack_36 : decode cX7_turnsBack 36 = .ok (.aload_n 0, 1) := by decide +kernel
theorem dX7_turnsBack_37 : decode cX7_turnsBack 37 = .ok (.getfield 16, 3) := by decide +kernel
theorem dX7_turnsBack_40 : decode cX7_turnsBack 40 = .ok (.iload_n 3, 1) := by decide +kernel
theorem dX7_turnsBack_41 : decode cX7_turnsBack 41 = .ok (.iaload, 1) := by decide +kernel
theorem dX7_turnsBack_42 : decode cX7_turnsBack 42 = .ok (.irem, 1) := by decide +kernel
theorem dX7_turnsBack_43 : decode cX7_turnsBack 43 = .ok (.ifCond .eq 5, 3) := by decide +kernel
theorem dX7_turnsBack_46 : decode cX7_turnsBack 46 = .ok (.iconst 0, 1) := by decide +kernel
theorem dX7_turnsBack_47 : decode cX7_turnsBack 47 = .ok (.ireturn, 1) := by decide +kernel
theorem dX7_turnsBack_48 : decode cX7_turnsBack 48 = .ok (.aload_n 0, 1) := by decide +kernel
theorem dX7_turnsBack_49 : decode cX7_turnsBack 49 = .ok (.getfield 7, 3) := by decide +kernel
theorem dX7_turnsBack_52 : decode cX7_turnsBack 52 = .ok (.iload_n 3, 1) := by decide +kernel
theorem dX7_turnsBack_53 : decode cX7_turnsBack 53 = .ok (.caload, 1) := by decide +kernel
theorem dX7_turnsBack_54 : decode cX7_turnsBack 54 = .ok (.bipush 112, 2) := by decide +kernel
theorem dX7_turnsBack_56 : decode cX7_turnsBack 56 = .ok (.if_icmp .ne 18, 3) := by decide +kernel
theorem dX7_turnsBack_59 : decode cX7_turnsBack 59 = .ok (.aload_n 0, 1) := by decide +kernel
theorem dX7_turnsBack_60 : decode cX7_turnsBack 60 = .ok (.dup, 1) := by decide +kernel
theorem dX7_turnsBack_61 : decode cX7_turnsBack 61 = .ok (.getfield 103, 3) := by decide +kernel
theorem dX7_turnsBack_64 : decode cX7_turnsBack 64 = .ok (.aload_n 0, 1) := by decide +kernel
theorem dX7_turnsBack_65 : decode cX7_turnsBack 65 = .ok (.getfield 16, 3) := by decide +kernel
theorem dX7_turnsBack_68 : decode cX7_turnsBack 68 = .ok (.iload_n 3, 1) := by decide +kernel
theorem dX7_turnsBack_69 : decode cX7_turnsBack 69 = .ok (.iaload, 1) := by decide +kernel
theorem dX7_turnsBack_70 : decode cX7_turnsBack 70 = .ok (.isub, 1) := by decide +kernel
theorem dX7_turnsBack_71 : decode cX7_turnsBack 71 = .ok (.putfield 103, 3) := by decide +kernel
theorem dX7_turnsBack_74 : decode cX7_turnsBack 74 = .ok (.aload_n 0, 1) := by decide +kernel
theorem dX7_turnsBack_75 : decode cX7_turnsBack 75 = .ok (.getfield 7, 3) := by decide +kernel
theorem dX7_turnsBack_78 : decode cX7_turnsBack 78 = .ok (.iload_n 3, 1) := by decide +kernel
theorem dX7_turnsBack_79 : decode cX7_turnsBack 79 = .ok (.caload, 1) := by decide +kernel
theorem dX7_turnsBack_80 : decode cX7_turnsBack 80 = .ok (.bipush 109, 2) := by decide +kernel
theorem dX7_turnsBack_82 : decode cX7_turnsBack 82 = .ok (.if_icmp .ne 18, 3) := by decide +kernel
theorem dX7_turnsBack_85 : decode cX7_turnsBack 85 = .ok (.aload_n 0, 1) := by decide +kernel
theorem dX7_turnsBack_86 : decode cX7_turnsBack 86 = .ok (.dup, 1) := by decide +kernel
theorem dX7_turnsBack_87 : decode cX7_turnsBack 87 = .ok (.getfield 103, 3) := by decide +kernel
theorem dX7_turnsBack_90 : decode cX7_turnsBack 90 = .ok (.aload_n 0, 1) := by decide +kernel
theorem dX7_turnsBack_91 : decode cX7_turnsBack 91 = .ok (.getfield 16, 3) := by decide +kernel
theorem dX7_turnsBack_94 : decode cX7_turnsBack 94 = .ok (.iload_n 3, 1) := by decide +kernel
theorem dX7_turnsBack_95 : decode cX7_turnsBack 95 = .ok (.iaload, 1) := by decide +kernel
theorem dX7_turnsBack_96 : decode cX7_turnsBack 96 = .ok (.idiv, 1) := by decide +kernel
theorem dX7_turnsBack_97 : decode cX7_turnsBack 97 = .ok (.putfield 103, 3) := by decide +kernel
theorem dX7_turnsBack_100 : decode cX7_turnsBack 100 = .ok (.aload_n 0, 1) := by decide +kernel
theorem dX7_turnsBack_101 : decode cX7_turnsBack 101 = .ok (.getfield 7, 3) := by decide +kernel
theorem dX7_turnsBack_104 : decode cX7_turnsBack 104 = .ok (.iload_n 3, 1) := by decide +kernel
theorem dX7_turnsBack_105 : decode cX7_turnsBack 105 = .ok (.caload, 1) := by decide +kernel
theorem dX7_turnsBack_106 : decode cX7_turnsBack 106 = .ok (.bipush 110, 2) := by decide +kernel
theorem dX7_turnsBack_108 : decode cX7_turnsBack 108 = .ok (.if_icmp .ne 12, 3) := by decide +kernel
theorem dX7_turnsBack_111 : decode cX7_turnsBack 111 = .ok (.aload_n 0, 1) := by decide +kernel
theorem dX7_turnsBack_112 : decode cX7_turnsBack 112 = .ok (.aload_n 0, 1) := by decide +kernel
theorem dX7_turnsBack_113 : decode cX7_turnsBack 113 = .ok (.getfield 103, 3) := by decide +kernel
theorem dX7_turnsBack_116 : decode cX7_turnsBack 116 = .ok (.ineg, 1) := by decide +kernel
theorem dX7_turnsBack_117 : decode cX7_turnsBack 117 = .ok (.putfield 103, 3) := by decide +kernel
theorem dX7_turnsBack_120 : decode cX7_turnsBack 120 = .ok (.aload_n 0, 1) := by decide +kernel
theorem dX7_turnsBack_121 : decode cX7_turnsBack 121 = .ok (.getfield 7, 3) := by decide +kernel
theorem dX7_turnsBack_124 : decode cX7_turnsBack 124 = .ok (.iload_n 3, 1) := by decide +kernel
theorem dX7_turnsBack_125 : decode cX7_turnsBack 125 = .ok (.caload, 1) := by decide +kernel
theorem dX7_turnsBack_126 : decode cX7_turnsBack 126 = .ok (.bipush 115, 2) := by decide +kernel
theorem dX7_turnsBack_128 : decode cX7_turnsBack 128 = .ok (.if_icmp .ne 16, 3) := by decide +kernel
theorem dX7_turnsBack_131 : decode cX7_turnsBack 131 = .ok (.aload_n 0, 1) := by decide +kernel
theorem dX7_turnsBack_132 : decode cX7_turnsBack 132 = .ok (.dup, 1) := by decide +kernel
theorem dX7_turnsBack_133 : decode cX7_turnsBack 133 = .ok (.getfield 106, 3) := by decide +kernel
theorem dX7_turnsBack_136 : decode cX7_turnsBack 136 = .ok (.aload_n 0, 1) := by decide +kernel
theorem dX7_turnsBack_137 : decode cX7_turnsBack 137 = .ok (.getfield 103, 3) := by decide +kernel
theorem dX7_turnsBack_140 : decode cX7_turnsBack 140 = .ok (.isub, 1) := by decide +kernel
theorem dX7_turnsBack_141 : decode cX7_turnsBack 141 = .ok (.putfield 106, 3) := by decide +kernel
theorem dX7_turnsBack_144 : decode cX7_turnsBack 144 = .ok (.aload_n 0, 1) := by decide +kernel
theorem dX7_turnsBack_145 : decode cX7_turnsBack 145 = .ok (.getfield 7, 3) := by decide +kernel
theorem dX7_turnsBack_148 : decode cX7_turnsBack 148 = .ok (.iload_n 3, 1) := by decide +kernel
theorem dX7_turnsBack_149 : decode cX7_turnsBack 149 = .ok (.caload, 1) := by decide +kernel
theorem dX7_turnsBack_150 : decode cX7_turnsBack 150 = .ok (.bipush 120, 2) := by decide +kernel
theorem dX7_turnsBack_152 : decode cX7_turnsBack 152 = .ok (.if_icmp .ne 7, 3) := by decide +kernel
theorem dX7_turnsBack_155 : decode cX7_turnsBack 155 = .ok (.aload_n 0, 1) := by decide +kernel
theorem dX7_turnsBack_156 : decode cX7_turnsBack 156 = .ok (.invokevirtual 117, 3) := by decide +kernel
theorem dX7_turnsBack_159 : decode cX7_turnsBack 159 = .ok (.iinc 3 (-1), 3) := by decide +kernel
theorem dX7_turnsBack_162 : decode cX7_turnsBack 162 = .ok (.goto (-145), 3) := by decide +kernel
theorem dX7_turnsBack_165 : decode cX7_turnsBack 165 = .ok (.aload_n 0, 1) := by decide +kernel
theorem dX7_turnsBack_166 : decode cX7_turnsBack 166 = .ok (.bipush 99, 2) := by decide +kernel
theorem dX7_turnsBack_168 : decode cX7_turnsBack 168 = .ok (.invokevirtual 124, 3) := by decide +kernel
theorem dX7_turnsBack_171 : decode cX7_turnsBack 171 = .ok (.ireturn, 1) := by decide +kernel
theorem dX7_isKind_0 : decode cX7_isKind 0 = .ok (.iload_n 0, 1) := by decide +kernel
theorem dX7_isKind_1 : decode cX7_isKind 1 = .ok (.bipush 112, 2) := by decide +kernel
theorem dX7_isKind_3 : decode cX7_isKind 3 = .ok (.if_icmp .eq 27, 3) := by decide +kernel
theorem dX7_isKind_6 : decode cX7_isKind 6 = .ok (.iload_n 0, 1) := by decide +kernel
theorem dX7_isKind_7 : decode cX7_isKind 7 = .ok (.bipush 109, 2) := by decide +kernel
theorem dX7_isKind_9 : decode cX7_isKind 9 = .ok (.if_icmp .eq 21, 3) := by decide +kernel
theorem dX7_isKind_12 : decode cX7_isKind 12 = .ok (.iload_n 0, 1) := by decide +kernel
theorem dX7_isKind_13 : decode cX7_isKind 13 = .ok (.bipush 110, 2) := by decide +kernel
theorem dX7_isKind_15 : decode cX7_isKind 15 = .ok (.if_icmp .eq 15, 3) := by decide +kernel
theorem dX7_isKind_18 : decode cX7_isKind 18 = .ok (.iload_n 0, 1) := by decide +kernel
theorem dX7_isKind_19 : decode cX7_isKind 19 = .ok (.bipush 120, 2) := by decide +kernel
theorem dX7_isKind_21 : decode cX7_isKind 21 = .ok (.if_icmp .eq 9, 3) := by decide +kernel
theorem dX7_isKind_24 : decode cX7_isKind 24 = .ok (.iload_n 0, 1) := by decide +kernel
theorem dX7_isKind_25 : decode cX7_isKind 25 = .ok (.bipush 115, 2) := by decide +kernel
theorem dX7_isKind_27 : decode cX7_isKind 27 = .ok (.if_icmp .ne 7, 3) := by decide +kernel
theorem dX7_isKind_30 : decode cX7_isKind 30 = .ok (.iconst 1, 1) := by decide +kernel
theorem dX7_isKind_31 : decode cX7_isKind 31 = .ok (.goto 4, 3) := by decide +kernel
theorem dX7_isKind_34 : decode cX7_isKind 34 = .ok (.iconst 0, 1) := by decide +kernel
theorem dX7_isKind_35 : decode cX7_isKind 35 = .ok (.ireturn, 1) := by decide +kernel
theorem dX7_isNumber_0 : decode cX7_isNumber 0 = .ok (.iload_n 0, 1) := by decide +kernel
theorem dX7_isNumber_1 : decode cX7_isNumber 1 = .ok (.bipush 112, 2) := by decide +kernel
theorem dX7_isNumber_3 : decode cX7_isNumber 3 = .ok (.if_icmp .ne 16, 3) := by decide +kernel
theorem dX7_isNumber_6 : decode cX7_isNumber 6 = .ok (.iload_n 1, 1) := by decide +kernel
theorem dX7_isNumber_7 : decode cX7_isNumber 7 = .ok (.sipush (-999), 3) := by decide +kernel
theorem dX7_isNumber_10 : decode cX7_isNumber 10 = .ok (.sipush 999, 3) := by decide +kernel
theorem dX7_isNumber_13 : decode cX7_isNumber 13 = .ok (.invokestatic 113, 3) := by decide +kernel
theorem dX7_isNumber_16 : decode cX7_isNumber 16 = .ok (.goto 29, 3) := by decide +kernel
theorem dX7_isNumber_19 : decode cX7_isNumber 19 = .ok (.iload_n 0, 1) := by decide +kernel
theorem dX7_isNumber_20 : decode cX7_isNumber 20 = .ok (.bipush 109, 2) := by decide +kernel
theorem dX7_isNumber_22 : decode cX7_isNumber 22 = .ok (.if_icmp .ne 18, 3) := by decide +kernel
theorem dX7_isNumber_25 : decode cX7_isNumber 25 = .ok (.iload_n 1, 1) := by decide +kernel
theorem dX7_isNumber_26 : decode cX7_isNumber 26 = .ok (.bipush (-9), 2) := by decide +kernel
theorem dX7_isNumber_28 : decode cX7_isNumber 28 = .ok (.bipush 9, 2) := by decide +kernel
theorem dX7_isNumber_30 : decode cX7_isNumber 30 = .ok (.invokestatic 113, 3) := by decide +kernel
theorem dX7_isNumber_33 : decode cX7_isNumber 33 = .ok (.ifCond .eq 11, 3) := by decide +kernel
theorem dX7_isNumber_36 : decode cX7_isNumber 36 = .ok (.iload_n 1, 1) := by decide +kernel
theorem dX7_isNumber_37 : decode cX7_isNumber 37 = .ok (.ifCond .eq 7, 3) := by decide +kernel
theorem dX7_isNumber_40 : decode cX7_isNumber 40 = .ok (.iconst 1, 1) := by decide +kernel
theorem dX7_isNumber_41 : decode cX7_isNumber 41 = .ok (.goto 4, 3) := by decide +kernel
theorem dX7_isNumber_44 : decode cX7_isNumber 44 = .ok (.iconst 0, 1) := by decide +kernel
theorem dX7_isNumber_45 : decode cX7_isNumber 45 = .ok (.ireturn, 1) := by decide +kernel
theorem dX7_addStep_0 : decode cX7_addStep 0 = .ok (.aload_n 0, 1) := by decide +kernel
theorem dX7_addStep_1 : decode cX7_addStep 1 = .ok (.iload_n 1, 1) := by decide +kernel
theorem dX7_addStep_2 : decode cX7_addStep 2 = .ok (.invokestatic 128, 3) := by decide +kernel
theorem dX7_addStep_5 : decode cX7_addStep 5 = .ok (.ifCond .eq 11, 3) := by decide +kernel
theorem dX7_addStep_8 : decode cX7_addStep 8 = .ok (.iload_n 1, 1) := by decide +kernel
theorem dX7_addStep_9 : decode cX7_addStep 9 = .ok (.iload_n 2, 1) := by decide +kernel
theorem dX7_addStep_10 : decode cX7_addStep 10 = .ok (.invokestatic 132, 3) := by decide +kernel
theorem dX7_addStep_13 : decode cX7_addStep 13 = .ok (.ifCond .ne 7, 3) := by decide +kernel
theorem dX7_addStep_16 : decode cX7_addStep 16 = .ok (.iconst 1, 1) := by decide +kernel
theorem dX7_addStep_17 : decode cX7_addStep 17 = .ok (.goto 26, 3) := by decide +kernel
theorem dX7_addStep_20 : decode cX7_addStep 20 = .ok (.aload_n 0, 1) := by decide +kernel
theorem dX7_addStep_21 : decode cX7_addStep 21 = .ok (.getfield 109, 3) := by decide +kernel
theorem dX7_addStep_24 : decode cX7_addStep 24 = .ok (.bipush 105, 2) := by decide +kernel
theorem dX7_addStep_26 : decode cX7_addStep 26 = .ok (.if_icmp .ne 12, 3) := by decide +kernel
theorem dX7_addStep_29 : decode cX7_addStep 29 = .ok (.aload_n 0, 1) := by decide +kernel
theorem dX7_addStep_30 : decode cX7_addStep 30 = .ok (.getfield 73, 3) := by decide +kernel
theorem dX7_addStep_33 : decode cX7_addStep 33 = .ok (.bipush 6, 2) := by decide +kernel
theorem dX7_addStep_35 : decode cX7_addStep 35 = .ok (.if_icmp .ne 7, 3) := by decide +kernel
theorem dX7_addStep_38 : decode cX7_addStep 38 = .ok (.iconst 2, 1) := by decide +kernel
theorem dX7_addStep_39 : decode cX7_addStep 39 = .ok (.goto 4, 3) := by decide +kernel
theorem dX7_addStep_42 : decode cX7_addStep 42 = .ok (.iconst 0, 1) := by decide +kernel
theorem dX7_addStep_43 : decode cX7_addStep 43 = .ok (.putfield 69, 3) := by decide +kernel
theorem dX7_addStep_46 : decode cX7_addStep 46 = .ok (.aload_n 0, 1) := by decide +kernel
theorem dX7_addStep_47 : decode cX7_addStep 47 = .ok (.getfield 69, 3) := by decide +kernel
theorem dX7_addStep_50 : decode cX7_addStep 50 = .ok (.ifCond .le 5, 3) := by decide +kernel
theorem dX7_addStep_53 : decode cX7_addStep 53 = .ok (.iconst 0, 1) := by decide +kernel
theorem dX7_addStep_54 : decode cX7_addStep 54 = .ok (.ireturn, 1) := by decide +kernel
theorem dX7_addStep_55 : decode cX7_addStep 55 = .ok (.aload_n 0, 1) := by decide +kernel
theorem dX7_addStep_56 : decode cX7_addStep 56 = .ok (.getfield 7, 3) := by decide +kernel
theorem dX7_addStep_59 : decode cX7_addStep 59 = .ok (.aload_n 0, 1) := by decide +kernel
theorem dX7_addStep_60 : decode cX7_addStep 60 = .ok (.getfield 73, 3) := by decide +kernel
theorem dX7_addStep_63 : decode cX7_addStep 63 = .ok (.iload_n 1, 1) := by decide +kernel
theorem dX7_addStep_64 : decode cX7_addStep 64 = .ok (.castore, 1) := by decide +kernel
theorem dX7_addStep_65 : decode cX7_addStep 65 = .ok (.aload_n 0, 1) := by decide +kernel
theorem dX7_addStep_66 : decode cX7_addStep 66 = .ok (.getfield 16, 3) := by decide +kernel
theorem dX7_addStep_69 : decode cX7_addStep 69 = .ok (.aload_n 0, 1) := by decide +kernel
theorem dX7_addStep_70 : decode cX7_addStep 70 = .ok (.getfield 73, 3) := by decide +kernel
theorem dX7_addStep_73 : decode cX7_addStep 73 = .ok (.iload_n 2, 1) := by decide +kernel
theorem dX7_addStep_74 : decode cX7_addStep 74 = .ok (.iastore, 1) := by decide +kernel
theorem dX7_addStep_75 : decode cX7_addStep 75 = .ok (.aload_n 0, 1) := by decide +kernel
theorem dX7_addStep_76 : decode cX7_addStep 76 = .ok (.dup, 1) := by decide +kernel
theorem dX7_addStep_77 : decode cX7_addStep 77 = .ok (.getfield 73, 3) := by decide +kernel
theorem dX7_addStep_80 : decode cX7_addStep 80 = .ok (.iconst 1, 1) := by decide +kernel
theorem dX7_addStep_81 : decode cX7_addStep 81 = .ok (.iadd, 1) := by decide +kernel
theorem dX7_addStep_82 : decode cX7_addStep 82 = .ok (.putfield 73, 3) := by decide +kernel
theorem dX7_addStep_85 : decode cX7_addStep 85 = .ok (.aload_n 0, 1) := by decide +kernel
theorem dX7_addStep_86 : decode cX7_addStep 86 = .ok (.getfield 73, 3) := by decide +kernel
theorem dX7_addStep_89 : decode cX7_addStep 89 = .ok (.ireturn, 1) := by decide +kernel
theorem dX7_isLater_0 : decode cX7_isLater 0 = .ok (.aload_n 0, 1) := by decide +kernel
theorem dX7_isLater_1 : decode cX7_isLater 1 = .ok (.getfield 13, 3) := by decide +kernel
theorem dX7_isLater_4 : decode cX7_isLater 4 = .ok (.iload_n 1, 1) := by decide +kernel
theorem dX7_isLater_5 : decode cX7_isLater 5 = .ok (.caload, 1) := by decide +kernel
theorem dX7_isLater_6 : decode cX7_isLater 6 = .ok (.bipush 45, 2) := by decide +kernel
theorem dX7_isLater_8 : decode cX7_isLater 8 = .ok (.if_icmp .eq 13, 3) := by decide +kernel
theorem dX7_isLater_11 : decode cX7_isLater 11 = .ok (.aload_n 0, 1) := by decide +kernel
theorem dX7_isLater_12 : decode cX7_isLater 12 = .ok (.getfield 32, 3) := by decide +kernel
theorem dX7_isLater_15 : decode cX7_isLater 15 = .ok (.iload_n 1, 1) := by decide +kernel
theorem dX7_isLater_16 : decode cX7_isLater 16 = .ok (.iaload, 1) := by decide +kernel
theorem dX7_isLater_17 : decode cX7_isLater 17 = .ok (.iload_n 2, 1) := by decide +kernel
theorem dX7_isLater_18 : decode cX7_isLater 18 = .ok (.if_icmp .ge 7, 3) := by decide +kernel
theorem dX7_isLater_21 : decode cX7_isLater 21 = .ok (.iconst 1, 1) := by decide +kernel
theorem dX7_isLater_22 : decode cX7_isLater 22 = .ok (.goto 4, 3) := by decide +kernel
theorem dX7_isLater_25 : decode cX7_isLater 25 = .ok (.iconst 0, 1) := by decide +kernel
theorem dX7_isLater_26 : decode cX7_isLater 26 = .ok (.ireturn, 1) := by decide +kernel
theorem dX7_holds_0 : decode cX7_holds 0 = .ok (.aload_n 0, 1) := by decide +kernel
theorem dX7_holds_1 : decode cX7_holds 1 = .ok (.getfield 13, 3) := by decide +kernel
theorem dX7_holds_4 : decode cX7_holds 4 = .ok (.iload_n 1, 1) := by decide +kernel
theorem dX7_holds_5 : decode cX7_holds 5 = .ok (.iload_n 2, 1) := by decide +kernel
theorem dX7_holds_6 : decode cX7_holds 6 = .ok (.castore, 1) := by decide +kernel
theorem dX7_holds_7 : decode cX7_holds 7 = .ok (.aload_n 0, 1) := by decide +kernel
theorem dX7_holds_8 : decode cX7_holds 8 = .ok (.getfield 32, 3) := by decide +kernel
theorem dX7_holds_11 : decode cX7_holds 11 = .ok (.iload_n 1, 1) := by decide +kernel
theorem dX7_holds_12 : decode cX7_holds 12 = .ok (.iload_n 3, 1) := by decide +kernel
theorem dX7_holds_13 : decode cX7_holds 13 = .ok (.iastore, 1) := by decide +kernel
theorem dX7_holds_14 : decode cX7_holds 14 = .ok (.return_, 1) := by decide +kernel
theorem dX7_puts_0 : decode cX7_puts 0 = .ok (.aload_n 0, 1) := by decide +kernel
theorem dX7_puts_1 : decode cX7_puts 1 = .ok (.iload_n 1, 1) := by decide +kernel
theorem dX7_puts_2 : decode cX7_puts 2 = .ok (.iload 4, 2) := by decide +kernel
theorem dX7_puts_4 : decode cX7_puts 4 = .ok (.invokevirtual 136, 3) := by decide +kernel
theorem dX7_puts_7 : decode cX7_puts 7 = .ok (.ifCond .ne 5, 3) := by decide +kernel
theorem dX7_puts_10 : decode cX7_puts 10 = .ok (.iconst 0, 1) := by decide +kernel
theorem dX7_puts_11 : decode cX7_puts 11 = .ok (.ireturn, 1) := by decide +kernel
theorem dX7_puts_12 : decode cX7_puts 12 = .ok (.aload_n 0, 1) := by decide +kernel
theorem dX7_puts_13 : decode cX7_puts 13 = .ok (.iload_n 2, 1) := by decide +kernel
theorem dX7_puts_14 : decode cX7_puts 14 = .ok (.iload_n 3, 1) := by decide +kernel
theorem dX7_puts_15 : decode cX7_puts 15 = .ok (.invokevirtual 140, 3) := by decide +kernel
theorem dX7_puts_18 : decode cX7_puts 18 = .ok (.istore 5, 2) := by decide +kernel
theorem dX7_puts_20 : decode cX7_puts 20 = .ok (.aload_n 0, 1) := by decide +kernel
theorem dX7_puts_21 : decode cX7_puts 21 = .ok (.iload_n 1, 1) := by decide +kernel
theorem dX7_puts_22 : decode cX7_puts 22 = .ok (.iload 5, 2) := by decide +kernel
theorem dX7_puts_24 : decode cX7_puts 24 = .ok (.ifCond .eq 8, 3) := by decide +kernel
theorem dX7_puts_27 : decode cX7_puts 27 = .ok (.bipush 101, 2) := by decide +kernel
theorem dX7_puts_29 : decode cX7_puts 29 = .ok (.goto 5, 3) := by decide +kernel
theorem dX7_puts_32 : decode cX7_puts 32 = .ok (.bipush 97, 2) := by decide +kernel
theorem dX7_puts_34 : decode cX7_puts 34 = .ok (.iload 4, 2) := by decide +kernel
theorem dX7_puts_36 : decode cX7_puts 36 = .ok (.invokevirtual 143, 3) := by decide +kernel
theorem dX7_puts_39 : decode cX7_puts 39 = .ok (.aload_n 0, 1) := by decide +kernel
theorem dX7_puts_40 : decode cX7_puts 40 = .ok (.getfield 26, 3) := by decide +kernel
theorem dX7_puts_43 : decode cX7_puts 43 = .ok (.iload_n 1, 1) := by decide +kernel
theorem dX7_puts_44 : decode cX7_puts 44 = .ok (.aload_n 0, 1) := by decide +kernel
theorem dX7_puts_45 : decode cX7_puts 45 = .ok (.getfield 103, 3) := by decide +kernel
theorem dX7_puts_48 : decode cX7_puts 48 = .ok (.iastore, 1) := by decide +kernel
theorem dX7_puts_49 : decode cX7_puts 49 = .ok (.aload_n 0, 1) := by decide +kernel
theorem dX7_puts_50 : decode cX7_puts 50 = .ok (.getfield 29, 3) := by decide +kernel
theorem dX7_puts_53 : decode cX7_puts 53 = .ok (.iload_n 1, 1) := by decide +kernel
theorem dX7_puts_54 : decode cX7_puts 54 = .ok (.aload_n 0, 1) := by decide +kernel
theorem dX7_puts_55 : decode cX7_puts 55 = .ok (.getfield 106, 3) := by decide +kernel
theorem dX7_puts_58 : decode cX7_puts 58 = .ok (.iastore, 1) := by decide +kernel
theorem dX7_puts_59 : decode cX7_puts 59 = .ok (.iconst 1, 1) := by decide +kernel
theorem dX7_puts_60 : decode cX7_puts 60 = .ok (.ireturn, 1) := by decide +kernel
theorem dX7_takesAway_0 : decode cX7_takesAway 0 = .ok (.aload_n 0, 1) := by decide +kernel
theorem dX7_takesAway_1 : decode cX7_takesAway 1 = .ok (.iload_n 1, 1) := by decide +kernel
theorem dX7_takesAway_2 : decode cX7_takesAway 2 = .ok (.iload_n 2, 1) := by decide +kernel
theorem dX7_takesAway_3 : decode cX7_takesAway 3 = .ok (.invokevirtual 136, 3) := by decide +kernel
theorem dX7_takesAway_6 : decode cX7_takesAway 6 = .ok (.ifCond .eq 11, 3) := by decide +kernel
theorem dX7_takesAway_9 : decode cX7_takesAway 9 = .ok (.aload_n 0, 1) := by decide +kernel
theorem dX7_takesAway_10 : decode cX7_takesAway 10 = .ok (.iload_n 1, 1) := by decide +kernel
theorem dX7_takesAway_11 : decode cX7_takesAway 11 = .ok (.bipush 116, 2) := by decide +kernel
theorem dX7_takesAway_13 : decode cX7_takesAway 13 = .ok (.iload_n 2, 1) := by decide +kernel
theorem dX7_takesAway_14 : decode cX7_takesAway 14 = .ok (.invokevirtual 143, 3) := by decide +kernel
theorem dX7_takesAway_17 : decode cX7_takesAway 17 = .ok (.return_, 1) := by decide +kernel
theorem dX7_followsOne_0 : decode cX7_followsOne 0 = .ok (.aload_n 0, 1) := by decide +kernel
theorem dX7_followsOne_1 : decode cX7_followsOne 1 = .ok (.getfield 79, 3) := by decide +kernel
theorem dX7_followsOne_4 : decode cX7_followsOne 4 = .ok (.istore_n 1, 1) := by decide +kernel
theorem dX7_followsOne_5 : decode cX7_followsOne 5 = .ok (.aload_n 0, 1) := by decide +kernel
theorem dX7_followsOne_6 : decode cX7_followsOne 6 = .ok (.dup, 1) := by decide +kernel
theorem dX7_followsOne_7 : decode cX7_followsOne 7 = .ok (.getfield 79, 3) := by decide +kernel
theorem dX7_followsOne_10 : decode cX7_followsOne 10 = .ok (.iconst 1, 1) := by decide +kernel
theorem dX7_followsOne_11 : decode cX7_followsOne 11 = .ok (.iadd, 1) := by decide +kernel
theorem dX7_followsOne_12 : decode cX7_followsOne 12 = .ok (.putfield 79, 3) := by decide +kernel
theorem dX7_followsOne_15 : decode cX7_followsOne 15 = .ok (.aload_n 0, 1) := by decide +kernel
theorem dX7_followsOne_16 : decode cX7_followsOne 16 = .ok (.getfield 63, 3) := by decide +kernel
theorem dX7_followsOne_19 : decode cX7_followsOne 19 = .ok (.iload_n 1, 1) := by decide +kernel
theorem dX7_followsOne_20 : decode cX7_followsOne 20 = .ok (.baload, 1) := by decide +kernel
theorem dX7_followsOne_21 : decode cX7_followsOne 21 = .ok (.ifCond .eq 19, 3) := by decide +kernel
theorem dX7_followsOne_24 : decode cX7_followsOne 24 = .ok (.aload_n 0, 1) := by decide +kernel
theorem dX7_followsOne_25 : decode cX7_followsOne 25 = .ok (.aload_n 0, 1) := by decide +kernel
theorem dX7_followsOne_26 : decode cX7_followsOne 26 = .ok (.getfield 42, 3) := by decide +kernel
theorem dX7_followsOne_29 : decode cX7_followsOne 29 = .ok (.iload_n 1, 1) := by decide +kernel
theorem dX7_followsOne_30 : decode cX7_followsOne 30 = .ok (.iaload, 1) := by decide +kernel
theorem dX7_followsOne_31 : decode cX7_followsOne 31 = .ok (.iload_n 1, 1) := by decide +kernel
theorem dX7_followsOne_32 : decode cX7_followsOne 32 = .ok (.iconst 1, 1) := by decide +kernel
theorem dX7_followsOne_33 : decode cX7_followsOne 33 = .ok (.iadd, 1) := by decide +kernel
theorem dX7_followsOne_34 : decode cX7_followsOne 34 = .ok (.invokevirtual 147, 3) := by decide +kernel
theorem dX7_followsOne_37 : decode cX7_followsOne 37 = .ok (.goto 29, 3) := by decide +kernel
theorem dX7_followsOne_40 : decode cX7_followsOne 40 = .ok (.aload_n 0, 1) := by decide +kernel
theorem dX7_followsOne_41 : decode cX7_followsOne 41 = .ok (.aload_n 0, 1) := by decide +kernel
theorem dX7_followsOne_42 : decode cX7_followsOne 42 = .ok (.getfield 42, 3) := by decide +kernel
theorem dX7_followsOne_45 : decode cX7_followsOne 45 = .ok (.iload_n 1, 1) := by decide +kernel
theorem dX7_followsOne_46 : decode cX7_followsOne 46 = .ok (.iaload, 1) := by decide +kernel
theorem dX7_followsOne_47 : decode cX7_followsOne 47 = .ok (.aload_n 0, 1) := by decide +kernel
theorem dX7_followsOne_48 : decode cX7_followsOne 48 = .ok (.getfield 45, 3) := by decide +kernel
theorem dX7_followsOne_51 : decode cX7_followsOne 51 = .ok (.iload_n 1, 1) := by decide +kernel
theorem dX7_followsOne_52 : decode cX7_followsOne 52 = .ok (.iaload, 1) := by decide +kernel
theorem dX7_followsOne_53 : decode cX7_followsOne 53 = .ok (.aload_n 0, 1) := by decide +kernel
theorem dX7_followsOne_54 : decode cX7_followsOne 54 = .ok (.getfield 48, 3) := by decide +kernel
theorem dX7_followsOne_57 : decode cX7_followsOne 57 = .ok (.iload_n 1, 1) := by decide +kernel
theorem dX7_followsOne_58 : decode cX7_followsOne 58 = .ok (.iaload, 1) := by decide +kernel
theorem dX7_followsOne_59 : decode cX7_followsOne 59 = .ok (.iload_n 1, 1) := by decide +kernel
theorem dX7_followsOne_60 : decode cX7_followsOne 60 = .ok (.iconst 1, 1) := by decide +kernel
theorem dX7_followsOne_61 : decode cX7_followsOne 61 = .ok (.iadd, 1) := by decide +kernel
theorem dX7_followsOne_62 : decode cX7_followsOne 62 = .ok (.invokevirtual 151, 3) := by decide +kernel
theorem dX7_followsOne_65 : decode cX7_followsOne 65 = .ok (.pop, 1) := by decide +kernel
theorem dX7_followsOne_66 : decode cX7_followsOne 66 = .ok (.return_, 1) := by decide +kernel
theorem dX7_logs_0 : decode cX7_logs 0 = .ok (.aload_n 0, 1) := by decide +kernel
theorem dX7_logs_1 : decode cX7_logs 1 = .ok (.getfield 109, 3) := by decide +kernel
theorem dX7_logs_4 : decode cX7_logs 4 = .ok (.bipush 105, 2) := by decide +kernel
theorem dX7_logs_6 : decode cX7_logs 6 = .ok (.if_icmp .ne 4, 3) := by decide +kernel
theorem dX7_logs_9 : decode cX7_logs 9 = .ok (.return_, 1) := by decide +kernel
theorem dX7_logs_10 : decode cX7_logs 10 = .ok (.aload_n 0, 1) := by decide +kernel
theorem dX7_logs_11 : decode cX7_logs 11 = .ok (.getfield 42, 3) := by decide +kernel
theorem dX7_logs_14 : decode cX7_logs 14 = .ok (.aload_n 0, 1) := by decide +kernel
theorem dX7_logs_15 : decode cX7_logs 15 = .ok (.getfield 76, 3) := by decide +kernel
theorem dX7_logs_18 : decode cX7_logs 18 = .ok (.iload_n 1, 1) := by decide +kernel
theorem dX7_logs_19 : decode cX7_logs 19 = .ok (.iastore, 1) := by decide +kernel
theorem dX7_logs_20 : decode cX7_logs 20 = .ok (.aload_n 0, 1) := by decide +kernel
theorem dX7_logs_21 : decode cX7_logs 21 = .ok (.getfield 63, 3) := by decide +kernel
theorem dX7_logs_24 : decode cX7_logs 24 = .ok (.aload_n 0, 1) := by decide +kernel
theorem dX7_logs_25 : decode cX7_logs 25 = .ok (.getfield 76, 3) := by decide +kernel
theorem dX7_logs_28 : decode cX7_logs 28 = .ok (.iload_n 2, 1) := by decide +kernel
theorem dX7_logs_29 : decode cX7_logs 29 = .ok (.bastore, 1) := by decide +kernel
theorem dX7_logs_30 : decode cX7_logs 30 = .ok (.aload_n 0, 1) := by decide +kernel
theorem dX7_logs_31 : decode cX7_logs 31 = .ok (.getfield 45, 3) := by decide +kernel
theorem dX7_logs_34 : decode cX7_logs 34 = .ok (.aload_n 0, 1) := by decide +kernel
theorem dX7_logs_35 : decode cX7_logs 35 = .ok (.getfield 76, 3) := by decide +kernel
theorem dX7_logs_38 : decode cX7_logs 38 = .ok (.iload_n 3, 1) := by decide +kernel
theorem dX7_logs_39 : decode cX7_logs 39 = .ok (.iastore, 1) := by decide +kernel
theorem dX7_logs_40 : decode cX7_logs 40 = .ok (.aload_n 0, 1) := by decide +kernel
theorem dX7_logs_41 : decode cX7_logs 41 = .ok (.getfield 48, 3) := by decide +kernel
theorem dX7_logs_44 : decode cX7_logs 44 = .ok (.aload_n 0, 1) := by decide +kernel
theorem dX7_logs_45 : decode cX7_logs 45 = .ok (.getfield 76, 3) := by decide +kernel
theorem dX7_logs_48 : decode cX7_logs 48 = .ok (.iload 4, 2) := by decide +kernel
theorem dX7_logs_50 : decode cX7_logs 50 = .ok (.iastore, 1) := by decide +kernel
theorem dX7_logs_51 : decode cX7_logs 51 = .ok (.aload_n 0, 1) := by decide +kernel
theorem dX7_logs_52 : decode cX7_logs 52 = .ok (.dup, 1) := by decide +kernel
theorem dX7_logs_53 : decode cX7_logs 53 = .ok (.getfield 76, 3) := by decide +kernel
theorem dX7_logs_56 : decode cX7_logs 56 = .ok (.iconst 1, 1) := by decide +kernel
theorem dX7_logs_57 : decode cX7_logs 57 = .ok (.iadd, 1) := by decide +kernel
theorem dX7_logs_58 : decode cX7_logs 58 = .ok (.putfield 76, 3) := by decide +kernel
theorem dX7_logs_61 : decode cX7_logs 61 = .ok (.aload_n 0, 1) := by decide +kernel
theorem dX7_logs_62 : decode cX7_logs 62 = .ok (.getfield 109, 3) := by decide +kernel
theorem dX7_logs_65 : decode cX7_logs 65 = .ok (.bipush 98, 2) := by decide +kernel
theorem dX7_logs_67 : decode cX7_logs 67 = .ok (.if_icmp .ne 7, 3) := by decide +kernel
theorem dX7_logs_70 : decode cX7_logs 70 = .ok (.aload_n 0, 1) := by decide +kernel
theorem dX7_logs_71 : decode cX7_logs 71 = .ok (.invokevirtual 155, 3) := by decide +kernel
theorem dX7_logs_74 : decode cX7_logs 74 = .ok (.return_, 1) := by decide +kernel
theorem dX7_manyRows_0 : decode cX7_manyRows 0 = .ok (.iconst 0, 1) := by decide +kernel
theorem dX7_manyRows_1 : decode cX7_manyRows 1 = .ok (.istore_n 1, 1) := by decide +kernel
theorem dX7_manyRows_2 : decode cX7_manyRows 2 = .ok (.iconst 0, 1) := by decide +kernel
theorem dX7_manyRows_3 : decode cX7_manyRows 3 = .ok (.istore_n 2, 1) := by decide +kernel
theorem dX7_manyRows_4 : decode cX7_manyRows 4 = .ok (.iload_n 2, 1) := by decide +kernel
theorem dX7_manyRows_5 : decode cX7_manyRows 5 = .ok (.bipush 40, 2) := by decide +kernel
theorem dX7_manyRows_7 : decode cX7_manyRows 7 = .ok (.if_icmp .ge 26, 3) := by decide +kernel
theorem dX7_manyRows_10 : decode cX7_manyRows 10 = .ok (.iload_n 1, 1) := by decide +kernel
theorem dX7_manyRows_11 : decode cX7_manyRows 11 = .ok (.aload_n 0, 1) := by decide +kernel
theorem dX7_manyRows_12 : decode cX7_manyRows 12 = .ok (.getfield 35, 3) := by decide +kernel
theorem dX7_manyRows_15 : decode cX7_manyRows 15 = .ok (.iload_n 2, 1) := by decide +kernel
theorem dX7_manyRows_16 : decode cX7_manyRows 16 = .ok (.baload, 1) := by decide +kernel
theorem dX7_manyRows_17 : decode cX7_manyRows 17 = .ok (.ifCond .eq 7, 3) := by decide +kernel
theorem dX7_manyRows_20 : decode cX7_manyRows 20 = .ok (.iconst 1, 1) := by decide +kernel
theorem dX7_manyRows_21 : decode cX7_manyRows 21 = .ok (.goto 4, 3) := by decide +kernel
theorem dX7_manyRows_24 : decode cX7_manyRows 24 = .ok (.iconst 0, 1) := by decide +kernel
theorem dX7_manyRows_25 : decode cX7_manyRows 25 = .ok (.iadd, 1) := by decide +kernel
theorem dX7_manyRows_26 : decode cX7_manyRows 26 = .ok (.istore_n 1, 1) := by decide +kernel
theorem dX7_manyRows_27 : decode cX7_manyRows 27 = .ok (.iinc 2 1, 3) := by decide +kernel
theorem dX7_manyRows_30 : decode cX7_manyRows 30 = .ok (.goto (-26), 3) := by decide +kernel
theorem dX7_manyRows_33 : decode cX7_manyRows 33 = .ok (.iload_n 1, 1) := by decide +kernel
theorem dX7_manyRows_34 : decode cX7_manyRows 34 = .ok (.ireturn, 1) := by decide +kernel
theorem dX7_manyHeld_0 : decode cX7_manyHeld 0 = .ok (.iconst 0, 1) := by decide +kernel
theorem dX7_manyHeld_1 : decode cX7_manyHeld 1 = .ok (.istore_n 2, 1) := by decide +kernel
theorem dX7_manyHeld_2 : decode cX7_manyHeld 2 = .ok (.iconst 0, 1) := by decide +kernel
theorem dX7_manyHeld_3 : decode cX7_manyHeld 3 = .ok (.istore_n 3, 1) := by decide +kernel
theorem dX7_manyHeld_4 : decode cX7_manyHeld 4 = .ok (.iload_n 3, 1) := by decide +kernel
theorem dX7_manyHeld_5 : decode cX7_manyHeld 5 = .ok (.bipush 40, 2) := by decide +kernel
theorem dX7_manyHeld_7 : decode cX7_manyHeld 7 = .ok (.if_icmp .ge 27, 3) := by decide +kernel
theorem dX7_manyHeld_10 : decode cX7_manyHeld 10 = .ok (.iload_n 2, 1) := by decide +kernel
theorem dX7_manyHeld_11 : decode cX7_manyHeld 11 = .ok (.aload_n 0, 1) := by decide +kernel
theorem dX7_manyHeld_12 : decode cX7_manyHeld 12 = .ok (.getfield 13, 3) := by decide +kernel
theorem dX7_manyHeld_15 : decode cX7_manyHeld 15 = .ok (.iload_n 3, 1) := by decide +kernel
theorem dX7_manyHeld_16 : decode cX7_manyHeld 16 = .ok (.caload, 1) := by decide +kernel
theorem dX7_manyHeld_17 : decode cX7_manyHeld 17 = .ok (.iload_n 1, 1) := by decide +kernel
theorem dX7_manyHeld_18 : decode cX7_manyHeld 18 = .ok (.if_icmp .ne 7, 3) := by decide +kernel
theorem dX7_manyHeld_21 : decode cX7_manyHeld 21 = .ok (.iconst 1, 1) := by decide +kernel
theorem dX7_manyHeld_22 : decode cX7_manyHeld 22 = .ok (.goto 4, 3) := by decide +kernel
theorem dX7_manyHeld_25 : decode cX7_manyHeld 25 = .ok (.iconst 0, 1) := by decide +kernel
theorem dX7_manyHeld_26 : decode cX7_manyHeld 26 = .ok (.iadd, 1) := by decide +kernel
theorem dX7_manyHeld_27 : decode cX7_manyHeld 27 = .ok (.istore_n 2, 1) := by decide +kernel
theorem dX7_manyHeld_28 : decode cX7_manyHeld 28 = .ok (.iinc 3 1, 3) := by decide +kernel
theorem dX7_manyHeld_31 : decode cX7_manyHeld 31 = .ok (.goto (-27), 3) := by decide +kernel
theorem dX7_manyHeld_34 : decode cX7_manyHeld 34 = .ok (.iload_n 2, 1) := by decide +kernel
theorem dX7_manyHeld_35 : decode cX7_manyHeld 35 = .ok (.ireturn, 1) := by decide +kernel
theorem dX7_start_0 : decode cX7_start 0 = .ok (.aload_n 0, 1) := by decide +kernel
theorem dX7_start_1 : decode cX7_start 1 = .ok (.aload_n 0, 1) := by decide +kernel
theorem dX7_start_2 : decode cX7_start 2 = .ok (.getfield 109, 3) := by decide +kernel
theorem dX7_start_5 : decode cX7_start 5 = .ok (.bipush 105, 2) := by decide +kernel
theorem dX7_start_7 : decode cX7_start 7 = .ok (.if_icmp .ne 7, 3) := by decide +kernel
theorem dX7_start_10 : decode cX7_start 10 = .ok (.iconst 1, 1) := by decide +kernel
theorem dX7_start_11 : decode cX7_start 11 = .ok (.goto 4, 3) := by decide +kernel
theorem dX7_start_14 : decode cX7_start 14 = .ok (.iconst 0, 1) := by decide +kernel
theorem dX7_start_15 : decode cX7_start 15 = .ok (.invokevirtual 158, 3) := by decide +kernel
theorem dX7_start_18 : decode cX7_start 18 = .ok (.ifCond .le 5, 3) := by decide +kernel
theorem dX7_start_21 : decode cX7_start 21 = .ok (.iconst 0, 1) := by decide +kernel
theorem dX7_start_22 : decode cX7_start 22 = .ok (.ireturn, 1) := by decide +kernel
theorem dX7_start_23 : decode cX7_start 23 = .ok (.aload_n 0, 1) := by decide +kernel
theorem dX7_start_24 : decode cX7_start 24 = .ok (.bipush 99, 2) := by decide +kernel
theorem dX7_start_26 : decode cX7_start 26 = .ok (.putfield 109, 3) := by decide +kernel
theorem dX7_start_29 : decode cX7_start 29 = .ok (.aload_n 0, 1) := by decide +kernel
theorem dX7_start_30 : decode cX7_start 30 = .ok (.invokevirtual 162, 3) := by decide +kernel
theorem dX7_start_33 : decode cX7_start 33 = .ok (.ireturn, 1) := by decide +kernel
theorem dX7_phase_0 : decode cX7_phase 0 = .ok (.aload_n 0, 1) := by decide +kernel
theorem dX7_phase_1 : decode cX7_phase 1 = .ok (.iconst 0, 1) := by decide +kernel
theorem dX7_phase_2 : decode cX7_phase 2 = .ok (.putfield 69, 3) := by decide +kernel
theorem dX7_phase_5 : decode cX7_phase 5 = .ok (.aload_n 0, 1) := by decide +kernel
theorem dX7_phase_6 : decode cX7_phase 6 = .ok (.getfield 109, 3) := by decide +kernel
theorem dX7_phase_9 : decode cX7_phase 9 = .ok (.ireturn, 1) := by decide +kernel
theorem dX7_goToBoth_0 : decode cX7_goToBoth 0 = .ok (.aload_n 0, 1) := by decide +kernel
theorem dX7_goToBoth_1 : decode cX7_goToBoth 1 = .ok (.aload_n 0, 1) := by decide +kernel
theorem dX7_goToBoth_2 : decode cX7_goToBoth 2 = .ok (.getfield 109, 3) := by decide +kernel
theorem dX7_goToBoth_5 : decode cX7_goToBoth 5 = .ok (.bipush 99, 2) := by decide +kernel
theorem dX7_goToBoth_7 : decode cX7_goToBoth 7 = .ok (.if_icmp .eq 7, 3) := by decide +kernel
theorem dX7_goToBoth_10 : decode cX7_goToBoth 10 = .ok (.iconst 1, 1) := by decide +kernel
theorem dX7_goToBoth_11 : decode cX7_goToBoth 11 = .ok (.goto 24, 3) := by decide +kernel
theorem dX7_goToBoth_14 : decode cX7_goToBoth 14 = .ok (.aload_n 0, 1) := by decide +kernel
theorem dX7_goToBoth_15 : decode cX7_goToBoth 15 = .ok (.getfield 85, 3) := by decide +kernel
theorem dX7_goToBoth_18 : decode cX7_goToBoth 18 = .ok (.bipush 40, 2) := by decide +kernel
theorem dX7_goToBoth_20 : decode cX7_goToBoth 20 = .ok (.if_icmp .lt 10, 3) := by decide +kernel
theorem dX7_goToBoth_23 : decode cX7_goToBoth 23 = .ok (.aload_n 0, 1) := by decide +kernel
theorem dX7_goToBoth_24 : decode cX7_goToBoth 24 = .ok (.getfield 91, 3) := by decide +kernel
theorem dX7_goToBoth_27 : decode cX7_goToBoth 27 = .ok (.ifCond .le 7, 3) := by decide +kernel
theorem dX7_goToBoth_30 : decode cX7_goToBoth 30 = .ok (.iconst 2, 1) := by decide +kernel
theorem dX7_goToBoth_31 : decode cX7_goToBoth 31 = .ok (.goto 4, 3) := by decide +kernel
theorem dX7_goToBoth_34 : decode cX7_goToBoth 34 = .ok (.iconst 0, 1) := by decide +kernel
theorem dX7_goToBoth_35 : decode cX7_goToBoth 35 = .ok (.putfield 69, 3) := by decide +kernel
theorem dX7_goToBoth_38 : decode cX7_goToBoth 38 = .ok (.aload_n 0, 1) := by decide +kernel
theorem dX7_goToBoth_39 : decode cX7_goToBoth 39 = .ok (.getfield 69, 3) := by decide +kernel
theorem dX7_goToBoth_42 : decode cX7_goToBoth 42 = .ok (.ifCond .le 5, 3) := by decide +kernel
theorem dX7_goToBoth_45 : decode cX7_goToBoth 45 = .ok (.iconst 0, 1) := by decide +kernel
theorem dX7_goToBoth_46 : decode cX7_goToBoth 46 = .ok (.ireturn, 1) := by decide +kernel
theorem dX7_goToBoth_47 : decode cX7_goToBoth 47 = .ok (.aload_n 0, 1) := by decide +kernel
theorem dX7_goToBoth_48 : decode cX7_goToBoth 48 = .ok (.getfield 76, 3) := by decide +kernel
theorem dX7_goToBoth_51 : decode cX7_goToBoth 51 = .ok (.aload_n 0, 1) := by decide +kernel
theorem dX7_goToBoth_52 : decode cX7_goToBoth 52 = .ok (.getfield 79, 3) := by decide +kernel
theorem dX7_goToBoth_55 : decode cX7_goToBoth 55 = .ok (.isub, 1) := by decide +kernel
theorem dX7_goToBoth_56 : decode cX7_goToBoth 56 = .ok (.istore_n 1, 1) := by decide +kernel
theorem dX7_goToBoth_57 : decode cX7_goToBoth 57 = .ok (.aload_n 0, 1) := by decide +kernel
theorem dX7_goToBoth_58 : decode cX7_goToBoth 58 = .ok (.getfield 79, 3) := by decide +kernel
theorem dX7_goToBoth_61 : decode cX7_goToBoth 61 = .ok (.aload_n 0, 1) := by decide +kernel
theorem dX7_goToBoth_62 : decode cX7_goToBoth 62 = .ok (.getfield 76, 3) := by decide +kernel
theorem dX7_goToBoth_65 : decode cX7_goToBoth 65 = .ok (.if_icmp .ge 10, 3) := by decide +kernel
theorem dX7_goToBoth_68 : decode cX7_goToBoth 68 = .ok (.aload_n 0, 1) := by decide +kernel
theorem dX7_goToBoth_69 : decode cX7_goToBoth 69 = .ok (.invokevirtual 155, 3) := by decide +kernel
theorem dX7_goToBoth_72 : decode cX7_goToBoth 72 = .ok (.goto (-15), 3) := by decide +kernel
theorem dX7_goToBoth_75 : decode cX7_goToBoth 75 = .ok (.aload_n 0, 1) := by decide +kernel
theorem dX7_goToBoth_76 : decode cX7_goToBoth 76 = .ok (.bipush 98, 2) := by decide +kernel
theorem dX7_goToBoth_78 : decode cX7_goToBoth 78 = .ok (.putfield 109, 3) := by decide +kernel
theorem dX7_goToBoth_81 : decode cX7_goToBoth 81 = .ok (.iload_n 1, 1) := by decide +kernel
theorem dX7_goToBoth_82 : decode cX7_goToBoth 82 = .ok (.ireturn, 1) := by decide +kernel
theorem dX7_switchOver_0 : decode cX7_switchOver 0 = .ok (.aload_n 0, 1) := by decide +kernel
theorem dX7_switchOver_1 : decode cX7_switchOver 1 = .ok (.aload_n 0, 1) := by decide +kernel
theorem dX7_switchOver_2 : decode cX7_switchOver 2 = .ok (.getfield 109, 3) := by decide +kernel
theorem dX7_switchOver_5 : decode cX7_switchOver 5 = .ok (.bipush 98, 2) := by decide +kernel
theorem dX7_switchOver_7 : decode cX7_switchOver 7 = .ok (.if_icmp .eq 7, 3) := by decide +kernel
theorem dX7_switchOver_10 : decode cX7_switchOver 10 = .ok (.iconst 1, 1) := by decide +kernel
theorem dX7_switchOver_11 : decode cX7_switchOver 11 = .ok (.goto 37, 3) := by decide +kernel
theorem dX7_switchOver_14 : decode cX7_switchOver 14 = .ok (.aload_n 0, 1) := by decide +kernel
theorem dX7_switchOver_15 : decode cX7_switchOver 15 = .ok (.bipush 97, 2) := by decide +kernel
theorem dX7_switchOver_17 : decode cX7_switchOver 17 = .ok (.invokevirtual 166, 3) := by decide +kernel
theorem dX7_switchOver_20 : decode cX7_switchOver 20 = .ok (.ifCond .gt 23, 3) := by decide +kernel
theorem dX7_switchOver_23 : decode cX7_switchOver 23 = .ok (.aload_n 0, 1) := by decide +kernel
theorem dX7_switchOver_24 : decode cX7_switchOver 24 = .ok (.iconst 0, 1) := by decide +kernel
theorem dX7_switchOver_25 : decode cX7_switchOver 25 = .ok (.iconst 0, 1) := by decide +kernel
theorem dX7_switchOver_26 : decode cX7_switchOver 26 = .ok (.bipush 39, 2) := by decide +kernel
theorem dX7_switchOver_28 : decode cX7_switchOver 28 = .ok (.invokevirtual 170, 3) := by decide +kernel
theorem dX7_switchOver_31 : decode cX7_switchOver 31 = .ok (.aload_n 0, 1) := by decide +kernel
theorem dX7_switchOver_32 : decode cX7_switchOver 32 = .ok (.iconst 1, 1) := by decide +kernel
theorem dX7_switchOver_33 : decode cX7_switchOver 33 = .ok (.iconst 0, 1) := by decide +kernel
theorem dX7_switchOver_34 : decode cX7_switchOver 34 = .ok (.bipush 39, 2) := by decide +kernel
theorem dX7_switchOver_36 : decode cX7_switchOver 36 = .ok (.invokevirtual 170, 3) := by decide +kernel
theorem dX7_switchOver_39 : decode cX7_switchOver 39 = .ok (.lcmp, 1) := by decide +kernel
theorem dX7_switchOver_40 : decode cX7_switchOver 40 = .ok (.ifCond .eq 7, 3) := by decide +kernel
theorem dX7_switchOver_43 : decode cX7_switchOver 43 = .ok (.iconst 2, 1) := by decide +kernel
theorem dX7_switchOver_44 : decode cX7_switchOver 44 = .ok (.goto 4, 3) := by decide +kernel
theorem dX7_switchOver_47 : decode cX7_switchOver 47 = .ok (.iconst 0, 1) := by decide +kernel
theorem dX7_switchOver_48 : decode cX7_switchOver 48 = .ok (.putfield 69, 3) := by decide +kernel
theorem dX7_switchOver_51 : decode cX7_switchOver 51 = .ok (.aload_n 0, 1) := by decide +kernel
theorem dX7_switchOver_52 : decode cX7_switchOver 52 = .ok (.getfield 69, 3) := by decide +kernel
theorem dX7_switchOver_55 : decode cX7_switchOver 55 = .ok (.ifCond .le 5, 3) := by decide +kernel
theorem dX7_switchOver_58 : decode cX7_switchOver 58 = .ok (.iconst 0, 1) := by decide +kernel
theorem dX7_switchOver_59 : decode cX7_switchOver 59 = .ok (.ireturn, 1) := by decide +kernel
theorem dX7_switchOver_60 : decode cX7_switchOver 60 = .ok (.aload_n 0, 1) := by decide +kernel
theorem dX7_switchOver_61 : decode cX7_switchOver 61 = .ok (.bipush 116, 2) := by decide +kernel
theorem dX7_switchOver_63 : decode cX7_switchOver 63 = .ok (.putfield 109, 3) := by decide +kernel
theorem dX7_switchOver_66 : decode cX7_switchOver 66 = .ok (.aload_n 0, 1) := by decide +kernel
theorem dX7_switchOver_67 : decode cX7_switchOver 67 = .ok (.bipush 101, 2) := by decide +kernel
theorem dX7_switchOver_69 : decode cX7_switchOver 69 = .ok (.invokevirtual 166, 3) := by decide +kernel
theorem dX7_switchOver_72 : decode cX7_switchOver 72 = .ok (.ireturn, 1) := by decide +kernel
theorem dX7_canGoBack_0 : decode cX7_canGoBack 0 = .ok (.iconst 0, 1) := by decide +kernel
theorem dX7_canGoBack_1 : decode cX7_canGoBack 1 = .ok (.istore_n 1, 1) := by decide +kernel
theorem dX7_canGoBack_2 : decode cX7_canGoBack 2 = .ok (.iload_n 1, 1) := by decide +kernel
theorem dX7_canGoBack_3 : decode cX7_canGoBack 3 = .ok (.bipush 40, 2) := by decide +kernel
theorem dX7_canGoBack_5 : decode cX7_canGoBack 5 = .ok (.if_icmp .ge 50, 3) := by decide +kernel
theorem dX7_canGoBack_8 : decode cX7_canGoBack 8 = .ok (.aload_n 0, 1) := by decide +kernel
theorem dX7_canGoBack_9 : decode cX7_canGoBack 9 = .ok (.getfield 39, 3) := by decide +kernel
theorem dX7_canGoBack_12 : decode cX7_canGoBack 12 = .ok (.iload_n 1, 1) := by decide +kernel
theorem dX7_canGoBack_13 : decode cX7_canGoBack 13 = .ok (.baload, 1) := by decide +kernel
theorem dX7_canGoBack_14 : decode cX7_canGoBack 14 = .ok (.ifCond .eq 35, 3) := by decide +kernel
theorem dX7_canGoBack_17 : decode cX7_canGoBack 17 = .ok (.aload_n 0, 1) := by decide +kernel
theorem dX7_canGoBack_18 : decode cX7_canGoBack 18 = .ok (.getfield 13, 3) := by decide +kernel
theorem dX7_canGoBack_21 : decode cX7_canGoBack 21 = .ok (.iload_n 1, 1) := by decide +kernel
theorem dX7_canGoBack_22 : decode cX7_canGoBack 22 = .ok (.caload, 1) := by decide +kernel
theorem dX7_canGoBack_23 : decode cX7_canGoBack 23 = .ok (.bipush 101, 2) := by decide +kernel
theorem dX7_canGoBack_25 : decode cX7_canGoBack 25 = .ok (.if_icmp .ne 24, 3) := by decide +kernel
theorem dX7_canGoBack_28 : decode cX7_canGoBack 28 = .ok (.aload_n 0, 1) := by decide +kernel
theorem dX7_canGoBack_29 : decode cX7_canGoBack 29 = .ok (.aload_n 0, 1) := by decide +kernel
theorem dX7_canGoBack_30 : decode cX7_canGoBack 30 = .ok (.getfield 26, 3) := by decide +kernel
theorem dX7_canGoBack_33 : decode cX7_canGoBack 33 = .ok (.iload_n 1, 1) := by decide +kernel
theorem dX7_canGoBack_34 : decode cX7_canGoBack 34 = .ok (.iaload, 1) := by decide +kernel
theorem dX7_canGoBack_35 : decode cX7_canGoBack 35 = .ok (.aload_n 0, 1) := by decide +kernel
theorem dX7_canGoBack_36 : decode cX7_canGoBack 36 = .ok (.getfield 29, 3) := by decide +kernel
theorem dX7_canGoBack_39 : decode cX7_canGoBack 39 = .ok (.iload_n 1, 1) := by decide +kernel
theorem dX7_canGoBack_40 : decode cX7_canGoBack 40 = .ok (.iaload, 1) := by decide +kernel
theorem dX7_canGoBack_41 : decode cX7_canGoBack 41 = .ok (.invokevirtual 174, 3) := by decide +kernel
theorem dX7_canGoBack_44 : decode cX7_canGoBack 44 = .ok (.ifCond .ne 5, 3) := by decide +kernel
theorem dX7_canGoBack_47 : decode cX7_canGoBack 47 = .ok (.iconst 0, 1) := by decide +kernel
theorem dX7_canGoBack_48 : decode cX7_canGoBack 48 = .ok (.ireturn, 1) := by decide +kernel
theorem dX7_canGoBack_49 : decode cX7_canGoBack 49 = .ok (.iinc 1 1, 3) := by decide +kernel
theorem dX7_canGoBack_52 : decode cX7_canGoBack 52 = .ok (.goto (-50), 3) := by decide +kernel
theorem dX7_canGoBack_55 : decode cX7_canGoBack 55 = .ok (.iconst 1, 1) := by decide +kernel
theorem dX7_canGoBack_56 : decode cX7_canGoBack 56 = .ok (.ireturn, 1) := by decide +kernel
theorem dX7_goesBack_0 : decode cX7_goesBack 0 = .ok (.aload_n 0, 1) := by decide +kernel
theorem dX7_goesBack_1 : decode cX7_goesBack 1 = .ok (.getfield 35, 3) := by decide +kernel
theorem dX7_goesBack_4 : decode cX7_goesBack 4 = .ok (.iload_n 1, 1) := by decide +kernel
theorem dX7_goesBack_5 : decode cX7_goesBack 5 = .ok (.baload, 1) := by decide +kernel
theorem dX7_goesBack_6 : decode cX7_goesBack 6 = .ok (.istore_n 2, 1) := by decide +kernel
theorem dX7_goesBack_7 : decode cX7_goesBack 7 = .ok (.aload_n 0, 1) := by decide +kernel
theorem dX7_goesBack_8 : decode cX7_goesBack 8 = .ok (.getfield 35, 3) := by decide +kernel
theorem dX7_goesBack_11 : decode cX7_goesBack 11 = .ok (.iload_n 1, 1) := by decide +kernel
theorem dX7_goesBack_12 : decode cX7_goesBack 12 = .ok (.aload_n 0, 1) := by decide +kernel
theorem dX7_goesBack_13 : decode cX7_goesBack 13 = .ok (.getfield 13, 3) := by decide +kernel
theorem dX7_goesBack_16 : decode cX7_goesBack 16 = .ok (.iload_n 1, 1) := by decide +kernel
theorem dX7_goesBack_17 : decode cX7_goesBack 17 = .ok (.caload, 1) := by decide +kernel
theorem dX7_goesBack_18 : decode cX7_goesBack 18 = .ok (.bipush 101, 2) := by decide +kernel
theorem dX7_goesBack_20 : decode cX7_goesBack 20 = .ok (.if_icmp .ne 7, 3) := by decide +kernel
theorem dX7_goesBack_23 : decode cX7_goesBack 23 = .ok (.iconst 1, 1) := by decide +kernel
theorem dX7_goesBack_24 : decode cX7_goesBack 24 = .ok (.goto 4, 3) := by decide +kernel
theorem dX7_goesBack_27 : decode cX7_goesBack 27 = .ok (.iconst 0, 1) := by decide +kernel
theorem dX7_goesBack_28 : decode cX7_goesBack 28 = .ok (.bastore, 1) := by decide +kernel
theorem dX7_goesBack_29 : decode cX7_goesBack 29 = .ok (.aload_n 0, 1) := by decide +kernel
theorem dX7_goesBack_30 : decode cX7_goesBack 30 = .ok (.getfield 35, 3) := by decide +kernel
theorem dX7_goesBack_33 : decode cX7_goesBack 33 = .ok (.iload_n 1, 1) := by decide +kernel
theorem dX7_goesBack_34 : decode cX7_goesBack 34 = .ok (.baload, 1) := by decide +kernel
theorem dX7_goesBack_35 : decode cX7_goesBack 35 = .ok (.ifCond .eq 22, 3) := by decide +kernel
theorem dX7_goesBack_38 : decode cX7_goesBack 38 = .ok (.aload_n 0, 1) := by decide +kernel
theorem dX7_goesBack_39 : decode cX7_goesBack 39 = .ok (.aload_n 0, 1) := by decide +kernel
theorem dX7_goesBack_40 : decode cX7_goesBack 40 = .ok (.getfield 26, 3) := by decide +kernel
theorem dX7_goesBack_43 : decode cX7_goesBack 43 = .ok (.iload_n 1, 1) := by decide +kernel
theorem dX7_goesBack_44 : decode cX7_goesBack 44 = .ok (.iaload, 1) := by decide +kernel
theorem dX7_goesBack_45 : decode cX7_goesBack 45 = .ok (.aload_n 0, 1) := by decide +kernel
theorem dX7_goesBack_46 : decode cX7_goesBack 46 = .ok (.getfield 29, 3) := by decide +kernel
theorem dX7_goesBack_49 : decode cX7_goesBack 49 = .ok (.iload_n 1, 1) := by decide +kernel
theorem dX7_goesBack_50 : decode cX7_goesBack 50 = .ok (.iaload, 1) := by decide +kernel
theorem dX7_goesBack_51 : decode cX7_goesBack 51 = .ok (.invokevirtual 174, 3) := by decide +kernel
theorem dX7_goesBack_54 : decode cX7_goesBack 54 = .ok (.ifCond .ne 5, 3) := by decide +kernel
theorem dX7_goesBack_57 : decode cX7_goesBack 57 = .ok (.iload_n 2, 1) := by decide +kernel
theorem dX7_goesBack_58 : decode cX7_goesBack 58 = .ok (.ireturn, 1) := by decide +kernel
theorem dX7_goesBack_59 : decode cX7_goesBack 59 = .ok (.iload_n 2, 1) := by decide +kernel
theorem dX7_goesBack_60 : decode cX7_goesBack 60 = .ok (.ifCond .eq 29, 3) := by decide +kernel
theorem dX7_goesBack_63 : decode cX7_goesBack 63 = .ok (.aload_n 0, 1) := by decide +kernel
theorem dX7_goesBack_64 : decode cX7_goesBack 64 = .ok (.getfield 20, 3) := by decide +kernel
theorem dX7_goesBack_67 : decode cX7_goesBack 67 = .ok (.iload_n 1, 1) := by decide +kernel
theorem dX7_goesBack_68 : decode cX7_goesBack 68 = .ok (.iaload, 1) := by decide +kernel
theorem dX7_goesBack_69 : decode cX7_goesBack 69 = .ok (.aload_n 0, 1) := by decide +kernel
theorem dX7_goesBack_70 : decode cX7_goesBack 70 = .ok (.getfield 103, 3) := by decide +kernel
theorem dX7_goesBack_73 : decode cX7_goesBack 73 = .ok (.if_icmp .ne 16, 3) := by decide +kernel
theorem dX7_goesBack_76 : decode cX7_goesBack 76 = .ok (.aload_n 0, 1) := by decide +kernel
theorem dX7_goesBack_77 : decode cX7_goesBack 77 = .ok (.getfield 23, 3) := by decide +kernel
theorem dX7_goesBack_80 : decode cX7_goesBack 80 = .ok (.iload_n 1, 1) := by decide +kernel
theorem dX7_goesBack_81 : decode cX7_goesBack 81 = .ok (.iaload, 1) := by decide +kernel
theorem dX7_goesBack_82 : decode cX7_goesBack 82 = .ok (.aload_n 0, 1) := by decide +kernel
theorem dX7_goesBack_83 : decode cX7_goesBack 83 = .ok (.getfield 106, 3) := by decide +kernel
theorem dX7_goesBack_86 : decode cX7_goesBack 86 = .ok (.if_icmp .eq 7, 3) := by decide +kernel
theorem dX7_goesBack_89 : decode cX7_goesBack 89 = .ok (.iconst 1, 1) := by decide +kernel
theorem dX7_goesBack_90 : decode cX7_goesBack 90 = .ok (.goto 4, 3) := by decide +kernel
theorem dX7_goesBack_93 : decode cX7_goesBack 93 = .ok (.iconst 0, 1) := by decide +kernel
theorem dX7_goesBack_94 : decode cX7_goesBack 94 = .ok (.istore_n 3, 1) := by decide +kernel
theorem dX7_goesBack_95 : decode cX7_goesBack 95 = .ok (.aload_n 0, 1) := by decide +kernel
theorem dX7_goesBack_96 : decode cX7_goesBack 96 = .ok (.getfield 20, 3) := by decide +kernel
theorem dX7_goesBack_99 : decode cX7_goesBack 99 = .ok (.iload_n 1, 1) := by decide +kernel
theorem dX7_goesBack_100 : decode cX7_goesBack 100 = .ok (.aload_n 0, 1) := by decide +kernel
theorem dX7_goesBack_101 : decode cX7_goesBack 101 = .ok (.getfield 103, 3) := by decide +kernel
theorem dX7_goesBack_104 : decode cX7_goesBack 104 = .ok (.iastore, 1) := by decide +kernel
theorem dX7_goesBack_105 : decode cX7_goesBack 105 = .ok (.aload_n 0, 1) := by decide +kernel
theorem dX7_goesBack_106 : decode cX7_goesBack 106 = .ok (.getfield 23, 3) := by decide +kernel
theorem dX7_goesBack_109 : decode cX7_goesBack 109 = .ok (.iload_n 1, 1) := by decide +kernel
theorem dX7_goesBack_110 : decode cX7_goesBack 110 = .ok (.aload_n 0, 1) := by decide +kernel
theorem dX7_goesBack_111 : decode cX7_goesBack 111 = .ok (.getfield 106, 3) := by decide +kernel
theorem dX7_goesBack_114 : decode cX7_goesBack 114 = .ok (.iastore, 1) := by decide +kernel
theorem dX7_goesBack_115 : decode cX7_goesBack 115 = .ok (.iload_n 3, 1) := by decide +kernel
theorem dX7_goesBack_116 : decode cX7_goesBack 116 = .ok (.ireturn, 1) := by decide +kernel
theorem dX7_goBack_0 : decode cX7_goBack 0 = .ok (.aload_n 0, 1) := by decide +kernel
theorem dX7_goBack_1 : decode cX7_goBack 1 = .ok (.aload_n 0, 1) := by decide +kernel
theorem dX7_goBack_2 : decode cX7_goBack 2 = .ok (.getfield 109, 3) := by decide +kernel
theorem dX7_goBack_5 : decode cX7_goBack 5 = .ok (.bipush 116, 2) := by decide +kernel
theorem dX7_goBack_7 : decode cX7_goBack 7 = .ok (.if_icmp .eq 7, 3) := by decide +kernel
theorem dX7_goBack_10 : decode cX7_goBack 10 = .ok (.iconst 1, 1) := by decide +kernel
theorem dX7_goBack_11 : decode cX7_goBack 11 = .ok (.goto 15, 3) := by decide +kernel
theorem dX7_goBack_14 : decode cX7_goBack 14 = .ok (.aload_n 0, 1) := by decide +kernel
theorem dX7_goBack_15 : decode cX7_goBack 15 = .ok (.invokevirtual 177, 3) := by decide +kernel
theorem dX7_goBack_18 : decode cX7_goBack 18 = .ok (.ifCond .ne 7, 3) := by decide +kernel
theorem dX7_goBack_21 : decode cX7_goBack 21 = .ok (.iconst 2, 1) := by decide +kernel
theorem dX7_goBack_22 : decode cX7_goBack 22 = .ok (.goto 4, 3) := by decide +kernel
theorem dX7_goBack_25 : decode cX7_goBack 25 = .ok (.iconst 0, 1) := by decide +kernel
theorem dX7_goBack_26 : decode cX7_goBack 26 = .ok (.putfield 69, 3) := by decide +kernel
theorem dX7_goBack_29 : decode cX7_goBack 29 = .ok (.aload_n 0, 1) := by decide +kernel
theorem dX7_goBack_30 : decode cX7_goBack 30 = .ok (.getfield 69, 3) := by decide +kernel
theorem dX7_goBack_33 : decode cX7_goBack 33 = .ok (.ifCond .le 5, 3) := by decide +kernel
theorem dX7_goBack_36 : decode cX7_goBack 36 = .ok (.iconst 0, 1) := by decide +kernel
theorem dX7_goBack_37 : decode cX7_goBack 37 = .ok (.ireturn, 1) := by decide +kernel
theorem dX7_goBack_38 : decode cX7_goBack 38 = .ok (.iconst 0, 1) := by decide +kernel
theorem dX7_goBack_39 : decode cX7_goBack 39 = .ok (.istore_n 1, 1) := by decide +kernel
theorem dX7_goBack_40 : decode cX7_goBack 40 = .ok (.iconst 0, 1) := by decide +kernel
theorem dX7_goBack_41 : decode cX7_goBack 41 = .ok (.istore_n 2, 1) := by decide +kernel
theorem dX7_goBack_42 : decode cX7_goBack 42 = .ok (.iload_n 2, 1) := by decide +kernel
theorem dX7_goBack_43 : decode cX7_goBack 43 = .ok (.bipush 40, 2) := by decide +kernel
theorem dX7_goBack_45 : decode cX7_goBack 45 = .ok (.if_icmp .ge 36, 3) := by decide +kernel
theorem dX7_goBack_48 : decode cX7_goBack 48 = .ok (.aload_n 0, 1) := by decide +kernel
theorem dX7_goBack_49 : decode cX7_goBack 49 = .ok (.getfield 39, 3) := by decide +kernel
theorem dX7_goBack_52 : decode cX7_goBack 52 = .ok (.iload_n 2, 1) := by decide +kernel
theorem dX7_goBack_53 : decode cX7_goBack 53 = .ok (.baload, 1) := by decide +kernel
theorem dX7_goBack_54 : decode cX7_goBack 54 = .ok (.ifCond .eq 14, 3) := by decide +kernel
theorem dX7_goBack_57 : decode cX7_goBack 57 = .ok (.aload_n 0, 1) := by decide +kernel
theorem dX7_goBack_58 : decode cX7_goBack 58 = .ok (.iload_n 2, 1) := by decide +kernel
theorem dX7_goBack_59 : decode cX7_goBack 59 = .ok (.invokevirtual 181, 3) := by decide +kernel
theorem dX7_goBack_62 : decode cX7_goBack 62 = .ok (.ifCond .eq 6, 3) := by decide +kernel
theorem dX7_goBack_65 : decode cX7_goBack 65 = .ok (.iinc 1 1, 3) := by decide +kernel
theorem dX7_goBack_68 : decode cX7_goBack 68 = .ok (.aload_n 0, 1) := by decide +kernel
theorem dX7_goBack_69 : decode cX7_goBack 69 = .ok (.getfield 39, 3) := by decide +kernel
theorem dX7_goBack_72 : decode cX7_goBack 72 = .ok (.iload_n 2, 1) := by decide +kernel
theorem dX7_goBack_73 : decode cX7_goBack 73 = .ok (.iconst 0, 1) := by decide +kernel
theorem dX7_goBack_74 : decode cX7_goBack 74 = .ok (.bastore, 1) := by decide +kernel
theorem dX7_goBack_75 : decode cX7_goBack 75 = .ok (.iinc 2 1, 3) := by decide +kernel
theorem dX7_goBack_78 : decode cX7_goBack 78 = .ok (.goto (-36), 3) := by decide +kernel
theorem dX7_goBack_81 : decode cX7_goBack 81 = .ok (.aload_n 0, 1) := by decide +kernel
theorem dX7_goBack_82 : decode cX7_goBack 82 = .ok (.iconst 0, 1) := by decide +kernel
theorem dX7_goBack_83 : decode cX7_goBack 83 = .ok (.putfield 82, 3) := by decide +kernel
theorem dX7_goBack_86 : decode cX7_goBack 86 = .ok (.aload_n 0, 1) := by decide +kernel
theorem dX7_goBack_87 : decode cX7_goBack 87 = .ok (.bipush 98, 2) := by decide +kernel
theorem dX7_goBack_89 : decode cX7_goBack 89 = .ok (.putfield 109, 3) := by decide +kernel
theorem dX7_goBack_92 : decode cX7_goBack 92 = .ok (.iload_n 1, 1) := by decide +kernel
theorem dX7_goBack_93 : decode cX7_goBack 93 = .ok (.ireturn, 1) := by decide +kernel
theorem dX7_end_0 : decode cX7_end 0 = .ok (.aload_n 0, 1) := by decide +kernel
theorem dX7_end_1 : decode cX7_end 1 = .ok (.aload_n 0, 1) := by decide +kernel
theorem dX7_end_2 : decode cX7_end 2 = .ok (.getfield 109, 3) := by decide +kernel
theorem dX7_end_5 : decode cX7_end 5 = .ok (.bipush 116, 2) := by decide +kernel
theorem dX7_end_7 : decode cX7_end 7 = .ok (.if_icmp .ne 7, 3) := by decide +kernel
theorem dX7_end_10 : decode cX7_end 10 = .ok (.iconst 1, 1) := by decide +kernel
theorem dX7_end_11 : decode cX7_end 11 = .ok (.goto 4, 3) := by decide +kernel
theorem dX7_end_14 : decode cX7_end 14 = .ok (.iconst 0, 1) := by decide +kernel
theorem dX7_end_15 : decode cX7_end 15 = .ok (.invokevirtual 158, 3) := by decide +kernel
theorem dX7_end_18 : decode cX7_end 18 = .ok (.ifCond .le 5, 3) := by decide +kernel
theorem dX7_end_21 : decode cX7_end 21 = .ok (.iconst 0, 1) := by decide +kernel
theorem dX7_end_22 : decode cX7_end 22 = .ok (.ireturn, 1) := by decide +kernel
theorem dX7_end_23 : decode cX7_end 23 = .ok (.aload_n 0, 1) := by decide +kernel
theorem dX7_end_24 : decode cX7_end 24 = .ok (.bipush 100, 2) := by decide +kernel
theorem dX7_end_26 : decode cX7_end 26 = .ok (.putfield 109, 3) := by decide +kernel
theorem dX7_end_29 : decode cX7_end 29 = .ok (.aload_n 0, 1) := by decide +kernel
theorem dX7_end_30 : decode cX7_end 30 = .ok (.getfield 82, 3) := by decide +kernel
theorem dX7_end_33 : decode cX7_end 33 = .ok (.ireturn, 1) := by decide +kernel
theorem dX7_isLogFull_0 : decode cX7_isLogFull 0 = .ok (.aload_n 0, 1) := by decide +kernel
theorem dX7_isLogFull_1 : decode cX7_isLogFull 1 = .ok (.getfield 109, 3) := by decide +kernel
theorem dX7_isLogFull_4 : decode cX7_isLogFull 4 = .ok (.bipush 116, 2) := by decide +kernel
theorem dX7_isLogFull_6 : decode cX7_isLogFull 6 = .ok (.if_icmp .ne 20, 3) := by decide +kernel
theorem dX7_isLogFull_9 : decode cX7_isLogFull 9 = .ok (.aload_n 0, 1) := by decide +kernel
theorem dX7_isLogFull_10 : decode cX7_isLogFull 10 = .ok (.getfield 82, 3) := by decide +kernel
theorem dX7_isLogFull_13 : decode cX7_isLogFull 13 = .ok (.bipush 120, 2) := by decide +kernel
theorem dX7_isLogFull_15 : decode cX7_isLogFull 15 = .ok (.if_icmp .ne 7, 3) := by decide +kernel
theorem dX7_isLogFull_18 : decode cX7_isLogFull 18 = .ok (.iconst 1, 1) := by decide +kernel
theorem dX7_isLogFull_19 : decode cX7_isLogFull 19 = .ok (.goto 30, 3) := by decide +kernel
theorem dX7_isLogFull_22 : decode cX7_isLogFull 22 = .ok (.iconst 0, 1) := by decide +kernel
theorem dX7_isLogFull_23 : decode cX7_isLogFull 23 = .ok (.goto 26, 3) := by decide +kernel
theorem dX7_isLogFull_26 : decode cX7_isLogFull 26 = .ok (.aload_n 0, 1) := by decide +kernel
theorem dX7_isLogFull_27 : decode cX7_isLogFull 27 = .ok (.getfield 109, 3) := by decide +kernel
theorem dX7_isLogFull_30 : decode cX7_isLogFull 30 = .ok (.bipush 105, 2) := by decide +kernel
theorem dX7_isLogFull_32 : decode cX7_isLogFull 32 = .ok (.if_icmp .eq 16, 3) := by decide +kernel
theorem dX7_isLogFull_35 : decode cX7_isLogFull 35 = .ok (.aload_n 0, 1) := by decide +kernel
theorem dX7_isLogFull_36 : decode cX7_isLogFull 36 = .ok (.getfield 76, 3) := by decide +kernel
theorem dX7_isLogFull_39 : decode cX7_isLogFull 39 = .ok (.bipush 120, 2) := by decide +kernel
theorem dX7_isLogFull_41 : decode cX7_isLogFull 41 = .ok (.if_icmp .ne 7, 3) := by decide +kernel
theorem dX7_isLogFull_44 : decode cX7_isLogFull 44 = .ok (.iconst 1, 1) := by decide +kernel
theorem dX7_isLogFull_45 : decode cX7_isLogFull 45 = .ok (.goto 4, 3) := by decide +kernel
theorem dX7_isLogFull_48 : decode cX7_isLogFull 48 = .ok (.iconst 0, 1) := by decide +kernel
theorem dX7_isLogFull_49 : decode cX7_isLogFull 49 = .ok (.ireturn, 1) := by decide +kernel
theorem dX7_write_0 : decode cX7_write 0 = .ok (.aload_n 0, 1) := by decide +kernel
theorem dX7_write_1 : decode cX7_write 1 = .ok (.invokevirtual 184, 3) := by decide +kernel
theorem dX7_write_4 : decode cX7_write 4 = .ok (.ifCond .eq 9, 3) := by decide +kernel
theorem dX7_write_7 : decode cX7_write 7 = .ok (.sipush 999, 3) := by decide +kernel
theorem dX7_write_10 : decode cX7_write 10 = .ok (.goto 5, 3) := by decide +kernel
theorem dX7_write_13 : decode cX7_write 13 = .ok (.bipush 99, 2) := by decide +kernel
theorem dX7_write_15 : decode cX7_write 15 = .ok (.istore 4, 2) := by decide +kernel
theorem dX7_write_17 : decode cX7_write 17 = .ok (.aload_n 0, 1) := by decide +kernel
theorem dX7_write_18 : decode cX7_write 18 = .ok (.iload_n 1, 1) := by decide +kernel
theorem dX7_write_19 : decode cX7_write 19 = .ok (.invokestatic 187, 3) := by decide +kernel
theorem dX7_write_22 : decode cX7_write 22 = .ok (.ifCond .eq 27, 3) := by decide +kernel
theorem dX7_write_25 : decode cX7_write 25 = .ok (.iload_n 2, 1) := by decide +kernel
theorem dX7_write_26 : decode cX7_write 26 = .ok (.iload 4, 2) := by decide +kernel
theorem dX7_write_28 : decode cX7_write 28 = .ok (.ineg, 1) := by decide +kernel
theorem dX7_write_29 : decode cX7_write 29 = .ok (.iload 4, 2) := by decide +kernel
theorem dX7_write_31 : decode cX7_write 31 = .ok (.invokestatic 113, 3) := by decide +kernel
theorem dX7_write_34 : decode cX7_write 34 = .ok (.ifCond .eq 15, 3) := by decide +kernel
theorem dX7_write_37 : decode cX7_write 37 = .ok (.iload_n 3, 1) := by decide +kernel
theorem dX7_write_38 : decode cX7_write 38 = .ok (.iload 4, 2) := by decide +kernel
theorem dX7_write_40 : decode cX7_write 40 = .ok (.ineg, 1) := by decide +kernel
theorem dX7_write_41 : decode cX7_write 41 = .ok (.iload 4, 2) := by decide +kernel
theorem dX7_write_43 : decode cX7_write 43 = .ok (.invokestatic 113, 3) := by decide +kernel
theorem dX7_write_46 : decode cX7_write 46 = .ok (.ifCond .ne 7, 3) := by decide +kernel
theorem dX7_write_49 : decode cX7_write 49 = .ok (.iconst 1, 1) := by decide +kernel
theorem dX7_write_50 : decode cX7_write 50 = .ok (.goto 24, 3) := by decide +kernel
theorem dX7_write_53 : decode cX7_write 53 = .ok (.aload_n 0, 1) := by decide +kernel
theorem dX7_write_54 : decode cX7_write 54 = .ok (.getfield 109, 3) := by decide +kernel
theorem dX7_write_57 : decode cX7_write 57 = .ok (.bipush 100, 2) := by decide +kernel
theorem dX7_write_59 : decode cX7_write 59 = .ok (.if_icmp .eq 10, 3) := by decide +kernel
theorem dX7_write_62 : decode cX7_write 62 = .ok (.aload_n 0, 1) := by decide +kernel
theorem dX7_write_63 : decode cX7_write 63 = .ok (.invokevirtual 190, 3) := by decide +kernel
theorem dX7_write_66 : decode cX7_write 66 = .ok (.ifCond .eq 7, 3) := by decide +kernel
theorem dX7_write_69 : decode cX7_write 69 = .ok (.iconst 2, 1) := by decide +kernel
theorem dX7_write_70 : decode cX7_write 70 = .ok (.goto 4, 3) := by decide +kernel
theorem dX7_write_73 : decode cX7_write 73 = .ok (.iconst 0, 1) := by decide +kernel
theorem dX7_write_74 : decode cX7_write 74 = .ok (.putfield 69, 3) := by decide +kernel
theorem dX7_write_77 : decode cX7_write 77 = .ok (.aload_n 0, 1) := by decide +kernel
theorem dX7_write_78 : decode cX7_write 78 = .ok (.getfield 69, 3) := by decide +kernel
theorem dX7_write_81 : decode cX7_write 81 = .ok (.ifCond .le 5, 3) := by decide +kernel
theorem dX7_write_84 : decode cX7_write 84 = .ok (.iconst 0, 1) := by decide +kernel
theorem dX7_write_85 : decode cX7_write 85 = .ok (.ireturn, 1) := by decide +kernel
theorem dX7_write_86 : decode cX7_write 86 = .ok (.aload_n 0, 1) := by decide +kernel
theorem dX7_write_87 : decode cX7_write 87 = .ok (.getfield 109, 3) := by decide +kernel
theorem dX7_write_90 : decode cX7_write 90 = .ok (.bipush 116, 2) := by decide +kernel
theorem dX7_write_92 : decode cX7_write 92 = .ok (.if_icmp .ne 11, 3) := by decide +kernel
theorem dX7_write_95 : decode cX7_write 95 = .ok (.aload_n 0, 1) := by decide +kernel
theorem dX7_write_96 : decode cX7_write 96 = .ok (.iload_n 1, 1) := by decide +kernel
theorem dX7_write_97 : decode cX7_write 97 = .ok (.iload_n 2, 1) := by decide +kernel
theorem dX7_write_98 : decode cX7_write 98 = .ok (.iload_n 3, 1) := by decide +kernel
theorem dX7_write_99 : decode cX7_write 99 = .ok (.invokevirtual 193, 3) := by decide +kernel
theorem dX7_write_102 : decode cX7_write 102 = .ok (.ireturn, 1) := by decide +kernel
theorem dX7_write_103 : decode cX7_write 103 = .ok (.aload_n 0, 1) := by decide +kernel
theorem dX7_write_104 : decode cX7_write 104 = .ok (.getfield 35, 3) := by decide +kernel
theorem dX7_write_107 : decode cX7_write 107 = .ok (.iload_n 1, 1) := by decide +kernel
theorem dX7_write_108 : decode cX7_write 108 = .ok (.baload, 1) := by decide +kernel
theorem dX7_write_109 : decode cX7_write 109 = .ok (.istore 5, 2) := by decide +kernel
theorem dX7_write_111 : decode cX7_write 111 = .ok (.aload_n 0, 1) := by decide +kernel
theorem dX7_write_112 : decode cX7_write 112 = .ok (.getfield 35, 3) := by decide +kernel
theorem dX7_write_115 : decode cX7_write 115 = .ok (.iload_n 1, 1) := by decide +kernel
theorem dX7_write_116 : decode cX7_write 116 = .ok (.iconst 1, 1) := by decide +kernel
theorem dX7_write_117 : decode cX7_write 117 = .ok (.bastore, 1) := by decide +kernel
theorem dX7_write_118 : decode cX7_write 118 = .ok (.aload_n 0, 1) := by decide +kernel
theorem dX7_write_119 : decode cX7_write 119 = .ok (.getfield 20, 3) := by decide +kernel
theorem dX7_write_122 : decode cX7_write 122 = .ok (.iload_n 1, 1) := by decide +kernel
theorem dX7_write_123 : decode cX7_write 123 = .ok (.iload_n 2, 1) := by decide +kernel
theorem dX7_write_124 : decode cX7_write 124 = .ok (.iastore, 1) := by decide +kernel
theorem dX7_write_125 : decode cX7_write 125 = .ok (.aload_n 0, 1) := by decide +kernel
theorem dX7_write_126 : decode cX7_write 126 = .ok (.getfield 23, 3) := by decide +kernel
theorem dX7_write_129 : decode cX7_write 129 = .ok (.iload_n 1, 1) := by decide +kernel
theorem dX7_write_130 : decode cX7_write 130 = .ok (.iload_n 3, 1) := by decide +kernel
theorem dX7_write_131 : decode cX7_write 131 = .ok (.iastore, 1) := by decide +kernel
theorem dX7_write_132 : decode cX7_write 132 = .ok (.aload_n 0, 1) := by decide +kernel
theorem dX7_write_133 : decode cX7_write 133 = .ok (.iload_n 1, 1) := by decide +kernel
theorem dX7_write_134 : decode cX7_write 134 = .ok (.iconst 0, 1) := by decide +kernel
theorem dX7_write_135 : decode cX7_write 135 = .ok (.iload_n 2, 1) := by decide +kernel
theorem dX7_write_136 : decode cX7_write 136 = .ok (.iload_n 3, 1) := by decide +kernel
theorem dX7_write_137 : decode cX7_write 137 = .ok (.invokevirtual 196, 3) := by decide +kernel
theorem dX7_write_140 : decode cX7_write 140 = .ok (.iload 5, 2) := by decide +kernel
theorem dX7_write_142 : decode cX7_write 142 = .ok (.ireturn, 1) := by decide +kernel
theorem dX7_names_0 : decode cX7_names 0 = .ok (.aload_n 0, 1) := by decide +kernel
theorem dX7_names_1 : decode cX7_names 1 = .ok (.getfield 39, 3) := by decide +kernel
theorem dX7_names_4 : decode cX7_names 4 = .ok (.iload_n 1, 1) := by decide +kernel
theorem dX7_names_5 : decode cX7_names 5 = .ok (.iconst 1, 1) := by decide +kernel
theorem dX7_names_6 : decode cX7_names 6 = .ok (.bastore, 1) := by decide +kernel
theorem dX7_names_7 : decode cX7_names 7 = .ok (.aload_n 0, 1) := by decide +kernel
theorem dX7_names_8 : decode cX7_names 8 = .ok (.dup, 1) := by decide +kernel
theorem dX7_names_9 : decode cX7_names 9 = .ok (.getfield 82, 3) := by decide +kernel
theorem dX7_names_12 : decode cX7_names 12 = .ok (.iconst 1, 1) := by decide +kernel
theorem dX7_names_13 : decode cX7_names 13 = .ok (.iadd, 1) := by decide +kernel
theorem dX7_names_14 : decode cX7_names 14 = .ok (.putfield 82, 3) := by decide +kernel
theorem dX7_names_17 : decode cX7_names 17 = .ok (.return_, 1) := by decide +kernel
theorem dX7_writesTarget_0 : decode cX7_writesTarget 0 = .ok (.aload_n 0, 1) := by decide +kernel
theorem dX7_writesTarget_1 : decode cX7_writesTarget 1 = .ok (.getfield 13, 3) := by decide +kernel
theorem dX7_writesTarget_4 : decode cX7_writesTarget 4 = .ok (.iload_n 1, 1) := by decide +kernel
theorem dX7_writesTarget_5 : decode cX7_writesTarget 5 = .ok (.caload, 1) := by decide +kernel
theorem dX7_writesTarget_6 : decode cX7_writesTarget 6 = .ok (.bipush 101, 2) := by decide +kernel
theorem dX7_writesTarget_8 : decode cX7_writesTarget 8 = .ok (.if_icmp .ne 7, 3) := by decide +kernel
theorem dX7_writesTarget_11 : decode cX7_writesTarget 11 = .ok (.iconst 1, 1) := by decide +kernel
theorem dX7_writesTarget_12 : decode cX7_writesTarget 12 = .ok (.goto 4, 3) := by decide +kernel
theorem dX7_writesTarget_15 : decode cX7_writesTarget 15 = .ok (.iconst 0, 1) := by decide +kernel
theorem dX7_writesTarget_16 : decode cX7_writesTarget 16 = .ok (.istore 4, 2) := by decide +kernel
theorem dX7_writesTarget_18 : decode cX7_writesTarget 18 = .ok (.aload_n 0, 1) := by decide +kernel
theorem dX7_writesTarget_19 : decode cX7_writesTarget 19 = .ok (.iload_n 1, 1) := by decide +kernel
theorem dX7_writesTarget_20 : decode cX7_writesTarget 20 = .ok (.invokevirtual 200, 3) := by decide +kernel
theorem dX7_writesTarget_23 : decode cX7_writesTarget 23 = .ok (.aload_n 0, 1) := by decide +kernel
theorem dX7_writesTarget_24 : decode cX7_writesTarget 24 = .ok (.iload_n 1, 1) := by decide +kernel
theorem dX7_writesTarget_25 : decode cX7_writesTarget 25 = .ok (.bipush 101, 2) := by decide +kernel
theorem dX7_writesTarget_27 : decode cX7_writesTarget 27 = .ok (.aload_n 0, 1) := by decide +kernel
theorem dX7_writesTarget_28 : decode cX7_writesTarget 28 = .ok (.getfield 76, 3) := by decide +kernel
theorem dX7_writesTarget_31 : decode cX7_writesTarget 31 = .ok (.invokevirtual 143, 3) := by decide +kernel
theorem dX7_writesTarget_34 : decode cX7_writesTarget 34 = .ok (.aload_n 0, 1) := by decide +kernel
theorem dX7_writesTarget_35 : decode cX7_writesTarget 35 = .ok (.getfield 26, 3) := by decide +kernel
theorem dX7_writesTarget_38 : decode cX7_writesTarget 38 = .ok (.iload_n 1, 1) := by decide +kernel
theorem dX7_writesTarget_39 : decode cX7_writesTarget 39 = .ok (.iload_n 2, 1) := by decide +kernel
theorem dX7_writesTarget_40 : decode cX7_writesTarget 40 = .ok (.iastore, 1) := by decide +kernel
theorem dX7_writesTarget_41 : decode cX7_writesTarget 41 = .ok (.aload_n 0, 1) := by decide +kernel
theorem dX7_writesTarget_42 : decode cX7_writesTarget 42 = .ok (.getfield 29, 3) := by decide +kernel
theorem dX7_writesTarget_45 : decode cX7_writesTarget 45 = .ok (.iload_n 1, 1) := by decide +kernel
theorem dX7_writesTarget_46 : decode cX7_writesTarget 46 = .ok (.iload_n 3, 1) := by decide +kernel
theorem dX7_writesTarget_47 : decode cX7_writesTarget 47 = .ok (.iastore, 1) := by decide +kernel
theorem dX7_writesTarget_48 : decode cX7_writesTarget 48 = .ok (.iload 4, 2) := by decide +kernel
theorem dX7_writesTarget_50 : decode cX7_writesTarget 50 = .ok (.ireturn, 1) := by decide +kernel
theorem dX7_delete_0 : decode cX7_delete 0 = .ok (.aload_n 0, 1) := by decide +kernel
theorem dX7_delete_1 : decode cX7_delete 1 = .ok (.iload_n 1, 1) := by decide +kernel
theorem dX7_delete_2 : decode cX7_delete 2 = .ok (.invokestatic 187, 3) := by decide +kernel
theorem dX7_delete_5 : decode cX7_delete 5 = .ok (.ifCond .ne 7, 3) := by decide +kernel
theorem dX7_delete_8 : decode cX7_delete 8 = .ok (.iconst 1, 1) := by decide +kernel
theorem dX7_delete_9 : decode cX7_delete 9 = .ok (.goto 17, 3) := by decide +kernel
theorem dX7_delete_12 : decode cX7_delete 12 = .ok (.aload_n 0, 1) := by decide +kernel
theorem dX7_delete_13 : decode cX7_delete 13 = .ok (.getfield 109, 3) := by decide +kernel
theorem dX7_delete_16 : decode cX7_delete 16 = .ok (.bipush 100, 2) := by decide +kernel
theorem dX7_delete_18 : decode cX7_delete 18 = .ok (.if_icmp .ne 7, 3) := by decide +kernel
theorem dX7_delete_21 : decode cX7_delete 21 = .ok (.iconst 2, 1) := by decide +kernel
theorem dX7_delete_22 : decode cX7_delete 22 = .ok (.goto 4, 3) := by decide +kernel
theorem dX7_delete_25 : decode cX7_delete 25 = .ok (.iconst 0, 1) := by decide +kernel
theorem dX7_delete_26 : decode cX7_delete 26 = .ok (.putfield 69, 3) := by decide +kernel
theorem dX7_delete_29 : decode cX7_delete 29 = .ok (.aload_n 0, 1) := by decide +kernel
theorem dX7_delete_30 : decode cX7_delete 30 = .ok (.getfield 69, 3) := by decide +kernel
theorem dX7_delete_33 : decode cX7_delete 33 = .ok (.ifCond .le 5, 3) := by decide +kernel
theorem dX7_delete_36 : decode cX7_delete 36 = .ok (.iconst 0, 1) := by decide +kernel
theorem dX7_delete_37 : decode cX7_delete 37 = .ok (.ireturn, 1) := by decide +kernel
theorem dX7_delete_38 : decode cX7_delete 38 = .ok (.aload_n 0, 1) := by decide +kernel
theorem dX7_delete_39 : decode cX7_delete 39 = .ok (.getfield 109, 3) := by decide +kernel
theorem dX7_delete_42 : decode cX7_delete 42 = .ok (.bipush 116, 2) := by decide +kernel
theorem dX7_delete_44 : decode cX7_delete 44 = .ok (.if_icmp .ne 22, 3) := by decide +kernel
theorem dX7_delete_47 : decode cX7_delete 47 = .ok (.aload_n 0, 1) := by decide +kernel
theorem dX7_delete_48 : decode cX7_delete 48 = .ok (.getfield 13, 3) := by decide +kernel
theorem dX7_delete_51 : decode cX7_delete 51 = .ok (.iload_n 1, 1) := by decide +kernel
theorem dX7_delete_52 : decode cX7_delete 52 = .ok (.caload, 1) := by decide +kernel
theorem dX7_delete_53 : decode cX7_delete 53 = .ok (.bipush 101, 2) := by decide +kernel
theorem dX7_delete_55 : decode cX7_delete 55 = .ok (.if_icmp .ne 7, 3) := by decide +kernel
theorem dX7_delete_58 : decode cX7_delete 58 = .ok (.iconst 1, 1) := by decide +kernel
theorem dX7_delete_59 : decode cX7_delete 59 = .ok (.goto 13, 3) := by decide +kernel
theorem dX7_delete_62 : decode cX7_delete 62 = .ok (.iconst 0, 1) := by decide +kernel
theorem dX7_delete_63 : decode cX7_delete 63 = .ok (.goto 9, 3) := by decide +kernel
theorem dX7_delete_66 : decode cX7_delete 66 = .ok (.aload_n 0, 1) := by decide +kernel
theorem dX7_delete_67 : decode cX7_delete 67 = .ok (.getfield 35, 3) := by decide +kernel
theorem dX7_delete_70 : decode cX7_delete 70 = .ok (.iload_n 1, 1) := by decide +kernel
theorem dX7_delete_71 : decode cX7_delete 71 = .ok (.baload, 1) := by decide +kernel
theorem dX7_delete_72 : decode cX7_delete 72 = .ok (.istore_n 2, 1) := by decide +kernel
theorem dX7_delete_73 : decode cX7_delete 73 = .ok (.iload_n 2, 1) := by decide +kernel
theorem dX7_delete_74 : decode cX7_delete 74 = .ok (.ifCond .ne 5, 3) := by decide +kernel
theorem dX7_delete_77 : decode cX7_delete 77 = .ok (.iconst 0, 1) := by decide +kernel
theorem dX7_delete_78 : decode cX7_delete 78 = .ok (.ireturn, 1) := by decide +kernel
theorem dX7_delete_79 : decode cX7_delete 79 = .ok (.aload_n 0, 1) := by decide +kernel
theorem dX7_delete_80 : decode cX7_delete 80 = .ok (.aload_n 0, 1) := by decide +kernel
theorem dX7_delete_81 : decode cX7_delete 81 = .ok (.invokevirtual 190, 3) := by decide +kernel
theorem dX7_delete_84 : decode cX7_delete 84 = .ok (.ifCond .eq 7, 3) := by decide +kernel
theorem dX7_delete_87 : decode cX7_delete 87 = .ok (.iconst 2, 1) := by decide +kernel
theorem dX7_delete_88 : decode cX7_delete 88 = .ok (.goto 4, 3) := by decide +kernel
theorem dX7_delete_91 : decode cX7_delete 91 = .ok (.iconst 0, 1) := by decide +kernel
theorem dX7_delete_92 : decode cX7_delete 92 = .ok (.putfield 69, 3) := by decide +kernel
theorem dX7_delete_95 : decode cX7_delete 95 = .ok (.aload_n 0, 1) := by decide +kernel
theorem dX7_delete_96 : decode cX7_delete 96 = .ok (.getfield 69, 3) := by decide +kernel
theorem dX7_delete_99 : decode cX7_delete 99 = .ok (.ifCond .le 5, 3) := by decide +kernel
theorem dX7_delete_102 : decode cX7_delete 102 = .ok (.iconst 0, 1) := by decide +kernel
theorem dX7_delete_103 : decode cX7_delete 103 = .ok (.ireturn, 1) := by decide +kernel
theorem dX7_delete_104 : decode cX7_delete 104 = .ok (.aload_n 0, 1) := by decide +kernel
theorem dX7_delete_105 : decode cX7_delete 105 = .ok (.getfield 109, 3) := by decide +kernel
theorem dX7_delete_108 : decode cX7_delete 108 = .ok (.bipush 116, 2) := by decide +kernel
theorem dX7_delete_110 : decode cX7_delete 110 = .ok (.if_icmp .ne 21, 3) := by decide +kernel
theorem dX7_delete_113 : decode cX7_delete 113 = .ok (.aload_n 0, 1) := by decide +kernel
theorem dX7_delete_114 : decode cX7_delete 114 = .ok (.iload_n 1, 1) := by decide +kernel
theorem dX7_delete_115 : decode cX7_delete 115 = .ok (.invokevirtual 200, 3) := by decide +kernel
theorem dX7_delete_118 : decode cX7_delete 118 = .ok (.aload_n 0, 1) := by decide +kernel
theorem dX7_delete_119 : decode cX7_delete 119 = .ok (.iload_n 1, 1) := by decide +kernel
theorem dX7_delete_120 : decode cX7_delete 120 = .ok (.bipush 116, 2) := by decide +kernel
theorem dX7_delete_122 : decode cX7_delete 122 = .ok (.aload_n 0, 1) := by decide +kernel
theorem dX7_delete_123 : decode cX7_delete 123 = .ok (.getfield 76, 3) := by decide +kernel
theorem dX7_delete_126 : decode cX7_delete 126 = .ok (.invokevirtual 143, 3) := by decide +kernel
theorem dX7_delete_129 : decode cX7_delete 129 = .ok (.iconst 1, 1) := by decide +kernel
theorem dX7_delete_130 : decode cX7_delete 130 = .ok (.ireturn, 1) := by decide +kernel
theorem dX7_delete_131 : decode cX7_delete 131 = .ok (.aload_n 0, 1) := by decide +kernel
theorem dX7_delete_132 : decode cX7_delete 132 = .ok (.getfield 35, 3) := by decide +kernel
theorem dX7_delete_135 : decode cX7_delete 135 = .ok (.iload_n 1, 1) := by decide +kernel
theorem dX7_delete_136 : decode cX7_delete 136 = .ok (.iconst 0, 1) := by decide +kernel
theorem dX7_delete_137 : decode cX7_delete 137 = .ok (.bastore, 1) := by decide +kernel
theorem dX7_delete_138 : decode cX7_delete 138 = .ok (.aload_n 0, 1) := by decide +kernel
theorem dX7_delete_139 : decode cX7_delete 139 = .ok (.iload_n 1, 1) := by decide +kernel
theorem dX7_delete_140 : decode cX7_delete 140 = .ok (.iconst 1, 1) := by decide +kernel
theorem dX7_delete_141 : decode cX7_delete 141 = .ok (.iconst 0, 1) := by decide +kernel
theorem dX7_delete_142 : decode cX7_delete 142 = .ok (.iconst 0, 1) := by decide +kernel
theorem dX7_delete_143 : decode cX7_delete 143 = .ok (.invokevirtual 196, 3) := by decide +kernel
theorem dX7_delete_146 : decode cX7_delete 146 = .ok (.iconst 1, 1) := by decide +kernel
theorem dX7_delete_147 : decode cX7_delete 147 = .ok (.ireturn, 1) := by decide +kernel
theorem dX7_read_0 : decode cX7_read 0 = .ok (.aload_n 0, 1) := by decide +kernel
theorem dX7_read_1 : decode cX7_read 1 = .ok (.iload_n 1, 1) := by decide +kernel
theorem dX7_read_2 : decode cX7_read 2 = .ok (.invokestatic 187, 3) := by decide +kernel
theorem dX7_read_5 : decode cX7_read 5 = .ok (.ifCond .ne 7, 3) := by decide +kernel
theorem dX7_read_8 : decode cX7_read 8 = .ok (.iconst 1, 1) := by decide +kernel
theorem dX7_read_9 : decode cX7_read 9 = .ok (.goto 38, 3) := by decide +kernel
theorem dX7_read_12 : decode cX7_read 12 = .ok (.aload_n 0, 1) := by decide +kernel
theorem dX7_read_13 : decode cX7_read 13 = .ok (.invokevirtual 184, 3) := by decide +kernel
theorem dX7_read_16 : decode cX7_read 16 = .ok (.ifCond .eq 17, 3) := by decide +kernel
theorem dX7_read_19 : decode cX7_read 19 = .ok (.aload_n 0, 1) := by decide +kernel
theorem dX7_read_20 : decode cX7_read 20 = .ok (.getfield 13, 3) := by decide +kernel
theorem dX7_read_23 : decode cX7_read 23 = .ok (.iload_n 1, 1) := by decide +kernel
theorem dX7_read_24 : decode cX7_read 24 = .ok (.caload, 1) := by decide +kernel
theorem dX7_read_25 : decode cX7_read 25 = .ok (.bipush 101, 2) := by decide +kernel
theorem dX7_read_27 : decode cX7_read 27 = .ok (.if_icmp .eq 19, 3) := by decide +kernel
theorem dX7_read_30 : decode cX7_read 30 = .ok (.goto 12, 3) := by decide +kernel
theorem dX7_read_33 : decode cX7_read 33 = .ok (.aload_n 0, 1) := by decide +kernel
theorem dX7_read_34 : decode cX7_read 34 = .ok (.getfield 35, 3) := by decide +kernel
theorem dX7_read_37 : decode cX7_read 37 = .ok (.iload_n 1, 1) := by decide +kernel
theorem dX7_read_38 : decode cX7_read 38 = .ok (.baload, 1) := by decide +kernel
theorem dX7_read_39 : decode cX7_read 39 = .ok (.ifCond .ne 7, 3) := by decide +kernel
theorem dX7_read_42 : decode cX7_read 42 = .ok (.iconst 2, 1) := by decide +kernel
theorem dX7_read_43 : decode cX7_read 43 = .ok (.goto 4, 3) := by decide +kernel
theorem dX7_read_46 : decode cX7_read 46 = .ok (.iconst 0, 1) := by decide +kernel
theorem dX7_read_47 : decode cX7_read 47 = .ok (.putfield 69, 3) := by decide +kernel
theorem dX7_read_50 : decode cX7_read 50 = .ok (.aload_n 0, 1) := by decide +kernel
theorem dX7_read_51 : decode cX7_read 51 = .ok (.getfield 69, 3) := by decide +kernel
theorem dX7_read_54 : decode cX7_read 54 = .ok (.ifCond .le 5, 3) := by decide +kernel
theorem dX7_read_57 : decode cX7_read 57 = .ok (.iconst 0, 1) := by decide +kernel
theorem dX7_read_58 : decode cX7_read 58 = .ok (.ireturn, 1) := by decide +kernel
theorem dX7_read_59 : decode cX7_read 59 = .ok (.aload_n 0, 1) := by decide +kernel
theorem dX7_read_60 : decode cX7_read 60 = .ok (.invokevirtual 184, 3) := by decide +kernel
theorem dX7_read_63 : decode cX7_read 63 = .ok (.ifCond .eq 25, 3) := by decide +kernel
theorem dX7_read_66 : decode cX7_read 66 = .ok (.iload_n 2, 1) := by decide +kernel
theorem dX7_read_67 : decode cX7_read 67 = .ok (.ifCond .eq 12, 3) := by decide +kernel
theorem dX7_read_70 : decode cX7_read 70 = .ok (.aload_n 0, 1) := by decide +kernel
theorem dX7_read_71 : decode cX7_read 71 = .ok (.getfield 29, 3) := by decide +kernel
theorem dX7_read_74 : decode cX7_read 74 = .ok (.iload_n 1, 1) := by decide +kernel
theorem dX7_read_75 : decode cX7_read 75 = .ok (.iaload, 1) := by decide +kernel
theorem dX7_read_76 : decode cX7_read 76 = .ok (.goto 31, 3) := by decide +kernel
theorem dX7_read_79 : decode cX7_read 79 = .ok (.aload_n 0, 1) := by decide +kernel
theorem dX7_read_80 : decode cX7_read 80 = .ok (.getfield 26, 3) := by decide +kernel
theorem dX7_read_83 : decode cX7_read 83 = .ok (.iload_n 1, 1) := by decide +kernel
theorem dX7_read_84 : decode cX7_read 84 = .ok (.iaload, 1) := by decide +kernel
theorem dX7_read_85 : decode cX7_read 85 = .ok (.goto 22, 3) := by decide +kernel
theorem dX7_read_88 : decode cX7_read 88 = .ok (.iload_n 2, 1) := by decide +kernel
theorem dX7_read_89 : decode cX7_read 89 = .ok (.ifCond .eq 12, 3) := by decide +kernel
theorem dX7_read_92 : decode cX7_read 92 = .ok (.aload_n 0, 1) := by decide +kernel
theorem dX7_read_93 : decode cX7_read 93 = .ok (.getfield 23, 3) := by decide +kernel
theorem dX7_read_96 : decode cX7_read 96 = .ok (.iload_n 1, 1) := by decide +kernel
theorem dX7_read_97 : decode cX7_read 97 = .ok (.iaload, 1) := by decide +kernel
theorem dX7_read_98 : decode cX7_read 98 = .ok (.goto 9, 3) := by decide +kernel
theorem dX7_read_101 : decode cX7_read 101 = .ok (.aload_n 0, 1) := by decide +kernel
theorem dX7_read_102 : decode cX7_read 102 = .ok (.getfield 20, 3) := by decide +kernel
theorem dX7_read_105 : decode cX7_read 105 = .ok (.iload_n 1, 1) := by decide +kernel
theorem dX7_read_106 : decode cX7_read 106 = .ok (.iaload, 1) := by decide +kernel
theorem dX7_read_107 : decode cX7_read 107 = .ok (.ireturn, 1) := by decide +kernel
theorem dX7_nextNumber_0 : decode cX7_nextNumber 0 = .ok (.aload_n 0, 1) := by decide +kernel
theorem dX7_nextNumber_1 : decode cX7_nextNumber 1 = .ok (.aload_n 0, 1) := by decide +kernel
theorem dX7_nextNumber_2 : decode cX7_nextNumber 2 = .ok (.getfield 109, 3) := by decide +kernel
theorem dX7_nextNumber_5 : decode cX7_nextNumber 5 = .ok (.bipush 100, 2) := by decide +kernel
theorem dX7_nextNumber_7 : decode cX7_nextNumber 7 = .ok (.if_icmp .eq 7, 3) := by decide +kernel
theorem dX7_nextNumber_10 : decode cX7_nextNumber 10 = .ok (.iconst 1, 1) := by decide +kernel
theorem dX7_nextNumber_11 : decode cX7_nextNumber 11 = .ok (.goto 4, 3) := by decide +kernel
theorem dX7_nextNumber_14 : decode cX7_nextNumber 14 = .ok (.iconst 0, 1) := by decide +kernel
theorem dX7_nextNumber_15 : decode cX7_nextNumber 15 = .ok (.invokevirtual 158, 3) := by decide +kernel
theorem dX7_nextNumber_18 : decode cX7_nextNumber 18 = .ok (.ifCond .le 5, 3) := by decide +kernel
theorem dX7_nextNumber_21 : decode cX7_nextNumber 21 = .ok (.iconst 0, 1) := by decide +kernel
theorem dX7_nextNumber_22 : decode cX7_nextNumber 22 = .ok (.ireturn, 1) := by decide +kernel
theorem dX7_nextNumber_23 : decode cX7_nextNumber 23 = .ok (.aload_n 0, 1) := by decide +kernel
theorem dX7_nextNumber_24 : decode cX7_nextNumber 24 = .ok (.getfield 109, 3) := by decide +kernel
theorem dX7_nextNumber_27 : decode cX7_nextNumber 27 = .ok (.bipush 116, 2) := by decide +kernel
theorem dX7_nextNumber_29 : decode cX7_nextNumber 29 = .ok (.if_icmp .ne 22, 3) := by decide +kernel
theorem dX7_nextNumber_32 : decode cX7_nextNumber 32 = .ok (.aload_n 0, 1) := by decide +kernel
theorem dX7_nextNumber_33 : decode cX7_nextNumber 33 = .ok (.dup, 1) := by decide +kernel
theorem dX7_nextNumber_34 : decode cX7_nextNumber 34 = .ok (.getfield 97, 3) := by decide +kernel
theorem dX7_nextNumber_37 : decode cX7_nextNumber 37 = .ok (.iconst 1, 1) := by decide +kernel
theorem dX7_nextNumber_38 : decode cX7_nextNumber 38 = .ok (.iadd, 1) := by decide +kernel
theorem dX7_nextNumber_39 : decode cX7_nextNumber 39 = .ok (.putfield 97, 3) := by decide +kernel
theorem dX7_nextNumber_42 : decode cX7_nextNumber 42 = .ok (.iconst 2, 1) := by decide +kernel
theorem dX7_nextNumber_43 : decode cX7_nextNumber 43 = .ok (.aload_n 0, 1) := by decide +kernel
theorem dX7_nextNumber_44 : decode cX7_nextNumber 44 = .ok (.getfield 97, 3) := by decide +kernel
theorem dX7_nextNumber_47 : decode cX7_nextNumber 47 = .ok (.imul, 1) := by decide +kernel
theorem dX7_nextNumber_48 : decode cX7_nextNumber 48 = .ok (.iconst 1, 1) := by decide +kernel
theorem dX7_nextNumber_49 : decode cX7_nextNumber 49 = .ok (.isub, 1) := by decide +kernel
theorem dX7_nextNumber_50 : decode cX7_nextNumber 50 = .ok (.ireturn, 1) := by decide +kernel
theorem dX7_nextNumber_51 : decode cX7_nextNumber 51 = .ok (.aload_n 0, 1) := by decide +kernel
theorem dX7_nextNumber_52 : decode cX7_nextNumber 52 = .ok (.dup, 1) := by decide +kernel
theorem dX7_nextNumber_53 : decode cX7_nextNumber 53 = .ok (.getfield 94, 3) := by decide +kernel
theorem dX7_nextNumber_56 : decode cX7_nextNumber 56 = .ok (.iconst 1, 1) := by decide +kernel
theorem dX7_nextNumber_57 : decode cX7_nextNumber 57 = .ok (.iadd, 1) := by decide +kernel
theorem dX7_nextNumber_58 : decode cX7_nextNumber 58 = .ok (.putfield 94, 3) := by decide +kernel
theorem dX7_nextNumber_61 : decode cX7_nextNumber 61 = .ok (.iconst 2, 1) := by decide +kernel
theorem dX7_nextNumber_62 : decode cX7_nextNumber 62 = .ok (.aload_n 0, 1) := by decide +kernel
theorem dX7_nextNumber_63 : decode cX7_nextNumber 63 = .ok (.getfield 94, 3) := by decide +kernel
theorem dX7_nextNumber_66 : decode cX7_nextNumber 66 = .ok (.imul, 1) := by decide +kernel
theorem dX7_nextNumber_67 : decode cX7_nextNumber 67 = .ok (.iconst 2, 1) := by decide +kernel
theorem dX7_nextNumber_68 : decode cX7_nextNumber 68 = .ok (.isub, 1) := by decide +kernel
theorem dX7_nextNumber_69 : decode cX7_nextNumber 69 = .ok (.ireturn, 1) := by decide +kernel
theorem dX7_freePart_0 : decode cX7_freePart 0 = .ok (.iconst 0, 1) := by decide +kernel
theorem dX7_freePart_1 : decode cX7_freePart 1 = .ok (.istore_n 1, 1) := by decide +kernel
theorem dX7_freePart_2 : decode cX7_freePart 2 = .ok (.iload_n 1, 1) := by decide +kernel
theorem dX7_freePart_3 : decode cX7_freePart 3 = .ok (.bipush 8, 2) := by decide +kernel
theorem dX7_freePart_5 : decode cX7_freePart 5 = .ok (.if_icmp .ge 20, 3) := by decide +kernel
theorem dX7_freePart_8 : decode cX7_freePart 8 = .ok (.aload_n 0, 1) := by decide +kernel
theorem dX7_freePart_9 : decode cX7_freePart 9 = .ok (.getfield 51, 3) := by decide +kernel
theorem dX7_freePart_12 : decode cX7_freePart 12 = .ok (.iload_n 1, 1) := by decide +kernel
theorem dX7_freePart_13 : decode cX7_freePart 13 = .ok (.iaload, 1) := by decide +kernel
theorem dX7_freePart_14 : decode cX7_freePart 14 = .ok (.ifCond .ge 5, 3) := by decide +kernel
theorem dX7_freePart_17 : decode cX7_freePart 17 = .ok (.iload_n 1, 1) := by decide +kernel
theorem dX7_freePart_18 : decode cX7_freePart 18 = .ok (.ireturn, 1) := by decide +kernel
theorem dX7_freePart_19 : decode cX7_freePart 19 = .ok (.iinc 1 1, 3) := by decide +kernel
theorem dX7_freePart_22 : decode cX7_freePart 22 = .ok (.goto (-20), 3) := by decide +kernel
theorem dX7_freePart_25 : decode cX7_freePart 25 = .ok (.iconst (-1), 1) := by decide +kernel
theorem dX7_freePart_26 : decode cX7_freePart 26 = .ok (.ireturn, 1) := by decide +kernel
theorem dX7_readPart_0 : decode cX7_readPart 0 = .ok (.aload_n 0, 1) := by decide +kernel
theorem dX7_readPart_1 : decode cX7_readPart 1 = .ok (.iload_n 1, 1) := by decide +kernel
theorem dX7_readPart_2 : decode cX7_readPart 2 = .ok (.iconst 1, 1) := by decide +kernel
theorem dX7_readPart_3 : decode cX7_readPart 3 = .ok (.bipush 40, 2) := by decide +kernel
theorem dX7_readPart_5 : decode cX7_readPart 5 = .ok (.invokestatic 113, 3) := by decide +kernel
theorem dX7_readPart_8 : decode cX7_readPart 8 = .ok (.ifCond .ne 7, 3) := by decide +kernel
theorem dX7_readPart_11 : decode cX7_readPart 11 = .ok (.iconst 1, 1) := by decide +kernel
theorem dX7_readPart_12 : decode cX7_readPart 12 = .ok (.goto 35, 3) := by decide +kernel
theorem dX7_readPart_15 : decode cX7_readPart 15 = .ok (.aload_n 0, 1) := by decide +kernel
theorem dX7_readPart_16 : decode cX7_readPart 16 = .ok (.getfield 109, 3) := by decide +kernel
theorem dX7_readPart_19 : decode cX7_readPart 19 = .ok (.bipush 99, 2) := by decide +kernel
theorem dX7_readPart_21 : decode cX7_readPart 21 = .ok (.if_icmp .ne 21, 3) := by decide +kernel
theorem dX7_readPart_24 : decode cX7_readPart 24 = .ok (.aload_n 0, 1) := by decide +kernel
theorem dX7_readPart_25 : decode cX7_readPart 25 = .ok (.getfield 85, 3) := by decide +kernel
theorem dX7_readPart_28 : decode cX7_readPart 28 = .ok (.bipush 40, 2) := by decide +kernel
theorem dX7_readPart_30 : decode cX7_readPart 30 = .ok (.if_icmp .eq 12, 3) := by decide +kernel
theorem dX7_readPart_33 : decode cX7_readPart 33 = .ok (.aload_n 0, 1) := by decide +kernel
theorem dX7_readPart_34 : decode cX7_readPart 34 = .ok (.getfield 91, 3) := by decide +kernel
theorem dX7_readPart_37 : decode cX7_readPart 37 = .ok (.bipush 8, 2) := by decide +kernel
theorem dX7_readPart_39 : decode cX7_readPart 39 = .ok (.if_icmp .ne 7, 3) := by decide +kernel
theorem dX7_readPart_42 : decode cX7_readPart 42 = .ok (.iconst 2, 1) := by decide +kernel
theorem dX7_readPart_43 : decode cX7_readPart 43 = .ok (.goto 4, 3) := by decide +kernel
theorem dX7_readPart_46 : decode cX7_readPart 46 = .ok (.iconst 0, 1) := by decide +kernel
theorem dX7_readPart_47 : decode cX7_readPart 47 = .ok (.putfield 69, 3) := by decide +kernel
theorem dX7_readPart_50 : decode cX7_readPart 50 = .ok (.aload_n 0, 1) := by decide +kernel
theorem dX7_readPart_51 : decode cX7_readPart 51 = .ok (.getfield 69, 3) := by decide +kernel
theorem dX7_readPart_54 : decode cX7_readPart 54 = .ok (.ifCond .le 5, 3) := by decide +kernel
theorem dX7_readPart_57 : decode cX7_readPart 57 = .ok (.iconst 0, 1) := by decide +kernel
theorem dX7_readPart_58 : decode cX7_readPart 58 = .ok (.ireturn, 1) := by decide +kernel
theorem dX7_readPart_59 : decode cX7_readPart 59 = .ok (.aload_n 0, 1) := by decide +kernel
theorem dX7_readPart_60 : decode cX7_readPart 60 = .ok (.invokevirtual 203, 3) := by decide +kernel
theorem dX7_readPart_63 : decode cX7_readPart 63 = .ok (.istore_n 2, 1) := by decide +kernel
theorem dX7_readPart_64 : decode cX7_readPart 64 = .ok (.aload_n 0, 1) := by decide +kernel
theorem dX7_readPart_65 : decode cX7_readPart 65 = .ok (.getfield 51, 3) := by decide +kernel
theorem dX7_readPart_68 : decode cX7_readPart 68 = .ok (.iload_n 2, 1) := by decide +kernel
theorem dX7_readPart_69 : decode cX7_readPart 69 = .ok (.aload_n 0, 1) := by decide +kernel
theorem dX7_readPart_70 : decode cX7_readPart 70 = .ok (.getfield 88, 3) := by decide +kernel
theorem dX7_readPart_73 : decode cX7_readPart 73 = .ok (.iastore, 1) := by decide +kernel
theorem dX7_readPart_74 : decode cX7_readPart 74 = .ok (.aload_n 0, 1) := by decide +kernel
theorem dX7_readPart_75 : decode cX7_readPart 75 = .ok (.getfield 54, 3) := by decide +kernel
theorem dX7_readPart_78 : decode cX7_readPart 78 = .ok (.iload_n 2, 1) := by decide +kernel
theorem dX7_readPart_79 : decode cX7_readPart 79 = .ok (.aload_n 0, 1) := by decide +kernel
theorem dX7_readPart_80 : decode cX7_readPart 80 = .ok (.getfield 76, 3) := by decide +kernel
theorem dX7_readPart_83 : decode cX7_readPart 83 = .ok (.iastore, 1) := by decide +kernel
theorem dX7_readPart_84 : decode cX7_readPart 84 = .ok (.aload_n 0, 1) := by decide +kernel
theorem dX7_readPart_85 : decode cX7_readPart 85 = .ok (.getfield 85, 3) := by decide +kernel
theorem dX7_readPart_88 : decode cX7_readPart 88 = .ok (.iload_n 1, 1) := by decide +kernel
theorem dX7_readPart_89 : decode cX7_readPart 89 = .ok (.iadd, 1) := by decide +kernel
theorem dX7_readPart_90 : decode cX7_readPart 90 = .ok (.bipush 40, 2) := by decide +kernel
theorem dX7_readPart_92 : decode cX7_readPart 92 = .ok (.if_icmp .ge 12, 3) := by decide +kernel
theorem dX7_readPart_95 : decode cX7_readPart 95 = .ok (.aload_n 0, 1) := by decide +kernel
theorem dX7_readPart_96 : decode cX7_readPart 96 = .ok (.getfield 85, 3) := by decide +kernel
theorem dX7_readPart_99 : decode cX7_readPart 99 = .ok (.iload_n 1, 1) := by decide +kernel
theorem dX7_readPart_100 : decode cX7_readPart 100 = .ok (.iadd, 1) := by decide +kernel
theorem dX7_readPart_101 : decode cX7_readPart 101 = .ok (.goto 5, 3) := by decide +kernel
theorem dX7_readPart_104 : decode cX7_readPart 104 = .ok (.bipush 40, 2) := by decide +kernel
theorem dX7_readPart_106 : decode cX7_readPart 106 = .ok (.istore_n 3, 1) := by decide +kernel
theorem dX7_readPart_107 : decode cX7_readPart 107 = .ok (.iconst 0, 1) := by decide +kernel
theorem dX7_readPart_108 : decode cX7_readPart 108 = .ok (.istore 4, 2) := by decide +kernel
theorem dX7_readPart_110 : decode cX7_readPart 110 = .ok (.iload 4, 2) := by decide +kernel
theorem dX7_readPart_112 : decode cX7_readPart 112 = .ok (.bipush 40, 2) := by decide +kernel
theorem dX7_readPart_114 : decode cX7_readPart 114 = .ok (.if_icmp .ge 89, 3) := by decide +kernel
theorem dX7_readPart_117 : decode cX7_readPart 117 = .ok (.aload_n 0, 1) := by decide +kernel
theorem dX7_readPart_118 : decode cX7_readPart 118 = .ok (.getfield 66, 3) := by decide +kernel
theorem dX7_readPart_121 : decode cX7_readPart 121 = .ok (.bipush 40, 2) := by decide +kernel
theorem dX7_readPart_123 : decode cX7_readPart 123 = .ok (.iload_n 2, 1) := by decide +kernel
theorem dX7_readPart_124 : decode cX7_readPart 124 = .ok (.imul, 1) := by decide +kernel
theorem dX7_readPart_125 : decode cX7_readPart 125 = .ok (.iload 4, 2) := by decide +kernel
theorem dX7_readPart_127 : decode cX7_readPart 127 = .ok (.iadd, 1) := by decide +kernel
theorem dX7_readPart_128 : decode cX7_readPart 128 = .ok (.iload 4, 2) := by decide +kernel
theorem dX7_readPart_130 : decode cX7_readPart 130 = .ok (.aload_n 0, 1) := by decide +kernel
theorem dX7_readPart_131 : decode cX7_readPart 131 = .ok (.getfield 85, 3) := by decide +kernel
theorem dX7_readPart_134 : decode cX7_readPart 134 = .ok (.iload_n 3, 1) := by decide +kernel
theorem dX7_readPart_135 : decode cX7_readPart 135 = .ok (.iconst 1, 1) := by decide +kernel
theorem dX7_readPart_136 : decode cX7_readPart 136 = .ok (.isub, 1) := by decide +kernel
theorem dX7_readPart_137 : decode cX7_readPart 137 = .ok (.invokestatic 113, 3) := by decide +kernel
theorem dX7_readPart_140 : decode cX7_readPart 140 = .ok (.ifCond .eq 17, 3) := by decide +kernel
theorem dX7_readPart_143 : decode cX7_readPart 143 = .ok (.aload_n 0, 1) := by decide +kernel
theorem dX7_readPart_144 : decode cX7_readPart 144 = .ok (.getfield 35, 3) := by decide +kernel
theorem dX7_readPart_147 : decode cX7_readPart 147 = .ok (.iload 4, 2) := by decide +kernel
theorem dX7_readPart_149 : decode cX7_readPart 149 = .ok (.baload, 1) := by decide +kernel
theorem dX7_readPart_150 : decode cX7_readPart 150 = .ok (.ifCond .eq 7, 3) := by decide +kernel
theorem dX7_readPart_153 : decode cX7_readPart 153 = .ok (.iconst 1, 1) := by decide +kernel
theorem dX7_readPart_154 : decode cX7_readPart 154 = .ok (.goto 4, 3) := by decide +kernel
theorem dX7_readPart_157 : decode cX7_readPart 157 = .ok (.iconst 0, 1) := by decide +kernel
theorem dX7_readPart_158 : decode cX7_readPart 158 = .ok (.bastore, 1) := by decide +kernel
theorem dX7_readPart_159 : decode cX7_readPart 159 = .ok (.aload_n 0, 1) := by decide +kernel
theorem dX7_readPart_160 : decode cX7_readPart 160 = .ok (.getfield 57, 3) := by decide +kernel
theorem dX7_readPart_163 : decode cX7_readPart 163 = .ok (.bipush 40, 2) := by decide +kernel
theorem dX7_readPart_165 : decode cX7_readPart 165 = .ok (.iload_n 2, 1) := by decide +kernel
theorem dX7_readPart_166 : decode cX7_readPart 166 = .ok (.imul, 1) := by decide +kernel
theorem dX7_readPart_167 : decode cX7_readPart 167 = .ok (.iload 4, 2) := by decide +kernel
theorem dX7_readPart_169 : decode cX7_readPart 169 = .ok (.iadd, 1) := by decide +kernel
theorem dX7_readPart_170 : decode cX7_readPart 170 = .ok (.aload_n 0, 1) := by decide +kernel
theorem dX7_readPart_171 : decode cX7_readPart 171 = .ok (.getfield 20, 3) := by decide +kernel
theorem dX7_readPart_174 : decode cX7_readPart 174 = .ok (.iload 4, 2) := by decide +kernel
theorem dX7_readPart_176 : decode cX7_readPart 176 = .ok (.iaload, 1) := by decide +kernel
theorem dX7_readPart_177 : decode cX7_readPart 177 = .ok (.iastore, 1) := by decide +kernel
theorem dX7_readPart_178 : decode cX7_readPart 178 = .ok (.aload_n 0, 1) := by decide +kernel
theorem dX7_readPart_179 : decode cX7_readPart 179 = .ok (.getfield 60, 3) := by decide +kernel
theorem dX7_readPart_182 : decode cX7_readPart 182 = .ok (.bipush 40, 2) := by decide +kernel
theorem dX7_readPart_184 : decode cX7_readPart 184 = .ok (.iload_n 2, 1) := by decide +kernel
theorem dX7_readPart_185 : decode cX7_readPart 185 = .ok (.imul, 1) := by decide +kernel
theorem dX7_readPart_186 : decode cX7_readPart 186 = .ok (.iload 4, 2) := by decide +kernel
theorem dX7_readPart_188 : decode cX7_readPart 188 = .ok (.iadd, 1) := by decide +kernel
theorem dX7_readPart_189 : decode cX7_readPart 189 = .ok (.aload_n 0, 1) := by decide +kernel
theorem dX7_readPart_190 : decode cX7_readPart 190 = .ok (.getfield 23, 3) := by decide +kernel
theorem dX7_readPart_193 : decode cX7_readPart 193 = .ok (.iload 4, 2) := by decide +kernel
theorem dX7_readPart_195 : decode cX7_readPart 195 = .ok (.iaload, 1) := by decide +kernel
theorem dX7_readPart_196 : decode cX7_readPart 196 = .ok (.iastore, 1) := by decide +kernel
theorem dX7_readPart_197 : decode cX7_readPart 197 = .ok (.iinc 4 1, 3) := by decide +kernel
theorem dX7_readPart_200 : decode cX7_readPart 200 = .ok (.goto (-90), 3) := by decide +kernel
theorem dX7_readPart_203 : decode cX7_readPart 203 = .ok (.aload_n 0, 1) := by decide +kernel
theorem dX7_readPart_204 : decode cX7_readPart 204 = .ok (.iload_n 3, 1) := by decide +kernel
theorem dX7_readPart_205 : decode cX7_readPart 205 = .ok (.putfield 85, 3) := by decide +kernel
theorem dX7_readPart_208 : decode cX7_readPart 208 = .ok (.aload_n 0, 1) := by decide +kernel
theorem dX7_readPart_209 : decode cX7_readPart 209 = .ok (.dup, 1) := by decide +kernel
theorem dX7_readPart_210 : decode cX7_readPart 210 = .ok (.getfield 88, 3) := by decide +kernel
theorem dX7_readPart_213 : decode cX7_readPart 213 = .ok (.iconst 1, 1) := by decide +kernel
theorem dX7_readPart_214 : decode cX7_readPart 214 = .ok (.iadd, 1) := by decide +kernel
theorem dX7_readPart_215 : decode cX7_readPart 215 = .ok (.putfield 88, 3) := by decide +kernel
theorem dX7_readPart_218 : decode cX7_readPart 218 = .ok (.aload_n 0, 1) := by decide +kernel
theorem dX7_readPart_219 : decode cX7_readPart 219 = .ok (.dup, 1) := by decide +kernel
theorem dX7_readPart_220 : decode cX7_readPart 220 = .ok (.getfield 91, 3) := by decide +kernel
theorem dX7_readPart_223 : decode cX7_readPart 223 = .ok (.iconst 1, 1) := by decide +kernel
theorem dX7_readPart_224 : decode cX7_readPart 224 = .ok (.iadd, 1) := by decide +kernel
theorem dX7_readPart_225 : decode cX7_readPart 225 = .ok (.putfield 91, 3) := by decide +kernel
theorem dX7_readPart_228 : decode cX7_readPart 228 = .ok (.aload_n 0, 1) := by decide +kernel
theorem dX7_readPart_229 : decode cX7_readPart 229 = .ok (.getfield 88, 3) := by decide +kernel
theorem dX7_readPart_232 : decode cX7_readPart 232 = .ok (.iconst 1, 1) := by decide +kernel
theorem dX7_readPart_233 : decode cX7_readPart 233 = .ok (.isub, 1) := by decide +kernel
theorem dX7_readPart_234 : decode cX7_readPart 234 = .ok (.ireturn, 1) := by decide +kernel
theorem dX7_placeOf_0 : decode cX7_placeOf 0 = .ok (.iconst 0, 1) := by decide +kernel
theorem dX7_placeOf_1 : decode cX7_placeOf 1 = .ok (.istore_n 2, 1) := by decide +kernel
theorem dX7_placeOf_2 : decode cX7_placeOf 2 = .ok (.iload_n 2, 1) := by decide +kernel
theorem dX7_placeOf_3 : decode cX7_placeOf 3 = .ok (.bipush 8, 2) := by decide +kernel
theorem dX7_placeOf_5 : decode cX7_placeOf 5 = .ok (.if_icmp .ge 21, 3) := by decide +kernel
theorem dX7_placeOf_8 : decode cX7_placeOf 8 = .ok (.aload_n 0, 1) := by decide +kernel
theorem dX7_placeOf_9 : decode cX7_placeOf 9 = .ok (.getfield 51, 3) := by decide +kernel
theorem dX7_placeOf_12 : decode cX7_placeOf 12 = .ok (.iload_n 2, 1) := by decide +kernel
theorem dX7_placeOf_13 : decode cX7_placeOf 13 = .ok (.iaload, 1) := by decide +kernel
theorem dX7_placeOf_14 : decode cX7_placeOf 14 = .ok (.iload_n 1, 1) := by decide +kernel
theorem dX7_placeOf_15 : decode cX7_placeOf 15 = .ok (.if_icmp .ne 5, 3) := by decide +kernel
theorem dX7_placeOf_18 : decode cX7_placeOf 18 = .ok (.iload_n 2, 1) := by decide +kernel
theorem dX7_placeOf_19 : decode cX7_placeOf 19 = .ok (.ireturn, 1) := by decide +kernel
theorem dX7_placeOf_20 : decode cX7_placeOf 20 = .ok (.iinc 2 1, 3) := by decide +kernel
theorem dX7_placeOf_23 : decode cX7_placeOf 23 = .ok (.goto (-21), 3) := by decide +kernel
theorem dX7_placeOf_26 : decode cX7_placeOf 26 = .ok (.iconst (-1), 1) := by decide +kernel
theorem dX7_placeOf_27 : decode cX7_placeOf 27 = .ok (.ireturn, 1) := by decide +kernel
theorem dX7_putDown_0 : decode cX7_putDown 0 = .ok (.aload_n 0, 1) := by decide +kernel
theorem dX7_putDown_1 : decode cX7_putDown 1 = .ok (.iload_n 1, 1) := by decide +kernel
theorem dX7_putDown_2 : decode cX7_putDown 2 = .ok (.ifCond .lt 15, 3) := by decide +kernel
theorem dX7_putDown_5 : decode cX7_putDown 5 = .ok (.aload_n 0, 1) := by decide +kernel
theorem dX7_putDown_6 : decode cX7_putDown 6 = .ok (.iload_n 1, 1) := by decide +kernel
theorem dX7_putDown_7 : decode cX7_putDown 7 = .ok (.invokevirtual 206, 3) := by decide +kernel
theorem dX7_putDown_10 : decode cX7_putDown 10 = .ok (.ifCond .lt 7, 3) := by decide +kernel
theorem dX7_putDown_13 : decode cX7_putDown 13 = .ok (.iconst 1, 1) := by decide +kernel
theorem dX7_putDown_14 : decode cX7_putDown 14 = .ok (.goto 4, 3) := by decide +kernel
theorem dX7_putDown_17 : decode cX7_putDown 17 = .ok (.iconst 0, 1) := by decide +kernel
theorem dX7_putDown_18 : decode cX7_putDown 18 = .ok (.invokevirtual 158, 3) := by decide +kernel
theorem dX7_putDown_21 : decode cX7_putDown 21 = .ok (.ifCond .le 5, 3) := by decide +kernel
theorem dX7_putDown_24 : decode cX7_putDown 24 = .ok (.iconst 0, 1) := by decide +kernel
theorem dX7_putDown_25 : decode cX7_putDown 25 = .ok (.ireturn, 1) := by decide +kernel
theorem dX7_putDown_26 : decode cX7_putDown 26 = .ok (.aload_n 0, 1) := by decide +kernel
theorem dX7_putDown_27 : decode cX7_putDown 27 = .ok (.iload_n 1, 1) := by decide +kernel
theorem dX7_putDown_28 : decode cX7_putDown 28 = .ok (.invokevirtual 206, 3) := by decide +kernel
theorem dX7_putDown_31 : decode cX7_putDown 31 = .ok (.istore_n 2, 1) := by decide +kernel
theorem dX7_putDown_32 : decode cX7_putDown 32 = .ok (.iconst 0, 1) := by decide +kernel
theorem dX7_putDown_33 : decode cX7_putDown 33 = .ok (.istore_n 3, 1) := by decide +kernel
theorem dX7_putDown_34 : decode cX7_putDown 34 = .ok (.iconst 0, 1) := by decide +kernel
theorem dX7_putDown_35 : decode cX7_putDown 35 = .ok (.istore 4, 2) := by decide +kernel
theorem dX7_putDown_37 : decode cX7_putDown 37 = .ok (.iload 4, 2) := by decide +kernel
theorem dX7_putDown_39 : decode cX7_putDown 39 = .ok (.bipush 40, 2) := by decide +kernel
theorem dX7_putDown_41 : decode cX7_putDown 41 = .ok (.if_icmp .ge 66, 3) := by decide +kernel
theorem dX7_putDown_44 : decode cX7_putDown 44 = .ok (.aload_n 0, 1) := by decide +kernel
theorem dX7_putDown_45 : decode cX7_putDown 45 = .ok (.getfield 66, 3) := by decide +kernel
theorem dX7_putDown_48 : decode cX7_putDown 48 = .ok (.bipush 40, 2) := by decide +kernel
theorem dX7_putDown_50 : decode cX7_putDown 50 = .ok (.iload_n 2, 1) := by decide +kernel
theorem dX7_putDown_51 : decode cX7_putDown 51 = .ok (.imul, 1) := by decide +kernel
theorem dX7_putDown_52 : decode cX7_putDown 52 = .ok (.iload 4, 2) := by decide +kernel
theorem dX7_putDown_54 : decode cX7_putDown 54 = .ok (.iadd, 1) := by decide +kernel
theorem dX7_putDown_55 : decode cX7_putDown 55 = .ok (.baload, 1) := by decide +kernel
theorem dX7_putDown_56 : decode cX7_putDown 56 = .ok (.ifCond .eq 45, 3) := by decide +kernel
theorem dX7_putDown_59 : decode cX7_putDown 59 = .ok (.aload_n 0, 1) := by decide +kernel
theorem dX7_putDown_60 : decode cX7_putDown 60 = .ok (.iload 4, 2) := by decide +kernel
theorem dX7_putDown_62 : decode cX7_putDown 62 = .ok (.aload_n 0, 1) := by decide +kernel
theorem dX7_putDown_63 : decode cX7_putDown 63 = .ok (.getfield 57, 3) := by decide +kernel
theorem dX7_putDown_66 : decode cX7_putDown 66 = .ok (.bipush 40, 2) := by decide +kernel
theorem dX7_putDown_68 : decode cX7_putDown 68 = .ok (.iload_n 2, 1) := by decide +kernel
theorem dX7_putDown_69 : decode cX7_putDown 69 = .ok (.imul, 1) := by decide +kernel
theorem dX7_putDown_70 : decode cX7_putDown 70 = .ok (.iload 4, 2) := by decide +kernel
theorem dX7_putDown_72 : decode cX7_putDown 72 = .ok (.iadd, 1) := by decide +kernel
theorem dX7_putDown_73 : decode cX7_putDown 73 = .ok (.iaload, 1) := by decide +kernel
theorem dX7_putDown_74 : decode cX7_putDown 74 = .ok (.aload_n 0, 1) := by decide +kernel
theorem dX7_putDown_75 : decode cX7_putDown 75 = .ok (.getfield 60, 3) := by decide +kernel
theorem dX7_putDown_78 : decode cX7_putDown 78 = .ok (.bipush 40, 2) := by decide +kernel
theorem dX7_putDown_80 : decode cX7_putDown 80 = .ok (.iload_n 2, 1) := by decide +kernel
theorem dX7_putDown_81 : decode cX7_putDown 81 = .ok (.imul, 1) := by decide +kernel
theorem dX7_putDown_82 : decode cX7_putDown 82 = .ok (.iload 4, 2) := by decide +kernel
theorem dX7_putDown_84 : decode cX7_putDown 84 = .ok (.iadd, 1) := by decide +kernel
theorem dX7_putDown_85 : decode cX7_putDown 85 = .ok (.iaload, 1) := by decide +kernel
theorem dX7_putDown_86 : decode cX7_putDown 86 = .ok (.aload_n 0, 1) := by decide +kernel
theorem dX7_putDown_87 : decode cX7_putDown 87 = .ok (.getfield 54, 3) := by decide +kernel
theorem dX7_putDown_90 : decode cX7_putDown 90 = .ok (.iload_n 2, 1) := by decide +kernel
theorem dX7_putDown_91 : decode cX7_putDown 91 = .ok (.iaload, 1) := by decide +kernel
theorem dX7_putDown_92 : decode cX7_putDown 92 = .ok (.invokevirtual 151, 3) := by decide +kernel
theorem dX7_putDown_95 : decode cX7_putDown 95 = .ok (.ifCond .eq 6, 3) := by decide +kernel
theorem dX7_putDown_98 : decode cX7_putDown 98 = .ok (.iinc 3 1, 3) := by decide +kernel
theorem dX7_putDown_101 : decode cX7_putDown 101 = .ok (.iinc 4 1, 3) := by decide +kernel
theorem dX7_putDown_104 : decode cX7_putDown 104 = .ok (.goto (-67), 3) := by decide +kernel
theorem dX7_putDown_107 : decode cX7_putDown 107 = .ok (.aload_n 0, 1) := by decide +kernel
theorem dX7_putDown_108 : decode cX7_putDown 108 = .ok (.getfield 51, 3) := by decide +kernel
theorem dX7_putDown_111 : decode cX7_putDown 111 = .ok (.iload_n 2, 1) := by decide +kernel
theorem dX7_putDown_112 : decode cX7_putDown 112 = .ok (.iconst (-1), 1) := by decide +kernel
theorem dX7_putDown_113 : decode cX7_putDown 113 = .ok (.iastore, 1) := by decide +kernel
theorem dX7_putDown_114 : decode cX7_putDown 114 = .ok (.aload_n 0, 1) := by decide +kernel
theorem dX7_putDown_115 : decode cX7_putDown 115 = .ok (.dup, 1) := by decide +kernel
theorem dX7_putDown_116 : decode cX7_putDown 116 = .ok (.getfield 91, 3) := by decide +kernel
theorem dX7_putDown_119 : decode cX7_putDown 119 = .ok (.iconst 1, 1) := by decide +kernel
theorem dX7_putDown_120 : decode cX7_putDown 120 = .ok (.isub, 1) := by decide +kernel
theorem dX7_putDown_121 : decode cX7_putDown 121 = .ok (.putfield 91, 3) := by decide +kernel
theorem dX7_putDown_124 : decode cX7_putDown 124 = .ok (.iload_n 3, 1) := by decide +kernel
theorem dX7_putDown_125 : decode cX7_putDown 125 = .ok (.ireturn, 1) := by decide +kernel
theorem dX7_follow_0 : decode cX7_follow 0 = .ok (.aload_n 0, 1) := by decide +kernel
theorem dX7_follow_1 : decode cX7_follow 1 = .ok (.iload_n 1, 1) := by decide +kernel
theorem dX7_follow_2 : decode cX7_follow 2 = .ok (.iconst 1, 1) := by decide +kernel
theorem dX7_follow_3 : decode cX7_follow 3 = .ok (.bipush 120, 2) := by decide +kernel
theorem dX7_follow_5 : decode cX7_follow 5 = .ok (.invokestatic 113, 3) := by decide +kernel
theorem dX7_follow_8 : decode cX7_follow 8 = .ok (.ifCond .ne 7, 3) := by decide +kernel
theorem dX7_follow_11 : decode cX7_follow 11 = .ok (.iconst 1, 1) := by decide +kernel
theorem dX7_follow_12 : decode cX7_follow 12 = .ok (.goto 17, 3) := by decide +kernel
theorem dX7_follow_15 : decode cX7_follow 15 = .ok (.aload_n 0, 1) := by decide +kernel
theorem dX7_follow_16 : decode cX7_follow 16 = .ok (.getfield 109, 3) := by decide +kernel
theorem dX7_follow_19 : decode cX7_follow 19 = .ok (.bipush 99, 2) := by decide +kernel
theorem dX7_follow_21 : decode cX7_follow 21 = .ok (.if_icmp .eq 7, 3) := by decide +kernel
theorem dX7_follow_24 : decode cX7_follow 24 = .ok (.iconst 2, 1) := by decide +kernel
theorem dX7_follow_25 : decode cX7_follow 25 = .ok (.goto 4, 3) := by decide +kernel
theorem dX7_follow_28 : decode cX7_follow 28 = .ok (.iconst 0, 1) := by decide +kernel
theorem dX7_follow_29 : decode cX7_follow 29 = .ok (.putfield 69, 3) := by decide +kernel
theorem dX7_follow_32 : decode cX7_follow 32 = .ok (.aload_n 0, 1) := by decide +kernel
theorem dX7_follow_33 : decode cX7_follow 33 = .ok (.getfield 69, 3) := by decide +kernel
theorem dX7_follow_36 : decode cX7_follow 36 = .ok (.ifCond .le 5, 3) := by decide +kernel
theorem dX7_follow_39 : decode cX7_follow 39 = .ok (.iconst 0, 1) := by decide +kernel
theorem dX7_follow_40 : decode cX7_follow 40 = .ok (.ireturn, 1) := by decide +kernel
theorem dX7_follow_41 : decode cX7_follow 41 = .ok (.iconst 0, 1) := by decide +kernel
theorem dX7_follow_42 : decode cX7_follow 42 = .ok (.istore_n 2, 1) := by decide +kernel
theorem dX7_follow_43 : decode cX7_follow 43 = .ok (.iload_n 2, 1) := by decide +kernel
theorem dX7_follow_44 : decode cX7_follow 44 = .ok (.iload_n 1, 1) := by decide +kernel
theorem dX7_follow_45 : decode cX7_follow 45 = .ok (.if_icmp .ge 24, 3) := by decide +kernel
theorem dX7_follow_48 : decode cX7_follow 48 = .ok (.aload_n 0, 1) := by decide +kernel
theorem dX7_follow_49 : decode cX7_follow 49 = .ok (.getfield 79, 3) := by decide +kernel
theorem dX7_follow_52 : decode cX7_follow 52 = .ok (.aload_n 0, 1) := by decide +kernel
theorem dX7_follow_53 : decode cX7_follow 53 = .ok (.getfield 76, 3) := by decide +kernel
theorem dX7_follow_56 : decode cX7_follow 56 = .ok (.if_icmp .ge 13, 3) := by decide +kernel
theorem dX7_follow_59 : decode cX7_follow 59 = .ok (.aload_n 0, 1) := by decide +kernel
theorem dX7_follow_60 : decode cX7_follow 60 = .ok (.invokevirtual 155, 3) := by decide +kernel
theorem dX7_follow_63 : decode cX7_follow 63 = .ok (.iinc 2 1, 3) := by decide +kernel
theorem dX7_follow_66 : decode cX7_follow 66 = .ok (.goto (-23), 3) := by decide +kernel
theorem dX7_follow_69 : decode cX7_follow 69 = .ok (.iload_n 2, 1) := by decide +kernel
theorem dX7_follow_70 : decode cX7_follow 70 = .ok (.ireturn, 1) := by decide +kernel
theorem dX7_left_0 : decode cX7_left 0 = .ok (.aload_n 0, 1) := by decide +kernel
theorem dX7_left_1 : decode cX7_left 1 = .ok (.bipush 40, 2) := by decide +kernel
theorem dX7_left_3 : decode cX7_left 3 = .ok (.aload_n 0, 1) := by decide +kernel
theorem dX7_left_4 : decode cX7_left 4 = .ok (.getfield 85, 3) := by decide +kernel
theorem dX7_left_7 : decode cX7_left 7 = .ok (.isub, 1) := by decide +kernel
theorem dX7_left_8 : decode cX7_left 8 = .ok (.invokevirtual 210, 3) := by decide +kernel
theorem dX7_left_11 : decode cX7_left 11 = .ok (.ireturn, 1) := by decide +kernel
theorem dX7_behind_0 : decode cX7_behind 0 = .ok (.aload_n 0, 1) := by decide +kernel
theorem dX7_behind_1 : decode cX7_behind 1 = .ok (.aload_n 0, 1) := by decide +kernel
theorem dX7_behind_2 : decode cX7_behind 2 = .ok (.getfield 76, 3) := by decide +kernel
theorem dX7_behind_5 : decode cX7_behind 5 = .ok (.aload_n 0, 1) := by decide +kernel
theorem dX7_behind_6 : decode cX7_behind 6 = .ok (.getfield 79, 3) := by decide +kernel
theorem dX7_behind_9 : decode cX7_behind 9 = .ok (.isub, 1) := by decide +kernel
theorem dX7_behind_10 : decode cX7_behind 10 = .ok (.invokevirtual 210, 3) := by decide +kernel
theorem dX7_behind_13 : decode cX7_behind 13 = .ok (.ireturn, 1) := by decide +kernel
theorem dX7_parts_0 : decode cX7_parts 0 = .ok (.aload_n 0, 1) := by decide +kernel
theorem dX7_parts_1 : decode cX7_parts 1 = .ok (.aload_n 0, 1) := by decide +kernel
theorem dX7_parts_2 : decode cX7_parts 2 = .ok (.getfield 91, 3) := by decide +kernel
theorem dX7_parts_5 : decode cX7_parts 5 = .ok (.invokevirtual 210, 3) := by decide +kernel
theorem dX7_parts_8 : decode cX7_parts 8 = .ok (.ireturn, 1) := by decide +kernel
theorem dX7_stateOf_0 : decode cX7_stateOf 0 = .ok (.aload_n 0, 1) := by decide +kernel
theorem dX7_stateOf_1 : decode cX7_stateOf 1 = .ok (.getfield 13, 3) := by decide +kernel
theorem dX7_stateOf_4 : decode cX7_stateOf 4 = .ok (.iload_n 1, 1) := by decide +kernel
theorem dX7_stateOf_5 : decode cX7_stateOf 5 = .ok (.caload, 1) := by decide +kernel
theorem dX7_stateOf_6 : decode cX7_stateOf 6 = .ok (.bipush 101, 2) := by decide +kernel
theorem dX7_stateOf_8 : decode cX7_stateOf 8 = .ok (.if_icmp .ne 7, 3) := by decide +kernel
theorem dX7_stateOf_11 : decode cX7_stateOf 11 = .ok (.iconst 1, 1) := by decide +kernel
theorem dX7_stateOf_12 : decode cX7_stateOf 12 = .ok (.goto 4, 3) := by decide +kernel
theorem dX7_stateOf_15 : decode cX7_stateOf 15 = .ok (.iconst 0, 1) := by decide +kernel
theorem dX7_stateOf_16 : decode cX7_stateOf 16 = .ok (.istore_n 2, 1) := by decide +kernel
theorem dX7_stateOf_17 : decode cX7_stateOf 17 = .ok (.aload_n 0, 1) := by decide +kernel
theorem dX7_stateOf_18 : decode cX7_stateOf 18 = .ok (.getfield 13, 3) := by decide +kernel
theorem dX7_stateOf_21 : decode cX7_stateOf 21 = .ok (.iload_n 1, 1) := by decide +kernel
theorem dX7_stateOf_22 : decode cX7_stateOf 22 = .ok (.caload, 1) := by decide +kernel
theorem dX7_stateOf_23 : decode cX7_stateOf 23 = .ok (.bipush 97, 2) := by decide +kernel
theorem dX7_stateOf_25 : decode cX7_stateOf 25 = .ok (.if_icmp .ne 6, 3) := by decide +kernel
theorem dX7_stateOf_28 : decode cX7_stateOf 28 = .ok (.bipush 97, 2) := by decide +kernel
theorem dX7_stateOf_30 : decode cX7_stateOf 30 = .ok (.ireturn, 1) := by decide +kernel
theorem dX7_stateOf_31 : decode cX7_stateOf 31 = .ok (.aload_n 0, 1) := by decide +kernel
theorem dX7_stateOf_32 : decode cX7_stateOf 32 = .ok (.getfield 35, 3) := by decide +kernel
theorem dX7_stateOf_35 : decode cX7_stateOf 35 = .ok (.iload_n 1, 1) := by decide +kernel
theorem dX7_stateOf_36 : decode cX7_stateOf 36 = .ok (.baload, 1) := by decide +kernel
theorem dX7_stateOf_37 : decode cX7_stateOf 37 = .ok (.ifCond .ne 15, 3) := by decide +kernel
theorem dX7_stateOf_40 : decode cX7_stateOf 40 = .ok (.iload_n 2, 1) := by decide +kernel
theorem dX7_stateOf_41 : decode cX7_stateOf 41 = .ok (.ifCond .eq 8, 3) := by decide +kernel
theorem dX7_stateOf_44 : decode cX7_stateOf 44 = .ok (.bipush 116, 2) := by decide +kernel
theorem dX7_stateOf_46 : decode cX7_stateOf 46 = .ok (.goto 5, 3) := by decide +kernel
theorem dX7_stateOf_49 : decode cX7_stateOf 49 = .ok (.bipush 110, 2) := by decide +kernel
theorem dX7_stateOf_51 : decode cX7_stateOf 51 = .ok (.ireturn, 1) := by decide +kernel
theorem dX7_stateOf_52 : decode cX7_stateOf 52 = .ok (.iload_n 2, 1) := by decide +kernel
theorem dX7_stateOf_53 : decode cX7_stateOf 53 = .ok (.ifCond .ne 6, 3) := by decide +kernel
theorem dX7_stateOf_56 : decode cX7_stateOf 56 = .ok (.bipush 115, 2) := by decide +kernel
theorem dX7_stateOf_58 : decode cX7_stateOf 58 = .ok (.ireturn, 1) := by decide +kernel
theorem dX7_stateOf_59 : decode cX7_stateOf 59 = .ok (.aload_n 0, 1) := by decide +kernel
theorem dX7_stateOf_60 : decode cX7_stateOf 60 = .ok (.aload_n 0, 1) := by decide +kernel
theorem dX7_stateOf_61 : decode cX7_stateOf 61 = .ok (.getfield 20, 3) := by decide +kernel
theorem dX7_stateOf_64 : decode cX7_stateOf 64 = .ok (.iload_n 1, 1) := by decide +kernel
theorem dX7_stateOf_65 : decode cX7_stateOf 65 = .ok (.iaload, 1) := by decide +kernel
theorem dX7_stateOf_66 : decode cX7_stateOf 66 = .ok (.aload_n 0, 1) := by decide +kernel
theorem dX7_stateOf_67 : decode cX7_stateOf 67 = .ok (.getfield 23, 3) := by decide +kernel
theorem dX7_stateOf_70 : decode cX7_stateOf 70 = .ok (.iload_n 1, 1) := by decide +kernel
theorem dX7_stateOf_71 : decode cX7_stateOf 71 = .ok (.iaload, 1) := by decide +kernel
theorem dX7_stateOf_72 : decode cX7_stateOf 72 = .ok (.invokevirtual 140, 3) := by decide +kernel
theorem dX7_stateOf_75 : decode cX7_stateOf 75 = .ok (.ifCond .eq 34, 3) := by decide +kernel
theorem dX7_stateOf_78 : decode cX7_stateOf 78 = .ok (.aload_n 0, 1) := by decide +kernel
theorem dX7_stateOf_79 : decode cX7_stateOf 79 = .ok (.getfield 103, 3) := by decide +kernel
theorem dX7_stateOf_82 : decode cX7_stateOf 82 = .ok (.aload_n 0, 1) := by decide +kernel
theorem dX7_stateOf_83 : decode cX7_stateOf 83 = .ok (.getfield 26, 3) := by decide +kernel
theorem dX7_stateOf_86 : decode cX7_stateOf 86 = .ok (.iload_n 1, 1) := by decide +kernel
theorem dX7_stateOf_87 : decode cX7_stateOf 87 = .ok (.iaload, 1) := by decide +kernel
theorem dX7_stateOf_88 : decode cX7_stateOf 88 = .ok (.if_icmp .ne 21, 3) := by decide +kernel
theorem dX7_stateOf_91 : decode cX7_stateOf 91 = .ok (.aload_n 0, 1) := by decide +kernel
theorem dX7_stateOf_92 : decode cX7_stateOf 92 = .ok (.getfield 106, 3) := by decide +kernel
theorem dX7_stateOf_95 : decode cX7_stateOf 95 = .ok (.aload_n 0, 1) := by decide +kernel
theorem dX7_stateOf_96 : decode cX7_stateOf 96 = .ok (.getfield 29, 3) := by decide +kernel
theorem dX7_stateOf_99 : decode cX7_stateOf 99 = .ok (.iload_n 1, 1) := by decide +kernel
theorem dX7_stateOf_100 : decode cX7_stateOf 100 = .ok (.iaload, 1) := by decide +kernel
theorem dX7_stateOf_101 : decode cX7_stateOf 101 = .ok (.if_icmp .ne 8, 3) := by decide +kernel
theorem dX7_stateOf_104 : decode cX7_stateOf 104 = .ok (.bipush 101, 2) := by decide +kernel
theorem dX7_stateOf_106 : decode cX7_stateOf 106 = .ok (.goto 5, 3) := by decide +kernel
theorem dX7_stateOf_109 : decode cX7_stateOf 109 = .ok (.bipush 117, 2) := by decide +kernel
theorem dX7_stateOf_111 : decode cX7_stateOf 111 = .ok (.ireturn, 1) := by decide +kernel
theorem dX7_state_0 : decode cX7_state 0 = .ok (.aload_n 0, 1) := by decide +kernel
theorem dX7_state_1 : decode cX7_state 1 = .ok (.iload_n 1, 1) := by decide +kernel
theorem dX7_state_2 : decode cX7_state 2 = .ok (.invokestatic 187, 3) := by decide +kernel
theorem dX7_state_5 : decode cX7_state 5 = .ok (.invokevirtual 158, 3) := by decide +kernel
theorem dX7_state_8 : decode cX7_state 8 = .ok (.ifCond .le 8, 3) := by decide +kernel
theorem dX7_state_11 : decode cX7_state 11 = .ok (.bipush 32, 2) := by decide +kernel
theorem dX7_state_13 : decode cX7_state 13 = .ok (.goto 8, 3) := by decide +kernel
theorem dX7_state_16 : decode cX7_state 16 = .ok (.aload_n 0, 1) := by decide +kernel
theorem dX7_state_17 : decode cX7_state 17 = .ok (.iload_n 1, 1) := by decide +kernel
theorem dX7_state_18 : decode cX7_state 18 = .ok (.invokevirtual 213, 3) := by decide +kernel
theorem dX7_state_21 : decode cX7_state 21 = .ok (.ireturn, 1) := by decide +kernel
theorem dX7_stamp_0 : decode cX7_stamp 0 = .ok (.aload_n 0, 1) := by decide +kernel
theorem dX7_stamp_1 : decode cX7_stamp 1 = .ok (.iload_n 1, 1) := by decide +kernel
theorem dX7_stamp_2 : decode cX7_stamp 2 = .ok (.invokestatic 187, 3) := by decide +kernel
theorem dX7_stamp_5 : decode cX7_stamp 5 = .ok (.ifCond .ne 7, 3) := by decide +kernel
theorem dX7_stamp_8 : decode cX7_stamp 8 = .ok (.iconst 1, 1) := by decide +kernel
theorem dX7_stamp_9 : decode cX7_stamp 9 = .ok (.goto 19, 3) := by decide +kernel
theorem dX7_stamp_12 : decode cX7_stamp 12 = .ok (.aload_n 0, 1) := by decide +kernel
theorem dX7_stamp_13 : decode cX7_stamp 13 = .ok (.getfield 13, 3) := by decide +kernel
theorem dX7_stamp_16 : decode cX7_stamp 16 = .ok (.iload_n 1, 1) := by decide +kernel
theorem dX7_stamp_17 : decode cX7_stamp 17 = .ok (.caload, 1) := by decide +kernel
theorem dX7_stamp_18 : decode cX7_stamp 18 = .ok (.bipush 45, 2) := by decide +kernel
theorem dX7_stamp_20 : decode cX7_stamp 20 = .ok (.if_icmp .ne 7, 3) := by decide +kernel
theorem dX7_stamp_23 : decode cX7_stamp 23 = .ok (.iconst 2, 1) := by decide +kernel
theorem dX7_stamp_24 : decode cX7_stamp 24 = .ok (.goto 4, 3) := by decide +kernel
theorem dX7_stamp_27 : decode cX7_stamp 27 = .ok (.iconst 0, 1) := by decide +kernel
theorem dX7_stamp_28 : decode cX7_stamp 28 = .ok (.putfield 69, 3) := by decide +kernel
theorem dX7_stamp_31 : decode cX7_stamp 31 = .ok (.aload_n 0, 1) := by decide +kernel
theorem dX7_stamp_32 : decode cX7_stamp 32 = .ok (.getfield 69, 3) := by decide +kernel
theorem dX7_stamp_35 : decode cX7_stamp 35 = .ok (.ifCond .le 7, 3) := by decide +kernel
theorem dX7_stamp_38 : decode cX7_stamp 38 = .ok (.iconst 0, 1) := by decide +kernel
theorem dX7_stamp_39 : decode cX7_stamp 39 = .ok (.goto 9, 3) := by decide +kernel
theorem dX7_stamp_42 : decode cX7_stamp 42 = .ok (.aload_n 0, 1) := by decide +kernel
theorem dX7_stamp_43 : decode cX7_stamp 43 = .ok (.getfield 32, 3) := by decide +kernel
theorem dX7_stamp_46 : decode cX7_stamp 46 = .ok (.iload_n 1, 1) := by decide +kernel
theorem dX7_stamp_47 : decode cX7_stamp 47 = .ok (.iaload, 1) := by decide +kernel
theorem dX7_stamp_48 : decode cX7_stamp 48 = .ok (.ireturn, 1) := by decide +kernel
theorem dX7_turned_0 : decode cX7_turned 0 = .ok (.aload_n 0, 1) := by decide +kernel
theorem dX7_turned_1 : decode cX7_turned 1 = .ok (.iload_n 1, 1) := by decide +kernel
theorem dX7_turned_2 : decode cX7_turned 2 = .ok (.invokestatic 187, 3) := by decide +kernel
theorem dX7_turned_5 : decode cX7_turned 5 = .ok (.ifCond .ne 7, 3) := by decide +kernel
theorem dX7_turned_8 : decode cX7_turned 8 = .ok (.iconst 1, 1) := by decide +kernel
theorem dX7_turned_9 : decode cX7_turned 9 = .ok (.goto 40, 3) := by decide +kernel
theorem dX7_turned_12 : decode cX7_turned 12 = .ok (.aload_n 0, 1) := by decide +kernel
theorem dX7_turned_13 : decode cX7_turned 13 = .ok (.getfield 35, 3) := by decide +kernel
theorem dX7_turned_16 : decode cX7_turned 16 = .ok (.iload_n 1, 1) := by decide +kernel
theorem dX7_turned_17 : decode cX7_turned 17 = .ok (.baload, 1) := by decide +kernel
theorem dX7_turned_18 : decode cX7_turned 18 = .ok (.ifCond .ne 7, 3) := by decide +kernel
theorem dX7_turned_21 : decode cX7_turned 21 = .ok (.iconst 2, 1) := by decide +kernel
theorem dX7_turned_22 : decode cX7_turned 22 = .ok (.goto 27, 3) := by decide +kernel
theorem dX7_turned_25 : decode cX7_turned 25 = .ok (.aload_n 0, 1) := by decide +kernel
theorem dX7_turned_26 : decode cX7_turned 26 = .ok (.aload_n 0, 1) := by decide +kernel
theorem dX7_turned_27 : decode cX7_turned 27 = .ok (.getfield 20, 3) := by decide +kernel
theorem dX7_turned_30 : decode cX7_turned 30 = .ok (.iload_n 1, 1) := by decide +kernel
theorem dX7_turned_31 : decode cX7_turned 31 = .ok (.iaload, 1) := by decide +kernel
theorem dX7_turned_32 : decode cX7_turned 32 = .ok (.aload_n 0, 1) := by decide +kernel
theorem dX7_turned_33 : decode cX7_turned 33 = .ok (.getfield 23, 3) := by decide +kernel
theorem dX7_turned_36 : decode cX7_turned 36 = .ok (.iload_n 1, 1) := by decide +kernel
theorem dX7_turned_37 : decode cX7_turned 37 = .ok (.iaload, 1) := by decide +kernel
theorem dX7_turned_38 : decode cX7_turned 38 = .ok (.invokevirtual 140, 3) := by decide +kernel
theorem dX7_turned_41 : decode cX7_turned 41 = .ok (.ifCond .ne 7, 3) := by decide +kernel
theorem dX7_turned_44 : decode cX7_turned 44 = .ok (.iconst 3, 1) := by decide +kernel
theorem dX7_turned_45 : decode cX7_turned 45 = .ok (.goto 4, 3) := by decide +kernel
theorem dX7_turned_48 : decode cX7_turned 48 = .ok (.iconst 0, 1) := by decide +kernel
theorem dX7_turned_49 : decode cX7_turned 49 = .ok (.putfield 69, 3) := by decide +kernel
theorem dX7_turned_52 : decode cX7_turned 52 = .ok (.aload_n 0, 1) := by decide +kernel
theorem dX7_turned_53 : decode cX7_turned 53 = .ok (.getfield 69, 3) := by decide +kernel
theorem dX7_turned_56 : decode cX7_turned 56 = .ok (.ifCond .le 7, 3) := by decide +kernel
theorem dX7_turned_59 : decode cX7_turned 59 = .ok (.iconst 0, 1) := by decide +kernel
theorem dX7_turned_60 : decode cX7_turned 60 = .ok (.goto 18, 3) := by decide +kernel
theorem dX7_turned_63 : decode cX7_turned 63 = .ok (.iload_n 2, 1) := by decide +kernel
theorem dX7_turned_64 : decode cX7_turned 64 = .ok (.ifCond .eq 10, 3) := by decide +kernel
theorem dX7_turned_67 : decode cX7_turned 67 = .ok (.aload_n 0, 1) := by decide +kernel
theorem dX7_turned_68 : decode cX7_turned 68 = .ok (.getfield 106, 3) := by decide +kernel
theorem dX7_turned_71 : decode cX7_turned 71 = .ok (.goto 7, 3) := by decide +kernel
theorem dX7_turned_74 : decode cX7_turned 74 = .ok (.aload_n 0, 1) := by decide +kernel
theorem dX7_turned_75 : decode cX7_turned 75 = .ok (.getfield 103, 3) := by decide +kernel
theorem dX7_turned_78 : decode cX7_turned 78 = .ok (.ireturn, 1) := by decide +kernel
theorem dX7_turnedBack_0 : decode cX7_turnedBack 0 = .ok (.aload_n 0, 1) := by decide +kernel
theorem dX7_turnedBack_1 : decode cX7_turnedBack 1 = .ok (.iload_n 1, 1) := by decide +kernel
theorem dX7_turnedBack_2 : decode cX7_turnedBack 2 = .ok (.invokestatic 187, 3) := by decide +kernel
theorem dX7_turnedBack_5 : decode cX7_turnedBack 5 = .ok (.ifCond .ne 7, 3) := by decide +kernel
theorem dX7_turnedBack_8 : decode cX7_turnedBack 8 = .ok (.iconst 1, 1) := by decide +kernel
theorem dX7_turnedBack_9 : decode cX7_turnedBack 9 = .ok (.goto 42, 3) := by decide +kernel
theorem dX7_turnedBack_12 : decode cX7_turnedBack 12 = .ok (.aload_n 0, 1) := by decide +kernel
theorem dX7_turnedBack_13 : decode cX7_turnedBack 13 = .ok (.getfield 13, 3) := by decide +kernel
theorem dX7_turnedBack_16 : decode cX7_turnedBack 16 = .ok (.iload_n 1, 1) := by decide +kernel
theorem dX7_turnedBack_17 : decode cX7_turnedBack 17 = .ok (.caload, 1) := by decide +kernel
theorem dX7_turnedBack_18 : decode cX7_turnedBack 18 = .ok (.bipush 101, 2) := by decide +kernel
theorem dX7_turnedBack_20 : decode cX7_turnedBack 20 = .ok (.if_icmp .eq 7, 3) := by decide +kernel
theorem dX7_turnedBack_23 : decode cX7_turnedBack 23 = .ok (.iconst 2, 1) := by decide +kernel
theorem dX7_turnedBack_24 : decode cX7_turnedBack 24 = .ok (.goto 27, 3) := by decide +kernel
theorem dX7_turnedBack_27 : decode cX7_turnedBack 27 = .ok (.aload_n 0, 1) := by decide +kernel
theorem dX7_turnedBack_28 : decode cX7_turnedBack 28 = .ok (.aload_n 0, 1) := by decide +kernel
theorem dX7_turnedBack_29 : decode cX7_turnedBack 29 = .ok (.getfield 26, 3) := by decide +kernel
theorem dX7_turnedBack_32 : decode cX7_turnedBack 32 = .ok (.iload_n 1, 1) := by decide +kernel
theorem dX7_turnedBack_33 : decode cX7_turnedBack 33 = .ok (.iaload, 1) := by decide +kernel
theorem dX7_turnedBack_34 : decode cX7_turnedBack 34 = .ok (.aload_n 0, 1) := by decide +kernel
theorem dX7_turnedBack_35 : decode cX7_turnedBack 35 = .ok (.getfield 29, 3) := by decide +kernel
theorem dX7_turnedBack_38 : decode cX7_turnedBack 38 = .ok (.iload_n 1, 1) := by decide +kernel
theorem dX7_turnedBack_39 : decode cX7_turnedBack 39 = .ok (.iaload, 1) := by decide +kernel
theorem dX7_turnedBack_40 : decode cX7_turnedBack 40 = .ok (.invokevirtual 174, 3) := by decide +kernel
theorem dX7_turnedBack_43 : decode cX7_turnedBack 43 = .ok (.ifCond .ne 7, 3) := by decide +kernel
theorem dX7_turnedBack_46 : decode cX7_turnedBack 46 = .ok (.iconst 3, 1) := by decide +kernel
theorem dX7_turnedBack_47 : decode cX7_turnedBack 47 = .ok (.goto 4, 3) := by decide +kernel
theorem dX7_turnedBack_50 : decode cX7_turnedBack 50 = .ok (.iconst 0, 1) := by decide +kernel
theorem dX7_turnedBack_51 : decode cX7_turnedBack 51 = .ok (.putfield 69, 3) := by decide +kernel
theorem dX7_turnedBack_54 : decode cX7_turnedBack 54 = .ok (.aload_n 0, 1) := by decide +kernel
theorem dX7_turnedBack_55 : decode cX7_turnedBack 55 = .ok (.getfield 69, 3) := by decide +kernel
theorem dX7_turnedBack_58 : decode cX7_turnedBack 58 = .ok (.ifCond .le 7, 3) := by decide +kernel
theorem dX7_turnedBack_61 : decode cX7_turnedBack 61 = .ok (.iconst 0, 1) := by decide +kernel
theorem dX7_turnedBack_62 : decode cX7_turnedBack 62 = .ok (.goto 18, 3) := by decide +kernel
theorem dX7_turnedBack_65 : decode cX7_turnedBack 65 = .ok (.iload_n 2, 1) := by decide +kernel
theorem dX7_turnedBack_66 : decode cX7_turnedBack 66 = .ok (.ifCond .eq 10, 3) := by decide +kernel
theorem dX7_turnedBack_69 : decode cX7_turnedBack 69 = .ok (.aload_n 0, 1) := by decide +kernel
theorem dX7_turnedBack_70 : decode cX7_turnedBack 70 = .ok (.getfield 106, 3) := by decide +kernel
theorem dX7_turnedBack_73 : decode cX7_turnedBack 73 = .ok (.goto 7, 3) := by decide +kernel
theorem dX7_turnedBack_76 : decode cX7_turnedBack 76 = .ok (.aload_n 0, 1) := by decide +kernel
theorem dX7_turnedBack_77 : decode cX7_turnedBack 77 = .ok (.getfield 103, 3) := by decide +kernel
theorem dX7_turnedBack_80 : decode cX7_turnedBack 80 = .ok (.ireturn, 1) := by decide +kernel
theorem dX7_sumOf_0 : decode cX7_sumOf 0 = .ok (.lconst 0, 1) := by decide +kernel
theorem dX7_sumOf_1 : decode cX7_sumOf 1 = .ok (.lstore 4, 2) := by decide +kernel
theorem dX7_sumOf_3 : decode cX7_sumOf 3 = .ok (.iload_n 2, 1) := by decide +kernel
theorem dX7_sumOf_4 : decode cX7_sumOf 4 = .ok (.istore 6, 2) := by decide +kernel
theorem dX7_sumOf_6 : decode cX7_sumOf 6 = .ok (.iload 6, 2) := by decide +kernel
theorem dX7_sumOf_8 : decode cX7_sumOf 8 = .ok (.iload_n 3, 1) := by decide +kernel
theorem dX7_sumOf_9 : decode cX7_sumOf 9 = .ok (.if_icmp .gt 126, 3) := by decide +kernel
theorem dX7_sumOf_12 : decode cX7_sumOf 12 = .ok (.iload_n 1, 1) := by decide +kernel
theorem dX7_sumOf_13 : decode cX7_sumOf 13 = .ok (.ifCond .eq 51, 3) := by decide +kernel
theorem dX7_sumOf_16 : decode cX7_sumOf 16 = .ok (.aload_n 0, 1) := by decide +kernel
theorem dX7_sumOf_17 : decode cX7_sumOf 17 = .ok (.getfield 13, 3) := by decide +kernel
theorem dX7_sumOf_20 : decode cX7_sumOf 20 = .ok (.iload 6, 2) := by decide +kernel
theorem dX7_sumOf_22 : decode cX7_sumOf 22 = .ok (.caload, 1) := by decide +kernel
theorem dX7_sumOf_23 : decode cX7_sumOf 23 = .ok (.bipush 101, 2) := by decide +kernel
theorem dX7_sumOf_25 : decode cX7_sumOf 25 = .ok (.if_icmp .ne 39, 3) := by decide +kernel
theorem dX7_sumOf_28 : decode cX7_sumOf 28 = .ok (.lload 4, 2) := by decide +kernel
theorem dX7_sumOf_30 : decode cX7_sumOf 30 = .ok (.ldc2_w 217, 3) := by decide +kernel
theorem dX7_sumOf_33 : decode cX7_sumOf 33 = .ok (.iload 6, 2) := by decide +kernel
theorem dX7_sumOf_35 : decode cX7_sumOf 35 = .ok (.i2l, 1) := by decide +kernel
theorem dX7_sumOf_36 : decode cX7_sumOf 36 = .ok (.lmul, 1) := by decide +kernel
theorem dX7_sumOf_37 : decode cX7_sumOf 37 = .ok (.ldc2_w 219, 3) := by decide +kernel
theorem dX7_sumOf_40 : decode cX7_sumOf 40 = .ok (.aload_n 0, 1) := by decide +kernel
theorem dX7_sumOf_41 : decode cX7_sumOf 41 = .ok (.getfield 26, 3) := by decide +kernel
theorem dX7_sumOf_44 : decode cX7_sumOf 44 = .ok (.iload 6, 2) := by decide +kernel
theorem dX7_sumOf_46 : decode cX7_sumOf 46 = .ok (.iaload, 1) := by decide +kernel
theorem dX7_sumOf_47 : decode cX7_sumOf 47 = .ok (.i2l, 1) := by decide +kernel
theorem dX7_sumOf_48 : decode cX7_sumOf 48 = .ok (.lmul, 1) := by decide +kernel
theorem dX7_sumOf_49 : decode cX7_sumOf 49 = .ok (.ladd, 1) := by decide +kernel
theorem dX7_sumOf_50 : decode cX7_sumOf 50 = .ok (.aload_n 0, 1) := by decide +kernel
theorem dX7_sumOf_51 : decode cX7_sumOf 51 = .ok (.getfield 29, 3) := by decide +kernel
theorem dX7_sumOf_54 : decode cX7_sumOf 54 = .ok (.iload 6, 2) := by decide +kernel
theorem dX7_sumOf_56 : decode cX7_sumOf 56 = .ok (.iaload, 1) := by decide +kernel
theorem dX7_sumOf_57 : decode cX7_sumOf 57 = .ok (.i2l, 1) := by decide +kernel
theorem dX7_sumOf_58 : decode cX7_sumOf 58 = .ok (.ladd, 1) := by decide +kernel
theorem dX7_sumOf_59 : decode cX7_sumOf 59 = .ok (.lconst 1, 1) := by decide +kernel
theorem dX7_sumOf_60 : decode cX7_sumOf 60 = .ok (.ladd, 1) := by decide +kernel
theorem dX7_sumOf_61 : decode cX7_sumOf 61 = .ok (.ladd, 1) := by decide +kernel
theorem dX7_sumOf_62 : decode cX7_sumOf 62 = .ok (.lstore 4, 2) := by decide +kernel
theorem dX7_sumOf_64 : decode cX7_sumOf 64 = .ok (.iload_n 1, 1) := by decide +kernel
theorem dX7_sumOf_65 : decode cX7_sumOf 65 = .ok (.ifCond .ne 64, 3) := by decide +kernel
theorem dX7_sumOf_68 : decode cX7_sumOf 68 = .ok (.aload_n 0, 1) := by decide +kernel
theorem dX7_sumOf_69 : decode cX7_sumOf 69 = .ok (.getfield 35, 3) := by decide +kernel
theorem dX7_sumOf_72 : decode cX7_sumOf 72 = .ok (.iload 6, 2) := by decide +kernel
theorem dX7_sumOf_74 : decode cX7_sumOf 74 = .ok (.baload, 1) := by decide +kernel
theorem dX7_sumOf_75 : decode cX7_sumOf 75 = .ok (.ifCond .eq 54, 3) := by decide +kernel
theorem dX7_sumOf_78 : decode cX7_sumOf 78 = .ok (.aload_n 0, 1) := by decide +kernel
theorem dX7_sumOf_79 : decode cX7_sumOf 79 = .ok (.aload_n 0, 1) := by decide +kernel
theorem dX7_sumOf_80 : decode cX7_sumOf 80 = .ok (.getfield 20, 3) := by decide +kernel
theorem dX7_sumOf_83 : decode cX7_sumOf 83 = .ok (.iload 6, 2) := by decide +kernel
theorem dX7_sumOf_85 : decode cX7_sumOf 85 = .ok (.iaload, 1) := by decide +kernel
theorem dX7_sumOf_86 : decode cX7_sumOf 86 = .ok (.aload_n 0, 1) := by decide +kernel
theorem dX7_sumOf_87 : decode cX7_sumOf 87 = .ok (.getfield 23, 3) := by decide +kernel
theorem dX7_sumOf_90 : decode cX7_sumOf 90 = .ok (.iload 6, 2) := by decide +kernel
theorem dX7_sumOf_92 : decode cX7_sumOf 92 = .ok (.iaload, 1) := by decide +kernel
theorem dX7_sumOf_93 : decode cX7_sumOf 93 = .ok (.invokevirtual 140, 3) := by decide +kernel
theorem dX7_sumOf_96 : decode cX7_sumOf 96 = .ok (.ifCond .eq 33, 3) := by decide +kernel
theorem dX7_sumOf_99 : decode cX7_sumOf 99 = .ok (.lload 4, 2) := by decide +kernel
theorem dX7_sumOf_101 : decode cX7_sumOf 101 = .ok (.ldc2_w 217, 3) := by decide +kernel
theorem dX7_sumOf_104 : decode cX7_sumOf 104 = .ok (.iload 6, 2) := by decide +kernel
theorem dX7_sumOf_106 : decode cX7_sumOf 106 = .ok (.i2l, 1) := by decide +kernel
theorem dX7_sumOf_107 : decode cX7_sumOf 107 = .ok (.lmul, 1) := by decide +kernel
theorem dX7_sumOf_108 : decode cX7_sumOf 108 = .ok (.ldc2_w 219, 3) := by decide +kernel
theorem dX7_sumOf_111 : decode cX7_sumOf 111 = .ok (.aload_n 0, 1) := by decide +kernel
theorem dX7_sumOf_112 : decode cX7_sumOf 112 = .ok (.getfield 103, 3) := by decide +kernel
theorem dX7_sumOf_115 : decode cX7_sumOf 115 = .ok (.i2l, 1) := by decide +kernel
theorem dX7_sumOf_116 : decode cX7_sumOf 116 = .ok (.lmul, 1) := by decide +kernel
theorem dX7_sumOf_117 : decode cX7_sumOf 117 = .ok (.ladd, 1) := by decide +kernel
theorem dX7_sumOf_118 : decode cX7_sumOf 118 = .ok (.aload_n 0, 1) := by decide +kernel
theorem dX7_sumOf_119 : decode cX7_sumOf 119 = .ok (.getfield 106, 3) := by decide +kernel
theorem dX7_sumOf_122 : decode cX7_sumOf 122 = .ok (.i2l, 1) := by decide +kernel
theorem dX7_sumOf_123 : decode cX7_sumOf 123 = .ok (.ladd, 1) := by decide +kernel
theorem dX7_sumOf_124 : decode cX7_sumOf 124 = .ok (.lconst 1, 1) := by decide +kernel
theorem dX7_sumOf_125 : decode cX7_sumOf 125 = .ok (.ladd, 1) := by decide +kernel
theorem dX7_sumOf_126 : decode cX7_sumOf 126 = .ok (.ladd, 1) := by decide +kernel
theorem dX7_sumOf_127 : decode cX7_sumOf 127 = .ok (.lstore 4, 2) := by decide +kernel
theorem dX7_sumOf_129 : decode cX7_sumOf 129 = .ok (.iinc 6 1, 3) := by decide +kernel
theorem dX7_sumOf_132 : decode cX7_sumOf 132 = .ok (.goto (-126), 3) := by decide +kernel
theorem dX7_sumOf_135 : decode cX7_sumOf 135 = .ok (.lload 4, 2) := by decide +kernel
theorem dX7_sumOf_137 : decode cX7_sumOf 137 = .ok (.lreturn, 1) := by decide +kernel
theorem dX7_isRange_0 : decode cX7_isRange 0 = .ok (.iload_n 0, 1) := by decide +kernel
theorem dX7_isRange_1 : decode cX7_isRange 1 = .ok (.invokestatic 187, 3) := by decide +kernel
theorem dX7_isRange_4 : decode cX7_isRange 4 = .ok (.ifCond .eq 19, 3) := by decide +kernel
theorem dX7_isRange_7 : decode cX7_isRange 7 = .ok (.iload_n 1, 1) := by decide +kernel
theorem dX7_isRange_8 : decode cX7_isRange 8 = .ok (.invokestatic 187, 3) := by decide +kernel
theorem dX7_isRange_11 : decode cX7_isRange 11 = .ok (.ifCond .eq 12, 3) := by decide +kernel
theorem dX7_isRange_14 : decode cX7_isRange 14 = .ok (.iload_n 0, 1) := by decide +kernel
theorem dX7_isRange_15 : decode cX7_isRange 15 = .ok (.iload_n 1, 1) := by decide +kernel
theorem dX7_isRange_16 : decode cX7_isRange 16 = .ok (.if_icmp .gt 7, 3) := by decide +kernel
theorem dX7_isRange_19 : decode cX7_isRange 19 = .ok (.iconst 1, 1) := by decide +kernel
theorem dX7_isRange_20 : decode cX7_isRange 20 = .ok (.goto 4, 3) := by decide +kernel
theorem dX7_isRange_23 : decode cX7_isRange 23 = .ok (.iconst 0, 1) := by decide +kernel
theorem dX7_isRange_24 : decode cX7_isRange 24 = .ok (.ireturn, 1) := by decide +kernel
theorem dX7_sum_0 : decode cX7_sum 0 = .ok (.aload_n 0, 1) := by decide +kernel
theorem dX7_sum_1 : decode cX7_sum 1 = .ok (.iload_n 2, 1) := by decide +kernel
theorem dX7_sum_2 : decode cX7_sum 2 = .ok (.iload_n 3, 1) := by decide +kernel
theorem dX7_sum_3 : decode cX7_sum 3 = .ok (.invokestatic 221, 3) := by decide +kernel
theorem dX7_sum_6 : decode cX7_sum 6 = .ok (.invokevirtual 158, 3) := by decide +kernel
theorem dX7_sum_9 : decode cX7_sum 9 = .ok (.ifCond .le 7, 3) := by decide +kernel
theorem dX7_sum_12 : decode cX7_sum 12 = .ok (.lconst 0, 1) := by decide +kernel
theorem dX7_sum_13 : decode cX7_sum 13 = .ok (.goto 10, 3) := by decide +kernel
theorem dX7_sum_16 : decode cX7_sum 16 = .ok (.aload_n 0, 1) := by decide +kernel
theorem dX7_sum_17 : decode cX7_sum 17 = .ok (.iload_n 1, 1) := by decide +kernel
theorem dX7_sum_18 : decode cX7_sum 18 = .ok (.iload_n 2, 1) := by decide +kernel
theorem dX7_sum_19 : decode cX7_sum 19 = .ok (.iload_n 3, 1) := by decide +kernel
theorem dX7_sum_20 : decode cX7_sum 20 = .ok (.invokevirtual 170, 3) := by decide +kernel
theorem dX7_sum_23 : decode cX7_sum 23 = .ok (.lreturn, 1) := by decide +kernel
theorem dX7_areUnlike_0 : decode cX7_areUnlike 0 = .ok (.aload_n 0, 1) := by decide +kernel
theorem dX7_areUnlike_1 : decode cX7_areUnlike 1 = .ok (.dup, 1) := by decide +kernel
theorem dX7_areUnlike_2 : decode cX7_areUnlike 2 = .ok (.getfield 100, 3) := by decide +kernel
theorem dX7_areUnlike_5 : decode cX7_areUnlike 5 = .ok (.iconst 1, 1) := by decide +kernel
theorem dX7_areUnlike_6 : decode cX7_areUnlike 6 = .ok (.iadd, 1) := by decide +kernel
theorem dX7_areUnlike_7 : decode cX7_areUnlike 7 = .ok (.putfield 100, 3) := by decide +kernel
theorem dX7_areUnlike_10 : decode cX7_areUnlike 10 = .ok (.aload_n 0, 1) := by decide +kernel
theorem dX7_areUnlike_11 : decode cX7_areUnlike 11 = .ok (.iconst 0, 1) := by decide +kernel
theorem dX7_areUnlike_12 : decode cX7_areUnlike 12 = .ok (.iload_n 1, 1) := by decide +kernel
theorem dX7_areUnlike_13 : decode cX7_areUnlike 13 = .ok (.iload_n 2, 1) := by decide +kernel
theorem dX7_areUnlike_14 : decode cX7_areUnlike 14 = .ok (.invokevirtual 170, 3) := by decide +kernel
theorem dX7_areUnlike_17 : decode cX7_areUnlike 17 = .ok (.aload_n 0, 1) := by decide +kernel
theorem dX7_areUnlike_18 : decode cX7_areUnlike 18 = .ok (.iconst 1, 1) := by decide +kernel
theorem dX7_areUnlike_19 : decode cX7_areUnlike 19 = .ok (.iload_n 1, 1) := by decide +kernel
theorem dX7_areUnlike_20 : decode cX7_areUnlike 20 = .ok (.iload_n 2, 1) := by decide +kernel
theorem dX7_areUnlike_21 : decode cX7_areUnlike 21 = .ok (.invokevirtual 170, 3) := by decide +kernel
theorem dX7_areUnlike_24 : decode cX7_areUnlike 24 = .ok (.lcmp, 1) := by decide +kernel
theorem dX7_areUnlike_25 : decode cX7_areUnlike 25 = .ok (.ifCond .eq 7, 3) := by decide +kernel
theorem dX7_areUnlike_28 : decode cX7_areUnlike 28 = .ok (.iconst 1, 1) := by decide +kernel
theorem dX7_areUnlike_29 : decode cX7_areUnlike 29 = .ok (.goto 4, 3) := by decide +kernel
theorem dX7_areUnlike_32 : decode cX7_areUnlike 32 = .ok (.iconst 0, 1) := by decide +kernel
theorem dX7_areUnlike_33 : decode cX7_areUnlike 33 = .ok (.ireturn, 1) := by decide +kernel
theorem dX7_firstUnlike_0 : decode cX7_firstUnlike 0 = .ok (.aload_n 0, 1) := by decide +kernel
theorem dX7_firstUnlike_1 : decode cX7_firstUnlike 1 = .ok (.iload_n 1, 1) := by decide +kernel
theorem dX7_firstUnlike_2 : decode cX7_firstUnlike 2 = .ok (.iload_n 2, 1) := by decide +kernel
theorem dX7_firstUnlike_3 : decode cX7_firstUnlike 3 = .ok (.invokestatic 221, 3) := by decide +kernel
theorem dX7_firstUnlike_6 : decode cX7_firstUnlike 6 = .ok (.invokevirtual 158, 3) := by decide +kernel
theorem dX7_firstUnlike_9 : decode cX7_firstUnlike 9 = .ok (.ifCond .le 5, 3) := by decide +kernel
theorem dX7_firstUnlike_12 : decode cX7_firstUnlike 12 = .ok (.iconst 0, 1) := by decide +kernel
theorem dX7_firstUnlike_13 : decode cX7_firstUnlike 13 = .ok (.ireturn, 1) := by decide +kernel
theorem dX7_firstUnlike_14 : decode cX7_firstUnlike 14 = .ok (.aload_n 0, 1) := by decide +kernel
theorem dX7_firstUnlike_15 : decode cX7_firstUnlike 15 = .ok (.iconst 0, 1) := by decide +kernel
theorem dX7_firstUnlike_16 : decode cX7_firstUnlike 16 = .ok (.putfield 100, 3) := by decide +kernel
theorem dX7_firstUnlike_19 : decode cX7_firstUnlike 19 = .ok (.aload_n 0, 1) := by decide +kernel
theorem dX7_firstUnlike_20 : decode cX7_firstUnlike 20 = .ok (.aload_n 0, 1) := by decide +kernel
theorem dX7_firstUnlike_21 : decode cX7_firstUnlike 21 = .ok (.iload_n 1, 1) := by decide +kernel
theorem dX7_firstUnlike_22 : decode cX7_firstUnlike 22 = .ok (.iload_n 2, 1) := by decide +kernel
theorem dX7_firstUnlike_23 : decode cX7_firstUnlike 23 = .ok (.invokevirtual 224, 3) := by decide +kernel
theorem dX7_firstUnlike_26 : decode cX7_firstUnlike 26 = .ok (.ifCond .eq 7, 3) := by decide +kernel
theorem dX7_firstUnlike_29 : decode cX7_firstUnlike 29 = .ok (.iconst 0, 1) := by decide +kernel
theorem dX7_firstUnlike_30 : decode cX7_firstUnlike 30 = .ok (.goto 4, 3) := by decide +kernel
theorem dX7_firstUnlike_33 : decode cX7_firstUnlike 33 = .ok (.iconst 2, 1) := by decide +kernel
theorem dX7_firstUnlike_34 : decode cX7_firstUnlike 34 = .ok (.putfield 69, 3) := by decide +kernel
theorem dX7_firstUnlike_37 : decode cX7_firstUnlike 37 = .ok (.aload_n 0, 1) := by decide +kernel
theorem dX7_firstUnlike_38 : decode cX7_firstUnlike 38 = .ok (.getfield 69, 3) := by decide +kernel
theorem dX7_firstUnlike_41 : decode cX7_firstUnlike 41 = .ok (.ifCond .le 5, 3) := by decide +kernel
theorem dX7_firstUnlike_44 : decode cX7_firstUnlike 44 = .ok (.iconst 0, 1) := by decide +kernel
theorem dX7_firstUnlike_45 : decode cX7_firstUnlike 45 = .ok (.ireturn, 1) := by decide +kernel
theorem dX7_firstUnlike_46 : decode cX7_firstUnlike 46 = .ok (.iload_n 1, 1) := by decide +kernel
theorem dX7_firstUnlike_47 : decode cX7_firstUnlike 47 = .ok (.istore_n 3, 1) := by decide +kernel
theorem dX7_firstUnlike_48 : decode cX7_firstUnlike 48 = .ok (.iload_n 2, 1) := by decide +kernel
theorem dX7_firstUnlike_49 : decode cX7_firstUnlike 49 = .ok (.istore 4, 2) := by decide +kernel
theorem dX7_firstUnlike_51 : decode cX7_firstUnlike 51 = .ok (.iload_n 3, 1) := by decide +kernel
theorem dX7_firstUnlike_52 : decode cX7_firstUnlike 52 = .ok (.iload 4, 2) := by decide +kernel
theorem dX7_firstUnlike_54 : decode cX7_firstUnlike 54 = .ok (.if_icmp .ge 46, 3) := by decide +kernel
theorem dX7_firstUnlike_57 : decode cX7_firstUnlike 57 = .ok (.iload_n 3, 1) := by decide +kernel
theorem dX7_firstUnlike_58 : decode cX7_firstUnlike 58 = .ok (.iload 4, 2) := by decide +kernel
theorem dX7_firstUnlike_60 : decode cX7_firstUnlike 60 = .ok (.iadd, 1) := by decide +kernel
theorem dX7_firstUnlike_61 : decode cX7_firstUnlike 61 = .ok (.iconst 2, 1) := by decide +kernel
theorem dX7_firstUnlike_62 : decode cX7_firstUnlike 62 = .ok (.idiv, 1) := by decide +kernel
theorem dX7_firstUnlike_63 : decode cX7_firstUnlike 63 = .ok (.istore 5, 2) := by decide +kernel
theorem dX7_firstUnlike_65 : decode cX7_firstUnlike 65 = .ok (.aload_n 0, 1) := by decide +kernel
theorem dX7_firstUnlike_66 : decode cX7_firstUnlike 66 = .ok (.iload_n 3, 1) := by decide +kernel
theorem dX7_firstUnlike_67 : decode cX7_firstUnlike 67 = .ok (.iload 5, 2) := by decide +kernel
theorem dX7_firstUnlike_69 : decode cX7_firstUnlike 69 = .ok (.invokevirtual 224, 3) := by decide +kernel
theorem dX7_firstUnlike_72 : decode cX7_firstUnlike 72 = .ok (.ifCond .eq 10, 3) := by decide +kernel
theorem dX7_firstUnlike_75 : decode cX7_firstUnlike 75 = .ok (.iload 5, 2) := by decide +kernel
theorem dX7_firstUnlike_77 : decode cX7_firstUnlike 77 = .ok (.istore 4, 2) := by decide +kernel
theorem dX7_firstUnlike_79 : decode cX7_firstUnlike 79 = .ok (.goto 18, 3) := by decide +kernel
theorem dX7_firstUnlike_82 : decode cX7_firstUnlike 82 = .ok (.iload 5, 2) := by decide +kernel
theorem dX7_firstUnlike_84 : decode cX7_firstUnlike 84 = .ok (.iconst 1, 1) := by decide +kernel
theorem dX7_firstUnlike_85 : decode cX7_firstUnlike 85 = .ok (.iadd, 1) := by decide +kernel
theorem dX7_firstUnlike_86 : decode cX7_firstUnlike 86 = .ok (.istore_n 3, 1) := by decide +kernel
theorem dX7_firstUnlike_87 : decode cX7_firstUnlike 87 = .ok (.aload_n 0, 1) := by decide +kernel
theorem dX7_firstUnlike_88 : decode cX7_firstUnlike 88 = .ok (.dup, 1) := by decide +kernel
theorem dX7_firstUnlike_89 : decode cX7_firstUnlike 89 = .ok (.getfield 100, 3) := by decide +kernel
theorem dX7_firstUnlike_92 : decode cX7_firstUnlike 92 = .ok (.iconst 1, 1) := by decide +kernel
theorem dX7_firstUnlike_93 : decode cX7_firstUnlike 93 = .ok (.iadd, 1) := by decide +kernel
theorem dX7_firstUnlike_94 : decode cX7_firstUnlike 94 = .ok (.putfield 100, 3) := by decide +kernel
theorem dX7_firstUnlike_97 : decode cX7_firstUnlike 97 = .ok (.goto (-46), 3) := by decide +kernel
theorem dX7_firstUnlike_100 : decode cX7_firstUnlike 100 = .ok (.iload_n 3, 1) := by decide +kernel
theorem dX7_firstUnlike_101 : decode cX7_firstUnlike 101 = .ok (.ireturn, 1) := by decide +kernel
theorem dX7_compared_0 : decode cX7_compared 0 = .ok (.aload_n 0, 1) := by decide +kernel
theorem dX7_compared_1 : decode cX7_compared 1 = .ok (.aload_n 0, 1) := by decide +kernel
theorem dX7_compared_2 : decode cX7_compared 2 = .ok (.getfield 100, 3) := by decide +kernel
theorem dX7_compared_5 : decode cX7_compared 5 = .ok (.invokevirtual 210, 3) := by decide +kernel
theorem dX7_compared_8 : decode cX7_compared 8 = .ok (.ireturn, 1) := by decide +kernel
theorem dX7_goal_0 : decode cX7_goal 0 = .ok (.aload_n 0, 1) := by decide +kernel
theorem dX7_goal_1 : decode cX7_goal 1 = .ok (.iload_n 1, 1) := by decide +kernel
theorem dX7_goal_2 : decode cX7_goal 2 = .ok (.invokestatic 187, 3) := by decide +kernel
theorem dX7_goal_5 : decode cX7_goal 5 = .ok (.ifCond .ne 7, 3) := by decide +kernel
theorem dX7_goal_8 : decode cX7_goal 8 = .ok (.iconst 1, 1) := by decide +kernel
theorem dX7_goal_9 : decode cX7_goal 9 = .ok (.goto 26, 3) := by decide +kernel
theorem dX7_goal_12 : decode cX7_goal 12 = .ok (.aload_n 0, 1) := by decide +kernel
theorem dX7_goal_13 : decode cX7_goal 13 = .ok (.getfield 109, 3) := by decide +kernel
theorem dX7_goal_16 : decode cX7_goal 16 = .ok (.bipush 99, 2) := by decide +kernel
theorem dX7_goal_18 : decode cX7_goal 18 = .ok (.if_icmp .eq 16, 3) := by decide +kernel
theorem dX7_goal_21 : decode cX7_goal 21 = .ok (.aload_n 0, 1) := by decide +kernel
theorem dX7_goal_22 : decode cX7_goal 22 = .ok (.getfield 109, 3) := by decide +kernel
theorem dX7_goal_25 : decode cX7_goal 25 = .ok (.bipush 98, 2) := by decide +kernel
theorem dX7_goal_27 : decode cX7_goal 27 = .ok (.if_icmp .eq 7, 3) := by decide +kernel
theorem dX7_goal_30 : decode cX7_goal 30 = .ok (.iconst 2, 1) := by decide +kernel
theorem dX7_goal_31 : decode cX7_goal 31 = .ok (.goto 4, 3) := by decide +kernel
theorem dX7_goal_34 : decode cX7_goal 34 = .ok (.iconst 0, 1) := by decide +kernel
theorem dX7_goal_35 : decode cX7_goal 35 = .ok (.putfield 69, 3) := by decide +kernel
theorem dX7_goal_38 : decode cX7_goal 38 = .ok (.aload_n 0, 1) := by decide +kernel
theorem dX7_goal_39 : decode cX7_goal 39 = .ok (.getfield 69, 3) := by decide +kernel
theorem dX7_goal_42 : decode cX7_goal 42 = .ok (.ifCond .le 6, 3) := by decide +kernel
theorem dX7_goal_45 : decode cX7_goal 45 = .ok (.bipush 32, 2) := by decide +kernel
theorem dX7_goal_47 : decode cX7_goal 47 = .ok (.ireturn, 1) := by decide +kernel
theorem dX7_goal_48 : decode cX7_goal 48 = .ok (.aload_n 0, 1) := by decide +kernel
theorem dX7_goal_49 : decode cX7_goal 49 = .ok (.getfield 35, 3) := by decide +kernel
theorem dX7_goal_52 : decode cX7_goal 52 = .ok (.iload_n 1, 1) := by decide +kernel
theorem dX7_goal_53 : decode cX7_goal 53 = .ok (.baload, 1) := by decide +kernel
theorem dX7_goal_54 : decode cX7_goal 54 = .ok (.ifCond .ne 8, 3) := by decide +kernel
theorem dX7_goal_57 : decode cX7_goal 57 = .ok (.bipush 110, 2) := by decide +kernel
theorem dX7_goal_59 : decode cX7_goal 59 = .ok (.goto 29, 3) := by decide +kernel
theorem dX7_goal_62 : decode cX7_goal 62 = .ok (.aload_n 0, 1) := by decide +kernel
theorem dX7_goal_63 : decode cX7_goal 63 = .ok (.aload_n 0, 1) := by decide +kernel
theorem dX7_goal_64 : decode cX7_goal 64 = .ok (.getfield 20, 3) := by decide +kernel
theorem dX7_goal_67 : decode cX7_goal 67 = .ok (.iload_n 1, 1) := by decide +kernel
theorem dX7_goal_68 : decode cX7_goal 68 = .ok (.iaload, 1) := by decide +kernel
theorem dX7_goal_69 : decode cX7_goal 69 = .ok (.aload_n 0, 1) := by decide +kernel
theorem dX7_goal_70 : decode cX7_goal 70 = .ok (.getfield 23, 3) := by decide +kernel
theorem dX7_goal_73 : decode cX7_goal 73 = .ok (.iload_n 1, 1) := by decide +kernel
theorem dX7_goal_74 : decode cX7_goal 74 = .ok (.iaload, 1) := by decide +kernel
theorem dX7_goal_75 : decode cX7_goal 75 = .ok (.invokevirtual 140, 3) := by decide +kernel
theorem dX7_goal_78 : decode cX7_goal 78 = .ok (.ifCond .eq 8, 3) := by decide +kernel
theorem dX7_goal_81 : decode cX7_goal 81 = .ok (.bipush 101, 2) := by decide +kernel
theorem dX7_goal_83 : decode cX7_goal 83 = .ok (.goto 5, 3) := by decide +kernel
theorem dX7_goal_86 : decode cX7_goal 86 = .ok (.bipush 97, 2) := by decide +kernel
theorem dX7_goal_88 : decode cX7_goal 88 = .ok (.ireturn, 1) := by decide +kernel
theorem dX7_manyMoved_0 : decode cX7_manyMoved 0 = .ok (.iconst 0, 1) := by decide +kernel
theorem dX7_manyMoved_1 : decode cX7_manyMoved 1 = .ok (.istore_n 1, 1) := by decide +kernel
theorem dX7_manyMoved_2 : decode cX7_manyMoved 2 = .ok (.iconst 0, 1) := by decide +kernel
theorem dX7_manyMoved_3 : decode cX7_manyMoved 3 = .ok (.istore_n 2, 1) := by decide +kernel
theorem dX7_manyMoved_4 : decode cX7_manyMoved 4 = .ok (.iload_n 2, 1) := by decide +kernel
theorem dX7_manyMoved_5 : decode cX7_manyMoved 5 = .ok (.bipush 40, 2) := by decide +kernel
theorem dX7_manyMoved_7 : decode cX7_manyMoved 7 = .ok (.if_icmp .ge 27, 3) := by decide +kernel
theorem dX7_manyMoved_10 : decode cX7_manyMoved 10 = .ok (.iload_n 1, 1) := by decide +kernel
theorem dX7_manyMoved_11 : decode cX7_manyMoved 11 = .ok (.aload_n 0, 1) := by decide +kernel
theorem dX7_manyMoved_12 : decode cX7_manyMoved 12 = .ok (.iload_n 2, 1) := by decide +kernel
theorem dX7_manyMoved_13 : decode cX7_manyMoved 13 = .ok (.invokevirtual 213, 3) := by decide +kernel
theorem dX7_manyMoved_16 : decode cX7_manyMoved 16 = .ok (.bipush 101, 2) := by decide +kernel
theorem dX7_manyMoved_18 : decode cX7_manyMoved 18 = .ok (.if_icmp .ne 7, 3) := by decide +kernel
theorem dX7_manyMoved_21 : decode cX7_manyMoved 21 = .ok (.iconst 1, 1) := by decide +kernel
theorem dX7_manyMoved_22 : decode cX7_manyMoved 22 = .ok (.goto 4, 3) := by decide +kernel
theorem dX7_manyMoved_25 : decode cX7_manyMoved 25 = .ok (.iconst 0, 1) := by decide +kernel
theorem dX7_manyMoved_26 : decode cX7_manyMoved 26 = .ok (.iadd, 1) := by decide +kernel
theorem dX7_manyMoved_27 : decode cX7_manyMoved 27 = .ok (.istore_n 1, 1) := by decide +kernel
theorem dX7_manyMoved_28 : decode cX7_manyMoved 28 = .ok (.iinc 2 1, 3) := by decide +kernel
theorem dX7_manyMoved_31 : decode cX7_manyMoved 31 = .ok (.goto (-27), 3) := by decide +kernel
theorem dX7_manyMoved_34 : decode cX7_manyMoved 34 = .ok (.iload_n 1, 1) := by decide +kernel
theorem dX7_manyMoved_35 : decode cX7_manyMoved 35 = .ok (.ireturn, 1) := by decide +kernel
theorem dX7_movedShare_0 : decode cX7_movedShare 0 = .ok (.aload_n 0, 1) := by decide +kernel
theorem dX7_movedShare_1 : decode cX7_movedShare 1 = .ok (.aload_n 0, 1) := by decide +kernel
theorem dX7_movedShare_2 : decode cX7_movedShare 2 = .ok (.invokevirtual 162, 3) := by decide +kernel
theorem dX7_movedShare_5 : decode cX7_movedShare 5 = .ok (.ifCond .le 7, 3) := by decide +kernel
theorem dX7_movedShare_8 : decode cX7_movedShare 8 = .ok (.iconst 1, 1) := by decide +kernel
theorem dX7_movedShare_9 : decode cX7_movedShare 9 = .ok (.goto 4, 3) := by decide +kernel
theorem dX7_movedShare_12 : decode cX7_movedShare 12 = .ok (.iconst 0, 1) := by decide +kernel
theorem dX7_movedShare_13 : decode cX7_movedShare 13 = .ok (.invokevirtual 158, 3) := by decide +kernel
theorem dX7_movedShare_16 : decode cX7_movedShare 16 = .ok (.ifCond .le 7, 3) := by decide +kernel
theorem dX7_movedShare_19 : decode cX7_movedShare 19 = .ok (.fconst 0, 1) := by decide +kernel
theorem dX7_movedShare_20 : decode cX7_movedShare 20 = .ok (.goto 14, 3) := by decide +kernel
theorem dX7_movedShare_23 : decode cX7_movedShare 23 = .ok (.aload_n 0, 1) := by decide +kernel
theorem dX7_movedShare_24 : decode cX7_movedShare 24 = .ok (.invokevirtual 227, 3) := by decide +kernel
theorem dX7_movedShare_27 : decode cX7_movedShare 27 = .ok (.i2f, 1) := by decide +kernel
theorem dX7_movedShare_28 : decode cX7_movedShare 28 = .ok (.aload_n 0, 1) := by decide +kernel
theorem dX7_movedShare_29 : decode cX7_movedShare 29 = .ok (.invokevirtual 162, 3) := by decide +kernel
theorem dX7_movedShare_32 : decode cX7_movedShare 32 = .ok (.i2f, 1) := by decide +kernel
theorem dX7_movedShare_33 : decode cX7_movedShare 33 = .ok (.fdiv, 1) := by decide +kernel
theorem dX7_movedShare_34 : decode cX7_movedShare 34 = .ok (.freturn, 1) := by decide +kernel
theorem dX7_isAllMoved_0 : decode cX7_isAllMoved 0 = .ok (.aload_n 0, 1) := by decide +kernel
theorem dX7_isAllMoved_1 : decode cX7_isAllMoved 1 = .ok (.iconst 0, 1) := by decide +kernel
theorem dX7_isAllMoved_2 : decode cX7_isAllMoved 2 = .ok (.putfield 69, 3) := by decide +kernel
theorem dX7_isAllMoved_5 : decode cX7_isAllMoved 5 = .ok (.aload_n 0, 1) := by decide +kernel
theorem dX7_isAllMoved_6 : decode cX7_isAllMoved 6 = .ok (.invokevirtual 162, 3) := by decide +kernel
theorem dX7_isAllMoved_9 : decode cX7_isAllMoved 9 = .ok (.ifCond .le 18, 3) := by decide +kernel
theorem dX7_isAllMoved_12 : decode cX7_isAllMoved 12 = .ok (.aload_n 0, 1) := by decide +kernel
theorem dX7_isAllMoved_13 : decode cX7_isAllMoved 13 = .ok (.invokevirtual 227, 3) := by decide +kernel
theorem dX7_isAllMoved_16 : decode cX7_isAllMoved 16 = .ok (.aload_n 0, 1) := by decide +kernel
theorem dX7_isAllMoved_17 : decode cX7_isAllMoved 17 = .ok (.invokevirtual 162, 3) := by decide +kernel
theorem dX7_isAllMoved_20 : decode cX7_isAllMoved 20 = .ok (.if_icmp .ne 7, 3) := by decide +kernel
theorem dX7_isAllMoved_23 : decode cX7_isAllMoved 23 = .ok (.iconst 1, 1) := by decide +kernel
theorem dX7_isAllMoved_24 : decode cX7_isAllMoved 24 = .ok (.goto 4, 3) := by decide +kernel
theorem dX7_isAllMoved_27 : decode cX7_isAllMoved 27 = .ok (.iconst 0, 1) := by decide +kernel
theorem dX7_isAllMoved_28 : decode cX7_isAllMoved 28 = .ok (.ireturn, 1) := by decide +kernel
theorem dX7_meanStamp_0 : decode cX7_meanStamp 0 = .ok (.lconst 0, 1) := by decide +kernel
theorem dX7_meanStamp_1 : decode cX7_meanStamp 1 = .ok (.lstore_n 1, 1) := by decide +kernel
theorem dX7_meanStamp_2 : decode cX7_meanStamp 2 = .ok (.iconst 0, 1) := by decide +kernel
theorem dX7_meanStamp_3 : decode cX7_meanStamp 3 = .ok (.istore_n 3, 1) := by decide +kernel
theorem dX7_meanStamp_4 : decode cX7_meanStamp 4 = .ok (.iload_n 3, 1) := by decide +kernel
theorem dX7_meanStamp_5 : decode cX7_meanStamp 5 = .ok (.bipush 40, 2) := by decide +kernel
theorem dX7_meanStamp_7 : decode cX7_meanStamp 7 = .ok (.if_icmp .ge 34, 3) := by decide +kernel
theorem dX7_meanStamp_10 : decode cX7_meanStamp 10 = .ok (.lload_n 1, 1) := by decide +kernel
theorem dX7_meanStamp_11 : decode cX7_meanStamp 11 = .ok (.aload_n 0, 1) := by decide +kernel
theorem dX7_meanStamp_12 : decode cX7_meanStamp 12 = .ok (.getfield 13, 3) := by decide +kernel
theorem dX7_meanStamp_15 : decode cX7_meanStamp 15 = .ok (.iload_n 3, 1) := by decide +kernel
theorem dX7_meanStamp_16 : decode cX7_meanStamp 16 = .ok (.caload, 1) := by decide +kernel
theorem dX7_meanStamp_17 : decode cX7_meanStamp 17 = .ok (.bipush 101, 2) := by decide +kernel
theorem dX7_meanStamp_19 : decode cX7_meanStamp 19 = .ok (.if_icmp .ne 13, 3) := by decide +kernel
theorem dX7_meanStamp_22 : decode cX7_meanStamp 22 = .ok (.aload_n 0, 1) := by decide +kernel
theorem dX7_meanStamp_23 : decode cX7_meanStamp 23 = .ok (.getfield 32, 3) := by decide +kernel
theorem dX7_meanStamp_26 : decode cX7_meanStamp 26 = .ok (.iload_n 3, 1) := by decide +kernel
theorem dX7_meanStamp_27 : decode cX7_meanStamp 27 = .ok (.iaload, 1) := by decide +kernel
theorem dX7_meanStamp_28 : decode cX7_meanStamp 28 = .ok (.i2l, 1) := by decide +kernel
theorem dX7_meanStamp_29 : decode cX7_meanStamp 29 = .ok (.goto 4, 3) := by decide +kernel
theorem dX7_meanStamp_32 : decode cX7_meanStamp 32 = .ok (.lconst 0, 1) := by decide +kernel
theorem dX7_meanStamp_33 : decode cX7_meanStamp 33 = .ok (.ladd, 1) := by decide +kernel
theorem dX7_meanStamp_34 : decode cX7_meanStamp 34 = .ok (.lstore_n 1, 1) := by decide +kernel
theorem dX7_meanStamp_35 : decode cX7_meanStamp 35 = .ok (.iinc 3 1, 3) := by decide +kernel
theorem dX7_meanStamp_38 : decode cX7_meanStamp 38 = .ok (.goto (-34), 3) := by decide +kernel
theorem dX7_meanStamp_41 : decode cX7_meanStamp 41 = .ok (.aload_n 0, 1) := by decide +kernel
theorem dX7_meanStamp_42 : decode cX7_meanStamp 42 = .ok (.aload_n 0, 1) := by decide +kernel
theorem dX7_meanStamp_43 : decode cX7_meanStamp 43 = .ok (.bipush 101, 2) := by decide +kernel
theorem dX7_meanStamp_45 : decode cX7_meanStamp 45 = .ok (.invokevirtual 166, 3) := by decide +kernel
theorem dX7_meanStamp_48 : decode cX7_meanStamp 48 = .ok (.ifCond .le 7, 3) := by decide +kernel
theorem dX7_meanStamp_51 : decode cX7_meanStamp 51 = .ok (.iconst 1, 1) := by decide +kernel
theorem dX7_meanStamp_52 : decode cX7_meanStamp 52 = .ok (.goto 4, 3) := by decide +kernel
theorem dX7_meanStamp_55 : decode cX7_meanStamp 55 = .ok (.iconst 0, 1) := by decide +kernel
theorem dX7_meanStamp_56 : decode cX7_meanStamp 56 = .ok (.invokevirtual 158, 3) := by decide +kernel
theorem dX7_meanStamp_59 : decode cX7_meanStamp 59 = .ok (.ifCond .le 7, 3) := by decide +kernel
theorem dX7_meanStamp_62 : decode cX7_meanStamp 62 = .ok (.dconst 0, 1) := by decide +kernel
theorem dX7_meanStamp_63 : decode cX7_meanStamp 63 = .ok (.goto 13, 3) := by decide +kernel
theorem dX7_meanStamp_66 : decode cX7_meanStamp 66 = .ok (.lload_n 1, 1) := by decide +kernel
theorem dX7_meanStamp_67 : decode cX7_meanStamp 67 = .ok (.l2d, 1) := by decide +kernel
theorem dX7_meanStamp_68 : decode cX7_meanStamp 68 = .ok (.aload_n 0, 1) := by decide +kernel
theorem dX7_meanStamp_69 : decode cX7_meanStamp 69 = .ok (.bipush 101, 2) := by decide +kernel
theorem dX7_meanStamp_71 : decode cX7_meanStamp 71 = .ok (.invokevirtual 166, 3) := by decide +kernel
theorem dX7_meanStamp_74 : decode cX7_meanStamp 74 = .ok (.i2d, 1) := by decide +kernel
theorem dX7_meanStamp_75 : decode cX7_meanStamp 75 = .ok (.ddiv, 1) := by decide +kernel
theorem dX7_meanStamp_76 : decode cX7_meanStamp 76 = .ok (.dreturn, 1) := by decide +kernel
