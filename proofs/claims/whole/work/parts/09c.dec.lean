theorem dX12_init_0 : decode cX12_init 0 = .ok (.aload_n 0, 1) := by decide +kernel
theorem dX12_init_1 : decode cX12_init 1 = .ok (.invokespecial 1, 3) := by decide +kernel
theorem dX12_init_4 : decode cX12_init 4 = .ok (.aload_n 0, 1) := by decide +kernel
theorem dX12_init_5 : decode cX12_init 5 = .ok (.iconst (-1), 1) := by decide +kernel
theorem dX12_init_6 : decode cX12_init 6 = .ok (.putfield 9, 3) := by decide +kernel
theorem dX12_init_9 : decode cX12_init 9 = .ok (.aload_n 0, 1) := by decide +kernel
theorem dX12_init_10 : decode cX12_init 10 = .ok (.new 13, 3) := by decide +kernel
theorem dX12_init_13 : decode cX12_init 13 = .ok (.dup, 1) := by decide +kernel
theorem dX12_init_14 : decode cX12_init 14 = .ok (.invokespecial 15, 3) := by decide +kernel
theorem dX12_init_17 : decode cX12_init 17 = .ok (.putfield 16, 3) := by decide +kernel
theorem dX12_init_20 : decode cX12_init 20 = .ok (.aload_n 0, 1) := by decide +kernel
theorem dX12_init_21 : decode cX12_init 21 = .ok (.sipush 300, 3) := by decide +kernel
theorem dX12_init_24 : decode cX12_init 24 = .ok (.newarray .byte, 2) := by decide +kernel
theorem dX12_init_26 : decode cX12_init 26 = .ok (.putfield 20, 3) := by decide +kernel
theorem dX12_init_29 : decode cX12_init 29 = .ok (.aload_n 0, 1) := by decide +kernel
theorem dX12_init_30 : decode cX12_init 30 = .ok (.bipush 30, 2) := by decide +kernel
theorem dX12_init_32 : decode cX12_init 32 = .ok (.newarray .int, 2) := by decide +kernel
theorem dX12_init_34 : decode cX12_init 34 = .ok (.putfield 24, 3) := by decide +kernel
theorem dX12_init_37 : decode cX12_init 37 = .ok (.aload_n 0, 1) := by decide +kernel
theorem dX12_init_38 : decode cX12_init 38 = .ok (.bipush 31, 2) := by decide +kernel
theorem dX12_init_40 : decode cX12_init 40 = .ok (.newarray .int, 2) := by decide +kernel
theorem dX12_init_42 : decode cX12_init 42 = .ok (.putfield 28, 3) := by decide +kernel
theorem dX12_init_45 : decode cX12_init 45 = .ok (.aload_n 0, 1) := by decide +kernel
theorem dX12_init_46 : decode cX12_init 46 = .ok (.sipush 372, 3) := by decide +kernel
theorem dX12_init_49 : decode cX12_init 49 = .ok (.newarray .int, 2) := by decide +kernel
theorem dX12_init_51 : decode cX12_init 51 = .ok (.putfield 31, 3) := by decide +kernel
theorem dX12_init_54 : decode cX12_init 54 = .ok (.aload_n 0, 1) := by decide +kernel
theorem dX12_init_55 : decode cX12_init 55 = .ok (.sipush 372, 3) := by decide +kernel
theorem dX12_init_58 : decode cX12_init 58 = .ok (.newarray .int, 2) := by decide +kernel
theorem dX12_init_60 : decode cX12_init 60 = .ok (.putfield 34, 3) := by decide +kernel
theorem dX12_init_63 : decode cX12_init 63 = .ok (.aload_n 0, 1) := by decide +kernel
theorem dX12_init_64 : decode cX12_init 64 = .ok (.sipush 372, 3) := by decide +kernel
theorem dX12_init_67 : decode cX12_init 67 = .ok (.newarray .int, 2) := by decide +kernel
theorem dX12_init_69 : decode cX12_init 69 = .ok (.putfield 37, 3) := by decide +kernel
theorem dX12_init_72 : decode cX12_init 72 = .ok (.aload_n 0, 1) := by decide +kernel
theorem dX12_init_73 : decode cX12_init 73 = .ok (.sipush 1488, 3) := by decide +kernel
theorem dX12_init_76 : decode cX12_init 76 = .ok (.newarray .int, 2) := by decide +kernel
theorem dX12_init_78 : decode cX12_init 78 = .ok (.putfield 40, 3) := by decide +kernel
theorem dX12_init_81 : decode cX12_init 81 = .ok (.aload_n 0, 1) := by decide +kernel
theorem dX12_init_82 : decode cX12_init 82 = .ok (.sipush 1488, 3) := by decide +kernel
theorem dX12_init_85 : decode cX12_init 85 = .ok (.newarray .int, 2) := by decide +kernel
theorem dX12_init_87 : decode cX12_init 87 = .ok (.putfield 43, 3) := by decide +kernel
theorem dX12_init_90 : decode cX12_init 90 = .ok (.aload_n 0, 1) := by decide +kernel
theorem dX12_init_91 : decode cX12_init 91 = .ok (.sipush 1488, 3) := by decide +kernel
theorem dX12_init_94 : decode cX12_init 94 = .ok (.newarray .int, 2) := by decide +kernel
theorem dX12_init_96 : decode cX12_init 96 = .ok (.putfield 46, 3) := by decide +kernel
theorem dX12_init_99 : decode cX12_init 99 = .ok (.aload_n 0, 1) := by decide +kernel
theorem dX12_init_100 : decode cX12_init 100 = .ok (.sipush 1488, 3) := by decide +kernel
theorem dX12_init_103 : decode cX12_init 103 = .ok (.newarray .int, 2) := by decide +kernel
theorem dX12_init_105 : decode cX12_init 105 = .ok (.putfield 49, 3) := by decide +kernel
theorem dX12_init_108 : decode cX12_init 108 = .ok (.aload_n 0, 1) := by decide +kernel
theorem dX12_init_109 : decode cX12_init 109 = .ok (.sipush 1488, 3) := by decide +kernel
theorem dX12_init_112 : decode cX12_init 112 = .ok (.newarray .int, 2) := by decide +kernel
theorem dX12_init_114 : decode cX12_init 114 = .ok (.putfield 52, 3) := by decide +kernel
theorem dX12_init_117 : decode cX12_init 117 = .ok (.aload_n 0, 1) := by decide +kernel
theorem dX12_init_118 : decode cX12_init 118 = .ok (.sipush 1488, 3) := by decide +kernel
theorem dX12_init_121 : decode cX12_init 121 = .ok (.newarray .int, 2) := by decide +kernel
theorem dX12_init_123 : decode cX12_init 123 = .ok (.putfield 55, 3) := by decide +kernel
theorem dX12_init_126 : decode cX12_init 126 = .ok (.aload_n 0, 1) := by decide +kernel
theorem dX12_init_127 : decode cX12_init 127 = .ok (.bipush 8, 2) := by decide +kernel
theorem dX12_init_129 : decode cX12_init 129 = .ok (.newarray .int, 2) := by decide +kernel
theorem dX12_init_131 : decode cX12_init 131 = .ok (.putfield 58, 3) := by decide +kernel
theorem dX12_init_134 : decode cX12_init 134 = .ok (.aload_n 0, 1) := by decide +kernel
theorem dX12_init_135 : decode cX12_init 135 = .ok (.bipush 8, 2) := by decide +kernel
theorem dX12_init_137 : decode cX12_init 137 = .ok (.newarray .int, 2) := by decide +kernel
theorem dX12_init_139 : decode cX12_init 139 = .ok (.putfield 61, 3) := by decide +kernel
theorem dX12_init_142 : decode cX12_init 142 = .ok (.aload_n 0, 1) := by decide +kernel
theorem dX12_init_143 : decode cX12_init 143 = .ok (.bipush 8, 2) := by decide +kernel
theorem dX12_init_145 : decode cX12_init 145 = .ok (.newarray .int, 2) := by decide +kernel
theorem dX12_init_147 : decode cX12_init 147 = .ok (.putfield 64, 3) := by decide +kernel
theorem dX12_init_150 : decode cX12_init 150 = .ok (.aload_n 0, 1) := by decide +kernel
theorem dX12_init_151 : decode cX12_init 151 = .ok (.bipush 8, 2) := by decide +kernel
theorem dX12_init_153 : decode cX12_init 153 = .ok (.newarray .int, 2) := by decide +kernel
theorem dX12_init_155 : decode cX12_init 155 = .ok (.putfield 67, 3) := by decide +kernel
theorem dX12_init_158 : decode cX12_init 158 = .ok (.aload_n 0, 1) := by decide +kernel
theorem dX12_init_159 : decode cX12_init 159 = .ok (.bipush 8, 2) := by decide +kernel
theorem dX12_init_161 : decode cX12_init 161 = .ok (.newarray .int, 2) := by decide +kernel
theorem dX12_init_163 : decode cX12_init 163 = .ok (.putfield 70, 3) := by decide +kernel
theorem dX12_init_166 : decode cX12_init 166 = .ok (.aload_n 0, 1) := by decide +kernel
theorem dX12_init_167 : decode cX12_init 167 = .ok (.bipush 40, 2) := by decide +kernel
theorem dX12_init_169 : decode cX12_init 169 = .ok (.newarray .int, 2) := by decide +kernel
theorem dX12_init_171 : decode cX12_init 171 = .ok (.putfield 73, 3) := by decide +kernel
theorem dX12_init_174 : decode cX12_init 174 = .ok (.aload_n 0, 1) := by decide +kernel
theorem dX12_init_175 : decode cX12_init 175 = .ok (.sipush 240, 3) := by decide +kernel
theorem dX12_init_178 : decode cX12_init 178 = .ok (.newarray .int, 2) := by decide +kernel
theorem dX12_init_180 : decode cX12_init 180 = .ok (.putfield 76, 3) := by decide +kernel
theorem dX12_init_183 : decode cX12_init 183 = .ok (.aload_n 0, 1) := by decide +kernel
theorem dX12_init_184 : decode cX12_init 184 = .ok (.sipush 240, 3) := by decide +kernel
theorem dX12_init_187 : decode cX12_init 187 = .ok (.newarray .int, 2) := by decide +kernel
theorem dX12_init_189 : decode cX12_init 189 = .ok (.putfield 79, 3) := by decide +kernel
theorem dX12_init_192 : decode cX12_init 192 = .ok (.aload_n 0, 1) := by decide +kernel
theorem dX12_init_193 : decode cX12_init 193 = .ok (.sipush 240, 3) := by decide +kernel
theorem dX12_init_196 : decode cX12_init 196 = .ok (.newarray .int, 2) := by decide +kernel
theorem dX12_init_198 : decode cX12_init 198 = .ok (.putfield 82, 3) := by decide +kernel
theorem dX12_init_201 : decode cX12_init 201 = .ok (.aload_n 0, 1) := by decide +kernel
theorem dX12_init_202 : decode cX12_init 202 = .ok (.sipush 240, 3) := by decide +kernel
theorem dX12_init_205 : decode cX12_init 205 = .ok (.newarray .boolean, 2) := by decide +kernel
theorem dX12_init_207 : decode cX12_init 207 = .ok (.putfield 85, 3) := by decide +kernel
theorem dX12_init_210 : decode cX12_init 210 = .ok (.aload_n 0, 1) := by decide +kernel
theorem dX12_init_211 : decode cX12_init 211 = .ok (.sipush 200, 3) := by decide +kernel
theorem dX12_init_214 : decode cX12_init 214 = .ok (.newarray .int, 2) := by decide +kernel
theorem dX12_init_216 : decode cX12_init 216 = .ok (.putfield 89, 3) := by decide +kernel
theorem dX12_init_219 : decode cX12_init 219 = .ok (.aload_n 0, 1) := by decide +kernel
theorem dX12_init_220 : decode cX12_init 220 = .ok (.sipush 200, 3) := by decide +kernel
theorem dX12_init_223 : decode cX12_init 223 = .ok (.newarray .int, 2) := by decide +kernel
theorem dX12_init_225 : decode cX12_init 225 = .ok (.putfield 92, 3) := by decide +kernel
theorem dX12_init_228 : decode cX12_init 228 = .ok (.aload_n 0, 1) := by decide +kernel
theorem dX12_init_229 : decode cX12_init 229 = .ok (.sipush 200, 3) := by decide +kernel
theorem dX12_init_232 : decode cX12_init 232 = .ok (.newarray .int, 2) := by decide +kernel
theorem dX12_init_234 : decode cX12_init 234 = .ok (.putfield 95, 3) := by decide +kernel
theorem dX12_init_237 : decode cX12_init 237 = .ok (.aload_n 0, 1) := by decide +kernel
theorem dX12_init_238 : decode cX12_init 238 = .ok (.sipush 200, 3) := by decide +kernel
theorem dX12_init_241 : decode cX12_init 241 = .ok (.newarray .int, 2) := by decide +kernel
theorem dX12_init_243 : decode cX12_init 243 = .ok (.putfield 98, 3) := by decide +kernel
theorem dX12_init_246 : decode cX12_init 246 = .ok (.aload_n 0, 1) := by decide +kernel
theorem dX12_init_247 : decode cX12_init 247 = .ok (.sipush 200, 3) := by decide +kernel
theorem dX12_init_250 : decode cX12_init 250 = .ok (.newarray .int, 2) := by decide +kernel
theorem dX12_init_252 : decode cX12_init 252 = .ok (.putfield 101, 3) := by decide +kernel
theorem dX12_init_255 : decode cX12_init 255 = .ok (.aload_n 0, 1) := by decide +kernel
theorem dX12_init_256 : decode cX12_init 256 = .ok (.sipush 200, 3) := by decide +kernel
theorem dX12_init_259 : decode cX12_init 259 = .ok (.newarray .int, 2) := by decide +kernel
theorem dX12_init_261 : decode cX12_init 261 = .ok (.putfield 104, 3) := by decide +kernel
theorem dX12_init_264 : decode cX12_init 264 = .ok (.aload_n 0, 1) := by decide +kernel
theorem dX12_init_265 : decode cX12_init 265 = .ok (.sipush 200, 3) := by decide +kernel
theorem dX12_init_268 : decode cX12_init 268 = .ok (.newarray .int, 2) := by decide +kernel
theorem dX12_init_270 : decode cX12_init 270 = .ok (.putfield 107, 3) := by decide +kernel
theorem dX12_init_273 : decode cX12_init 273 = .ok (.aload_n 0, 1) := by decide +kernel
theorem dX12_init_274 : decode cX12_init 274 = .ok (.sipush 200, 3) := by decide +kernel
theorem dX12_init_277 : decode cX12_init 277 = .ok (.newarray .int, 2) := by decide +kernel
theorem dX12_init_279 : decode cX12_init 279 = .ok (.putfield 110, 3) := by decide +kernel
theorem dX12_init_282 : decode cX12_init 282 = .ok (.aload_n 0, 1) := by decide +kernel
theorem dX12_init_283 : decode cX12_init 283 = .ok (.sipush 1000, 3) := by decide +kernel
theorem dX12_init_286 : decode cX12_init 286 = .ok (.newarray .int, 2) := by decide +kernel
theorem dX12_init_288 : decode cX12_init 288 = .ok (.putfield 113, 3) := by decide +kernel
theorem dX12_init_291 : decode cX12_init 291 = .ok (.aload_n 0, 1) := by decide +kernel
theorem dX12_init_292 : decode cX12_init 292 = .ok (.sipush 5001, 3) := by decide +kernel
theorem dX12_init_295 : decode cX12_init 295 = .ok (.newarray .long, 2) := by decide +kernel
theorem dX12_init_297 : decode cX12_init 297 = .ok (.putfield 116, 3) := by decide +kernel
theorem dX12_init_300 : decode cX12_init 300 = .ok (.aload_n 0, 1) := by decide +kernel
theorem dX12_init_301 : decode cX12_init 301 = .ok (.iconst 5, 1) := by decide +kernel
theorem dX12_init_302 : decode cX12_init 302 = .ok (.newarray .int, 2) := by decide +kernel
theorem dX12_init_304 : decode cX12_init 304 = .ok (.putfield 120, 3) := by decide +kernel
theorem dX12_init_307 : decode cX12_init 307 = .ok (.return_, 1) := by decide +kernel
theorem dX12_refused_0 : decode cX12_refused 0 = .ok (.aload_n 0, 1) := by decide +kernel
theorem dX12_refused_1 : decode cX12_refused 1 = .ok (.iload_n 1, 1) := by decide +kernel
theorem dX12_refused_2 : decode cX12_refused 2 = .ok (.putfield 126, 3) := by decide +kernel
theorem dX12_refused_5 : decode cX12_refused 5 = .ok (.aload_n 0, 1) := by decide +kernel
theorem dX12_refused_6 : decode cX12_refused 6 = .ok (.iconst (-1), 1) := by decide +kernel
theorem dX12_refused_7 : decode cX12_refused 7 = .ok (.putfield 9, 3) := by decide +kernel
theorem dX12_refused_10 : decode cX12_refused 10 = .ok (.iconst (-1), 1) := by decide +kernel
theorem dX12_refused_11 : decode cX12_refused 11 = .ok (.ireturn, 1) := by decide +kernel
theorem dX12_done_0 : decode cX12_done 0 = .ok (.aload_n 0, 1) := by decide +kernel
theorem dX12_done_1 : decode cX12_done 1 = .ok (.iconst 0, 1) := by decide +kernel
theorem dX12_done_2 : decode cX12_done 2 = .ok (.putfield 126, 3) := by decide +kernel
theorem dX12_done_5 : decode cX12_done 5 = .ok (.aload_n 0, 1) := by decide +kernel
theorem dX12_done_6 : decode cX12_done 6 = .ok (.iconst (-1), 1) := by decide +kernel
theorem dX12_done_7 : decode cX12_done 7 = .ok (.putfield 9, 3) := by decide +kernel
theorem dX12_done_10 : decode cX12_done 10 = .ok (.iload_n 1, 1) := by decide +kernel
theorem dX12_done_11 : decode cX12_done 11 = .ok (.ireturn, 1) := by decide +kernel
theorem dX12_in_0 : decode cX12_in 0 = .ok (.iload_n 0, 1) := by decide +kernel
theorem dX12_in_1 : decode cX12_in 1 = .ok (.iload_n 1, 1) := by decide +kernel
theorem dX12_in_2 : decode cX12_in 2 = .ok (.if_icmp .lt 12, 3) := by decide +kernel
theorem dX12_in_5 : decode cX12_in 5 = .ok (.iload_n 0, 1) := by decide +kernel
theorem dX12_in_6 : decode cX12_in 6 = .ok (.iload_n 2, 1) := by decide +kernel
theorem dX12_in_7 : decode cX12_in 7 = .ok (.if_icmp .gt 7, 3) := by decide +kernel
theorem dX12_in_10 : decode cX12_in 10 = .ok (.iconst 1, 1) := by decide +kernel
theorem dX12_in_11 : decode cX12_in 11 = .ok (.goto 4, 3) := by decide +kernel
theorem dX12_in_14 : decode cX12_in 14 = .ok (.iconst 0, 1) := by decide +kernel
theorem dX12_in_15 : decode cX12_in 15 = .ok (.ireturn, 1) := by decide +kernel
theorem dX12_stop_0 : decode cX12_stop 0 = .ok (.aload_n 0, 1) := by decide +kernel
theorem dX12_stop_1 : decode cX12_stop 1 = .ok (.getfield 16, 3) := by decide +kernel
theorem dX12_stop_4 : decode cX12_stop 4 = .ok (.iload_n 1, 1) := by decide +kernel
theorem dX12_stop_5 : decode cX12_stop 5 = .ok (.putfield 129, 3) := by decide +kernel
theorem dX12_stop_8 : decode cX12_stop 8 = .ok (.aload_n 0, 1) := by decide +kernel
theorem dX12_stop_9 : decode cX12_stop 9 = .ok (.getfield 16, 3) := by decide +kernel
theorem dX12_stop_12 : decode cX12_stop 12 = .ok (.aload_n 0, 1) := by decide +kernel
theorem dX12_stop_13 : decode cX12_stop 13 = .ok (.getfield 131, 3) := by decide +kernel
theorem dX12_stop_16 : decode cX12_stop 16 = .ok (.putfield 134, 3) := by decide +kernel
theorem dX12_stop_19 : decode cX12_stop 19 = .ok (.aload_n 0, 1) := by decide +kernel
theorem dX12_stop_20 : decode cX12_stop 20 = .ok (.getfield 16, 3) := by decide +kernel
theorem dX12_stop_23 : decode cX12_stop 23 = .ok (.areturn, 1) := by decide +kernel
theorem dX12_byteAt_0 : decode cX12_byteAt 0 = .ok (.iload_n 1, 1) := by decide +kernel
theorem dX12_byteAt_1 : decode cX12_byteAt 1 = .ok (.aload_n 0, 1) := by decide +kernel
theorem dX12_byteAt_2 : decode cX12_byteAt 2 = .ok (.getfield 135, 3) := by decide +kernel
theorem dX12_byteAt_5 : decode cX12_byteAt 5 = .ok (.if_icmp .ge 16, 3) := by decide +kernel
theorem dX12_byteAt_8 : decode cX12_byteAt 8 = .ok (.aload_n 0, 1) := by decide +kernel
theorem dX12_byteAt_9 : decode cX12_byteAt 9 = .ok (.getfield 20, 3) := by decide +kernel
theorem dX12_byteAt_12 : decode cX12_byteAt 12 = .ok (.iload_n 1, 1) := by decide +kernel
theorem dX12_byteAt_13 : decode cX12_byteAt 13 = .ok (.baload, 1) := by decide +kernel
theorem dX12_byteAt_14 : decode cX12_byteAt 14 = .ok (.sipush 255, 3) := by decide +kernel
theorem dX12_byteAt_17 : decode cX12_byteAt 17 = .ok (.iand, 1) := by decide +kernel
theorem dX12_byteAt_18 : decode cX12_byteAt 18 = .ok (.goto 4, 3) := by decide +kernel
theorem dX12_byteAt_21 : decode cX12_byteAt 21 = .ok (.iconst (-1), 1) := by decide +kernel
theorem dX12_byteAt_22 : decode cX12_byteAt 22 = .ok (.ireturn, 1) := by decide +kernel
theorem dX12_isLetter_0 : decode cX12_isLetter 0 = .ok (.iload_n 0, 1) := by decide +kernel
theorem dX12_isLetter_1 : decode cX12_isLetter 1 = .ok (.bipush 97, 2) := by decide +kernel
theorem dX12_isLetter_3 : decode cX12_isLetter 3 = .ok (.if_icmp .lt 13, 3) := by decide +kernel
theorem dX12_isLetter_6 : decode cX12_isLetter 6 = .ok (.iload_n 0, 1) := by decide +kernel
theorem dX12_isLetter_7 : decode cX12_isLetter 7 = .ok (.bipush 122, 2) := by decide +kernel
theorem dX12_isLetter_9 : decode cX12_isLetter 9 = .ok (.if_icmp .gt 7, 3) := by decide +kernel
theorem dX12_isLetter_12 : decode cX12_isLetter 12 = .ok (.iconst 1, 1) := by decide +kernel
theorem dX12_isLetter_13 : decode cX12_isLetter 13 = .ok (.goto 4, 3) := by decide +kernel
theorem dX12_isLetter_16 : decode cX12_isLetter 16 = .ok (.iconst 0, 1) := by decide +kernel
theorem dX12_isLetter_17 : decode cX12_isLetter 17 = .ok (.ireturn, 1) := by decide +kernel
theorem dX12_isDigit_0 : decode cX12_isDigit 0 = .ok (.iload_n 0, 1) := by decide +kernel
theorem dX12_isDigit_1 : decode cX12_isDigit 1 = .ok (.bipush 48, 2) := by decide +kernel
theorem dX12_isDigit_3 : decode cX12_isDigit 3 = .ok (.if_icmp .lt 13, 3) := by decide +kernel
theorem dX12_isDigit_6 : decode cX12_isDigit 6 = .ok (.iload_n 0, 1) := by decide +kernel
theorem dX12_isDigit_7 : decode cX12_isDigit 7 = .ok (.bipush 57, 2) := by decide +kernel
theorem dX12_isDigit_9 : decode cX12_isDigit 9 = .ok (.if_icmp .gt 7, 3) := by decide +kernel
theorem dX12_isDigit_12 : decode cX12_isDigit 12 = .ok (.iconst 1, 1) := by decide +kernel
theorem dX12_isDigit_13 : decode cX12_isDigit 13 = .ok (.goto 4, 3) := by decide +kernel
theorem dX12_isDigit_16 : decode cX12_isDigit 16 = .ok (.iconst 0, 1) := by decide +kernel
theorem dX12_isDigit_17 : decode cX12_isDigit 17 = .ok (.ireturn, 1) := by decide +kernel
theorem dX12_wordOf_0 : decode cX12_wordOf 0 = .ok (.lconst 0, 1) := by decide +kernel
theorem dX12_wordOf_1 : decode cX12_wordOf 1 = .ok (.lstore_n 1, 1) := by decide +kernel
theorem dX12_wordOf_2 : decode cX12_wordOf 2 = .ok (.iconst 0, 1) := by decide +kernel
theorem dX12_wordOf_3 : decode cX12_wordOf 3 = .ok (.istore_n 3, 1) := by decide +kernel
theorem dX12_wordOf_4 : decode cX12_wordOf 4 = .ok (.iload_n 3, 1) := by decide +kernel
theorem dX12_wordOf_5 : decode cX12_wordOf 5 = .ok (.aload_n 0, 1) := by decide +kernel
theorem dX12_wordOf_6 : decode cX12_wordOf 6 = .ok (.invokevirtual 138, 3) := by decide +kernel
theorem dX12_wordOf_9 : decode cX12_wordOf 9 = .ok (.if_icmp .ge 27, 3) := by decide +kernel
theorem dX12_wordOf_12 : decode cX12_wordOf 12 = .ok (.ldc2_w 144, 3) := by decide +kernel
theorem dX12_wordOf_15 : decode cX12_wordOf 15 = .ok (.lload_n 1, 1) := by decide +kernel
theorem dX12_wordOf_16 : decode cX12_wordOf 16 = .ok (.lmul, 1) := by decide +kernel
theorem dX12_wordOf_17 : decode cX12_wordOf 17 = .ok (.aload_n 0, 1) := by decide +kernel
theorem dX12_wordOf_18 : decode cX12_wordOf 18 = .ok (.iload_n 3, 1) := by decide +kernel
theorem dX12_wordOf_19 : decode cX12_wordOf 19 = .ok (.invokevirtual 146, 3) := by decide +kernel
theorem dX12_wordOf_22 : decode cX12_wordOf 22 = .ok (.bipush 97, 2) := by decide +kernel
theorem dX12_wordOf_24 : decode cX12_wordOf 24 = .ok (.isub, 1) := by decide +kernel
theorem dX12_wordOf_25 : decode cX12_wordOf 25 = .ok (.iconst 1, 1) := by decide +kernel
theorem dX12_wordOf_26 : decode cX12_wordOf 26 = .ok (.iadd, 1) := by decide +kernel
theorem dX12_wordOf_27 : decode cX12_wordOf 27 = .ok (.i2l, 1) := by decide +kernel
theorem dX12_wordOf_28 : decode cX12_wordOf 28 = .ok (.ladd, 1) := by decide +kernel
theorem dX12_wordOf_29 : decode cX12_wordOf 29 = .ok (.lstore_n 1, 1) := by decide +kernel
theorem dX12_wordOf_30 : decode cX12_wordOf 30 = .ok (.iinc 3 1, 3) := by decide +kernel
theorem dX12_wordOf_33 : decode cX12_wordOf 33 = .ok (.goto (-29), 3) := by decide +kernel
theorem dX12_wordOf_36 : decode cX12_wordOf 36 = .ok (.lload_n 1, 1) := by decide +kernel
theorem dX12_wordOf_37 : decode cX12_wordOf 37 = .ok (.lreturn, 1) := by decide +kernel
theorem dX12_next_0 : decode cX12_next 0 = .ok (.aload_n 0, 1) := by decide +kernel
theorem dX12_next_1 : decode cX12_next 1 = .ok (.aload_n 0, 1) := by decide +kernel
theorem dX12_next_2 : decode cX12_next 2 = .ok (.getfield 150, 3) := by decide +kernel
theorem dX12_next_5 : decode cX12_next 5 = .ok (.invokevirtual 153, 3) := by decide +kernel
theorem dX12_next_8 : decode cX12_next 8 = .ok (.bipush 32, 2) := by decide +kernel
theorem dX12_next_10 : decode cX12_next 10 = .ok (.if_icmp .ne 16, 3) := by decide +kernel
theorem dX12_next_13 : decode cX12_next 13 = .ok (.aload_n 0, 1) := by decide +kernel
theorem dX12_next_14 : decode cX12_next 14 = .ok (.dup, 1) := by decide +kernel
theorem dX12_next_15 : decode cX12_next 15 = .ok (.getfield 150, 3) := by decide +kernel
theorem dX12_next_18 : decode cX12_next 18 = .ok (.iconst 1, 1) := by decide +kernel
theorem dX12_next_19 : decode cX12_next 19 = .ok (.iadd, 1) := by decide +kernel
theorem dX12_next_20 : decode cX12_next 20 = .ok (.putfield 150, 3) := by decide +kernel
theorem dX12_next_23 : decode cX12_next 23 = .ok (.goto (-23), 3) := by decide +kernel
theorem dX12_next_26 : decode cX12_next 26 = .ok (.aload_n 0, 1) := by decide +kernel
theorem dX12_next_27 : decode cX12_next 27 = .ok (.aload_n 0, 1) := by decide +kernel
theorem dX12_next_28 : decode cX12_next 28 = .ok (.getfield 150, 3) := by decide +kernel
theorem dX12_next_31 : decode cX12_next 31 = .ok (.putfield 131, 3) := by decide +kernel
theorem dX12_next_34 : decode cX12_next 34 = .ok (.aload_n 0, 1) := by decide +kernel
theorem dX12_next_35 : decode cX12_next 35 = .ok (.iconst 0, 1) := by decide +kernel
theorem dX12_next_36 : decode cX12_next 36 = .ok (.putfield 157, 3) := by decide +kernel
theorem dX12_next_39 : decode cX12_next 39 = .ok (.aload_n 0, 1) := by decide +kernel
theorem dX12_next_40 : decode cX12_next 40 = .ok (.iconst 0, 1) := by decide +kernel
theorem dX12_next_41 : decode cX12_next 41 = .ok (.putfield 160, 3) := by decide +kernel
theorem dX12_next_44 : decode cX12_next 44 = .ok (.aload_n 0, 1) := by decide +kernel
theorem dX12_next_45 : decode cX12_next 45 = .ok (.aload_n 0, 1) := by decide +kernel
theorem dX12_next_46 : decode cX12_next 46 = .ok (.getfield 150, 3) := by decide +kernel
theorem dX12_next_49 : decode cX12_next 49 = .ok (.invokevirtual 153, 3) := by decide +kernel
theorem dX12_next_52 : decode cX12_next 52 = .ok (.istore_n 1, 1) := by decide +kernel
theorem dX12_next_53 : decode cX12_next 53 = .ok (.iconst 0, 1) := by decide +kernel
theorem dX12_next_54 : decode cX12_next 54 = .ok (.istore_n 2, 1) := by decide +kernel
theorem dX12_next_55 : decode cX12_next 55 = .ok (.iload_n 1, 1) := by decide +kernel
theorem dX12_next_56 : decode cX12_next 56 = .ok (.iconst (-1), 1) := by decide +kernel
theorem dX12_next_57 : decode cX12_next 57 = .ok (.if_icmp .ne 11, 3) := by decide +kernel
theorem dX12_next_60 : decode cX12_next 60 = .ok (.aload_n 0, 1) := by decide +kernel
theorem dX12_next_61 : decode cX12_next 61 = .ok (.iconst 1, 1) := by decide +kernel
theorem dX12_next_62 : decode cX12_next 62 = .ok (.putfield 157, 3) := by decide +kernel
theorem dX12_next_65 : decode cX12_next 65 = .ok (.goto 237, 3) := by decide +kernel
theorem dX12_next_68 : decode cX12_next 68 = .ok (.iload_n 1, 1) := by decide +kernel
theorem dX12_next_69 : decode cX12_next 69 = .ok (.invokestatic 163, 3) := by decide +kernel
theorem dX12_next_72 : decode cX12_next 72 = .ok (.ifCond .eq 85, 3) := by decide +kernel
theorem dX12_next_75 : decode cX12_next 75 = .ok (.aload_n 0, 1) := by decide +kernel
theorem dX12_next_76 : decode cX12_next 76 = .ok (.lconst 0, 1) := by decide +kernel
theorem dX12_next_77 : decode cX12_next 77 = .ok (.putfield 167, 3) := by decide +kernel
theorem dX12_next_80 : decode cX12_next 80 = .ok (.aload_n 0, 1) := by decide +kernel
theorem dX12_next_81 : decode cX12_next 81 = .ok (.aload_n 0, 1) := by decide +kernel
theorem dX12_next_82 : decode cX12_next 82 = .ok (.getfield 150, 3) := by decide +kernel
theorem dX12_next_85 : decode cX12_next 85 = .ok (.invokevirtual 153, 3) := by decide +kernel
theorem dX12_next_88 : decode cX12_next 88 = .ok (.invokestatic 163, 3) := by decide +kernel
theorem dX12_next_91 : decode cX12_next 91 = .ok (.ifCond .eq 52, 3) := by decide +kernel
theorem dX12_next_94 : decode cX12_next 94 = .ok (.iload_n 2, 1) := by decide +kernel
theorem dX12_next_95 : decode cX12_next 95 = .ok (.bipush 8, 2) := by decide +kernel
theorem dX12_next_97 : decode cX12_next 97 = .ok (.if_icmp .ge 30, 3) := by decide +kernel
theorem dX12_next_100 : decode cX12_next 100 = .ok (.aload_n 0, 1) := by decide +kernel
theorem dX12_next_101 : decode cX12_next 101 = .ok (.ldc2_w 144, 3) := by decide +kernel
theorem dX12_next_104 : decode cX12_next 104 = .ok (.aload_n 0, 1) := by decide +kernel
theorem dX12_next_105 : decode cX12_next 105 = .ok (.getfield 167, 3) := by decide +kernel
theorem dX12_next_108 : decode cX12_next 108 = .ok (.lmul, 1) := by decide +kernel
theorem dX12_next_109 : decode cX12_next 109 = .ok (.aload_n 0, 1) := by decide +kernel
theorem dX12_next_110 : decode cX12_next 110 = .ok (.aload_n 0, 1) := by decide +kernel
theorem dX12_next_111 : decode cX12_next 111 = .ok (.getfield 150, 3) := by decide +kernel
theorem dX12_next_114 : decode cX12_next 114 = .ok (.invokevirtual 153, 3) := by decide +kernel
theorem dX12_next_117 : decode cX12_next 117 = .ok (.bipush 97, 2) := by decide +kernel
theorem dX12_next_119 : decode cX12_next 119 = .ok (.isub, 1) := by decide +kernel
theorem dX12_next_120 : decode cX12_next 120 = .ok (.iconst 1, 1) := by decide +kernel
theorem dX12_next_121 : decode cX12_next 121 = .ok (.iadd, 1) := by decide +kernel
theorem dX12_next_122 : decode cX12_next 122 = .ok (.i2l, 1) := by decide +kernel
theorem dX12_next_123 : decode cX12_next 123 = .ok (.ladd, 1) := by decide +kernel
theorem dX12_next_124 : decode cX12_next 124 = .ok (.putfield 167, 3) := by decide +kernel
theorem dX12_next_127 : decode cX12_next 127 = .ok (.iinc 2 1, 3) := by decide +kernel
theorem dX12_next_130 : decode cX12_next 130 = .ok (.aload_n 0, 1) := by decide +kernel
theorem dX12_next_131 : decode cX12_next 131 = .ok (.dup, 1) := by decide +kernel
theorem dX12_next_132 : decode cX12_next 132 = .ok (.getfield 150, 3) := by decide +kernel
theorem dX12_next_135 : decode cX12_next 135 = .ok (.iconst 1, 1) := by decide +kernel
theorem dX12_next_136 : decode cX12_next 136 = .ok (.iadd, 1) := by decide +kernel
theorem dX12_next_137 : decode cX12_next 137 = .ok (.putfield 150, 3) := by decide +kernel
theorem dX12_next_140 : decode cX12_next 140 = .ok (.goto (-60), 3) := by decide +kernel
theorem dX12_next_143 : decode cX12_next 143 = .ok (.iload_n 2, 1) := by decide +kernel
theorem dX12_next_144 : decode cX12_next 144 = .ok (.bipush 9, 2) := by decide +kernel
theorem dX12_next_146 : decode cX12_next 146 = .ok (.if_icmp .ge 156, 3) := by decide +kernel
theorem dX12_next_149 : decode cX12_next 149 = .ok (.aload_n 0, 1) := by decide +kernel
theorem dX12_next_150 : decode cX12_next 150 = .ok (.iconst 2, 1) := by decide +kernel
theorem dX12_next_151 : decode cX12_next 151 = .ok (.putfield 157, 3) := by decide +kernel
theorem dX12_next_154 : decode cX12_next 154 = .ok (.goto 148, 3) := by decide +kernel
theorem dX12_next_157 : decode cX12_next 157 = .ok (.iload_n 1, 1) := by decide +kernel
theorem dX12_next_158 : decode cX12_next 158 = .ok (.invokestatic 171, 3) := by decide +kernel
theorem dX12_next_161 : decode cX12_next 161 = .ok (.ifCond .eq 79, 3) := by decide +kernel
theorem dX12_next_164 : decode cX12_next 164 = .ok (.aload_n 0, 1) := by decide +kernel
theorem dX12_next_165 : decode cX12_next 165 = .ok (.iconst 0, 1) := by decide +kernel
theorem dX12_next_166 : decode cX12_next 166 = .ok (.putfield 174, 3) := by decide +kernel
theorem dX12_next_169 : decode cX12_next 169 = .ok (.aload_n 0, 1) := by decide +kernel
theorem dX12_next_170 : decode cX12_next 170 = .ok (.aload_n 0, 1) := by decide +kernel
theorem dX12_next_171 : decode cX12_next 171 = .ok (.getfield 150, 3) := by decide +kernel
theorem dX12_next_174 : decode cX12_next 174 = .ok (.invokevirtual 153, 3) := by decide +kernel
theorem dX12_next_177 : decode cX12_next 177 = .ok (.invokestatic 171, 3) := by decide +kernel
theorem dX12_next_180 : decode cX12_next 180 = .ok (.ifCond .eq 47, 3) := by decide +kernel
theorem dX12_next_183 : decode cX12_next 183 = .ok (.iload_n 2, 1) := by decide +kernel
theorem dX12_next_184 : decode cX12_next 184 = .ok (.iconst 3, 1) := by decide +kernel
theorem dX12_next_185 : decode cX12_next 185 = .ok (.if_icmp .ge 26, 3) := by decide +kernel
theorem dX12_next_188 : decode cX12_next 188 = .ok (.aload_n 0, 1) := by decide +kernel
theorem dX12_next_189 : decode cX12_next 189 = .ok (.bipush 10, 2) := by decide +kernel
theorem dX12_next_191 : decode cX12_next 191 = .ok (.aload_n 0, 1) := by decide +kernel
theorem dX12_next_192 : decode cX12_next 192 = .ok (.getfield 174, 3) := by decide +kernel
theorem dX12_next_195 : decode cX12_next 195 = .ok (.imul, 1) := by decide +kernel
theorem dX12_next_196 : decode cX12_next 196 = .ok (.aload_n 0, 1) := by decide +kernel
theorem dX12_next_197 : decode cX12_next 197 = .ok (.aload_n 0, 1) := by decide +kernel
theorem dX12_next_198 : decode cX12_next 198 = .ok (.getfield 150, 3) := by decide +kernel
theorem dX12_next_201 : decode cX12_next 201 = .ok (.invokevirtual 153, 3) := by decide +kernel
theorem dX12_next_204 : decode cX12_next 204 = .ok (.iadd, 1) := by decide +kernel
theorem dX12_next_205 : decode cX12_next 205 = .ok (.bipush 48, 2) := by decide +kernel
theorem dX12_next_207 : decode cX12_next 207 = .ok (.isub, 1) := by decide +kernel
theorem dX12_next_208 : decode cX12_next 208 = .ok (.putfield 174, 3) := by decide +kernel
theorem dX12_next_211 : decode cX12_next 211 = .ok (.iinc 2 1, 3) := by decide +kernel
theorem dX12_next_214 : decode cX12_next 214 = .ok (.aload_n 0, 1) := by decide +kernel
theorem dX12_next_215 : decode cX12_next 215 = .ok (.dup, 1) := by decide +kernel
theorem dX12_next_216 : decode cX12_next 216 = .ok (.getfield 150, 3) := by decide +kernel
theorem dX12_next_219 : decode cX12_next 219 = .ok (.iconst 1, 1) := by decide +kernel
theorem dX12_next_220 : decode cX12_next 220 = .ok (.iadd, 1) := by decide +kernel
theorem dX12_next_221 : decode cX12_next 221 = .ok (.putfield 150, 3) := by decide +kernel
theorem dX12_next_224 : decode cX12_next 224 = .ok (.goto (-55), 3) := by decide +kernel
theorem dX12_next_227 : decode cX12_next 227 = .ok (.iload_n 2, 1) := by decide +kernel
theorem dX12_next_228 : decode cX12_next 228 = .ok (.iconst 4, 1) := by decide +kernel
theorem dX12_next_229 : decode cX12_next 229 = .ok (.if_icmp .ge 73, 3) := by decide +kernel
theorem dX12_next_232 : decode cX12_next 232 = .ok (.aload_n 0, 1) := by decide +kernel
theorem dX12_next_233 : decode cX12_next 233 = .ok (.iconst 3, 1) := by decide +kernel
theorem dX12_next_234 : decode cX12_next 234 = .ok (.putfield 157, 3) := by decide +kernel
theorem dX12_next_237 : decode cX12_next 237 = .ok (.goto 65, 3) := by decide +kernel
theorem dX12_next_240 : decode cX12_next 240 = .ok (.iload_n 1, 1) := by decide +kernel
theorem dX12_next_241 : decode cX12_next 241 = .ok (.bipush 60, 2) := by decide +kernel
theorem dX12_next_243 : decode cX12_next 243 = .ok (.if_icmp .eq 39, 3) := by decide +kernel
theorem dX12_next_246 : decode cX12_next 246 = .ok (.iload_n 1, 1) := by decide +kernel
theorem dX12_next_247 : decode cX12_next 247 = .ok (.bipush 62, 2) := by decide +kernel
theorem dX12_next_249 : decode cX12_next 249 = .ok (.if_icmp .eq 33, 3) := by decide +kernel
theorem dX12_next_252 : decode cX12_next 252 = .ok (.iload_n 1, 1) := by decide +kernel
theorem dX12_next_253 : decode cX12_next 253 = .ok (.bipush 61, 2) := by decide +kernel
theorem dX12_next_255 : decode cX12_next 255 = .ok (.if_icmp .eq 27, 3) := by decide +kernel
theorem dX12_next_258 : decode cX12_next 258 = .ok (.iload_n 1, 1) := by decide +kernel
theorem dX12_next_259 : decode cX12_next 259 = .ok (.bipush 43, 2) := by decide +kernel
theorem dX12_next_261 : decode cX12_next 261 = .ok (.if_icmp .eq 21, 3) := by decide +kernel
theorem dX12_next_264 : decode cX12_next 264 = .ok (.iload_n 1, 1) := by decide +kernel
theorem dX12_next_265 : decode cX12_next 265 = .ok (.bipush 42, 2) := by decide +kernel
theorem dX12_next_267 : decode cX12_next 267 = .ok (.if_icmp .eq 15, 3) := by decide +kernel
theorem dX12_next_270 : decode cX12_next 270 = .ok (.iload_n 1, 1) := by decide +kernel
theorem dX12_next_271 : decode cX12_next 271 = .ok (.bipush 47, 2) := by decide +kernel
theorem dX12_next_273 : decode cX12_next 273 = .ok (.if_icmp .eq 9, 3) := by decide +kernel
theorem dX12_next_276 : decode cX12_next 276 = .ok (.iload_n 1, 1) := by decide +kernel
theorem dX12_next_277 : decode cX12_next 277 = .ok (.bipush 59, 2) := by decide +kernel
theorem dX12_next_279 : decode cX12_next 279 = .ok (.if_icmp .ne 23, 3) := by decide +kernel
theorem dX12_next_282 : decode cX12_next 282 = .ok (.aload_n 0, 1) := by decide +kernel
theorem dX12_next_283 : decode cX12_next 283 = .ok (.iconst 4, 1) := by decide +kernel
theorem dX12_next_284 : decode cX12_next 284 = .ok (.putfield 157, 3) := by decide +kernel
theorem dX12_next_287 : decode cX12_next 287 = .ok (.aload_n 0, 1) := by decide +kernel
theorem dX12_next_288 : decode cX12_next 288 = .ok (.iload_n 1, 1) := by decide +kernel
theorem dX12_next_289 : decode cX12_next 289 = .ok (.putfield 160, 3) := by decide +kernel
theorem dX12_next_292 : decode cX12_next 292 = .ok (.aload_n 0, 1) := by decide +kernel
theorem dX12_next_293 : decode cX12_next 293 = .ok (.dup, 1) := by decide +kernel
theorem dX12_next_294 : decode cX12_next 294 = .ok (.getfield 150, 3) := by decide +kernel
theorem dX12_next_297 : decode cX12_next 297 = .ok (.iconst 1, 1) := by decide +kernel
theorem dX12_next_298 : decode cX12_next 298 = .ok (.iadd, 1) := by decide +kernel
theorem dX12_next_299 : decode cX12_next 299 = .ok (.putfield 150, 3) := by decide +kernel
theorem dX12_next_302 : decode cX12_next 302 = .ok (.return_, 1) := by decide +kernel
theorem dX12_isWord_0 : decode cX12_isWord 0 = .ok (.aload_n 0, 1) := by decide +kernel
theorem dX12_isWord_1 : decode cX12_isWord 1 = .ok (.getfield 157, 3) := by decide +kernel
theorem dX12_isWord_4 : decode cX12_isWord 4 = .ok (.iconst 2, 1) := by decide +kernel
theorem dX12_isWord_5 : decode cX12_isWord 5 = .ok (.if_icmp .ne 19, 3) := by decide +kernel
theorem dX12_isWord_8 : decode cX12_isWord 8 = .ok (.aload_n 0, 1) := by decide +kernel
theorem dX12_isWord_9 : decode cX12_isWord 9 = .ok (.getfield 167, 3) := by decide +kernel
theorem dX12_isWord_12 : decode cX12_isWord 12 = .ok (.aload_n 1, 1) := by decide +kernel
theorem dX12_isWord_13 : decode cX12_isWord 13 = .ok (.invokestatic 177, 3) := by decide +kernel
theorem dX12_isWord_16 : decode cX12_isWord 16 = .ok (.lcmp, 1) := by decide +kernel
theorem dX12_isWord_17 : decode cX12_isWord 17 = .ok (.ifCond .ne 7, 3) := by decide +kernel
theorem dX12_isWord_20 : decode cX12_isWord 20 = .ok (.iconst 1, 1) := by decide +kernel
theorem dX12_isWord_21 : decode cX12_isWord 21 = .ok (.goto 4, 3) := by decide +kernel
theorem dX12_isWord_24 : decode cX12_isWord 24 = .ok (.iconst 0, 1) := by decide +kernel
theorem dX12_isWord_25 : decode cX12_isWord 25 = .ok (.ireturn, 1) := by decide +kernel
theorem dX12_is_0 : decode cX12_is 0 = .ok (.aload_n 0, 1) := by decide +kernel
theorem dX12_is_1 : decode cX12_is 1 = .ok (.getfield 157, 3) := by decide +kernel
theorem dX12_is_4 : decode cX12_is 4 = .ok (.iconst 4, 1) := by decide +kernel
theorem dX12_is_5 : decode cX12_is 5 = .ok (.if_icmp .ne 15, 3) := by decide +kernel
theorem dX12_is_8 : decode cX12_is 8 = .ok (.aload_n 0, 1) := by decide +kernel
theorem dX12_is_9 : decode cX12_is 9 = .ok (.getfield 160, 3) := by decide +kernel
theorem dX12_is_12 : decode cX12_is 12 = .ok (.iload_n 1, 1) := by decide +kernel
theorem dX12_is_13 : decode cX12_is 13 = .ok (.if_icmp .ne 7, 3) := by decide +kernel
theorem dX12_is_16 : decode cX12_is 16 = .ok (.iconst 1, 1) := by decide +kernel
theorem dX12_is_17 : decode cX12_is 17 = .ok (.goto 4, 3) := by decide +kernel
theorem dX12_is_20 : decode cX12_is 20 = .ok (.iconst 0, 1) := by decide +kernel
theorem dX12_is_21 : decode cX12_is 21 = .ok (.ireturn, 1) := by decide +kernel
theorem dX12_nameHere_0 : decode cX12_nameHere 0 = .ok (.aload_n 0, 1) := by decide +kernel
theorem dX12_nameHere_1 : decode cX12_nameHere 1 = .ok (.getfield 157, 3) := by decide +kernel
theorem dX12_nameHere_4 : decode cX12_nameHere 4 = .ok (.iconst 2, 1) := by decide +kernel
theorem dX12_nameHere_5 : decode cX12_nameHere 5 = .ok (.if_icmp .ne 39, 3) := by decide +kernel
theorem dX12_nameHere_8 : decode cX12_nameHere 8 = .ok (.aload_n 0, 1) := by decide +kernel
theorem dX12_nameHere_9 : decode cX12_nameHere 9 = .ok (.ldc 181, 2) := by decide +kernel
theorem dX12_nameHere_11 : decode cX12_nameHere 11 = .ok (.invokevirtual 182, 3) := by decide +kernel
theorem dX12_nameHere_14 : decode cX12_nameHere 14 = .ok (.ifCond .ne 30, 3) := by decide +kernel
theorem dX12_nameHere_17 : decode cX12_nameHere 17 = .ok (.aload_n 0, 1) := by decide +kernel
theorem dX12_nameHere_18 : decode cX12_nameHere 18 = .ok (.ldc 186, 2) := by decide +kernel
theorem dX12_nameHere_20 : decode cX12_nameHere 20 = .ok (.invokevirtual 182, 3) := by decide +kernel
theorem dX12_nameHere_23 : decode cX12_nameHere 23 = .ok (.ifCond .ne 21, 3) := by decide +kernel
theorem dX12_nameHere_26 : decode cX12_nameHere 26 = .ok (.aload_n 0, 1) := by decide +kernel
theorem dX12_nameHere_27 : decode cX12_nameHere 27 = .ok (.ldc 188, 2) := by decide +kernel
theorem dX12_nameHere_29 : decode cX12_nameHere 29 = .ok (.invokevirtual 182, 3) := by decide +kernel
theorem dX12_nameHere_32 : decode cX12_nameHere 32 = .ok (.ifCond .ne 12, 3) := by decide +kernel
theorem dX12_nameHere_35 : decode cX12_nameHere 35 = .ok (.aload_n 0, 1) := by decide +kernel
theorem dX12_nameHere_36 : decode cX12_nameHere 36 = .ok (.ldc 190, 2) := by decide +kernel
theorem dX12_nameHere_38 : decode cX12_nameHere 38 = .ok (.invokevirtual 182, 3) := by decide +kernel
theorem dX12_nameHere_41 : decode cX12_nameHere 41 = .ok (.ifCond .eq 9, 3) := by decide +kernel
theorem dX12_nameHere_44 : decode cX12_nameHere 44 = .ok (.aload_n 0, 1) := by decide +kernel
theorem dX12_nameHere_45 : decode cX12_nameHere 45 = .ok (.iconst 1, 1) := by decide +kernel
theorem dX12_nameHere_46 : decode cX12_nameHere 46 = .ok (.invokevirtual 192, 3) := by decide +kernel
theorem dX12_nameHere_49 : decode cX12_nameHere 49 = .ok (.athrow, 1) := by decide +kernel
theorem dX12_nameHere_50 : decode cX12_nameHere 50 = .ok (.aload_n 0, 1) := by decide +kernel
theorem dX12_nameHere_51 : decode cX12_nameHere 51 = .ok (.ldc 195, 2) := by decide +kernel
theorem dX12_nameHere_53 : decode cX12_nameHere 53 = .ok (.invokevirtual 182, 3) := by decide +kernel
theorem dX12_nameHere_56 : decode cX12_nameHere 56 = .ok (.ifCond .eq 7, 3) := by decide +kernel
theorem dX12_nameHere_59 : decode cX12_nameHere 59 = .ok (.iconst 0, 1) := by decide +kernel
theorem dX12_nameHere_60 : decode cX12_nameHere 60 = .ok (.goto 43, 3) := by decide +kernel
theorem dX12_nameHere_63 : decode cX12_nameHere 63 = .ok (.aload_n 0, 1) := by decide +kernel
theorem dX12_nameHere_64 : decode cX12_nameHere 64 = .ok (.ldc 196, 2) := by decide +kernel
theorem dX12_nameHere_66 : decode cX12_nameHere 66 = .ok (.invokevirtual 182, 3) := by decide +kernel
theorem dX12_nameHere_69 : decode cX12_nameHere 69 = .ok (.ifCond .eq 7, 3) := by decide +kernel
theorem dX12_nameHere_72 : decode cX12_nameHere 72 = .ok (.iconst 1, 1) := by decide +kernel
theorem dX12_nameHere_73 : decode cX12_nameHere 73 = .ok (.goto 30, 3) := by decide +kernel
theorem dX12_nameHere_76 : decode cX12_nameHere 76 = .ok (.aload_n 0, 1) := by decide +kernel
theorem dX12_nameHere_77 : decode cX12_nameHere 77 = .ok (.ldc 197, 2) := by decide +kernel
theorem dX12_nameHere_79 : decode cX12_nameHere 79 = .ok (.invokevirtual 182, 3) := by decide +kernel
theorem dX12_nameHere_82 : decode cX12_nameHere 82 = .ok (.ifCond .eq 7, 3) := by decide +kernel
theorem dX12_nameHere_85 : decode cX12_nameHere 85 = .ok (.iconst 2, 1) := by decide +kernel
theorem dX12_nameHere_86 : decode cX12_nameHere 86 = .ok (.goto 17, 3) := by decide +kernel
theorem dX12_nameHere_89 : decode cX12_nameHere 89 = .ok (.aload_n 0, 1) := by decide +kernel
theorem dX12_nameHere_90 : decode cX12_nameHere 90 = .ok (.ldc 199, 2) := by decide +kernel
theorem dX12_nameHere_92 : decode cX12_nameHere 92 = .ok (.invokevirtual 182, 3) := by decide +kernel
theorem dX12_nameHere_95 : decode cX12_nameHere 95 = .ok (.ifCond .eq 7, 3) := by decide +kernel
theorem dX12_nameHere_98 : decode cX12_nameHere 98 = .ok (.iconst 3, 1) := by decide +kernel
theorem dX12_nameHere_99 : decode cX12_nameHere 99 = .ok (.goto 4, 3) := by decide +kernel
theorem dX12_nameHere_102 : decode cX12_nameHere 102 = .ok (.iconst (-1), 1) := by decide +kernel
theorem dX12_nameHere_103 : decode cX12_nameHere 103 = .ok (.istore_n 1, 1) := by decide +kernel
theorem dX12_nameHere_104 : decode cX12_nameHere 104 = .ok (.iload_n 1, 1) := by decide +kernel
theorem dX12_nameHere_105 : decode cX12_nameHere 105 = .ok (.iconst (-1), 1) := by decide +kernel
theorem dX12_nameHere_106 : decode cX12_nameHere 106 = .ok (.if_icmp .ne 9, 3) := by decide +kernel
theorem dX12_nameHere_109 : decode cX12_nameHere 109 = .ok (.aload_n 0, 1) := by decide +kernel
theorem dX12_nameHere_110 : decode cX12_nameHere 110 = .ok (.iconst 2, 1) := by decide +kernel
theorem dX12_nameHere_111 : decode cX12_nameHere 111 = .ok (.invokevirtual 192, 3) := by decide +kernel
theorem dX12_nameHere_114 : decode cX12_nameHere 114 = .ok (.athrow, 1) := by decide +kernel
theorem dX12_nameHere_115 : decode cX12_nameHere 115 = .ok (.iload_n 1, 1) := by decide +kernel
theorem dX12_nameHere_116 : decode cX12_nameHere 116 = .ok (.ireturn, 1) := by decide +kernel
theorem dX12_reads_0 : decode cX12_reads 0 = .ok (.aload_n 0, 1) := by decide +kernel
theorem dX12_reads_1 : decode cX12_reads 1 = .ok (.getfield 201, 3) := by decide +kernel
theorem dX12_reads_4 : decode cX12_reads 4 = .ok (.istore_n 1, 1) := by decide +kernel
theorem dX12_reads_5 : decode cX12_reads 5 = .ok (.aload_n 0, 1) := by decide +kernel
theorem dX12_reads_6 : decode cX12_reads 6 = .ok (.getfield 28, 3) := by decide +kernel
theorem dX12_reads_9 : decode cX12_reads 9 = .ok (.iload_n 1, 1) := by decide +kernel
theorem dX12_reads_10 : decode cX12_reads 10 = .ok (.iconst 0, 1) := by decide +kernel
theorem dX12_reads_11 : decode cX12_reads 11 = .ok (.iastore, 1) := by decide +kernel
theorem dX12_reads_12 : decode cX12_reads 12 = .ok (.aload_n 0, 1) := by decide +kernel
theorem dX12_reads_13 : decode cX12_reads 13 = .ok (.invokevirtual 204, 3) := by decide +kernel
theorem dX12_reads_16 : decode cX12_reads 16 = .ok (.iconst 1, 1) := by decide +kernel
theorem dX12_reads_17 : decode cX12_reads 17 = .ok (.istore_n 2, 1) := by decide +kernel
theorem dX12_reads_18 : decode cX12_reads 18 = .ok (.iload_n 2, 1) := by decide +kernel
theorem dX12_reads_19 : decode cX12_reads 19 = .ok (.ifCond .eq 212, 3) := by decide +kernel
theorem dX12_reads_22 : decode cX12_reads 22 = .ok (.aload_n 0, 1) := by decide +kernel
theorem dX12_reads_23 : decode cX12_reads 23 = .ok (.ldc 181, 2) := by decide +kernel
theorem dX12_reads_25 : decode cX12_reads 25 = .ok (.invokevirtual 182, 3) := by decide +kernel
theorem dX12_reads_28 : decode cX12_reads 28 = .ok (.ifCond .ne 9, 3) := by decide +kernel
theorem dX12_reads_31 : decode cX12_reads 31 = .ok (.aload_n 0, 1) := by decide +kernel
theorem dX12_reads_32 : decode cX12_reads 32 = .ok (.iconst 1, 1) := by decide +kernel
theorem dX12_reads_33 : decode cX12_reads 33 = .ok (.invokevirtual 192, 3) := by decide +kernel
theorem dX12_reads_36 : decode cX12_reads 36 = .ok (.athrow, 1) := by decide +kernel
theorem dX12_reads_37 : decode cX12_reads 37 = .ok (.aload_n 0, 1) := by decide +kernel
theorem dX12_reads_38 : decode cX12_reads 38 = .ok (.getfield 28, 3) := by decide +kernel
theorem dX12_reads_41 : decode cX12_reads 41 = .ok (.iload_n 1, 1) := by decide +kernel
theorem dX12_reads_42 : decode cX12_reads 42 = .ok (.iaload, 1) := by decide +kernel
theorem dX12_reads_43 : decode cX12_reads 43 = .ok (.bipush 12, 2) := by decide +kernel
theorem dX12_reads_45 : decode cX12_reads 45 = .ok (.if_icmp .ne 9, 3) := by decide +kernel
theorem dX12_reads_48 : decode cX12_reads 48 = .ok (.aload_n 0, 1) := by decide +kernel
theorem dX12_reads_49 : decode cX12_reads 49 = .ok (.iconst 4, 1) := by decide +kernel
theorem dX12_reads_50 : decode cX12_reads 50 = .ok (.invokevirtual 192, 3) := by decide +kernel
theorem dX12_reads_53 : decode cX12_reads 53 = .ok (.athrow, 1) := by decide +kernel
theorem dX12_reads_54 : decode cX12_reads 54 = .ok (.bipush 12, 2) := by decide +kernel
theorem dX12_reads_56 : decode cX12_reads 56 = .ok (.iload_n 1, 1) := by decide +kernel
theorem dX12_reads_57 : decode cX12_reads 57 = .ok (.imul, 1) := by decide +kernel
theorem dX12_reads_58 : decode cX12_reads 58 = .ok (.aload_n 0, 1) := by decide +kernel
theorem dX12_reads_59 : decode cX12_reads 59 = .ok (.getfield 28, 3) := by decide +kernel
theorem dX12_reads_62 : decode cX12_reads 62 = .ok (.iload_n 1, 1) := by decide +kernel
theorem dX12_reads_63 : decode cX12_reads 63 = .ok (.iaload, 1) := by decide +kernel
theorem dX12_reads_64 : decode cX12_reads 64 = .ok (.iadd, 1) := by decide +kernel
theorem dX12_reads_65 : decode cX12_reads 65 = .ok (.istore_n 3, 1) := by decide +kernel
theorem dX12_reads_66 : decode cX12_reads 66 = .ok (.aload_n 0, 1) := by decide +kernel
theorem dX12_reads_67 : decode cX12_reads 67 = .ok (.getfield 34, 3) := by decide +kernel
theorem dX12_reads_70 : decode cX12_reads 70 = .ok (.iload_n 3, 1) := by decide +kernel
theorem dX12_reads_71 : decode cX12_reads 71 = .ok (.iconst 0, 1) := by decide +kernel
theorem dX12_reads_72 : decode cX12_reads 72 = .ok (.iastore, 1) := by decide +kernel
theorem dX12_reads_73 : decode cX12_reads 73 = .ok (.aload_n 0, 1) := by decide +kernel
theorem dX12_reads_74 : decode cX12_reads 74 = .ok (.getfield 37, 3) := by decide +kernel
theorem dX12_reads_77 : decode cX12_reads 77 = .ok (.iload_n 3, 1) := by decide +kernel
theorem dX12_reads_78 : decode cX12_reads 78 = .ok (.iconst 0, 1) := by decide +kernel
theorem dX12_reads_79 : decode cX12_reads 79 = .ok (.iastore, 1) := by decide +kernel
theorem dX12_reads_80 : decode cX12_reads 80 = .ok (.aload_n 0, 1) := by decide +kernel
theorem dX12_reads_81 : decode cX12_reads 81 = .ok (.invokevirtual 204, 3) := by decide +kernel
theorem dX12_reads_84 : decode cX12_reads 84 = .ok (.aload_n 0, 1) := by decide +kernel
theorem dX12_reads_85 : decode cX12_reads 85 = .ok (.getfield 157, 3) := by decide +kernel
theorem dX12_reads_88 : decode cX12_reads 88 = .ok (.iconst 3, 1) := by decide +kernel
theorem dX12_reads_89 : decode cX12_reads 89 = .ok (.if_icmp .eq 9, 3) := by decide +kernel
theorem dX12_reads_92 : decode cX12_reads 92 = .ok (.aload_n 0, 1) := by decide +kernel
theorem dX12_reads_93 : decode cX12_reads 93 = .ok (.iconst 1, 1) := by decide +kernel
theorem dX12_reads_94 : decode cX12_reads 94 = .ok (.invokevirtual 192, 3) := by decide +kernel
theorem dX12_reads_97 : decode cX12_reads 97 = .ok (.athrow, 1) := by decide +kernel
theorem dX12_reads_98 : decode cX12_reads 98 = .ok (.aload_n 0, 1) := by decide +kernel
theorem dX12_reads_99 : decode cX12_reads 99 = .ok (.getfield 174, 3) := by decide +kernel
theorem dX12_reads_102 : decode cX12_reads 102 = .ok (.bipush 9, 2) := by decide +kernel
theorem dX12_reads_104 : decode cX12_reads 104 = .ok (.if_icmp .le 9, 3) := by decide +kernel
theorem dX12_reads_107 : decode cX12_reads 107 = .ok (.aload_n 0, 1) := by decide +kernel
theorem dX12_reads_108 : decode cX12_reads 108 = .ok (.iconst 3, 1) := by decide +kernel
theorem dX12_reads_109 : decode cX12_reads 109 = .ok (.invokevirtual 192, 3) := by decide +kernel
theorem dX12_reads_112 : decode cX12_reads 112 = .ok (.athrow, 1) := by decide +kernel
theorem dX12_reads_113 : decode cX12_reads 113 = .ok (.aload_n 0, 1) := by decide +kernel
theorem dX12_reads_114 : decode cX12_reads 114 = .ok (.getfield 31, 3) := by decide +kernel
theorem dX12_reads_117 : decode cX12_reads 117 = .ok (.iload_n 3, 1) := by decide +kernel
theorem dX12_reads_118 : decode cX12_reads 118 = .ok (.aload_n 0, 1) := by decide +kernel
theorem dX12_reads_119 : decode cX12_reads 119 = .ok (.getfield 174, 3) := by decide +kernel
theorem dX12_reads_122 : decode cX12_reads 122 = .ok (.iastore, 1) := by decide +kernel
theorem dX12_reads_123 : decode cX12_reads 123 = .ok (.aload_n 0, 1) := by decide +kernel
theorem dX12_reads_124 : decode cX12_reads 124 = .ok (.invokevirtual 204, 3) := by decide +kernel
theorem dX12_reads_127 : decode cX12_reads 127 = .ok (.aload_n 0, 1) := by decide +kernel
theorem dX12_reads_128 : decode cX12_reads 128 = .ok (.ldc 186, 2) := by decide +kernel
theorem dX12_reads_130 : decode cX12_reads 130 = .ok (.invokevirtual 182, 3) := by decide +kernel
theorem dX12_reads_133 : decode cX12_reads 133 = .ok (.istore 4, 2) := by decide +kernel
theorem dX12_reads_135 : decode cX12_reads 135 = .ok (.iload 4, 2) := by decide +kernel
theorem dX12_reads_137 : decode cX12_reads 137 = .ok (.ifCond .eq 23, 3) := by decide +kernel
theorem dX12_reads_140 : decode cX12_reads 140 = .ok (.aload_n 0, 1) := by decide +kernel
theorem dX12_reads_141 : decode cX12_reads 141 = .ok (.invokevirtual 204, 3) := by decide +kernel
theorem dX12_reads_144 : decode cX12_reads 144 = .ok (.aload_n 0, 1) := by decide +kernel
theorem dX12_reads_145 : decode cX12_reads 145 = .ok (.iload_n 3, 1) := by decide +kernel
theorem dX12_reads_146 : decode cX12_reads 146 = .ok (.invokevirtual 207, 3) := by decide +kernel
theorem dX12_reads_149 : decode cX12_reads 149 = .ok (.aload_n 0, 1) := by decide +kernel
theorem dX12_reads_150 : decode cX12_reads 150 = .ok (.ldc 188, 2) := by decide +kernel
theorem dX12_reads_152 : decode cX12_reads 152 = .ok (.invokevirtual 182, 3) := by decide +kernel
theorem dX12_reads_155 : decode cX12_reads 155 = .ok (.istore 4, 2) := by decide +kernel
theorem dX12_reads_157 : decode cX12_reads 157 = .ok (.goto (-22), 3) := by decide +kernel
theorem dX12_reads_160 : decode cX12_reads 160 = .ok (.aload_n 0, 1) := by decide +kernel
theorem dX12_reads_161 : decode cX12_reads 161 = .ok (.ldc 190, 2) := by decide +kernel
theorem dX12_reads_163 : decode cX12_reads 163 = .ok (.invokevirtual 182, 3) := by decide +kernel
theorem dX12_reads_166 : decode cX12_reads 166 = .ok (.ifCond .ne 9, 3) := by decide +kernel
theorem dX12_reads_169 : decode cX12_reads 169 = .ok (.aload_n 0, 1) := by decide +kernel
theorem dX12_reads_170 : decode cX12_reads 170 = .ok (.iconst 1, 1) := by decide +kernel
theorem dX12_reads_171 : decode cX12_reads 171 = .ok (.invokevirtual 192, 3) := by decide +kernel
theorem dX12_reads_174 : decode cX12_reads 174 = .ok (.athrow, 1) := by decide +kernel
theorem dX12_reads_175 : decode cX12_reads 175 = .ok (.iconst 1, 1) := by decide +kernel
theorem dX12_reads_176 : decode cX12_reads 176 = .ok (.istore 5, 2) := by decide +kernel
theorem dX12_reads_178 : decode cX12_reads 178 = .ok (.iload 5, 2) := by decide +kernel
theorem dX12_reads_180 : decode cX12_reads 180 = .ok (.ifCond .eq 23, 3) := by decide +kernel
theorem dX12_reads_183 : decode cX12_reads 183 = .ok (.aload_n 0, 1) := by decide +kernel
theorem dX12_reads_184 : decode cX12_reads 184 = .ok (.invokevirtual 204, 3) := by decide +kernel
theorem dX12_reads_187 : decode cX12_reads 187 = .ok (.aload_n 0, 1) := by decide +kernel
theorem dX12_reads_188 : decode cX12_reads 188 = .ok (.iload_n 3, 1) := by decide +kernel
theorem dX12_reads_189 : decode cX12_reads 189 = .ok (.invokevirtual 211, 3) := by decide +kernel
theorem dX12_reads_192 : decode cX12_reads 192 = .ok (.aload_n 0, 1) := by decide +kernel
theorem dX12_reads_193 : decode cX12_reads 193 = .ok (.bipush 43, 2) := by decide +kernel
theorem dX12_reads_195 : decode cX12_reads 195 = .ok (.invokevirtual 214, 3) := by decide +kernel
theorem dX12_reads_198 : decode cX12_reads 198 = .ok (.istore 5, 2) := by decide +kernel
theorem dX12_reads_200 : decode cX12_reads 200 = .ok (.goto (-22), 3) := by decide +kernel
theorem dX12_reads_203 : decode cX12_reads 203 = .ok (.aload_n 0, 1) := by decide +kernel
theorem dX12_reads_204 : decode cX12_reads 204 = .ok (.getfield 28, 3) := by decide +kernel
theorem dX12_reads_207 : decode cX12_reads 207 = .ok (.iload_n 1, 1) := by decide +kernel
theorem dX12_reads_208 : decode cX12_reads 208 = .ok (.dup2, 1) := by decide +kernel
theorem dX12_reads_209 : decode cX12_reads 209 = .ok (.iaload, 1) := by decide +kernel
theorem dX12_reads_210 : decode cX12_reads 210 = .ok (.iconst 1, 1) := by decide +kernel
theorem dX12_reads_211 : decode cX12_reads 211 = .ok (.iadd, 1) := by decide +kernel
theorem dX12_reads_212 : decode cX12_reads 212 = .ok (.iastore, 1) := by decide +kernel
theorem dX12_reads_213 : decode cX12_reads 213 = .ok (.aload_n 0, 1) := by decide +kernel
theorem dX12_reads_214 : decode cX12_reads 214 = .ok (.bipush 59, 2) := by decide +kernel
theorem dX12_reads_216 : decode cX12_reads 216 = .ok (.invokevirtual 214, 3) := by decide +kernel
theorem dX12_reads_219 : decode cX12_reads 219 = .ok (.istore_n 2, 1) := by decide +kernel
theorem dX12_reads_220 : decode cX12_reads 220 = .ok (.iload_n 2, 1) := by decide +kernel
theorem dX12_reads_221 : decode cX12_reads 221 = .ok (.ifCond .eq 7, 3) := by decide +kernel
theorem dX12_reads_224 : decode cX12_reads 224 = .ok (.aload_n 0, 1) := by decide +kernel
theorem dX12_reads_225 : decode cX12_reads 225 = .ok (.invokevirtual 204, 3) := by decide +kernel
theorem dX12_reads_228 : decode cX12_reads 228 = .ok (.goto (-210), 3) := by decide +kernel
theorem dX12_reads_231 : decode cX12_reads 231 = .ok (.aload_n 0, 1) := by decide +kernel
theorem dX12_reads_232 : decode cX12_reads 232 = .ok (.getfield 157, 3) := by decide +kernel
theorem dX12_reads_235 : decode cX12_reads 235 = .ok (.iconst 1, 1) := by decide +kernel
theorem dX12_reads_236 : decode cX12_reads 236 = .ok (.if_icmp .eq 9, 3) := by decide +kernel
theorem dX12_reads_239 : decode cX12_reads 239 = .ok (.aload_n 0, 1) := by decide +kernel
theorem dX12_reads_240 : decode cX12_reads 240 = .ok (.iconst 1, 1) := by decide +kernel
theorem dX12_reads_241 : decode cX12_reads 241 = .ok (.invokevirtual 192, 3) := by decide +kernel
theorem dX12_reads_244 : decode cX12_reads 244 = .ok (.athrow, 1) := by decide +kernel
theorem dX12_reads_245 : decode cX12_reads 245 = .ok (.return_, 1) := by decide +kernel
theorem dX12_readTest_0 : decode cX12_readTest 0 = .ok (.aload_n 0, 1) := by decide +kernel
theorem dX12_readTest_1 : decode cX12_readTest 1 = .ok (.invokevirtual 216, 3) := by decide +kernel
theorem dX12_readTest_4 : decode cX12_readTest 4 = .ok (.istore_n 2, 1) := by decide +kernel
theorem dX12_readTest_5 : decode cX12_readTest 5 = .ok (.aload_n 0, 1) := by decide +kernel
theorem dX12_readTest_6 : decode cX12_readTest 6 = .ok (.getfield 34, 3) := by decide +kernel
theorem dX12_readTest_9 : decode cX12_readTest 9 = .ok (.iload_n 1, 1) := by decide +kernel
theorem dX12_readTest_10 : decode cX12_readTest 10 = .ok (.iaload, 1) := by decide +kernel
theorem dX12_readTest_11 : decode cX12_readTest 11 = .ok (.iconst 4, 1) := by decide +kernel
theorem dX12_readTest_12 : decode cX12_readTest 12 = .ok (.if_icmp .ne 9, 3) := by decide +kernel
theorem dX12_readTest_15 : decode cX12_readTest 15 = .ok (.aload_n 0, 1) := by decide +kernel
theorem dX12_readTest_16 : decode cX12_readTest 16 = .ok (.iconst 4, 1) := by decide +kernel
theorem dX12_readTest_17 : decode cX12_readTest 17 = .ok (.invokevirtual 192, 3) := by decide +kernel
theorem dX12_readTest_20 : decode cX12_readTest 20 = .ok (.athrow, 1) := by decide +kernel
theorem dX12_readTest_21 : decode cX12_readTest 21 = .ok (.iconst 4, 1) := by decide +kernel
theorem dX12_readTest_22 : decode cX12_readTest 22 = .ok (.iload_n 1, 1) := by decide +kernel
theorem dX12_readTest_23 : decode cX12_readTest 23 = .ok (.imul, 1) := by decide +kernel
theorem dX12_readTest_24 : decode cX12_readTest 24 = .ok (.aload_n 0, 1) := by decide +kernel
theorem dX12_readTest_25 : decode cX12_readTest 25 = .ok (.getfield 34, 3) := by decide +kernel
theorem dX12_readTest_28 : decode cX12_readTest 28 = .ok (.iload_n 1, 1) := by decide +kernel
theorem dX12_readTest_29 : decode cX12_readTest 29 = .ok (.iaload, 1) := by decide +kernel
theorem dX12_readTest_30 : decode cX12_readTest 30 = .ok (.iadd, 1) := by decide +kernel
theorem dX12_readTest_31 : decode cX12_readTest 31 = .ok (.istore_n 3, 1) := by decide +kernel
theorem dX12_readTest_32 : decode cX12_readTest 32 = .ok (.aload_n 0, 1) := by decide +kernel
theorem dX12_readTest_33 : decode cX12_readTest 33 = .ok (.getfield 40, 3) := by decide +kernel
theorem dX12_readTest_36 : decode cX12_readTest 36 = .ok (.iload_n 3, 1) := by decide +kernel
theorem dX12_readTest_37 : decode cX12_readTest 37 = .ok (.iload_n 2, 1) := by decide +kernel
theorem dX12_readTest_38 : decode cX12_readTest 38 = .ok (.iastore, 1) := by decide +kernel
theorem dX12_readTest_39 : decode cX12_readTest 39 = .ok (.aload_n 0, 1) := by decide +kernel
theorem dX12_readTest_40 : decode cX12_readTest 40 = .ok (.invokevirtual 204, 3) := by decide +kernel
theorem dX12_readTest_43 : decode cX12_readTest 43 = .ok (.aload_n 0, 1) := by decide +kernel
theorem dX12_readTest_44 : decode cX12_readTest 44 = .ok (.bipush 60, 2) := by decide +kernel
theorem dX12_readTest_46 : decode cX12_readTest 46 = .ok (.invokevirtual 214, 3) := by decide +kernel
theorem dX12_readTest_49 : decode cX12_readTest 49 = .ok (.ifCond .ne 27, 3) := by decide +kernel
theorem dX12_readTest_52 : decode cX12_readTest 52 = .ok (.aload_n 0, 1) := by decide +kernel
theorem dX12_readTest_53 : decode cX12_readTest 53 = .ok (.bipush 62, 2) := by decide +kernel
theorem dX12_readTest_55 : decode cX12_readTest 55 = .ok (.invokevirtual 214, 3) := by decide +kernel
theorem dX12_readTest_58 : decode cX12_readTest 58 = .ok (.ifCond .ne 18, 3) := by decide +kernel
theorem dX12_readTest_61 : decode cX12_readTest 61 = .ok (.aload_n 0, 1) := by decide +kernel
theorem dX12_readTest_62 : decode cX12_readTest 62 = .ok (.bipush 61, 2) := by decide +kernel
theorem dX12_readTest_64 : decode cX12_readTest 64 = .ok (.invokevirtual 214, 3) := by decide +kernel
theorem dX12_readTest_67 : decode cX12_readTest 67 = .ok (.ifCond .ne 9, 3) := by decide +kernel
theorem dX12_readTest_70 : decode cX12_readTest 70 = .ok (.aload_n 0, 1) := by decide +kernel
theorem dX12_readTest_71 : decode cX12_readTest 71 = .ok (.iconst 1, 1) := by decide +kernel
theorem dX12_readTest_72 : decode cX12_readTest 72 = .ok (.invokevirtual 192, 3) := by decide +kernel
theorem dX12_readTest_75 : decode cX12_readTest 75 = .ok (.athrow, 1) := by decide +kernel
theorem dX12_readTest_76 : decode cX12_readTest 76 = .ok (.aload_n 0, 1) := by decide +kernel
theorem dX12_readTest_77 : decode cX12_readTest 77 = .ok (.getfield 43, 3) := by decide +kernel
theorem dX12_readTest_80 : decode cX12_readTest 80 = .ok (.iload_n 3, 1) := by decide +kernel
theorem dX12_readTest_81 : decode cX12_readTest 81 = .ok (.aload_n 0, 1) := by decide +kernel
theorem dX12_readTest_82 : decode cX12_readTest 82 = .ok (.getfield 160, 3) := by decide +kernel
theorem dX12_readTest_85 : decode cX12_readTest 85 = .ok (.iastore, 1) := by decide +kernel
theorem dX12_readTest_86 : decode cX12_readTest 86 = .ok (.aload_n 0, 1) := by decide +kernel
theorem dX12_readTest_87 : decode cX12_readTest 87 = .ok (.invokevirtual 204, 3) := by decide +kernel
theorem dX12_readTest_90 : decode cX12_readTest 90 = .ok (.aload_n 0, 1) := by decide +kernel
theorem dX12_readTest_91 : decode cX12_readTest 91 = .ok (.getfield 157, 3) := by decide +kernel
theorem dX12_readTest_94 : decode cX12_readTest 94 = .ok (.iconst 3, 1) := by decide +kernel
theorem dX12_readTest_95 : decode cX12_readTest 95 = .ok (.if_icmp .eq 9, 3) := by decide +kernel
theorem dX12_readTest_98 : decode cX12_readTest 98 = .ok (.aload_n 0, 1) := by decide +kernel
theorem dX12_readTest_99 : decode cX12_readTest 99 = .ok (.iconst 1, 1) := by decide +kernel
theorem dX12_readTest_100 : decode cX12_readTest 100 = .ok (.invokevirtual 192, 3) := by decide +kernel
theorem dX12_readTest_103 : decode cX12_readTest 103 = .ok (.athrow, 1) := by decide +kernel
theorem dX12_readTest_104 : decode cX12_readTest 104 = .ok (.aload_n 0, 1) := by decide +kernel
theorem dX12_readTest_105 : decode cX12_readTest 105 = .ok (.getfield 46, 3) := by decide +kernel
theorem dX12_readTest_108 : decode cX12_readTest 108 = .ok (.iload_n 3, 1) := by decide +kernel
theorem dX12_readTest_109 : decode cX12_readTest 109 = .ok (.aload_n 0, 1) := by decide +kernel
theorem dX12_readTest_110 : decode cX12_readTest 110 = .ok (.getfield 174, 3) := by decide +kernel
theorem dX12_readTest_113 : decode cX12_readTest 113 = .ok (.iastore, 1) := by decide +kernel
theorem dX12_readTest_114 : decode cX12_readTest 114 = .ok (.aload_n 0, 1) := by decide +kernel
theorem dX12_readTest_115 : decode cX12_readTest 115 = .ok (.invokevirtual 204, 3) := by decide +kernel
theorem dX12_readTest_118 : decode cX12_readTest 118 = .ok (.aload_n 0, 1) := by decide +kernel
theorem dX12_readTest_119 : decode cX12_readTest 119 = .ok (.getfield 34, 3) := by decide +kernel
theorem dX12_readTest_122 : decode cX12_readTest 122 = .ok (.iload_n 1, 1) := by decide +kernel
theorem dX12_readTest_123 : decode cX12_readTest 123 = .ok (.dup2, 1) := by decide +kernel
theorem dX12_readTest_124 : decode cX12_readTest 124 = .ok (.iaload, 1) := by decide +kernel
theorem dX12_readTest_125 : decode cX12_readTest 125 = .ok (.iconst 1, 1) := by decide +kernel
theorem dX12_readTest_126 : decode cX12_readTest 126 = .ok (.iadd, 1) := by decide +kernel
theorem dX12_readTest_127 : decode cX12_readTest 127 = .ok (.iastore, 1) := by decide +kernel
theorem dX12_readTest_128 : decode cX12_readTest 128 = .ok (.return_, 1) := by decide +kernel
theorem dX12_readTerm_0 : decode cX12_readTerm 0 = .ok (.aload_n 0, 1) := by decide +kernel
theorem dX12_readTerm_1 : decode cX12_readTerm 1 = .ok (.getfield 157, 3) := by decide +kernel
theorem dX12_readTerm_4 : decode cX12_readTerm 4 = .ok (.iconst 3, 1) := by decide +kernel
theorem dX12_readTerm_5 : decode cX12_readTerm 5 = .ok (.if_icmp .ne 7, 3) := by decide +kernel
theorem dX12_readTerm_8 : decode cX12_readTerm 8 = .ok (.iconst (-1), 1) := by decide +kernel
theorem dX12_readTerm_9 : decode cX12_readTerm 9 = .ok (.goto 7, 3) := by decide +kernel
theorem dX12_readTerm_12 : decode cX12_readTerm 12 = .ok (.aload_n 0, 1) := by decide +kernel
theorem dX12_readTerm_13 : decode cX12_readTerm 13 = .ok (.invokevirtual 216, 3) := by decide +kernel
theorem dX12_readTerm_16 : decode cX12_readTerm 16 = .ok (.istore_n 2, 1) := by decide +kernel
theorem dX12_readTerm_17 : decode cX12_readTerm 17 = .ok (.aload_n 0, 1) := by decide +kernel
theorem dX12_readTerm_18 : decode cX12_readTerm 18 = .ok (.getfield 37, 3) := by decide +kernel
theorem dX12_readTerm_21 : decode cX12_readTerm 21 = .ok (.iload_n 1, 1) := by decide +kernel
theorem dX12_readTerm_22 : decode cX12_readTerm 22 = .ok (.iaload, 1) := by decide +kernel
theorem dX12_readTerm_23 : decode cX12_readTerm 23 = .ok (.iconst 4, 1) := by decide +kernel
theorem dX12_readTerm_24 : decode cX12_readTerm 24 = .ok (.if_icmp .ne 9, 3) := by decide +kernel
theorem dX12_readTerm_27 : decode cX12_readTerm 27 = .ok (.aload_n 0, 1) := by decide +kernel
theorem dX12_readTerm_28 : decode cX12_readTerm 28 = .ok (.iconst 4, 1) := by decide +kernel
theorem dX12_readTerm_29 : decode cX12_readTerm 29 = .ok (.invokevirtual 192, 3) := by decide +kernel
theorem dX12_readTerm_32 : decode cX12_readTerm 32 = .ok (.athrow, 1) := by decide +kernel
theorem dX12_readTerm_33 : decode cX12_readTerm 33 = .ok (.iconst 4, 1) := by decide +kernel
theorem dX12_readTerm_34 : decode cX12_readTerm 34 = .ok (.iload_n 1, 1) := by decide +kernel
theorem dX12_readTerm_35 : decode cX12_readTerm 35 = .ok (.imul, 1) := by decide +kernel
theorem dX12_readTerm_36 : decode cX12_readTerm 36 = .ok (.aload_n 0, 1) := by decide +kernel
theorem dX12_readTerm_37 : decode cX12_readTerm 37 = .ok (.getfield 37, 3) := by decide +kernel
theorem dX12_readTerm_40 : decode cX12_readTerm 40 = .ok (.iload_n 1, 1) := by decide +kernel
theorem dX12_readTerm_41 : decode cX12_readTerm 41 = .ok (.iaload, 1) := by decide +kernel
theorem dX12_readTerm_42 : decode cX12_readTerm 42 = .ok (.iadd, 1) := by decide +kernel
theorem dX12_readTerm_43 : decode cX12_readTerm 43 = .ok (.istore_n 3, 1) := by decide +kernel
theorem dX12_readTerm_44 : decode cX12_readTerm 44 = .ok (.aload_n 0, 1) := by decide +kernel
theorem dX12_readTerm_45 : decode cX12_readTerm 45 = .ok (.getfield 52, 3) := by decide +kernel
theorem dX12_readTerm_48 : decode cX12_readTerm 48 = .ok (.iload_n 3, 1) := by decide +kernel
theorem dX12_readTerm_49 : decode cX12_readTerm 49 = .ok (.aload_n 0, 1) := by decide +kernel
theorem dX12_readTerm_50 : decode cX12_readTerm 50 = .ok (.getfield 157, 3) := by decide +kernel
theorem dX12_readTerm_53 : decode cX12_readTerm 53 = .ok (.iconst 3, 1) := by decide +kernel
theorem dX12_readTerm_54 : decode cX12_readTerm 54 = .ok (.if_icmp .ne 10, 3) := by decide +kernel
theorem dX12_readTerm_57 : decode cX12_readTerm 57 = .ok (.aload_n 0, 1) := by decide +kernel
theorem dX12_readTerm_58 : decode cX12_readTerm 58 = .ok (.getfield 174, 3) := by decide +kernel
theorem dX12_readTerm_61 : decode cX12_readTerm 61 = .ok (.goto 4, 3) := by decide +kernel
theorem dX12_readTerm_64 : decode cX12_readTerm 64 = .ok (.iconst 1, 1) := by decide +kernel
theorem dX12_readTerm_65 : decode cX12_readTerm 65 = .ok (.iastore, 1) := by decide +kernel
theorem dX12_readTerm_66 : decode cX12_readTerm 66 = .ok (.aload_n 0, 1) := by decide +kernel
theorem dX12_readTerm_67 : decode cX12_readTerm 67 = .ok (.getfield 55, 3) := by decide +kernel
theorem dX12_readTerm_70 : decode cX12_readTerm 70 = .ok (.iload_n 3, 1) := by decide +kernel
theorem dX12_readTerm_71 : decode cX12_readTerm 71 = .ok (.iconst 1, 1) := by decide +kernel
theorem dX12_readTerm_72 : decode cX12_readTerm 72 = .ok (.iastore, 1) := by decide +kernel
theorem dX12_readTerm_73 : decode cX12_readTerm 73 = .ok (.aload_n 0, 1) := by decide +kernel
theorem dX12_readTerm_74 : decode cX12_readTerm 74 = .ok (.invokevirtual 204, 3) := by decide +kernel
theorem dX12_readTerm_77 : decode cX12_readTerm 77 = .ok (.iload_n 2, 1) := by decide +kernel
theorem dX12_readTerm_78 : decode cX12_readTerm 78 = .ok (.iconst (-1), 1) := by decide +kernel
theorem dX12_readTerm_79 : decode cX12_readTerm 79 = .ok (.if_icmp .ne 25, 3) := by decide +kernel
theorem dX12_readTerm_82 : decode cX12_readTerm 82 = .ok (.aload_n 0, 1) := by decide +kernel
theorem dX12_readTerm_83 : decode cX12_readTerm 83 = .ok (.bipush 42, 2) := by decide +kernel
theorem dX12_readTerm_85 : decode cX12_readTerm 85 = .ok (.invokevirtual 214, 3) := by decide +kernel
theorem dX12_readTerm_88 : decode cX12_readTerm 88 = .ok (.ifCond .eq 16, 3) := by decide +kernel
theorem dX12_readTerm_91 : decode cX12_readTerm 91 = .ok (.aload_n 0, 1) := by decide +kernel
theorem dX12_readTerm_92 : decode cX12_readTerm 92 = .ok (.invokevirtual 204, 3) := by decide +kernel
theorem dX12_readTerm_95 : decode cX12_readTerm 95 = .ok (.aload_n 0, 1) := by decide +kernel
theorem dX12_readTerm_96 : decode cX12_readTerm 96 = .ok (.invokevirtual 216, 3) := by decide +kernel
theorem dX12_readTerm_99 : decode cX12_readTerm 99 = .ok (.istore_n 2, 1) := by decide +kernel
theorem dX12_readTerm_100 : decode cX12_readTerm 100 = .ok (.aload_n 0, 1) := by decide +kernel
theorem dX12_readTerm_101 : decode cX12_readTerm 101 = .ok (.invokevirtual 204, 3) := by decide +kernel
theorem dX12_readTerm_104 : decode cX12_readTerm 104 = .ok (.aload_n 0, 1) := by decide +kernel
theorem dX12_readTerm_105 : decode cX12_readTerm 105 = .ok (.getfield 49, 3) := by decide +kernel
theorem dX12_readTerm_108 : decode cX12_readTerm 108 = .ok (.iload_n 3, 1) := by decide +kernel
theorem dX12_readTerm_109 : decode cX12_readTerm 109 = .ok (.iload_n 2, 1) := by decide +kernel
theorem dX12_readTerm_110 : decode cX12_readTerm 110 = .ok (.iastore, 1) := by decide +kernel
theorem dX12_readTerm_111 : decode cX12_readTerm 111 = .ok (.iload_n 2, 1) := by decide +kernel
theorem dX12_readTerm_112 : decode cX12_readTerm 112 = .ok (.iconst (-1), 1) := by decide +kernel
theorem dX12_readTerm_113 : decode cX12_readTerm 113 = .ok (.if_icmp .eq 57, 3) := by decide +kernel
theorem dX12_readTerm_116 : decode cX12_readTerm 116 = .ok (.aload_n 0, 1) := by decide +kernel
theorem dX12_readTerm_117 : decode cX12_readTerm 117 = .ok (.bipush 47, 2) := by decide +kernel
theorem dX12_readTerm_119 : decode cX12_readTerm 119 = .ok (.invokevirtual 214, 3) := by decide +kernel
theorem dX12_readTerm_122 : decode cX12_readTerm 122 = .ok (.ifCond .eq 48, 3) := by decide +kernel
theorem dX12_readTerm_125 : decode cX12_readTerm 125 = .ok (.aload_n 0, 1) := by decide +kernel
theorem dX12_readTerm_126 : decode cX12_readTerm 126 = .ok (.invokevirtual 204, 3) := by decide +kernel
theorem dX12_readTerm_129 : decode cX12_readTerm 129 = .ok (.aload_n 0, 1) := by decide +kernel
theorem dX12_readTerm_130 : decode cX12_readTerm 130 = .ok (.getfield 157, 3) := by decide +kernel
theorem dX12_readTerm_133 : decode cX12_readTerm 133 = .ok (.iconst 3, 1) := by decide +kernel
theorem dX12_readTerm_134 : decode cX12_readTerm 134 = .ok (.if_icmp .eq 9, 3) := by decide +kernel
theorem dX12_readTerm_137 : decode cX12_readTerm 137 = .ok (.aload_n 0, 1) := by decide +kernel
theorem dX12_readTerm_138 : decode cX12_readTerm 138 = .ok (.iconst 1, 1) := by decide +kernel
theorem dX12_readTerm_139 : decode cX12_readTerm 139 = .ok (.invokevirtual 192, 3) := by decide +kernel
theorem dX12_readTerm_142 : decode cX12_readTerm 142 = .ok (.athrow, 1) := by decide +kernel
theorem dX12_readTerm_143 : decode cX12_readTerm 143 = .ok (.aload_n 0, 1) := by decide +kernel
theorem dX12_readTerm_144 : decode cX12_readTerm 144 = .ok (.getfield 174, 3) := by decide +kernel
theorem dX12_readTerm_147 : decode cX12_readTerm 147 = .ok (.ifCond .ne 9, 3) := by decide +kernel
theorem dX12_readTerm_150 : decode cX12_readTerm 150 = .ok (.aload_n 0, 1) := by decide +kernel
theorem dX12_readTerm_151 : decode cX12_readTerm 151 = .ok (.iconst 3, 1) := by decide +kernel
theorem dX12_readTerm_152 : decode cX12_readTerm 152 = .ok (.invokevirtual 192, 3) := by decide +kernel
theorem dX12_readTerm_155 : decode cX12_readTerm 155 = .ok (.athrow, 1) := by decide +kernel
theorem dX12_readTerm_156 : decode cX12_readTerm 156 = .ok (.aload_n 0, 1) := by decide +kernel
theorem dX12_readTerm_157 : decode cX12_readTerm 157 = .ok (.getfield 55, 3) := by decide +kernel
theorem dX12_readTerm_160 : decode cX12_readTerm 160 = .ok (.iload_n 3, 1) := by decide +kernel
theorem dX12_readTerm_161 : decode cX12_readTerm 161 = .ok (.aload_n 0, 1) := by decide +kernel
theorem dX12_readTerm_162 : decode cX12_readTerm 162 = .ok (.getfield 174, 3) := by decide +kernel
theorem dX12_readTerm_165 : decode cX12_readTerm 165 = .ok (.iastore, 1) := by decide +kernel
theorem dX12_readTerm_166 : decode cX12_readTerm 166 = .ok (.aload_n 0, 1) := by decide +kernel
theorem dX12_readTerm_167 : decode cX12_readTerm 167 = .ok (.invokevirtual 204, 3) := by decide +kernel
theorem dX12_readTerm_170 : decode cX12_readTerm 170 = .ok (.aload_n 0, 1) := by decide +kernel
theorem dX12_readTerm_171 : decode cX12_readTerm 171 = .ok (.getfield 37, 3) := by decide +kernel
theorem dX12_readTerm_174 : decode cX12_readTerm 174 = .ok (.iload_n 1, 1) := by decide +kernel
theorem dX12_readTerm_175 : decode cX12_readTerm 175 = .ok (.dup2, 1) := by decide +kernel
theorem dX12_readTerm_176 : decode cX12_readTerm 176 = .ok (.iaload, 1) := by decide +kernel
theorem dX12_readTerm_177 : decode cX12_readTerm 177 = .ok (.iconst 1, 1) := by decide +kernel
theorem dX12_readTerm_178 : decode cX12_readTerm 178 = .ok (.iadd, 1) := by decide +kernel
theorem dX12_readTerm_179 : decode cX12_readTerm 179 = .ok (.iastore, 1) := by decide +kernel
theorem dX12_readTerm_180 : decode cX12_readTerm 180 = .ok (.return_, 1) := by decide +kernel
theorem dX12_valueOf_0 : decode cX12_valueOf 0 = .ok (.iload_n 0, 1) := by decide +kernel
theorem dX12_valueOf_1 : decode cX12_valueOf 1 = .ok (.iconst (-1), 1) := by decide +kernel
theorem dX12_valueOf_2 : decode cX12_valueOf 2 = .ok (.if_icmp .ne 7, 3) := by decide +kernel
theorem dX12_valueOf_5 : decode cX12_valueOf 5 = .ok (.iconst 1, 1) := by decide +kernel
theorem dX12_valueOf_6 : decode cX12_valueOf 6 = .ok (.goto 31, 3) := by decide +kernel
theorem dX12_valueOf_9 : decode cX12_valueOf 9 = .ok (.iload_n 0, 1) := by decide +kernel
theorem dX12_valueOf_10 : decode cX12_valueOf 10 = .ok (.ifCond .ne 7, 3) := by decide +kernel
theorem dX12_valueOf_13 : decode cX12_valueOf 13 = .ok (.iload_n 1, 1) := by decide +kernel
theorem dX12_valueOf_14 : decode cX12_valueOf 14 = .ok (.goto 23, 3) := by decide +kernel
theorem dX12_valueOf_17 : decode cX12_valueOf 17 = .ok (.iload_n 0, 1) := by decide +kernel
theorem dX12_valueOf_18 : decode cX12_valueOf 18 = .ok (.iconst 1, 1) := by decide +kernel
theorem dX12_valueOf_19 : decode cX12_valueOf 19 = .ok (.if_icmp .ne 7, 3) := by decide +kernel
theorem dX12_valueOf_22 : decode cX12_valueOf 22 = .ok (.iload_n 2, 1) := by decide +kernel
theorem dX12_valueOf_23 : decode cX12_valueOf 23 = .ok (.goto 14, 3) := by decide +kernel
theorem dX12_valueOf_26 : decode cX12_valueOf 26 = .ok (.iload_n 0, 1) := by decide +kernel
theorem dX12_valueOf_27 : decode cX12_valueOf 27 = .ok (.iconst 2, 1) := by decide +kernel
theorem dX12_valueOf_28 : decode cX12_valueOf 28 = .ok (.if_icmp .ne 7, 3) := by decide +kernel
theorem dX12_valueOf_31 : decode cX12_valueOf 31 = .ok (.iload_n 3, 1) := by decide +kernel
theorem dX12_valueOf_32 : decode cX12_valueOf 32 = .ok (.goto 5, 3) := by decide +kernel
theorem dX12_valueOf_35 : decode cX12_valueOf 35 = .ok (.iload 4, 2) := by decide +kernel
theorem dX12_valueOf_37 : decode cX12_valueOf 37 = .ok (.ireturn, 1) := by decide +kernel
theorem dX12_feeOf_0 : decode cX12_feeOf 0 = .ok (.bipush 12, 2) := by decide +kernel
theorem dX12_feeOf_2 : decode cX12_feeOf 2 = .ok (.iload_n 1, 1) := by decide +kernel
theorem dX12_feeOf_3 : decode cX12_feeOf 3 = .ok (.imul, 1) := by decide +kernel
theorem dX12_feeOf_4 : decode cX12_feeOf 4 = .ok (.istore 7, 2) := by decide +kernel
theorem dX12_feeOf_6 : decode cX12_feeOf 6 = .ok (.iload 7, 2) := by decide +kernel
theorem dX12_feeOf_8 : decode cX12_feeOf 8 = .ok (.bipush 12, 2) := by decide +kernel
theorem dX12_feeOf_10 : decode cX12_feeOf 10 = .ok (.iload_n 1, 1) := by decide +kernel
theorem dX12_feeOf_11 : decode cX12_feeOf 11 = .ok (.imul, 1) := by decide +kernel
theorem dX12_feeOf_12 : decode cX12_feeOf 12 = .ok (.aload_n 0, 1) := by decide +kernel
theorem dX12_feeOf_13 : decode cX12_feeOf 13 = .ok (.getfield 28, 3) := by decide +kernel
theorem dX12_feeOf_16 : decode cX12_feeOf 16 = .ok (.iload_n 1, 1) := by decide +kernel
theorem dX12_feeOf_17 : decode cX12_feeOf 17 = .ok (.iaload, 1) := by decide +kernel
theorem dX12_feeOf_18 : decode cX12_feeOf 18 = .ok (.iadd, 1) := by decide +kernel
theorem dX12_feeOf_19 : decode cX12_feeOf 19 = .ok (.if_icmp .ge 240, 3) := by decide +kernel
theorem dX12_feeOf_22 : decode cX12_feeOf 22 = .ok (.aload_n 0, 1) := by decide +kernel
theorem dX12_feeOf_23 : decode cX12_feeOf 23 = .ok (.getfield 31, 3) := by decide +kernel
theorem dX12_feeOf_26 : decode cX12_feeOf 26 = .ok (.iload 7, 2) := by decide +kernel
theorem dX12_feeOf_28 : decode cX12_feeOf 28 = .ok (.iaload, 1) := by decide +kernel
theorem dX12_feeOf_29 : decode cX12_feeOf 29 = .ok (.iload_n 2, 1) := by decide +kernel
theorem dX12_feeOf_30 : decode cX12_feeOf 30 = .ok (.if_icmp .ne 7, 3) := by decide +kernel
theorem dX12_feeOf_33 : decode cX12_feeOf 33 = .ok (.iconst 1, 1) := by decide +kernel
theorem dX12_feeOf_34 : decode cX12_feeOf 34 = .ok (.goto 4, 3) := by decide +kernel
theorem dX12_feeOf_37 : decode cX12_feeOf 37 = .ok (.iconst 0, 1) := by decide +kernel
theorem dX12_feeOf_38 : decode cX12_feeOf 38 = .ok (.istore 8, 2) := by decide +kernel
theorem dX12_feeOf_40 : decode cX12_feeOf 40 = .ok (.iconst 4, 1) := by decide +kernel
theorem dX12_feeOf_41 : decode cX12_feeOf 41 = .ok (.iload 7, 2) := by decide +kernel
theorem dX12_feeOf_43 : decode cX12_feeOf 43 = .ok (.imul, 1) := by decide +kernel
theorem dX12_feeOf_44 : decode cX12_feeOf 44 = .ok (.istore 9, 2) := by decide +kernel
theorem dX12_feeOf_46 : decode cX12_feeOf 46 = .ok (.iload 9, 2) := by decide +kernel
theorem dX12_feeOf_48 : decode cX12_feeOf 48 = .ok (.iconst 4, 1) := by decide +kernel
theorem dX12_feeOf_49 : decode cX12_feeOf 49 = .ok (.iload 7, 2) := by decide +kernel
theorem dX12_feeOf_51 : decode cX12_feeOf 51 = .ok (.imul, 1) := by decide +kernel
theorem dX12_feeOf_52 : decode cX12_feeOf 52 = .ok (.aload_n 0, 1) := by decide +kernel
theorem dX12_feeOf_53 : decode cX12_feeOf 53 = .ok (.getfield 34, 3) := by decide +kernel
theorem dX12_feeOf_56 : decode cX12_feeOf 56 = .ok (.iload 7, 2) := by decide +kernel
theorem dX12_feeOf_58 : decode cX12_feeOf 58 = .ok (.iaload, 1) := by decide +kernel
theorem dX12_feeOf_59 : decode cX12_feeOf 59 = .ok (.iadd, 1) := by decide +kernel
theorem dX12_feeOf_60 : decode cX12_feeOf 60 = .ok (.if_icmp .ge 106, 3) := by decide +kernel
theorem dX12_feeOf_63 : decode cX12_feeOf 63 = .ok (.aload_n 0, 1) := by decide +kernel
theorem dX12_feeOf_64 : decode cX12_feeOf 64 = .ok (.getfield 40, 3) := by decide +kernel
theorem dX12_feeOf_67 : decode cX12_feeOf 67 = .ok (.iload 9, 2) := by decide +kernel
theorem dX12_feeOf_69 : decode cX12_feeOf 69 = .ok (.iaload, 1) := by decide +kernel
theorem dX12_feeOf_70 : decode cX12_feeOf 70 = .ok (.iload_n 3, 1) := by decide +kernel
theorem dX12_feeOf_71 : decode cX12_feeOf 71 = .ok (.iload 4, 2) := by decide +kernel
theorem dX12_feeOf_73 : decode cX12_feeOf 73 = .ok (.iload 5, 2) := by decide +kernel
theorem dX12_feeOf_75 : decode cX12_feeOf 75 = .ok (.iload 6, 2) := by decide +kernel
theorem dX12_feeOf_77 : decode cX12_feeOf 77 = .ok (.invokestatic 219, 3) := by decide +kernel
theorem dX12_feeOf_80 : decode cX12_feeOf 80 = .ok (.istore 10, 2) := by decide +kernel
theorem dX12_feeOf_82 : decode cX12_feeOf 82 = .ok (.iload 8, 2) := by decide +kernel
theorem dX12_feeOf_84 : decode cX12_feeOf 84 = .ok (.ifCond .eq 73, 3) := by decide +kernel
theorem dX12_feeOf_87 : decode cX12_feeOf 87 = .ok (.aload_n 0, 1) := by decide +kernel
theorem dX12_feeOf_88 : decode cX12_feeOf 88 = .ok (.getfield 43, 3) := by decide +kernel
theorem dX12_feeOf_91 : decode cX12_feeOf 91 = .ok (.iload 9, 2) := by decide +kernel
theorem dX12_feeOf_93 : decode cX12_feeOf 93 = .ok (.iaload, 1) := by decide +kernel
theorem dX12_feeOf_94 : decode cX12_feeOf 94 = .ok (.bipush 60, 2) := by decide +kernel
theorem dX12_feeOf_96 : decode cX12_feeOf 96 = .ok (.if_icmp .ne 18, 3) := by decide +kernel
theorem dX12_feeOf_99 : decode cX12_feeOf 99 = .ok (.iload 10, 2) := by decide +kernel
theorem dX12_feeOf_101 : decode cX12_feeOf 101 = .ok (.aload_n 0, 1) := by decide +kernel
theorem dX12_feeOf_102 : decode cX12_feeOf 102 = .ok (.getfield 46, 3) := by decide +kernel
theorem dX12_feeOf_105 : decode cX12_feeOf 105 = .ok (.iload 9, 2) := by decide +kernel
theorem dX12_feeOf_107 : decode cX12_feeOf 107 = .ok (.iaload, 1) := by decide +kernel
theorem dX12_feeOf_108 : decode cX12_feeOf 108 = .ok (.if_icmp .ge 49, 3) := by decide +kernel
theorem dX12_feeOf_111 : decode cX12_feeOf 111 = .ok (.goto 42, 3) := by decide +kernel
theorem dX12_feeOf_114 : decode cX12_feeOf 114 = .ok (.aload_n 0, 1) := by decide +kernel
theorem dX12_feeOf_115 : decode cX12_feeOf 115 = .ok (.getfield 43, 3) := by decide +kernel
theorem dX12_feeOf_118 : decode cX12_feeOf 118 = .ok (.iload 9, 2) := by decide +kernel
theorem dX12_feeOf_120 : decode cX12_feeOf 120 = .ok (.iaload, 1) := by decide +kernel
theorem dX12_feeOf_121 : decode cX12_feeOf 121 = .ok (.bipush 62, 2) := by decide +kernel
theorem dX12_feeOf_123 : decode cX12_feeOf 123 = .ok (.if_icmp .ne 18, 3) := by decide +kernel
theorem dX12_feeOf_126 : decode cX12_feeOf 126 = .ok (.iload 10, 2) := by decide +kernel
theorem dX12_feeOf_128 : decode cX12_feeOf 128 = .ok (.aload_n 0, 1) := by decide +kernel
theorem dX12_feeOf_129 : decode cX12_feeOf 129 = .ok (.getfield 46, 3) := by decide +kernel
theorem dX12_feeOf_132 : decode cX12_feeOf 132 = .ok (.iload 9, 2) := by decide +kernel
theorem dX12_feeOf_134 : decode cX12_feeOf 134 = .ok (.iaload, 1) := by decide +kernel
theorem dX12_feeOf_135 : decode cX12_feeOf 135 = .ok (.if_icmp .le 22, 3) := by decide +kernel
theorem dX12_feeOf_138 : decode cX12_feeOf 138 = .ok (.goto 15, 3) := by decide +kernel
theorem dX12_feeOf_141 : decode cX12_feeOf 141 = .ok (.iload 10, 2) := by decide +kernel
theorem dX12_feeOf_143 : decode cX12_feeOf 143 = .ok (.aload_n 0, 1) := by decide +kernel
theorem dX12_feeOf_144 : decode cX12_feeOf 144 = .ok (.getfield 46, 3) := by decide +kernel
theorem dX12_feeOf_147 : decode cX12_feeOf 147 = .ok (.iload 9, 2) := by decide +kernel
theorem dX12_feeOf_149 : decode cX12_feeOf 149 = .ok (.iaload, 1) := by decide +kernel
theorem dX12_feeOf_150 : decode cX12_feeOf 150 = .ok (.if_icmp .ne 7, 3) := by decide +kernel
theorem dX12_feeOf_153 : decode cX12_feeOf 153 = .ok (.iconst 1, 1) := by decide +kernel
theorem dX12_feeOf_154 : decode cX12_feeOf 154 = .ok (.goto 4, 3) := by decide +kernel
theorem dX12_feeOf_157 : decode cX12_feeOf 157 = .ok (.iconst 0, 1) := by decide +kernel
theorem dX12_feeOf_158 : decode cX12_feeOf 158 = .ok (.istore 8, 2) := by decide +kernel
theorem dX12_feeOf_160 : decode cX12_feeOf 160 = .ok (.iinc 9 1, 3) := by decide +kernel
theorem dX12_feeOf_163 : decode cX12_feeOf 163 = .ok (.goto (-117), 3) := by decide +kernel
theorem dX12_feeOf_166 : decode cX12_feeOf 166 = .ok (.iload 8, 2) := by decide +kernel
theorem dX12_feeOf_168 : decode cX12_feeOf 168 = .ok (.ifCond .ne 6, 3) := by decide +kernel
theorem dX12_feeOf_171 : decode cX12_feeOf 171 = .ok (.goto 82, 3) := by decide +kernel
theorem dX12_feeOf_174 : decode cX12_feeOf 174 = .ok (.iconst 0, 1) := by decide +kernel
theorem dX12_feeOf_175 : decode cX12_feeOf 175 = .ok (.istore 9, 2) := by decide +kernel
theorem dX12_feeOf_177 : decode cX12_feeOf 177 = .ok (.iconst 4, 1) := by decide +kernel
theorem dX12_feeOf_178 : decode cX12_feeOf 178 = .ok (.iload 7, 2) := by decide +kernel
theorem dX12_feeOf_180 : decode cX12_feeOf 180 = .ok (.imul, 1) := by decide +kernel
theorem dX12_feeOf_181 : decode cX12_feeOf 181 = .ok (.istore 10, 2) := by decide +kernel
theorem dX12_feeOf_183 : decode cX12_feeOf 183 = .ok (.iload 10, 2) := by decide +kernel
theorem dX12_feeOf_185 : decode cX12_feeOf 185 = .ok (.iconst 4, 1) := by decide +kernel
theorem dX12_feeOf_186 : decode cX12_feeOf 186 = .ok (.iload 7, 2) := by decide +kernel
theorem dX12_feeOf_188 : decode cX12_feeOf 188 = .ok (.imul, 1) := by decide +kernel
theorem dX12_feeOf_189 : decode cX12_feeOf 189 = .ok (.aload_n 0, 1) := by decide +kernel
theorem dX12_feeOf_190 : decode cX12_feeOf 190 = .ok (.getfield 37, 3) := by decide +kernel
theorem dX12_feeOf_193 : decode cX12_feeOf 193 = .ok (.iload 7, 2) := by decide +kernel
theorem dX12_feeOf_195 : decode cX12_feeOf 195 = .ok (.iaload, 1) := by decide +kernel
theorem dX12_feeOf_196 : decode cX12_feeOf 196 = .ok (.iadd, 1) := by decide +kernel
theorem dX12_feeOf_197 : decode cX12_feeOf 197 = .ok (.if_icmp .ge 47, 3) := by decide +kernel
theorem dX12_feeOf_200 : decode cX12_feeOf 200 = .ok (.iload 9, 2) := by decide +kernel
theorem dX12_feeOf_202 : decode cX12_feeOf 202 = .ok (.aload_n 0, 1) := by decide +kernel
theorem dX12_feeOf_203 : decode cX12_feeOf 203 = .ok (.getfield 52, 3) := by decide +kernel
theorem dX12_feeOf_206 : decode cX12_feeOf 206 = .ok (.iload 10, 2) := by decide +kernel
theorem dX12_feeOf_208 : decode cX12_feeOf 208 = .ok (.iaload, 1) := by decide +kernel
theorem dX12_feeOf_209 : decode cX12_feeOf 209 = .ok (.aload_n 0, 1) := by decide +kernel
theorem dX12_feeOf_210 : decode cX12_feeOf 210 = .ok (.getfield 49, 3) := by decide +kernel
theorem dX12_feeOf_213 : decode cX12_feeOf 213 = .ok (.iload 10, 2) := by decide +kernel
theorem dX12_feeOf_215 : decode cX12_feeOf 215 = .ok (.iaload, 1) := by decide +kernel
theorem dX12_feeOf_216 : decode cX12_feeOf 216 = .ok (.iload_n 3, 1) := by decide +kernel
theorem dX12_feeOf_217 : decode cX12_feeOf 217 = .ok (.iload 4, 2) := by decide +kernel
theorem dX12_feeOf_219 : decode cX12_feeOf 219 = .ok (.iload 5, 2) := by decide +kernel
theorem dX12_feeOf_221 : decode cX12_feeOf 221 = .ok (.iload 6, 2) := by decide +kernel
theorem dX12_feeOf_223 : decode cX12_feeOf 223 = .ok (.invokestatic 219, 3) := by decide +kernel
theorem dX12_feeOf_226 : decode cX12_feeOf 226 = .ok (.imul, 1) := by decide +kernel
theorem dX12_feeOf_227 : decode cX12_feeOf 227 = .ok (.aload_n 0, 1) := by decide +kernel
theorem dX12_feeOf_228 : decode cX12_feeOf 228 = .ok (.getfield 55, 3) := by decide +kernel
theorem dX12_feeOf_231 : decode cX12_feeOf 231 = .ok (.iload 10, 2) := by decide +kernel
theorem dX12_feeOf_233 : decode cX12_feeOf 233 = .ok (.iaload, 1) := by decide +kernel
theorem dX12_feeOf_234 : decode cX12_feeOf 234 = .ok (.idiv, 1) := by decide +kernel
theorem dX12_feeOf_235 : decode cX12_feeOf 235 = .ok (.iadd, 1) := by decide +kernel
theorem dX12_feeOf_236 : decode cX12_feeOf 236 = .ok (.istore 9, 2) := by decide +kernel
theorem dX12_feeOf_238 : decode cX12_feeOf 238 = .ok (.iinc 10 1, 3) := by decide +kernel
theorem dX12_feeOf_241 : decode cX12_feeOf 241 = .ok (.goto (-58), 3) := by decide +kernel
theorem dX12_feeOf_244 : decode cX12_feeOf 244 = .ok (.iload 9, 2) := by decide +kernel
theorem dX12_feeOf_246 : decode cX12_feeOf 246 = .ok (.sipush 5000, 3) := by decide +kernel
theorem dX12_feeOf_249 : decode cX12_feeOf 249 = .ok (.invokestatic 223, 3) := by decide +kernel
theorem dX12_feeOf_252 : decode cX12_feeOf 252 = .ok (.ireturn, 1) := by decide +kernel
theorem dX12_feeOf_253 : decode cX12_feeOf 253 = .ok (.iinc 7 1, 3) := by decide +kernel
theorem dX12_feeOf_256 : decode cX12_feeOf 256 = .ok (.goto (-250), 3) := by decide +kernel
theorem dX12_feeOf_259 : decode cX12_feeOf 259 = .ok (.iconst (-1), 1) := by decide +kernel
theorem dX12_feeOf_260 : decode cX12_feeOf 260 = .ok (.ireturn, 1) := by decide +kernel
theorem dX12_port_0 : decode cX12_port 0 = .ok (.aload_n 0, 1) := by decide +kernel
theorem dX12_port_1 : decode cX12_port 1 = .ok (.iconst 0, 1) := by decide +kernel
theorem dX12_port_2 : decode cX12_port 2 = .ok (.putfield 123, 3) := by decide +kernel
theorem dX12_port_5 : decode cX12_port 5 = .ok (.iload_n 1, 1) := by decide +kernel
theorem dX12_port_6 : decode cX12_port 6 = .ok (.iconst 1, 1) := by decide +kernel
theorem dX12_port_7 : decode cX12_port 7 = .ok (.bipush 60, 2) := by decide +kernel
theorem dX12_port_9 : decode cX12_port 9 = .ok (.invokestatic 229, 3) := by decide +kernel
theorem dX12_port_12 : decode cX12_port 12 = .ok (.ifCond .ne 9, 3) := by decide +kernel
theorem dX12_port_15 : decode cX12_port 15 = .ok (.aload_n 0, 1) := by decide +kernel
theorem dX12_port_16 : decode cX12_port 16 = .ok (.iconst 2, 1) := by decide +kernel
theorem dX12_port_17 : decode cX12_port 17 = .ok (.invokevirtual 233, 3) := by decide +kernel
theorem dX12_port_20 : decode cX12_port 20 = .ok (.ireturn, 1) := by decide +kernel
theorem dX12_port_21 : decode cX12_port 21 = .ok (.aload_n 0, 1) := by decide +kernel
theorem dX12_port_22 : decode cX12_port 22 = .ok (.getfield 236, 3) := by decide +kernel
theorem dX12_port_25 : decode cX12_port 25 = .ok (.bipush 8, 2) := by decide +kernel
theorem dX12_port_27 : decode cX12_port 27 = .ok (.if_icmp .ne 9, 3) := by decide +kernel
theorem dX12_port_30 : decode cX12_port 30 = .ok (.aload_n 0, 1) := by decide +kernel
theorem dX12_port_31 : decode cX12_port 31 = .ok (.iconst 3, 1) := by decide +kernel
theorem dX12_port_32 : decode cX12_port 32 = .ok (.invokevirtual 233, 3) := by decide +kernel
theorem dX12_port_35 : decode cX12_port 35 = .ok (.ireturn, 1) := by decide +kernel
theorem dX12_port_36 : decode cX12_port 36 = .ok (.aload_n 0, 1) := by decide +kernel
theorem dX12_port_37 : decode cX12_port 37 = .ok (.getfield 58, 3) := by decide +kernel
theorem dX12_port_40 : decode cX12_port 40 = .ok (.aload_n 0, 1) := by decide +kernel
theorem dX12_port_41 : decode cX12_port 41 = .ok (.getfield 236, 3) := by decide +kernel
theorem dX12_port_44 : decode cX12_port 44 = .ok (.iload_n 1, 1) := by decide +kernel
theorem dX12_port_45 : decode cX12_port 45 = .ok (.iastore, 1) := by decide +kernel
theorem dX12_port_46 : decode cX12_port 46 = .ok (.aload_n 0, 1) := by decide +kernel
theorem dX12_port_47 : decode cX12_port 47 = .ok (.getfield 61, 3) := by decide +kernel
theorem dX12_port_50 : decode cX12_port 50 = .ok (.aload_n 0, 1) := by decide +kernel
theorem dX12_port_51 : decode cX12_port 51 = .ok (.getfield 236, 3) := by decide +kernel
theorem dX12_port_54 : decode cX12_port 54 = .ok (.aload_n 0, 1) := by decide +kernel
theorem dX12_port_55 : decode cX12_port 55 = .ok (.getfield 239, 3) := by decide +kernel
theorem dX12_port_58 : decode cX12_port 58 = .ok (.iastore, 1) := by decide +kernel
theorem dX12_port_59 : decode cX12_port 59 = .ok (.iconst 0, 1) := by decide +kernel
theorem dX12_port_60 : decode cX12_port 60 = .ok (.istore_n 2, 1) := by decide +kernel
theorem dX12_port_61 : decode cX12_port 61 = .ok (.iload_n 2, 1) := by decide +kernel
theorem dX12_port_62 : decode cX12_port 62 = .ok (.aload_n 0, 1) := by decide +kernel
theorem dX12_port_63 : decode cX12_port 63 = .ok (.getfield 201, 3) := by decide +kernel
theorem dX12_port_66 : decode cX12_port 66 = .ok (.if_icmp .ge 22, 3) := by decide +kernel
theorem dX12_port_69 : decode cX12_port 69 = .ok (.aload_n 0, 1) := by decide +kernel
theorem dX12_port_70 : decode cX12_port 70 = .ok (.aload_n 0, 1) := by decide +kernel
theorem dX12_port_71 : decode cX12_port 71 = .ok (.getfield 236, 3) := by decide +kernel
theorem dX12_port_74 : decode cX12_port 74 = .ok (.iload_n 2, 1) := by decide +kernel
theorem dX12_port_75 : decode cX12_port 75 = .ok (.aload_n 0, 1) := by decide +kernel
theorem dX12_port_76 : decode cX12_port 76 = .ok (.getfield 239, 3) := by decide +kernel
theorem dX12_port_79 : decode cX12_port 79 = .ok (.invokevirtual 242, 3) := by decide +kernel
theorem dX12_port_82 : decode cX12_port 82 = .ok (.iinc 2 1, 3) := by decide +kernel
theorem dX12_port_85 : decode cX12_port 85 = .ok (.goto (-24), 3) := by decide +kernel
theorem dX12_port_88 : decode cX12_port 88 = .ok (.aload_n 0, 1) := by decide +kernel
theorem dX12_port_89 : decode cX12_port 89 = .ok (.dup, 1) := by decide +kernel
theorem dX12_port_90 : decode cX12_port 90 = .ok (.getfield 236, 3) := by decide +kernel
theorem dX12_port_93 : decode cX12_port 93 = .ok (.iconst 1, 1) := by decide +kernel
theorem dX12_port_94 : decode cX12_port 94 = .ok (.iadd, 1) := by decide +kernel
theorem dX12_port_95 : decode cX12_port 95 = .ok (.putfield 236, 3) := by decide +kernel
theorem dX12_port_98 : decode cX12_port 98 = .ok (.aload_n 0, 1) := by decide +kernel
theorem dX12_port_99 : decode cX12_port 99 = .ok (.aload_n 0, 1) := by decide +kernel
theorem dX12_port_100 : decode cX12_port 100 = .ok (.getfield 236, 3) := by decide +kernel
theorem dX12_port_103 : decode cX12_port 103 = .ok (.iconst 1, 1) := by decide +kernel
theorem dX12_port_104 : decode cX12_port 104 = .ok (.isub, 1) := by decide +kernel
theorem dX12_port_105 : decode cX12_port 105 = .ok (.invokevirtual 246, 3) := by decide +kernel
theorem dX12_port_108 : decode cX12_port 108 = .ok (.ireturn, 1) := by decide +kernel
theorem dX12_sends_0 : decode cX12_sends 0 = .ok (.aload_n 0, 1) := by decide +kernel
theorem dX12_sends_1 : decode cX12_sends 1 = .ok (.getfield 76, 3) := by decide +kernel
theorem dX12_sends_4 : decode cX12_sends 4 = .ok (.bipush 30, 2) := by decide +kernel
theorem dX12_sends_6 : decode cX12_sends 6 = .ok (.iload_n 1, 1) := by decide +kernel
theorem dX12_sends_7 : decode cX12_sends 7 = .ok (.imul, 1) := by decide +kernel
theorem dX12_sends_8 : decode cX12_sends 8 = .ok (.iload_n 2, 1) := by decide +kernel
theorem dX12_sends_9 : decode cX12_sends 9 = .ok (.iadd, 1) := by decide +kernel
theorem dX12_sends_10 : decode cX12_sends 10 = .ok (.iload_n 3, 1) := by decide +kernel
theorem dX12_sends_11 : decode cX12_sends 11 = .ok (.iastore, 1) := by decide +kernel
theorem dX12_sends_12 : decode cX12_sends 12 = .ok (.aload_n 0, 1) := by decide +kernel
theorem dX12_sends_13 : decode cX12_sends 13 = .ok (.getfield 79, 3) := by decide +kernel
theorem dX12_sends_16 : decode cX12_sends 16 = .ok (.bipush 30, 2) := by decide +kernel
theorem dX12_sends_18 : decode cX12_sends 18 = .ok (.iload_n 1, 1) := by decide +kernel
theorem dX12_sends_19 : decode cX12_sends 19 = .ok (.imul, 1) := by decide +kernel
theorem dX12_sends_20 : decode cX12_sends 20 = .ok (.iload_n 2, 1) := by decide +kernel
theorem dX12_sends_21 : decode cX12_sends 21 = .ok (.iadd, 1) := by decide +kernel
theorem dX12_sends_22 : decode cX12_sends 22 = .ok (.ldc 249, 2) := by decide +kernel
theorem dX12_sends_24 : decode cX12_sends 24 = .ok (.iastore, 1) := by decide +kernel
theorem dX12_sends_25 : decode cX12_sends 25 = .ok (.aload_n 0, 1) := by decide +kernel
theorem dX12_sends_26 : decode cX12_sends 26 = .ok (.getfield 82, 3) := by decide +kernel
theorem dX12_sends_29 : decode cX12_sends 29 = .ok (.bipush 30, 2) := by decide +kernel
theorem dX12_sends_31 : decode cX12_sends 31 = .ok (.iload_n 1, 1) := by decide +kernel
theorem dX12_sends_32 : decode cX12_sends 32 = .ok (.imul, 1) := by decide +kernel
theorem dX12_sends_33 : decode cX12_sends 33 = .ok (.iload_n 2, 1) := by decide +kernel
theorem dX12_sends_34 : decode cX12_sends 34 = .ok (.iadd, 1) := by decide +kernel
theorem dX12_sends_35 : decode cX12_sends 35 = .ok (.ldc 249, 2) := by decide +kernel
theorem dX12_sends_37 : decode cX12_sends 37 = .ok (.iastore, 1) := by decide +kernel
theorem dX12_sends_38 : decode cX12_sends 38 = .ok (.aload_n 0, 1) := by decide +kernel
theorem dX12_sends_39 : decode cX12_sends 39 = .ok (.getfield 85, 3) := by decide +kernel
theorem dX12_sends_42 : decode cX12_sends 42 = .ok (.bipush 30, 2) := by decide +kernel
theorem dX12_sends_44 : decode cX12_sends 44 = .ok (.iload_n 1, 1) := by decide +kernel
theorem dX12_sends_45 : decode cX12_sends 45 = .ok (.imul, 1) := by decide +kernel
theorem dX12_sends_46 : decode cX12_sends 46 = .ok (.iload_n 2, 1) := by decide +kernel
theorem dX12_sends_47 : decode cX12_sends 47 = .ok (.iadd, 1) := by decide +kernel
theorem dX12_sends_48 : decode cX12_sends 48 = .ok (.iconst 0, 1) := by decide +kernel
theorem dX12_sends_49 : decode cX12_sends 49 = .ok (.bastore, 1) := by decide +kernel
theorem dX12_sends_50 : decode cX12_sends 50 = .ok (.return_, 1) := by decide +kernel
theorem dX12_feed_0 : decode cX12_feed 0 = .ok (.aload_n 0, 1) := by decide +kernel
theorem dX12_feed_1 : decode cX12_feed 1 = .ok (.iconst 0, 1) := by decide +kernel
theorem dX12_feed_2 : decode cX12_feed 2 = .ok (.putfield 123, 3) := by decide +kernel
theorem dX12_feed_5 : decode cX12_feed 5 = .ok (.aload_n 0, 1) := by decide +kernel
theorem dX12_feed_6 : decode cX12_feed 6 = .ok (.getfield 250, 3) := by decide +kernel
theorem dX12_feed_9 : decode cX12_feed 9 = .ok (.bipush 20, 2) := by decide +kernel
theorem dX12_feed_11 : decode cX12_feed 11 = .ok (.iadd, 1) := by decide +kernel
theorem dX12_feed_12 : decode cX12_feed 12 = .ok (.sipush 300, 3) := by decide +kernel
theorem dX12_feed_15 : decode cX12_feed 15 = .ok (.if_icmp .le 5, 3) := by decide +kernel
theorem dX12_feed_18 : decode cX12_feed 18 = .ok (.iconst (-1), 1) := by decide +kernel
theorem dX12_feed_19 : decode cX12_feed 19 = .ok (.ireturn, 1) := by decide +kernel
theorem dX12_feed_20 : decode cX12_feed 20 = .ok (.iconst 0, 1) := by decide +kernel
theorem dX12_feed_21 : decode cX12_feed 21 = .ok (.istore 6, 2) := by decide +kernel
theorem dX12_feed_23 : decode cX12_feed 23 = .ok (.iload 6, 2) := by decide +kernel
theorem dX12_feed_25 : decode cX12_feed 25 = .ok (.bipush 20, 2) := by decide +kernel
theorem dX12_feed_27 : decode cX12_feed 27 = .ok (.if_icmp .ge 90, 3) := by decide +kernel
theorem dX12_feed_30 : decode cX12_feed 30 = .ok (.iload 6, 2) := by decide +kernel
theorem dX12_feed_32 : decode cX12_feed 32 = .ok (.iconst 4, 1) := by decide +kernel
theorem dX12_feed_33 : decode cX12_feed 33 = .ok (.if_icmp .ge 7, 3) := by decide +kernel
theorem dX12_feed_36 : decode cX12_feed 36 = .ok (.iload_n 1, 1) := by decide +kernel
theorem dX12_feed_37 : decode cX12_feed 37 = .ok (.goto 39, 3) := by decide +kernel
theorem dX12_feed_40 : decode cX12_feed 40 = .ok (.iload 6, 2) := by decide +kernel
theorem dX12_feed_42 : decode cX12_feed 42 = .ok (.bipush 8, 2) := by decide +kernel
theorem dX12_feed_44 : decode cX12_feed 44 = .ok (.if_icmp .ge 7, 3) := by decide +kernel
theorem dX12_feed_47 : decode cX12_feed 47 = .ok (.iload_n 2, 1) := by decide +kernel
theorem dX12_feed_48 : decode cX12_feed 48 = .ok (.goto 28, 3) := by decide +kernel
theorem dX12_feed_51 : decode cX12_feed 51 = .ok (.iload 6, 2) := by decide +kernel
theorem dX12_feed_53 : decode cX12_feed 53 = .ok (.bipush 12, 2) := by decide +kernel
theorem dX12_feed_55 : decode cX12_feed 55 = .ok (.if_icmp .ge 7, 3) := by decide +kernel
theorem dX12_feed_58 : decode cX12_feed 58 = .ok (.iload_n 3, 1) := by decide +kernel
theorem dX12_feed_59 : decode cX12_feed 59 = .ok (.goto 17, 3) := by decide +kernel
theorem dX12_feed_62 : decode cX12_feed 62 = .ok (.iload 6, 2) := by decide +kernel
theorem dX12_feed_64 : decode cX12_feed 64 = .ok (.bipush 16, 2) := by decide +kernel
theorem dX12_feed_66 : decode cX12_feed 66 = .ok (.if_icmp .ge 8, 3) := by decide +kernel
theorem dX12_feed_69 : decode cX12_feed 69 = .ok (.iload 4, 2) := by decide +kernel
theorem dX12_feed_71 : decode cX12_feed 71 = .ok (.goto 5, 3) := by decide +kernel
theorem dX12_feed_74 : decode cX12_feed 74 = .ok (.iload 5, 2) := by decide +kernel
theorem dX12_feed_76 : decode cX12_feed 76 = .ok (.istore 7, 2) := by decide +kernel
theorem dX12_feed_78 : decode cX12_feed 78 = .ok (.aload_n 0, 1) := by decide +kernel
theorem dX12_feed_79 : decode cX12_feed 79 = .ok (.getfield 20, 3) := by decide +kernel
theorem dX12_feed_82 : decode cX12_feed 82 = .ok (.aload_n 0, 1) := by decide +kernel
theorem dX12_feed_83 : decode cX12_feed 83 = .ok (.getfield 250, 3) := by decide +kernel
theorem dX12_feed_86 : decode cX12_feed 86 = .ok (.iload 7, 2) := by decide +kernel
theorem dX12_feed_88 : decode cX12_feed 88 = .ok (.bipush 24, 2) := by decide +kernel
theorem dX12_feed_90 : decode cX12_feed 90 = .ok (.bipush 8, 2) := by decide +kernel
theorem dX12_feed_92 : decode cX12_feed 92 = .ok (.iload 6, 2) := by decide +kernel
theorem dX12_feed_94 : decode cX12_feed 94 = .ok (.iconst 4, 1) := by decide +kernel
theorem dX12_feed_95 : decode cX12_feed 95 = .ok (.irem, 1) := by decide +kernel
theorem dX12_feed_96 : decode cX12_feed 96 = .ok (.imul, 1) := by decide +kernel
theorem dX12_feed_97 : decode cX12_feed 97 = .ok (.isub, 1) := by decide +kernel
theorem dX12_feed_98 : decode cX12_feed 98 = .ok (.ishr, 1) := by decide +kernel
theorem dX12_feed_99 : decode cX12_feed 99 = .ok (.i2b, 1) := by decide +kernel
theorem dX12_feed_100 : decode cX12_feed 100 = .ok (.bastore, 1) := by decide +kernel
theorem dX12_feed_101 : decode cX12_feed 101 = .ok (.aload_n 0, 1) := by decide +kernel
theorem dX12_feed_102 : decode cX12_feed 102 = .ok (.dup, 1) := by decide +kernel
theorem dX12_feed_103 : decode cX12_feed 103 = .ok (.getfield 250, 3) := by decide +kernel
theorem dX12_feed_106 : decode cX12_feed 106 = .ok (.iconst 1, 1) := by decide +kernel
theorem dX12_feed_107 : decode cX12_feed 107 = .ok (.iadd, 1) := by decide +kernel
theorem dX12_feed_108 : decode cX12_feed 108 = .ok (.putfield 250, 3) := by decide +kernel
theorem dX12_feed_111 : decode cX12_feed 111 = .ok (.iinc 6 1, 3) := by decide +kernel
theorem dX12_feed_114 : decode cX12_feed 114 = .ok (.goto (-91), 3) := by decide +kernel
theorem dX12_feed_117 : decode cX12_feed 117 = .ok (.aload_n 0, 1) := by decide +kernel
theorem dX12_feed_118 : decode cX12_feed 118 = .ok (.getfield 250, 3) := by decide +kernel
theorem dX12_feed_121 : decode cX12_feed 121 = .ok (.ireturn, 1) := by decide +kernel
theorem dX12_tariff_0 : decode cX12_tariff 0 = .ok (.aload_n 0, 1) := by decide +kernel
theorem dX12_tariff_1 : decode cX12_tariff 1 = .ok (.iconst 0, 1) := by decide +kernel
theorem dX12_tariff_2 : decode cX12_tariff 2 = .ok (.putfield 123, 3) := by decide +kernel
theorem dX12_tariff_5 : decode cX12_tariff 5 = .ok (.iload_n 1, 1) := by decide +kernel
theorem dX12_tariff_6 : decode cX12_tariff 6 = .ok (.ifCond .lt 11, 3) := by decide +kernel
theorem dX12_tariff_9 : decode cX12_tariff 9 = .ok (.iload_n 1, 1) := by decide +kernel
theorem dX12_tariff_10 : decode cX12_tariff 10 = .ok (.aload_n 0, 1) := by decide +kernel
theorem dX12_tariff_11 : decode cX12_tariff 11 = .ok (.getfield 250, 3) := by decide +kernel
theorem dX12_tariff_14 : decode cX12_tariff 14 = .ok (.if_icmp .le 9, 3) := by decide +kernel
theorem dX12_tariff_17 : decode cX12_tariff 17 = .ok (.aload_n 0, 1) := by decide +kernel
theorem dX12_tariff_18 : decode cX12_tariff 18 = .ok (.iconst 2, 1) := by decide +kernel
theorem dX12_tariff_19 : decode cX12_tariff 19 = .ok (.invokevirtual 233, 3) := by decide +kernel
theorem dX12_tariff_22 : decode cX12_tariff 22 = .ok (.ireturn, 1) := by decide +kernel
theorem dX12_tariff_23 : decode cX12_tariff 23 = .ok (.aload_n 0, 1) := by decide +kernel
theorem dX12_tariff_24 : decode cX12_tariff 24 = .ok (.iload_n 1, 1) := by decide +kernel
theorem dX12_tariff_25 : decode cX12_tariff 25 = .ok (.putfield 135, 3) := by decide +kernel
theorem dX12_tariff_28 : decode cX12_tariff 28 = .ok (.aload_n 0, 1) := by decide +kernel
theorem dX12_tariff_29 : decode cX12_tariff 29 = .ok (.iconst 0, 1) := by decide +kernel
theorem dX12_tariff_30 : decode cX12_tariff 30 = .ok (.putfield 250, 3) := by decide +kernel
theorem dX12_tariff_33 : decode cX12_tariff 33 = .ok (.aload_n 0, 1) := by decide +kernel
theorem dX12_tariff_34 : decode cX12_tariff 34 = .ok (.iconst 0, 1) := by decide +kernel
theorem dX12_tariff_35 : decode cX12_tariff 35 = .ok (.putfield 150, 3) := by decide +kernel
theorem dX12_tariff_38 : decode cX12_tariff 38 = .ok (.aload_n 0, 1) := by decide +kernel
theorem dX12_tariff_39 : decode cX12_tariff 39 = .ok (.iconst 0, 1) := by decide +kernel
theorem dX12_tariff_40 : decode cX12_tariff 40 = .ok (.putfield 253, 3) := by decide +kernel
theorem dX12_tariff_43 : decode cX12_tariff 43 = .ok (.aload_n 0, 1) := by decide +kernel
theorem dX12_tariff_44 : decode cX12_tariff 44 = .ok (.invokevirtual 256, 3) := by decide +kernel
theorem dX12_tariff_47 : decode cX12_tariff 47 = .ok (.goto 27, 3) := by decide +kernel
theorem dX12_tariff_50 : decode cX12_tariff 50 = .ok (.astore_n 2, 1) := by decide +kernel
theorem dX12_tariff_51 : decode cX12_tariff 51 = .ok (.aload_n 0, 1) := by decide +kernel
theorem dX12_tariff_52 : decode cX12_tariff 52 = .ok (.aload_n 2, 1) := by decide +kernel
theorem dX12_tariff_53 : decode cX12_tariff 53 = .ok (.getfield 129, 3) := by decide +kernel
theorem dX12_tariff_56 : decode cX12_tariff 56 = .ok (.putfield 253, 3) := by decide +kernel
theorem dX12_tariff_59 : decode cX12_tariff 59 = .ok (.aload_n 0, 1) := by decide +kernel
theorem dX12_tariff_60 : decode cX12_tariff 60 = .ok (.iconst 4, 1) := by decide +kernel
theorem dX12_tariff_61 : decode cX12_tariff 61 = .ok (.putfield 126, 3) := by decide +kernel
theorem dX12_tariff_64 : decode cX12_tariff 64 = .ok (.aload_n 0, 1) := by decide +kernel
theorem dX12_tariff_65 : decode cX12_tariff 65 = .ok (.aload_n 2, 1) := by decide +kernel
theorem dX12_tariff_66 : decode cX12_tariff 66 = .ok (.getfield 134, 3) := by decide +kernel
theorem dX12_tariff_69 : decode cX12_tariff 69 = .ok (.putfield 9, 3) := by decide +kernel
theorem dX12_tariff_72 : decode cX12_tariff 72 = .ok (.iconst (-1), 1) := by decide +kernel
theorem dX12_tariff_73 : decode cX12_tariff 73 = .ok (.ireturn, 1) := by decide +kernel
theorem dX12_tariff_74 : decode cX12_tariff 74 = .ok (.aload_n 0, 1) := by decide +kernel
theorem dX12_tariff_75 : decode cX12_tariff 75 = .ok (.getfield 201, 3) := by decide +kernel
theorem dX12_tariff_78 : decode cX12_tariff 78 = .ok (.bipush 30, 2) := by decide +kernel
theorem dX12_tariff_80 : decode cX12_tariff 80 = .ok (.if_icmp .ne 9, 3) := by decide +kernel
theorem dX12_tariff_83 : decode cX12_tariff 83 = .ok (.aload_n 0, 1) := by decide +kernel
theorem dX12_tariff_84 : decode cX12_tariff 84 = .ok (.iconst 3, 1) := by decide +kernel
theorem dX12_tariff_85 : decode cX12_tariff 85 = .ok (.invokevirtual 233, 3) := by decide +kernel
theorem dX12_tariff_88 : decode cX12_tariff 88 = .ok (.ireturn, 1) := by decide +kernel
theorem dX12_tariff_89 : decode cX12_tariff 89 = .ok (.aload_n 0, 1) := by decide +kernel
theorem dX12_tariff_90 : decode cX12_tariff 90 = .ok (.getfield 24, 3) := by decide +kernel
theorem dX12_tariff_93 : decode cX12_tariff 93 = .ok (.aload_n 0, 1) := by decide +kernel
theorem dX12_tariff_94 : decode cX12_tariff 94 = .ok (.getfield 201, 3) := by decide +kernel
theorem dX12_tariff_97 : decode cX12_tariff 97 = .ok (.aload_n 0, 1) := by decide +kernel
theorem dX12_tariff_98 : decode cX12_tariff 98 = .ok (.getfield 239, 3) := by decide +kernel
theorem dX12_tariff_101 : decode cX12_tariff 101 = .ok (.iastore, 1) := by decide +kernel
theorem dX12_tariff_102 : decode cX12_tariff 102 = .ok (.iconst 0, 1) := by decide +kernel
theorem dX12_tariff_103 : decode cX12_tariff 103 = .ok (.istore_n 2, 1) := by decide +kernel
theorem dX12_tariff_104 : decode cX12_tariff 104 = .ok (.iload_n 2, 1) := by decide +kernel
theorem dX12_tariff_105 : decode cX12_tariff 105 = .ok (.aload_n 0, 1) := by decide +kernel
theorem dX12_tariff_106 : decode cX12_tariff 106 = .ok (.getfield 236, 3) := by decide +kernel
theorem dX12_tariff_109 : decode cX12_tariff 109 = .ok (.if_icmp .ge 29, 3) := by decide +kernel
theorem dX12_tariff_112 : decode cX12_tariff 112 = .ok (.aload_n 0, 1) := by decide +kernel
theorem dX12_tariff_113 : decode cX12_tariff 113 = .ok (.iload_n 2, 1) := by decide +kernel
theorem dX12_tariff_114 : decode cX12_tariff 114 = .ok (.aload_n 0, 1) := by decide +kernel
theorem dX12_tariff_115 : decode cX12_tariff 115 = .ok (.getfield 201, 3) := by decide +kernel
theorem dX12_tariff_118 : decode cX12_tariff 118 = .ok (.aload_n 0, 1) := by decide +kernel
theorem dX12_tariff_119 : decode cX12_tariff 119 = .ok (.getfield 239, 3) := by decide +kernel
theorem dX12_tariff_122 : decode cX12_tariff 122 = .ok (.aload_n 0, 1) := by decide +kernel
theorem dX12_tariff_123 : decode cX12_tariff 123 = .ok (.getfield 58, 3) := by decide +kernel
theorem dX12_tariff_126 : decode cX12_tariff 126 = .ok (.iload_n 2, 1) := by decide +kernel
theorem dX12_tariff_127 : decode cX12_tariff 127 = .ok (.iaload, 1) := by decide +kernel
theorem dX12_tariff_128 : decode cX12_tariff 128 = .ok (.iadd, 1) := by decide +kernel
theorem dX12_tariff_129 : decode cX12_tariff 129 = .ok (.invokevirtual 242, 3) := by decide +kernel
theorem dX12_tariff_132 : decode cX12_tariff 132 = .ok (.iinc 2 1, 3) := by decide +kernel
theorem dX12_tariff_135 : decode cX12_tariff 135 = .ok (.goto (-31), 3) := by decide +kernel
theorem dX12_tariff_138 : decode cX12_tariff 138 = .ok (.aload_n 0, 1) := by decide +kernel
theorem dX12_tariff_139 : decode cX12_tariff 139 = .ok (.dup, 1) := by decide +kernel
theorem dX12_tariff_140 : decode cX12_tariff 140 = .ok (.getfield 201, 3) := by decide +kernel
theorem dX12_tariff_143 : decode cX12_tariff 143 = .ok (.iconst 1, 1) := by decide +kernel
theorem dX12_tariff_144 : decode cX12_tariff 144 = .ok (.iadd, 1) := by decide +kernel
theorem dX12_tariff_145 : decode cX12_tariff 145 = .ok (.putfield 201, 3) := by decide +kernel
theorem dX12_tariff_148 : decode cX12_tariff 148 = .ok (.aload_n 0, 1) := by decide +kernel
theorem dX12_tariff_149 : decode cX12_tariff 149 = .ok (.aload_n 0, 1) := by decide +kernel
theorem dX12_tariff_150 : decode cX12_tariff 150 = .ok (.getfield 201, 3) := by decide +kernel
theorem dX12_tariff_153 : decode cX12_tariff 153 = .ok (.iconst 1, 1) := by decide +kernel
theorem dX12_tariff_154 : decode cX12_tariff 154 = .ok (.isub, 1) := by decide +kernel
theorem dX12_tariff_155 : decode cX12_tariff 155 = .ok (.invokevirtual 246, 3) := by decide +kernel
theorem dX12_tariff_158 : decode cX12_tariff 158 = .ok (.ireturn, 1) := by decide +kernel
theorem dX12_fault_0 : decode cX12_fault 0 = .ok (.aload_n 0, 1) := by decide +kernel
theorem dX12_fault_1 : decode cX12_fault 1 = .ok (.iconst 0, 1) := by decide +kernel
theorem dX12_fault_2 : decode cX12_fault 2 = .ok (.putfield 123, 3) := by decide +kernel
theorem dX12_fault_5 : decode cX12_fault 5 = .ok (.aload_n 0, 1) := by decide +kernel
theorem dX12_fault_6 : decode cX12_fault 6 = .ok (.getfield 253, 3) := by decide +kernel
theorem dX12_fault_9 : decode cX12_fault 9 = .ok (.ireturn, 1) := by decide +kernel
theorem dX12_where_0 : decode cX12_where 0 = .ok (.aload_n 0, 1) := by decide +kernel
theorem dX12_where_1 : decode cX12_where 1 = .ok (.iconst 0, 1) := by decide +kernel
theorem dX12_where_2 : decode cX12_where 2 = .ok (.putfield 123, 3) := by decide +kernel
theorem dX12_where_5 : decode cX12_where 5 = .ok (.aload_n 0, 1) := by decide +kernel
theorem dX12_where_6 : decode cX12_where 6 = .ok (.getfield 9, 3) := by decide +kernel
theorem dX12_where_9 : decode cX12_where 9 = .ok (.ireturn, 1) := by decide +kernel
theorem dX12_isPort_0 : decode cX12_isPort 0 = .ok (.iload_n 1, 1) := by decide +kernel
theorem dX12_isPort_1 : decode cX12_isPort 1 = .ok (.ifCond .lt 15, 3) := by decide +kernel
theorem dX12_isPort_4 : decode cX12_isPort 4 = .ok (.iload_n 1, 1) := by decide +kernel
theorem dX12_isPort_5 : decode cX12_isPort 5 = .ok (.aload_n 0, 1) := by decide +kernel
theorem dX12_isPort_6 : decode cX12_isPort 6 = .ok (.getfield 236, 3) := by decide +kernel
theorem dX12_isPort_9 : decode cX12_isPort 9 = .ok (.if_icmp .ge 7, 3) := by decide +kernel
theorem dX12_isPort_12 : decode cX12_isPort 12 = .ok (.iconst 1, 1) := by decide +kernel
theorem dX12_isPort_13 : decode cX12_isPort 13 = .ok (.goto 4, 3) := by decide +kernel
theorem dX12_isPort_16 : decode cX12_isPort 16 = .ok (.iconst 0, 1) := by decide +kernel
theorem dX12_isPort_17 : decode cX12_isPort 17 = .ok (.ireturn, 1) := by decide +kernel
theorem dX12_isTariff_0 : decode cX12_isTariff 0 = .ok (.iload_n 1, 1) := by decide +kernel
theorem dX12_isTariff_1 : decode cX12_isTariff 1 = .ok (.ifCond .lt 15, 3) := by decide +kernel
theorem dX12_isTariff_4 : decode cX12_isTariff 4 = .ok (.iload_n 1, 1) := by decide +kernel
theorem dX12_isTariff_5 : decode cX12_isTariff 5 = .ok (.aload_n 0, 1) := by decide +kernel
theorem dX12_isTariff_6 : decode cX12_isTariff 6 = .ok (.getfield 201, 3) := by decide +kernel
theorem dX12_isTariff_9 : decode cX12_isTariff 9 = .ok (.if_icmp .ge 7, 3) := by decide +kernel
theorem dX12_isTariff_12 : decode cX12_isTariff 12 = .ok (.iconst 1, 1) := by decide +kernel
theorem dX12_isTariff_13 : decode cX12_isTariff 13 = .ok (.goto 4, 3) := by decide +kernel
theorem dX12_isTariff_16 : decode cX12_isTariff 16 = .ok (.iconst 0, 1) := by decide +kernel
theorem dX12_isTariff_17 : decode cX12_isTariff 17 = .ok (.ireturn, 1) := by decide +kernel
theorem dX12_comes_0 : decode cX12_comes 0 = .ok (.bipush 30, 2) := by decide +kernel
theorem dX12_comes_2 : decode cX12_comes 2 = .ok (.iload_n 1, 1) := by decide +kernel
theorem dX12_comes_3 : decode cX12_comes 3 = .ok (.imul, 1) := by decide +kernel
theorem dX12_comes_4 : decode cX12_comes 4 = .ok (.iload_n 2, 1) := by decide +kernel
theorem dX12_comes_5 : decode cX12_comes 5 = .ok (.iadd, 1) := by decide +kernel
theorem dX12_comes_6 : decode cX12_comes 6 = .ok (.istore_n 3, 1) := by decide +kernel
theorem dX12_comes_7 : decode cX12_comes 7 = .ok (.aload_n 0, 1) := by decide +kernel
theorem dX12_comes_8 : decode cX12_comes 8 = .ok (.getfield 85, 3) := by decide +kernel
theorem dX12_comes_11 : decode cX12_comes 11 = .ok (.iload_n 3, 1) := by decide +kernel
theorem dX12_comes_12 : decode cX12_comes 12 = .ok (.baload, 1) := by decide +kernel
theorem dX12_comes_13 : decode cX12_comes 13 = .ok (.ifCond .eq 12, 3) := by decide +kernel
theorem dX12_comes_16 : decode cX12_comes 16 = .ok (.aload_n 0, 1) := by decide +kernel
theorem dX12_comes_17 : decode cX12_comes 17 = .ok (.getfield 79, 3) := by decide +kernel
theorem dX12_comes_20 : decode cX12_comes 20 = .ok (.iload_n 3, 1) := by decide +kernel
theorem dX12_comes_21 : decode cX12_comes 21 = .ok (.iaload, 1) := by decide +kernel
theorem dX12_comes_22 : decode cX12_comes 22 = .ok (.goto 9, 3) := by decide +kernel
theorem dX12_comes_25 : decode cX12_comes 25 = .ok (.aload_n 0, 1) := by decide +kernel
theorem dX12_comes_26 : decode cX12_comes 26 = .ok (.getfield 76, 3) := by decide +kernel
theorem dX12_comes_29 : decode cX12_comes 29 = .ok (.iload_n 3, 1) := by decide +kernel
theorem dX12_comes_30 : decode cX12_comes 30 = .ok (.iaload, 1) := by decide +kernel
theorem dX12_comes_31 : decode cX12_comes 31 = .ok (.ireturn, 1) := by decide +kernel
theorem dX12_hasCome_0 : decode cX12_hasCome 0 = .ok (.aload_n 0, 1) := by decide +kernel
theorem dX12_hasCome_1 : decode cX12_hasCome 1 = .ok (.iload_n 1, 1) := by decide +kernel
theorem dX12_hasCome_2 : decode cX12_hasCome 2 = .ok (.iload_n 2, 1) := by decide +kernel
theorem dX12_hasCome_3 : decode cX12_hasCome 3 = .ok (.invokevirtual 259, 3) := by decide +kernel
theorem dX12_hasCome_6 : decode cX12_hasCome 6 = .ok (.iload_n 3, 1) := by decide +kernel
theorem dX12_hasCome_7 : decode cX12_hasCome 7 = .ok (.if_icmp .gt 7, 3) := by decide +kernel
theorem dX12_hasCome_10 : decode cX12_hasCome 10 = .ok (.iconst 1, 1) := by decide +kernel
theorem dX12_hasCome_11 : decode cX12_hasCome 11 = .ok (.goto 4, 3) := by decide +kernel
theorem dX12_hasCome_14 : decode cX12_hasCome 14 = .ok (.iconst 0, 1) := by decide +kernel
theorem dX12_hasCome_15 : decode cX12_hasCome 15 = .ok (.ireturn, 1) := by decide +kernel
theorem dX12_lost_0 : decode cX12_lost 0 = .ok (.aload_n 0, 1) := by decide +kernel
theorem dX12_lost_1 : decode cX12_lost 1 = .ok (.iconst 0, 1) := by decide +kernel
theorem dX12_lost_2 : decode cX12_lost 2 = .ok (.putfield 123, 3) := by decide +kernel
theorem dX12_lost_5 : decode cX12_lost 5 = .ok (.aload_n 0, 1) := by decide +kernel
theorem dX12_lost_6 : decode cX12_lost 6 = .ok (.iload_n 1, 1) := by decide +kernel
theorem dX12_lost_7 : decode cX12_lost 7 = .ok (.invokevirtual 262, 3) := by decide +kernel
theorem dX12_lost_10 : decode cX12_lost 10 = .ok (.ifCond .eq 15, 3) := by decide +kernel
theorem dX12_lost_13 : decode cX12_lost 13 = .ok (.aload_n 0, 1) := by decide +kernel
theorem dX12_lost_14 : decode cX12_lost 14 = .ok (.iload_n 2, 1) := by decide +kernel
theorem dX12_lost_15 : decode cX12_lost 15 = .ok (.invokevirtual 265, 3) := by decide +kernel
theorem dX12_lost_18 : decode cX12_lost 18 = .ok (.ifCond .eq 7, 3) := by decide +kernel
theorem dX12_lost_21 : decode cX12_lost 21 = .ok (.iconst 1, 1) := by decide +kernel
theorem dX12_lost_22 : decode cX12_lost 22 = .ok (.goto 4, 3) := by decide +kernel
theorem dX12_lost_25 : decode cX12_lost 25 = .ok (.iconst 0, 1) := by decide +kernel
theorem dX12_lost_26 : decode cX12_lost 26 = .ok (.istore_n 3, 1) := by decide +kernel
theorem dX12_lost_27 : decode cX12_lost 27 = .ok (.iload_n 3, 1) := by decide +kernel
theorem dX12_lost_28 : decode cX12_lost 28 = .ok (.ifCond .eq 34, 3) := by decide +kernel
theorem dX12_lost_31 : decode cX12_lost 31 = .ok (.aload_n 0, 1) := by decide +kernel
theorem dX12_lost_32 : decode cX12_lost 32 = .ok (.getfield 85, 3) := by decide +kernel
theorem dX12_lost_35 : decode cX12_lost 35 = .ok (.bipush 30, 2) := by decide +kernel
theorem dX12_lost_37 : decode cX12_lost 37 = .ok (.iload_n 1, 1) := by decide +kernel
theorem dX12_lost_38 : decode cX12_lost 38 = .ok (.imul, 1) := by decide +kernel
theorem dX12_lost_39 : decode cX12_lost 39 = .ok (.iload_n 2, 1) := by decide +kernel
theorem dX12_lost_40 : decode cX12_lost 40 = .ok (.iadd, 1) := by decide +kernel
theorem dX12_lost_41 : decode cX12_lost 41 = .ok (.baload, 1) := by decide +kernel
theorem dX12_lost_42 : decode cX12_lost 42 = .ok (.ifCond .ne 20, 3) := by decide +kernel
theorem dX12_lost_45 : decode cX12_lost 45 = .ok (.aload_n 0, 1) := by decide +kernel
theorem dX12_lost_46 : decode cX12_lost 46 = .ok (.iload_n 1, 1) := by decide +kernel
theorem dX12_lost_47 : decode cX12_lost 47 = .ok (.iload_n 2, 1) := by decide +kernel
theorem dX12_lost_48 : decode cX12_lost 48 = .ok (.aload_n 0, 1) := by decide +kernel
theorem dX12_lost_49 : decode cX12_lost 49 = .ok (.getfield 239, 3) := by decide +kernel
theorem dX12_lost_52 : decode cX12_lost 52 = .ok (.invokevirtual 268, 3) := by decide +kernel
theorem dX12_lost_55 : decode cX12_lost 55 = .ok (.ifCond .ne 7, 3) := by decide +kernel
theorem dX12_lost_58 : decode cX12_lost 58 = .ok (.iconst 1, 1) := by decide +kernel
theorem dX12_lost_59 : decode cX12_lost 59 = .ok (.goto 4, 3) := by decide +kernel
theorem dX12_lost_62 : decode cX12_lost 62 = .ok (.iconst 0, 1) := by decide +kernel
theorem dX12_lost_63 : decode cX12_lost 63 = .ok (.istore 4, 2) := by decide +kernel
theorem dX12_lost_65 : decode cX12_lost 65 = .ok (.aload_n 0, 1) := by decide +kernel
theorem dX12_lost_66 : decode cX12_lost 66 = .ok (.iload_n 3, 1) := by decide +kernel
theorem dX12_lost_67 : decode cX12_lost 67 = .ok (.ifCond .ne 7, 3) := by decide +kernel
theorem dX12_lost_70 : decode cX12_lost 70 = .ok (.iconst 1, 1) := by decide +kernel
theorem dX12_lost_71 : decode cX12_lost 71 = .ok (.goto 14, 3) := by decide +kernel
theorem dX12_lost_74 : decode cX12_lost 74 = .ok (.iload 4, 2) := by decide +kernel
theorem dX12_lost_76 : decode cX12_lost 76 = .ok (.ifCond .eq 7, 3) := by decide +kernel
theorem dX12_lost_79 : decode cX12_lost 79 = .ok (.iconst 0, 1) := by decide +kernel
theorem dX12_lost_80 : decode cX12_lost 80 = .ok (.goto 5, 3) := by decide +kernel
