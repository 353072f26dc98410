theorem dX8_init_0 : decode cX8_init 0 = .ok (.aload_n 0, 1) := by decide +kernel
theorem dX8_init_1 : decode cX8_init 1 = .ok (.invokespecial 1, 3) := by decide +kernel
theorem dX8_init_4 : decode cX8_init 4 = .ok (.aload_n 0, 1) := by decide +kernel
theorem dX8_init_5 : decode cX8_init 5 = .ok (.iconst 5, 1) := by decide +kernel
theorem dX8_init_6 : decode cX8_init 6 = .ok (.newarray .int, 2) := by decide +kernel
theorem dX8_init_8 : decode cX8_init 8 = .ok (.putfield 7, 3) := by decide +kernel
theorem dX8_init_11 : decode cX8_init 11 = .ok (.aload_n 0, 1) := by decide +kernel
theorem dX8_init_12 : decode cX8_init 12 = .ok (.iconst 5, 1) := by decide +kernel
theorem dX8_init_13 : decode cX8_init 13 = .ok (.newarray .int, 2) := by decide +kernel
theorem dX8_init_15 : decode cX8_init 15 = .ok (.putfield 13, 3) := by decide +kernel
theorem dX8_init_18 : decode cX8_init 18 = .ok (.aload_n 0, 1) := by decide +kernel
theorem dX8_init_19 : decode cX8_init 19 = .ok (.iconst 5, 1) := by decide +kernel
theorem dX8_init_20 : decode cX8_init 20 = .ok (.newarray .int, 2) := by decide +kernel
theorem dX8_init_22 : decode cX8_init 22 = .ok (.putfield 16, 3) := by decide +kernel
theorem dX8_init_25 : decode cX8_init 25 = .ok (.aload_n 0, 1) := by decide +kernel
theorem dX8_init_26 : decode cX8_init 26 = .ok (.iconst 5, 1) := by decide +kernel
theorem dX8_init_27 : decode cX8_init 27 = .ok (.newarray .int, 2) := by decide +kernel
theorem dX8_init_29 : decode cX8_init 29 = .ok (.putfield 19, 3) := by decide +kernel
theorem dX8_init_32 : decode cX8_init 32 = .ok (.aload_n 0, 1) := by decide +kernel
theorem dX8_init_33 : decode cX8_init 33 = .ok (.iconst 5, 1) := by decide +kernel
theorem dX8_init_34 : decode cX8_init 34 = .ok (.newarray .int, 2) := by decide +kernel
theorem dX8_init_36 : decode cX8_init 36 = .ok (.putfield 22, 3) := by decide +kernel
theorem dX8_init_39 : decode cX8_init 39 = .ok (.aload_n 0, 1) := by decide +kernel
theorem dX8_init_40 : decode cX8_init 40 = .ok (.iconst 5, 1) := by decide +kernel
theorem dX8_init_41 : decode cX8_init 41 = .ok (.newarray .int, 2) := by decide +kernel
theorem dX8_init_43 : decode cX8_init 43 = .ok (.putfield 25, 3) := by decide +kernel
theorem dX8_init_46 : decode cX8_init 46 = .ok (.aload_n 0, 1) := by decide +kernel
theorem dX8_init_47 : decode cX8_init 47 = .ok (.sipush 3000, 3) := by decide +kernel
theorem dX8_init_50 : decode cX8_init 50 = .ok (.newarray .int, 2) := by decide +kernel
theorem dX8_init_52 : decode cX8_init 52 = .ok (.putfield 28, 3) := by decide +kernel
theorem dX8_init_55 : decode cX8_init 55 = .ok (.aload_n 0, 1) := by decide +kernel
theorem dX8_init_56 : decode cX8_init 56 = .ok (.bipush 30, 2) := by decide +kernel
theorem dX8_init_58 : decode cX8_init 58 = .ok (.newarray .int, 2) := by decide +kernel
theorem dX8_init_60 : decode cX8_init 60 = .ok (.putfield 31, 3) := by decide +kernel
theorem dX8_init_63 : decode cX8_init 63 = .ok (.aload_n 0, 1) := by decide +kernel
theorem dX8_init_64 : decode cX8_init 64 = .ok (.bipush 30, 2) := by decide +kernel
theorem dX8_init_66 : decode cX8_init 66 = .ok (.newarray .int, 2) := by decide +kernel
theorem dX8_init_68 : decode cX8_init 68 = .ok (.putfield 34, 3) := by decide +kernel
theorem dX8_init_71 : decode cX8_init 71 = .ok (.aload_n 0, 1) := by decide +kernel
theorem dX8_init_72 : decode cX8_init 72 = .ok (.iconst 4, 1) := by decide +kernel
theorem dX8_init_73 : decode cX8_init 73 = .ok (.newarray .boolean, 2) := by decide +kernel
theorem dX8_init_75 : decode cX8_init 75 = .ok (.putfield 37, 3) := by decide +kernel
theorem dX8_init_78 : decode cX8_init 78 = .ok (.aload_n 0, 1) := by decide +kernel
theorem dX8_init_79 : decode cX8_init 79 = .ok (.iconst 5, 1) := by decide +kernel
theorem dX8_init_80 : decode cX8_init 80 = .ok (.putfield 41, 3) := by decide +kernel
theorem dX8_init_83 : decode cX8_init 83 = .ok (.aload_n 0, 1) := by decide +kernel
theorem dX8_init_84 : decode cX8_init 84 = .ok (.iconst 1, 1) := by decide +kernel
theorem dX8_init_85 : decode cX8_init 85 = .ok (.putfield 45, 3) := by decide +kernel
theorem dX8_init_88 : decode cX8_init 88 = .ok (.aload_n 0, 1) := by decide +kernel
theorem dX8_init_89 : decode cX8_init 89 = .ok (.bipush 9, 2) := by decide +kernel
theorem dX8_init_91 : decode cX8_init 91 = .ok (.putfield 48, 3) := by decide +kernel
theorem dX8_init_94 : decode cX8_init 94 = .ok (.aload_n 0, 1) := by decide +kernel
theorem dX8_init_95 : decode cX8_init 95 = .ok (.bipush 36, 2) := by decide +kernel
theorem dX8_init_97 : decode cX8_init 97 = .ok (.newarray .int, 2) := by decide +kernel
theorem dX8_init_99 : decode cX8_init 99 = .ok (.putfield 51, 3) := by decide +kernel
theorem dX8_init_102 : decode cX8_init 102 = .ok (.aload_n 0, 1) := by decide +kernel
theorem dX8_init_103 : decode cX8_init 103 = .ok (.sipush 600, 3) := by decide +kernel
theorem dX8_init_106 : decode cX8_init 106 = .ok (.newarray .boolean, 2) := by decide +kernel
theorem dX8_init_108 : decode cX8_init 108 = .ok (.putfield 54, 3) := by decide +kernel
theorem dX8_init_111 : decode cX8_init 111 = .ok (.aload_n 0, 1) := by decide +kernel
theorem dX8_init_112 : decode cX8_init 112 = .ok (.bipush 6, 2) := by decide +kernel
theorem dX8_init_114 : decode cX8_init 114 = .ok (.newarray .int, 2) := by decide +kernel
theorem dX8_init_116 : decode cX8_init 116 = .ok (.putfield 57, 3) := by decide +kernel
theorem dX8_init_119 : decode cX8_init 119 = .ok (.aload_n 0, 1) := by decide +kernel
theorem dX8_init_120 : decode cX8_init 120 = .ok (.bipush 6, 2) := by decide +kernel
theorem dX8_init_122 : decode cX8_init 122 = .ok (.newarray .int, 2) := by decide +kernel
theorem dX8_init_124 : decode cX8_init 124 = .ok (.putfield 60, 3) := by decide +kernel
theorem dX8_init_127 : decode cX8_init 127 = .ok (.aload_n 0, 1) := by decide +kernel
theorem dX8_init_128 : decode cX8_init 128 = .ok (.bipush 13, 2) := by decide +kernel
theorem dX8_init_130 : decode cX8_init 130 = .ok (.newarray .int, 2) := by decide +kernel
theorem dX8_init_132 : decode cX8_init 132 = .ok (.putfield 63, 3) := by decide +kernel
theorem dX8_init_135 : decode cX8_init 135 = .ok (.aload_n 0, 1) := by decide +kernel
theorem dX8_init_136 : decode cX8_init 136 = .ok (.sipush 600, 3) := by decide +kernel
theorem dX8_init_139 : decode cX8_init 139 = .ok (.newarray .int, 2) := by decide +kernel
theorem dX8_init_141 : decode cX8_init 141 = .ok (.putfield 66, 3) := by decide +kernel
theorem dX8_init_144 : decode cX8_init 144 = .ok (.aload_n 0, 1) := by decide +kernel
theorem dX8_init_145 : decode cX8_init 145 = .ok (.sipush 600, 3) := by decide +kernel
theorem dX8_init_148 : decode cX8_init 148 = .ok (.newarray .int, 2) := by decide +kernel
theorem dX8_init_150 : decode cX8_init 150 = .ok (.putfield 69, 3) := by decide +kernel
theorem dX8_init_153 : decode cX8_init 153 = .ok (.aload_n 0, 1) := by decide +kernel
theorem dX8_init_154 : decode cX8_init 154 = .ok (.sipush 1300, 3) := by decide +kernel
theorem dX8_init_157 : decode cX8_init 157 = .ok (.newarray .int, 2) := by decide +kernel
theorem dX8_init_159 : decode cX8_init 159 = .ok (.putfield 72, 3) := by decide +kernel
theorem dX8_init_162 : decode cX8_init 162 = .ok (.aload_n 0, 1) := by decide +kernel
theorem dX8_init_163 : decode cX8_init 163 = .ok (.bipush 81, 2) := by decide +kernel
theorem dX8_init_165 : decode cX8_init 165 = .ok (.newarray .boolean, 2) := by decide +kernel
theorem dX8_init_167 : decode cX8_init 167 = .ok (.putfield 75, 3) := by decide +kernel
theorem dX8_init_170 : decode cX8_init 170 = .ok (.aload_n 0, 1) := by decide +kernel
theorem dX8_init_171 : decode cX8_init 171 = .ok (.bipush 81, 2) := by decide +kernel
theorem dX8_init_173 : decode cX8_init 173 = .ok (.newarray .boolean, 2) := by decide +kernel
theorem dX8_init_175 : decode cX8_init 175 = .ok (.putfield 78, 3) := by decide +kernel
theorem dX8_init_178 : decode cX8_init 178 = .ok (.aload_n 0, 1) := by decide +kernel
theorem dX8_init_179 : decode cX8_init 179 = .ok (.bipush 10, 2) := by decide +kernel
theorem dX8_init_181 : decode cX8_init 181 = .ok (.newarray .int, 2) := by decide +kernel
theorem dX8_init_183 : decode cX8_init 183 = .ok (.putfield 81, 3) := by decide +kernel
theorem dX8_init_186 : decode cX8_init 186 = .ok (.aload_n 0, 1) := by decide +kernel
theorem dX8_init_187 : decode cX8_init 187 = .ok (.bipush 10, 2) := by decide +kernel
theorem dX8_init_189 : decode cX8_init 189 = .ok (.newarray .int, 2) := by decide +kernel
theorem dX8_init_191 : decode cX8_init 191 = .ok (.putfield 84, 3) := by decide +kernel
theorem dX8_init_194 : decode cX8_init 194 = .ok (.aload_n 0, 1) := by decide +kernel
theorem dX8_init_195 : decode cX8_init 195 = .ok (.bipush 16, 2) := by decide +kernel
theorem dX8_init_197 : decode cX8_init 197 = .ok (.newarray .int, 2) := by decide +kernel
theorem dX8_init_199 : decode cX8_init 199 = .ok (.putfield 87, 3) := by decide +kernel
theorem dX8_init_202 : decode cX8_init 202 = .ok (.aload_n 0, 1) := by decide +kernel
theorem dX8_init_203 : decode cX8_init 203 = .ok (.sipush 1024, 3) := by decide +kernel
theorem dX8_init_206 : decode cX8_init 206 = .ok (.newarray .int, 2) := by decide +kernel
theorem dX8_init_208 : decode cX8_init 208 = .ok (.putfield 90, 3) := by decide +kernel
theorem dX8_init_211 : decode cX8_init 211 = .ok (.aload_n 0, 1) := by decide +kernel
theorem dX8_init_212 : decode cX8_init 212 = .ok (.bipush 10, 2) := by decide +kernel
theorem dX8_init_214 : decode cX8_init 214 = .ok (.newarray .int, 2) := by decide +kernel
theorem dX8_init_216 : decode cX8_init 216 = .ok (.putfield 93, 3) := by decide +kernel
theorem dX8_init_219 : decode cX8_init 219 = .ok (.aload_n 0, 1) := by decide +kernel
theorem dX8_init_220 : decode cX8_init 220 = .ok (.sipush 3721, 3) := by decide +kernel
theorem dX8_init_223 : decode cX8_init 223 = .ok (.newarray .long, 2) := by decide +kernel
theorem dX8_init_225 : decode cX8_init 225 = .ok (.putfield 96, 3) := by decide +kernel
theorem dX8_init_228 : decode cX8_init 228 = .ok (.aload_n 0, 1) := by decide +kernel
theorem dX8_init_229 : decode cX8_init 229 = .ok (.getfield 7, 3) := by decide +kernel
theorem dX8_init_232 : decode cX8_init 232 = .ok (.iconst 4, 1) := by decide +kernel
theorem dX8_init_233 : decode cX8_init 233 = .ok (.iconst 5, 1) := by decide +kernel
theorem dX8_init_234 : decode cX8_init 234 = .ok (.iastore, 1) := by decide +kernel
theorem dX8_init_235 : decode cX8_init 235 = .ok (.aload_n 0, 1) := by decide +kernel
theorem dX8_init_236 : decode cX8_init 236 = .ok (.getfield 13, 3) := by decide +kernel
theorem dX8_init_239 : decode cX8_init 239 = .ok (.iconst 4, 1) := by decide +kernel
theorem dX8_init_240 : decode cX8_init 240 = .ok (.iconst 5, 1) := by decide +kernel
theorem dX8_init_241 : decode cX8_init 241 = .ok (.iastore, 1) := by decide +kernel
theorem dX8_init_242 : decode cX8_init 242 = .ok (.aload_n 0, 1) := by decide +kernel
theorem dX8_init_243 : decode cX8_init 243 = .ok (.getfield 16, 3) := by decide +kernel
theorem dX8_init_246 : decode cX8_init 246 = .ok (.iconst 4, 1) := by decide +kernel
theorem dX8_init_247 : decode cX8_init 247 = .ok (.iconst 2, 1) := by decide +kernel
theorem dX8_init_248 : decode cX8_init 248 = .ok (.iastore, 1) := by decide +kernel
theorem dX8_init_249 : decode cX8_init 249 = .ok (.aload_n 0, 1) := by decide +kernel
theorem dX8_init_250 : decode cX8_init 250 = .ok (.getfield 19, 3) := by decide +kernel
theorem dX8_init_253 : decode cX8_init 253 = .ok (.iconst 4, 1) := by decide +kernel
theorem dX8_init_254 : decode cX8_init 254 = .ok (.iconst 2, 1) := by decide +kernel
theorem dX8_init_255 : decode cX8_init 255 = .ok (.iastore, 1) := by decide +kernel
theorem dX8_init_256 : decode cX8_init 256 = .ok (.iconst 0, 1) := by decide +kernel
theorem dX8_init_257 : decode cX8_init 257 = .ok (.istore_n 1, 1) := by decide +kernel
theorem dX8_init_258 : decode cX8_init 258 = .ok (.iload_n 1, 1) := by decide +kernel
theorem dX8_init_259 : decode cX8_init 259 = .ok (.bipush 61, 2) := by decide +kernel
theorem dX8_init_261 : decode cX8_init 261 = .ok (.if_icmp .ge 75, 3) := by decide +kernel
theorem dX8_init_264 : decode cX8_init 264 = .ok (.iconst 0, 1) := by decide +kernel
theorem dX8_init_265 : decode cX8_init 265 = .ok (.istore_n 2, 1) := by decide +kernel
theorem dX8_init_266 : decode cX8_init 266 = .ok (.iload_n 2, 1) := by decide +kernel
theorem dX8_init_267 : decode cX8_init 267 = .ok (.iload_n 1, 1) := by decide +kernel
theorem dX8_init_268 : decode cX8_init 268 = .ok (.if_icmp .gt 62, 3) := by decide +kernel
theorem dX8_init_271 : decode cX8_init 271 = .ok (.aload_n 0, 1) := by decide +kernel
theorem dX8_init_272 : decode cX8_init 272 = .ok (.getfield 96, 3) := by decide +kernel
theorem dX8_init_275 : decode cX8_init 275 = .ok (.bipush 61, 2) := by decide +kernel
theorem dX8_init_277 : decode cX8_init 277 = .ok (.iload_n 1, 1) := by decide +kernel
theorem dX8_init_278 : decode cX8_init 278 = .ok (.imul, 1) := by decide +kernel
theorem dX8_init_279 : decode cX8_init 279 = .ok (.iload_n 2, 1) := by decide +kernel
theorem dX8_init_280 : decode cX8_init 280 = .ok (.iadd, 1) := by decide +kernel
theorem dX8_init_281 : decode cX8_init 281 = .ok (.iload_n 2, 1) := by decide +kernel
theorem dX8_init_282 : decode cX8_init 282 = .ok (.ifCond .eq 8, 3) := by decide +kernel
theorem dX8_init_285 : decode cX8_init 285 = .ok (.iload_n 2, 1) := by decide +kernel
theorem dX8_init_286 : decode cX8_init 286 = .ok (.iload_n 1, 1) := by decide +kernel
theorem dX8_init_287 : decode cX8_init 287 = .ok (.if_icmp .ne 7, 3) := by decide +kernel
theorem dX8_init_290 : decode cX8_init 290 = .ok (.lconst 1, 1) := by decide +kernel
theorem dX8_init_291 : decode cX8_init 291 = .ok (.goto 32, 3) := by decide +kernel
theorem dX8_init_294 : decode cX8_init 294 = .ok (.aload_n 0, 1) := by decide +kernel
theorem dX8_init_295 : decode cX8_init 295 = .ok (.getfield 96, 3) := by decide +kernel
theorem dX8_init_298 : decode cX8_init 298 = .ok (.bipush 61, 2) := by decide +kernel
theorem dX8_init_300 : decode cX8_init 300 = .ok (.iload_n 1, 1) := by decide +kernel
theorem dX8_init_301 : decode cX8_init 301 = .ok (.iconst 1, 1) := by decide +kernel
theorem dX8_init_302 : decode cX8_init 302 = .ok (.isub, 1) := by decide +kernel
theorem dX8_init_303 : decode cX8_init 303 = .ok (.imul, 1) := by decide +kernel
theorem dX8_init_304 : decode cX8_init 304 = .ok (.iload_n 2, 1) := by decide +kernel
theorem dX8_init_305 : decode cX8_init 305 = .ok (.iadd, 1) := by decide +kernel
theorem dX8_init_306 : decode cX8_init 306 = .ok (.iconst 1, 1) := by decide +kernel
theorem dX8_init_307 : decode cX8_init 307 = .ok (.isub, 1) := by decide +kernel
theorem dX8_init_308 : decode cX8_init 308 = .ok (.laload, 1) := by decide +kernel
theorem dX8_init_309 : decode cX8_init 309 = .ok (.aload_n 0, 1) := by decide +kernel
theorem dX8_init_310 : decode cX8_init 310 = .ok (.getfield 96, 3) := by decide +kernel
theorem dX8_init_313 : decode cX8_init 313 = .ok (.bipush 61, 2) := by decide +kernel
theorem dX8_init_315 : decode cX8_init 315 = .ok (.iload_n 1, 1) := by decide +kernel
theorem dX8_init_316 : decode cX8_init 316 = .ok (.iconst 1, 1) := by decide +kernel
theorem dX8_init_317 : decode cX8_init 317 = .ok (.isub, 1) := by decide +kernel
theorem dX8_init_318 : decode cX8_init 318 = .ok (.imul, 1) := by decide +kernel
theorem dX8_init_319 : decode cX8_init 319 = .ok (.iload_n 2, 1) := by decide +kernel
theorem dX8_init_320 : decode cX8_init 320 = .ok (.iadd, 1) := by decide +kernel
theorem dX8_init_321 : decode cX8_init 321 = .ok (.laload, 1) := by decide +kernel
theorem dX8_init_322 : decode cX8_init 322 = .ok (.ladd, 1) := by decide +kernel
theorem dX8_init_323 : decode cX8_init 323 = .ok (.lastore, 1) := by decide +kernel
theorem dX8_init_324 : decode cX8_init 324 = .ok (.iinc 2 1, 3) := by decide +kernel
theorem dX8_init_327 : decode cX8_init 327 = .ok (.goto (-61), 3) := by decide +kernel
theorem dX8_init_330 : decode cX8_init 330 = .ok (.iinc 1 1, 3) := by decide +kernel
theorem dX8_init_333 : decode cX8_init 333 = .ok (.goto (-75), 3) := by decide +kernel
theorem dX8_init_336 : decode cX8_init 336 = .ok (.return_, 1) := by decide +kernel
theorem dX8_in_0 : decode cX8_in 0 = .ok (.lload_n 0, 1) := by decide +kernel
theorem dX8_in_1 : decode cX8_in 1 = .ok (.lload_n 2, 1) := by decide +kernel
theorem dX8_in_2 : decode cX8_in 2 = .ok (.lcmp, 1) := by decide +kernel
theorem dX8_in_3 : decode cX8_in 3 = .ok (.ifCond .lt 14, 3) := by decide +kernel
theorem dX8_in_6 : decode cX8_in 6 = .ok (.lload_n 0, 1) := by decide +kernel
theorem dX8_in_7 : decode cX8_in 7 = .ok (.lload 4, 2) := by decide +kernel
theorem dX8_in_9 : decode cX8_in 9 = .ok (.lcmp, 1) := by decide +kernel
theorem dX8_in_10 : decode cX8_in 10 = .ok (.ifCond .gt 7, 3) := by decide +kernel
theorem dX8_in_13 : decode cX8_in 13 = .ok (.iconst 1, 1) := by decide +kernel
theorem dX8_in_14 : decode cX8_in 14 = .ok (.goto 4, 3) := by decide +kernel
theorem dX8_in_17 : decode cX8_in 17 = .ok (.iconst 0, 1) := by decide +kernel
theorem dX8_in_18 : decode cX8_in 18 = .ok (.ireturn, 1) := by decide +kernel
theorem dX8_size_0 : decode cX8_size 0 = .ok (.iload_n 0, 1) := by decide +kernel
theorem dX8_size_1 : decode cX8_size 1 = .ok (.ifCond .ge 8, 3) := by decide +kernel
theorem dX8_size_4 : decode cX8_size 4 = .ok (.iload_n 0, 1) := by decide +kernel
theorem dX8_size_5 : decode cX8_size 5 = .ok (.ineg, 1) := by decide +kernel
theorem dX8_size_6 : decode cX8_size 6 = .ok (.goto 4, 3) := by decide +kernel
theorem dX8_size_9 : decode cX8_size 9 = .ok (.iload_n 0, 1) := by decide +kernel
theorem dX8_size_10 : decode cX8_size 10 = .ok (.ireturn, 1) := by decide +kernel
set_option maxRecDepth 20000 in
theorem ggX8_noHand_X8_in : GoodIn wsX8_noHand wsX8_in := goodIn_r _ [5] (by decide +kernel) (by decide +kernel)
set_option maxRecDepth 20000 in
theorem gX8_noHand_X8_in : GoodIn wsX8_noHand (va_wsS RX8 103 yX8_in wsX8_in) := goodIn_app (goodIn_of _ (by decide +kernel)) ggX8_noHand_X8_in
theorem dX8_noHand_0 : decode cX8_noHand 0 = .ok (.iload_n 1, 1) := by decide +kernel
theorem dX8_noHand_1 : decode cX8_noHand 1 = .ok (.i2l, 1) := by decide +kernel
theorem dX8_noHand_2 : decode cX8_noHand 2 = .ok (.lconst 0, 1) := by decide +kernel
theorem dX8_noHand_3 : decode cX8_noHand 3 = .ok (.aload_n 0, 1) := by decide +kernel
theorem dX8_noHand_4 : decode cX8_noHand 4 = .ok (.getfield 16, 3) := by decide +kernel
theorem dX8_noHand_7 : decode cX8_noHand 7 = .ok (.iconst 4, 1) := by decide +kernel
theorem dX8_noHand_8 : decode cX8_noHand 8 = .ok (.iaload, 1) := by decide +kernel
theorem dX8_noHand_9 : decode cX8_noHand 9 = .ok (.iconst 1, 1) := by decide +kernel
theorem dX8_noHand_10 : decode cX8_noHand 10 = .ok (.isub, 1) := by decide +kernel
theorem dX8_noHand_11 : decode cX8_noHand 11 = .ok (.i2l, 1) := by decide +kernel
theorem dX8_noHand_12 : decode cX8_noHand 12 = .ok (.invokestatic 103, 3) := by decide +kernel
theorem dX8_noHand_15 : decode cX8_noHand 15 = .ok (.ifCond .ne 7, 3) := by decide +kernel
theorem dX8_noHand_18 : decode cX8_noHand 18 = .ok (.iconst 1, 1) := by decide +kernel
theorem dX8_noHand_19 : decode cX8_noHand 19 = .ok (.goto 4, 3) := by decide +kernel
theorem dX8_noHand_22 : decode cX8_noHand 22 = .ok (.iconst 0, 1) := by decide +kernel
theorem dX8_noHand_23 : decode cX8_noHand 23 = .ok (.ireturn, 1) := by decide +kernel
set_option maxRecDepth 20000 in
theorem ggX8_noTick_X8_in : GoodIn wsX8_noTick wsX8_in := goodIn_r _ [5] (by decide +kernel) (by decide +kernel)
set_option maxRecDepth 20000 in
theorem gX8_noTick_X8_in : GoodIn wsX8_noTick (va_wsS RX8 103 yX8_in wsX8_in) := goodIn_app (goodIn_of _ (by decide +kernel)) ggX8_noTick_X8_in
theorem dX8_noTick_0 : decode cX8_noTick 0 = .ok (.iload_n 0, 1) := by decide +kernel
theorem dX8_noTick_1 : decode cX8_noTick 1 = .ok (.i2l, 1) := by decide +kernel
theorem dX8_noTick_2 : decode cX8_noTick 2 = .ok (.lconst 0, 1) := by decide +kernel
theorem dX8_noTick_3 : decode cX8_noTick 3 = .ok (.ldc2_w 107, 3) := by decide +kernel
theorem dX8_noTick_6 : decode cX8_noTick 6 = .ok (.invokestatic 103, 3) := by decide +kernel
theorem dX8_noTick_9 : decode cX8_noTick 9 = .ok (.ifCond .ne 7, 3) := by decide +kernel
theorem dX8_noTick_12 : decode cX8_noTick 12 = .ok (.iconst 1, 1) := by decide +kernel
theorem dX8_noTick_13 : decode cX8_noTick 13 = .ok (.goto 4, 3) := by decide +kernel
theorem dX8_noTick_16 : decode cX8_noTick 16 = .ok (.iconst 0, 1) := by decide +kernel
theorem dX8_noTick_17 : decode cX8_noTick 17 = .ok (.ireturn, 1) := by decide +kernel
set_option maxRecDepth 20000 in
theorem ggX8_field_X8_in : GoodIn wsX8_field wsX8_in := goodIn_r _ [17] (by decide +kernel) (by decide +kernel)
set_option maxRecDepth 20000 in
theorem gX8_field_X8_in : GoodIn wsX8_field (va_wsS RX8 103 yX8_in wsX8_in) := goodIn_app (goodIn_of _ (by decide +kernel)) ggX8_field_X8_in
theorem dX8_field_0 : decode cX8_field 0 = .ok (.aload_n 0, 1) := by decide +kernel
theorem dX8_field_1 : decode cX8_field 1 = .ok (.iconst 0, 1) := by decide +kernel
theorem dX8_field_2 : decode cX8_field 2 = .ok (.putfield 100, 3) := by decide +kernel
theorem dX8_field_5 : decode cX8_field 5 = .ok (.iload_n 1, 1) := by decide +kernel
theorem dX8_field_6 : decode cX8_field 6 = .ok (.i2l, 1) := by decide +kernel
theorem dX8_field_7 : decode cX8_field 7 = .ok (.ldc2_w 109, 3) := by decide +kernel
theorem dX8_field_10 : decode cX8_field 10 = .ok (.ldc2_w 111, 3) := by decide +kernel
theorem dX8_field_13 : decode cX8_field 13 = .ok (.invokestatic 103, 3) := by decide +kernel
theorem dX8_field_16 : decode cX8_field 16 = .ok (.ifCond .eq 31, 3) := by decide +kernel
theorem dX8_field_19 : decode cX8_field 19 = .ok (.iload_n 2, 1) := by decide +kernel
theorem dX8_field_20 : decode cX8_field 20 = .ok (.i2l, 1) := by decide +kernel
theorem dX8_field_21 : decode cX8_field 21 = .ok (.ldc2_w 109, 3) := by decide +kernel
theorem dX8_field_24 : decode cX8_field 24 = .ok (.ldc2_w 111, 3) := by decide +kernel
theorem dX8_field_27 : decode cX8_field 27 = .ok (.invokestatic 103, 3) := by decide +kernel
theorem dX8_field_30 : decode cX8_field 30 = .ok (.ifCond .eq 17, 3) := by decide +kernel
theorem dX8_field_33 : decode cX8_field 33 = .ok (.iload_n 3, 1) := by decide +kernel
theorem dX8_field_34 : decode cX8_field 34 = .ok (.i2l, 1) := by decide +kernel
theorem dX8_field_35 : decode cX8_field 35 = .ok (.ldc2_w 113, 3) := by decide +kernel
theorem dX8_field_38 : decode cX8_field 38 = .ok (.ldc2_w 115, 3) := by decide +kernel
theorem dX8_field_41 : decode cX8_field 41 = .ok (.invokestatic 103, 3) := by decide +kernel
theorem dX8_field_44 : decode cX8_field 44 = .ok (.ifCond .ne 6, 3) := by decide +kernel
theorem dX8_field_47 : decode cX8_field 47 = .ok (.bipush (-2), 2) := by decide +kernel
theorem dX8_field_49 : decode cX8_field 49 = .ok (.ireturn, 1) := by decide +kernel
theorem dX8_field_50 : decode cX8_field 50 = .ok (.aload_n 0, 1) := by decide +kernel
theorem dX8_field_51 : decode cX8_field 51 = .ok (.getfield 7, 3) := by decide +kernel
theorem dX8_field_54 : decode cX8_field 54 = .ok (.iconst 4, 1) := by decide +kernel
theorem dX8_field_55 : decode cX8_field 55 = .ok (.iload_n 1, 1) := by decide +kernel
theorem dX8_field_56 : decode cX8_field 56 = .ok (.iastore, 1) := by decide +kernel
theorem dX8_field_57 : decode cX8_field 57 = .ok (.aload_n 0, 1) := by decide +kernel
theorem dX8_field_58 : decode cX8_field 58 = .ok (.getfield 13, 3) := by decide +kernel
theorem dX8_field_61 : decode cX8_field 61 = .ok (.iconst 4, 1) := by decide +kernel
theorem dX8_field_62 : decode cX8_field 62 = .ok (.iload_n 2, 1) := by decide +kernel
theorem dX8_field_63 : decode cX8_field 63 = .ok (.iastore, 1) := by decide +kernel
theorem dX8_field_64 : decode cX8_field 64 = .ok (.aload_n 0, 1) := by decide +kernel
theorem dX8_field_65 : decode cX8_field 65 = .ok (.getfield 16, 3) := by decide +kernel
theorem dX8_field_68 : decode cX8_field 68 = .ok (.iconst 4, 1) := by decide +kernel
theorem dX8_field_69 : decode cX8_field 69 = .ok (.iload_n 3, 1) := by decide +kernel
theorem dX8_field_70 : decode cX8_field 70 = .ok (.iastore, 1) := by decide +kernel
theorem dX8_field_71 : decode cX8_field 71 = .ok (.iconst 0, 1) := by decide +kernel
theorem dX8_field_72 : decode cX8_field 72 = .ok (.istore 4, 2) := by decide +kernel
theorem dX8_field_74 : decode cX8_field 74 = .ok (.iload 4, 2) := by decide +kernel
theorem dX8_field_76 : decode cX8_field 76 = .ok (.sipush 600, 3) := by decide +kernel
theorem dX8_field_79 : decode cX8_field 79 = .ok (.if_icmp .ge 29, 3) := by decide +kernel
theorem dX8_field_82 : decode cX8_field 82 = .ok (.aload_n 0, 1) := by decide +kernel
theorem dX8_field_83 : decode cX8_field 83 = .ok (.getfield 28, 3) := by decide +kernel
theorem dX8_field_86 : decode cX8_field 86 = .ok (.sipush 2400, 3) := by decide +kernel
theorem dX8_field_89 : decode cX8_field 89 = .ok (.iload 4, 2) := by decide +kernel
theorem dX8_field_91 : decode cX8_field 91 = .ok (.iadd, 1) := by decide +kernel
theorem dX8_field_92 : decode cX8_field 92 = .ok (.iconst 0, 1) := by decide +kernel
theorem dX8_field_93 : decode cX8_field 93 = .ok (.iastore, 1) := by decide +kernel
theorem dX8_field_94 : decode cX8_field 94 = .ok (.aload_n 0, 1) := by decide +kernel
theorem dX8_field_95 : decode cX8_field 95 = .ok (.getfield 54, 3) := by decide +kernel
theorem dX8_field_98 : decode cX8_field 98 = .ok (.iload 4, 2) := by decide +kernel
theorem dX8_field_100 : decode cX8_field 100 = .ok (.iconst 0, 1) := by decide +kernel
theorem dX8_field_101 : decode cX8_field 101 = .ok (.bastore, 1) := by decide +kernel
theorem dX8_field_102 : decode cX8_field 102 = .ok (.iinc 4 1, 3) := by decide +kernel
theorem dX8_field_105 : decode cX8_field 105 = .ok (.goto (-31), 3) := by decide +kernel
theorem dX8_field_108 : decode cX8_field 108 = .ok (.iconst 0, 1) := by decide +kernel
theorem dX8_field_109 : decode cX8_field 109 = .ok (.istore 4, 2) := by decide +kernel
theorem dX8_field_111 : decode cX8_field 111 = .ok (.iload 4, 2) := by decide +kernel
theorem dX8_field_113 : decode cX8_field 113 = .ok (.bipush 6, 2) := by decide +kernel
theorem dX8_field_115 : decode cX8_field 115 = .ok (.if_icmp .ge 31, 3) := by decide +kernel
theorem dX8_field_118 : decode cX8_field 118 = .ok (.aload_n 0, 1) := by decide +kernel
theorem dX8_field_119 : decode cX8_field 119 = .ok (.getfield 31, 3) := by decide +kernel
theorem dX8_field_122 : decode cX8_field 122 = .ok (.bipush 24, 2) := by decide +kernel
theorem dX8_field_124 : decode cX8_field 124 = .ok (.iload 4, 2) := by decide +kernel
theorem dX8_field_126 : decode cX8_field 126 = .ok (.iadd, 1) := by decide +kernel
theorem dX8_field_127 : decode cX8_field 127 = .ok (.iconst 0, 1) := by decide +kernel
theorem dX8_field_128 : decode cX8_field 128 = .ok (.iastore, 1) := by decide +kernel
theorem dX8_field_129 : decode cX8_field 129 = .ok (.aload_n 0, 1) := by decide +kernel
theorem dX8_field_130 : decode cX8_field 130 = .ok (.getfield 34, 3) := by decide +kernel
theorem dX8_field_133 : decode cX8_field 133 = .ok (.bipush 24, 2) := by decide +kernel
theorem dX8_field_135 : decode cX8_field 135 = .ok (.iload 4, 2) := by decide +kernel
theorem dX8_field_137 : decode cX8_field 137 = .ok (.iadd, 1) := by decide +kernel
theorem dX8_field_138 : decode cX8_field 138 = .ok (.iconst 0, 1) := by decide +kernel
theorem dX8_field_139 : decode cX8_field 139 = .ok (.iastore, 1) := by decide +kernel
theorem dX8_field_140 : decode cX8_field 140 = .ok (.iinc 4 1, 3) := by decide +kernel
theorem dX8_field_143 : decode cX8_field 143 = .ok (.goto (-32), 3) := by decide +kernel
theorem dX8_field_146 : decode cX8_field 146 = .ok (.iconst 0, 1) := by decide +kernel
theorem dX8_field_147 : decode cX8_field 147 = .ok (.istore 4, 2) := by decide +kernel
theorem dX8_field_149 : decode cX8_field 149 = .ok (.iload 4, 2) := by decide +kernel
theorem dX8_field_151 : decode cX8_field 151 = .ok (.bipush 36, 2) := by decide +kernel
theorem dX8_field_153 : decode cX8_field 153 = .ok (.if_icmp .ge 17, 3) := by decide +kernel
theorem dX8_field_156 : decode cX8_field 156 = .ok (.aload_n 0, 1) := by decide +kernel
theorem dX8_field_157 : decode cX8_field 157 = .ok (.getfield 51, 3) := by decide +kernel
theorem dX8_field_160 : decode cX8_field 160 = .ok (.iload 4, 2) := by decide +kernel
theorem dX8_field_162 : decode cX8_field 162 = .ok (.iconst 0, 1) := by decide +kernel
theorem dX8_field_163 : decode cX8_field 163 = .ok (.iastore, 1) := by decide +kernel
theorem dX8_field_164 : decode cX8_field 164 = .ok (.iinc 4 1, 3) := by decide +kernel
theorem dX8_field_167 : decode cX8_field 167 = .ok (.goto (-18), 3) := by decide +kernel
theorem dX8_field_170 : decode cX8_field 170 = .ok (.iload_n 1, 1) := by decide +kernel
theorem dX8_field_171 : decode cX8_field 171 = .ok (.iload_n 2, 1) := by decide +kernel
theorem dX8_field_172 : decode cX8_field 172 = .ok (.imul, 1) := by decide +kernel
theorem dX8_field_173 : decode cX8_field 173 = .ok (.ireturn, 1) := by decide +kernel
set_option maxRecDepth 20000 in
theorem ggX8_rule_X8_in : GoodIn wsX8_rule wsX8_in := goodIn_r _ [13] (by decide +kernel) (by decide +kernel)
set_option maxRecDepth 20000 in
theorem gX8_rule_X8_in : GoodIn wsX8_rule (va_wsS RX8 103 yX8_in wsX8_in) := goodIn_app (goodIn_of _ (by decide +kernel)) ggX8_rule_X8_in
theorem dX8_rule_0 : decode cX8_rule 0 = .ok (.aload_n 0, 1) := by decide +kernel
theorem dX8_rule_1 : decode cX8_rule 1 = .ok (.iconst 0, 1) := by decide +kernel
theorem dX8_rule_2 : decode cX8_rule 2 = .ok (.putfield 100, 3) := by decide +kernel
theorem dX8_rule_5 : decode cX8_rule 5 = .ok (.iload_n 1, 1) := by decide +kernel
theorem dX8_rule_6 : decode cX8_rule 6 = .ok (.i2l, 1) := by decide +kernel
theorem dX8_rule_7 : decode cX8_rule 7 = .ok (.lconst 0, 1) := by decide +kernel
theorem dX8_rule_8 : decode cX8_rule 8 = .ok (.ldc2_w 115, 3) := by decide +kernel
theorem dX8_rule_11 : decode cX8_rule 11 = .ok (.invokestatic 103, 3) := by decide +kernel
theorem dX8_rule_14 : decode cX8_rule 14 = .ok (.ifCond .ne 6, 3) := by decide +kernel
theorem dX8_rule_17 : decode cX8_rule 17 = .ok (.bipush (-2), 2) := by decide +kernel
theorem dX8_rule_19 : decode cX8_rule 19 = .ok (.ireturn, 1) := by decide +kernel
theorem dX8_rule_20 : decode cX8_rule 20 = .ok (.iload_n 1, 1) := by decide +kernel
theorem dX8_rule_21 : decode cX8_rule 21 = .ok (.ifCond .ne 7, 3) := by decide +kernel
theorem dX8_rule_24 : decode cX8_rule 24 = .ok (.iconst 5, 1) := by decide +kernel
theorem dX8_rule_25 : decode cX8_rule 25 = .ok (.goto 31, 3) := by decide +kernel
theorem dX8_rule_28 : decode cX8_rule 28 = .ok (.iload_n 1, 1) := by decide +kernel
theorem dX8_rule_29 : decode cX8_rule 29 = .ok (.iconst 2, 1) := by decide +kernel
theorem dX8_rule_30 : decode cX8_rule 30 = .ok (.if_icmp .ne 9, 3) := by decide +kernel
theorem dX8_rule_33 : decode cX8_rule 33 = .ok (.sipush 999, 3) := by decide +kernel
theorem dX8_rule_36 : decode cX8_rule 36 = .ok (.goto 20, 3) := by decide +kernel
theorem dX8_rule_39 : decode cX8_rule 39 = .ok (.iload_n 1, 1) := by decide +kernel
theorem dX8_rule_40 : decode cX8_rule 40 = .ok (.iconst 4, 1) := by decide +kernel
theorem dX8_rule_41 : decode cX8_rule 41 = .ok (.if_icmp .eq 8, 3) := by decide +kernel
theorem dX8_rule_44 : decode cX8_rule 44 = .ok (.iload_n 1, 1) := by decide +kernel
theorem dX8_rule_45 : decode cX8_rule 45 = .ok (.iconst 5, 1) := by decide +kernel
theorem dX8_rule_46 : decode cX8_rule 46 = .ok (.if_icmp .ne 8, 3) := by decide +kernel
theorem dX8_rule_49 : decode cX8_rule 49 = .ok (.bipush 99, 2) := by decide +kernel
theorem dX8_rule_51 : decode cX8_rule 51 = .ok (.goto 5, 3) := by decide +kernel
theorem dX8_rule_54 : decode cX8_rule 54 = .ok (.bipush 9, 2) := by decide +kernel
theorem dX8_rule_56 : decode cX8_rule 56 = .ok (.istore_n 3, 1) := by decide +kernel
theorem dX8_rule_57 : decode cX8_rule 57 = .ok (.iload_n 2, 1) := by decide +kernel
theorem dX8_rule_58 : decode cX8_rule 58 = .ok (.i2l, 1) := by decide +kernel
theorem dX8_rule_59 : decode cX8_rule 59 = .ok (.iload_n 1, 1) := by decide +kernel
theorem dX8_rule_60 : decode cX8_rule 60 = .ok (.ifCond .ne 7, 3) := by decide +kernel
theorem dX8_rule_63 : decode cX8_rule 63 = .ok (.lconst 1, 1) := by decide +kernel
theorem dX8_rule_64 : decode cX8_rule 64 = .ok (.goto 4, 3) := by decide +kernel
theorem dX8_rule_67 : decode cX8_rule 67 = .ok (.lconst 0, 1) := by decide +kernel
theorem dX8_rule_68 : decode cX8_rule 68 = .ok (.iload_n 3, 1) := by decide +kernel
theorem dX8_rule_69 : decode cX8_rule 69 = .ok (.i2l, 1) := by decide +kernel
theorem dX8_rule_70 : decode cX8_rule 70 = .ok (.invokestatic 103, 3) := by decide +kernel
theorem dX8_rule_73 : decode cX8_rule 73 = .ok (.ifCond .ne 6, 3) := by decide +kernel
theorem dX8_rule_76 : decode cX8_rule 76 = .ok (.bipush (-2), 2) := by decide +kernel
theorem dX8_rule_78 : decode cX8_rule 78 = .ok (.ireturn, 1) := by decide +kernel
theorem dX8_rule_79 : decode cX8_rule 79 = .ok (.iconst 0, 1) := by decide +kernel
theorem dX8_rule_80 : decode cX8_rule 80 = .ok (.istore 4, 2) := by decide +kernel
theorem dX8_rule_82 : decode cX8_rule 82 = .ok (.iload_n 1, 1) := by decide +kernel
theorem dX8_rule_83 : decode cX8_rule 83 = .ok (.tableswitch 133 0 5 #[37, 55, 73, 91, 105, 119], 37) := by decide +kernel
theorem dX8_rule_120 : decode cX8_rule 120 = .ok (.aload_n 0, 1) := by decide +kernel
theorem dX8_rule_121 : decode cX8_rule 121 = .ok (.getfield 19, 3) := by decide +kernel
theorem dX8_rule_124 : decode cX8_rule 124 = .ok (.iconst 4, 1) := by decide +kernel
theorem dX8_rule_125 : decode cX8_rule 125 = .ok (.iaload, 1) := by decide +kernel
theorem dX8_rule_126 : decode cX8_rule 126 = .ok (.istore 4, 2) := by decide +kernel
theorem dX8_rule_128 : decode cX8_rule 128 = .ok (.aload_n 0, 1) := by decide +kernel
theorem dX8_rule_129 : decode cX8_rule 129 = .ok (.getfield 19, 3) := by decide +kernel
theorem dX8_rule_132 : decode cX8_rule 132 = .ok (.iconst 4, 1) := by decide +kernel
theorem dX8_rule_133 : decode cX8_rule 133 = .ok (.iload_n 2, 1) := by decide +kernel
theorem dX8_rule_134 : decode cX8_rule 134 = .ok (.iastore, 1) := by decide +kernel
theorem dX8_rule_135 : decode cX8_rule 135 = .ok (.goto 92, 3) := by decide +kernel
theorem dX8_rule_138 : decode cX8_rule 138 = .ok (.aload_n 0, 1) := by decide +kernel
theorem dX8_rule_139 : decode cX8_rule 139 = .ok (.getfield 22, 3) := by decide +kernel
theorem dX8_rule_142 : decode cX8_rule 142 = .ok (.iconst 4, 1) := by decide +kernel
theorem dX8_rule_143 : decode cX8_rule 143 = .ok (.iaload, 1) := by decide +kernel
theorem dX8_rule_144 : decode cX8_rule 144 = .ok (.istore 4, 2) := by decide +kernel
theorem dX8_rule_146 : decode cX8_rule 146 = .ok (.aload_n 0, 1) := by decide +kernel
theorem dX8_rule_147 : decode cX8_rule 147 = .ok (.getfield 22, 3) := by decide +kernel
theorem dX8_rule_150 : decode cX8_rule 150 = .ok (.iconst 4, 1) := by decide +kernel
theorem dX8_rule_151 : decode cX8_rule 151 = .ok (.iload_n 2, 1) := by decide +kernel
theorem dX8_rule_152 : decode cX8_rule 152 = .ok (.iastore, 1) := by decide +kernel
theorem dX8_rule_153 : decode cX8_rule 153 = .ok (.goto 74, 3) := by decide +kernel
theorem dX8_rule_156 : decode cX8_rule 156 = .ok (.aload_n 0, 1) := by decide +kernel
theorem dX8_rule_157 : decode cX8_rule 157 = .ok (.getfield 25, 3) := by decide +kernel
theorem dX8_rule_160 : decode cX8_rule 160 = .ok (.iconst 4, 1) := by decide +kernel
theorem dX8_rule_161 : decode cX8_rule 161 = .ok (.iaload, 1) := by decide +kernel
theorem dX8_rule_162 : decode cX8_rule 162 = .ok (.istore 4, 2) := by decide +kernel
theorem dX8_rule_164 : decode cX8_rule 164 = .ok (.aload_n 0, 1) := by decide +kernel
theorem dX8_rule_165 : decode cX8_rule 165 = .ok (.getfield 25, 3) := by decide +kernel
theorem dX8_rule_168 : decode cX8_rule 168 = .ok (.iconst 4, 1) := by decide +kernel
theorem dX8_rule_169 : decode cX8_rule 169 = .ok (.iload_n 2, 1) := by decide +kernel
theorem dX8_rule_170 : decode cX8_rule 170 = .ok (.iastore, 1) := by decide +kernel
theorem dX8_rule_171 : decode cX8_rule 171 = .ok (.goto 56, 3) := by decide +kernel
theorem dX8_rule_174 : decode cX8_rule 174 = .ok (.aload_n 0, 1) := by decide +kernel
theorem dX8_rule_175 : decode cX8_rule 175 = .ok (.getfield 117, 3) := by decide +kernel
theorem dX8_rule_178 : decode cX8_rule 178 = .ok (.istore 4, 2) := by decide +kernel
theorem dX8_rule_180 : decode cX8_rule 180 = .ok (.aload_n 0, 1) := by decide +kernel
theorem dX8_rule_181 : decode cX8_rule 181 = .ok (.iload_n 2, 1) := by decide +kernel
theorem dX8_rule_182 : decode cX8_rule 182 = .ok (.putfield 117, 3) := by decide +kernel
theorem dX8_rule_185 : decode cX8_rule 185 = .ok (.goto 42, 3) := by decide +kernel
theorem dX8_rule_188 : decode cX8_rule 188 = .ok (.aload_n 0, 1) := by decide +kernel
theorem dX8_rule_189 : decode cX8_rule 189 = .ok (.getfield 41, 3) := by decide +kernel
theorem dX8_rule_192 : decode cX8_rule 192 = .ok (.istore 4, 2) := by decide +kernel
theorem dX8_rule_194 : decode cX8_rule 194 = .ok (.aload_n 0, 1) := by decide +kernel
theorem dX8_rule_195 : decode cX8_rule 195 = .ok (.iload_n 2, 1) := by decide +kernel
theorem dX8_rule_196 : decode cX8_rule 196 = .ok (.putfield 41, 3) := by decide +kernel
theorem dX8_rule_199 : decode cX8_rule 199 = .ok (.goto 28, 3) := by decide +kernel
theorem dX8_rule_202 : decode cX8_rule 202 = .ok (.aload_n 0, 1) := by decide +kernel
theorem dX8_rule_203 : decode cX8_rule 203 = .ok (.getfield 45, 3) := by decide +kernel
theorem dX8_rule_206 : decode cX8_rule 206 = .ok (.istore 4, 2) := by decide +kernel
theorem dX8_rule_208 : decode cX8_rule 208 = .ok (.aload_n 0, 1) := by decide +kernel
theorem dX8_rule_209 : decode cX8_rule 209 = .ok (.iload_n 2, 1) := by decide +kernel
theorem dX8_rule_210 : decode cX8_rule 210 = .ok (.putfield 45, 3) := by decide +kernel
theorem dX8_rule_213 : decode cX8_rule 213 = .ok (.goto 14, 3) := by decide +kernel
theorem dX8_rule_216 : decode cX8_rule 216 = .ok (.aload_n 0, 1) := by decide +kernel
theorem dX8_rule_217 : decode cX8_rule 217 = .ok (.getfield 48, 3) := by decide +kernel
theorem dX8_rule_220 : decode cX8_rule 220 = .ok (.istore 4, 2) := by decide +kernel
theorem dX8_rule_222 : decode cX8_rule 222 = .ok (.aload_n 0, 1) := by decide +kernel
theorem dX8_rule_223 : decode cX8_rule 223 = .ok (.iload_n 2, 1) := by decide +kernel
theorem dX8_rule_224 : decode cX8_rule 224 = .ok (.putfield 48, 3) := by decide +kernel
theorem dX8_rule_227 : decode cX8_rule 227 = .ok (.iload 4, 2) := by decide +kernel
theorem dX8_rule_229 : decode cX8_rule 229 = .ok (.ireturn, 1) := by decide +kernel
set_option maxRecDepth 20000 in
theorem ggX8_press_X8_noHand : GoodIn wsX8_press wsX8_noHand := goodIn_r _ [8, 9, 10, 11, 7, 12, 17, 18, 19, 20, 21, 22, 23, 24, 25, 26, 27, 28, 29, 30, 31, 32, 33, 34, 35, 36, 37, 38, 39, 40, 41, 42, 43, 44, 45, 46, 47, 48, 49, 50, 51, 52] (by decide +kernel) (by decide +kernel)
set_option maxRecDepth 20000 in
theorem gX8_press_X8_noHand : GoodIn wsX8_press (wsV RX8 120 RX8 yX8_noHand wsX8_noHand) := goodIn_app (goodIn_of _ (by decide +kernel)) ggX8_press_X8_noHand
set_option maxRecDepth 20000 in
theorem ggX8_press_X8_noTick : GoodIn wsX8_press wsX8_noTick := goodIn_r _ [15, 16, 10, 11, 7, 12] (by decide +kernel) (by decide +kernel)
set_option maxRecDepth 20000 in
theorem gX8_press_X8_noTick : GoodIn wsX8_press (va_wsS RX8 124 yX8_noTick wsX8_noTick) := goodIn_app (goodIn_of _ (by decide +kernel)) ggX8_press_X8_noTick
set_option maxRecDepth 20000 in
theorem ggX8_press_X8_in : GoodIn wsX8_press wsX8_in := goodIn_r _ [12] (by decide +kernel) (by decide +kernel)
set_option maxRecDepth 20000 in
theorem gX8_press_X8_in : GoodIn wsX8_press (va_wsS RX8 103 yX8_in wsX8_in) := goodIn_app (goodIn_of _ (by decide +kernel)) ggX8_press_X8_in
theorem dX8_press_0 : decode cX8_press 0 = .ok (.aload_n 0, 1) := by decide +kernel
theorem dX8_press_1 : decode cX8_press 1 = .ok (.iconst 0, 1) := by decide +kernel
theorem dX8_press_2 : decode cX8_press 2 = .ok (.putfield 100, 3) := by decide +kernel
theorem dX8_press_5 : decode cX8_press 5 = .ok (.aload_n 0, 1) := by decide +kernel
theorem dX8_press_6 : decode cX8_press 6 = .ok (.iload_n 1, 1) := by decide +kernel
theorem dX8_press_7 : decode cX8_press 7 = .ok (.invokevirtual 120, 3) := by decide +kernel
theorem dX8_press_10 : decode cX8_press 10 = .ok (.ifCond .ne 10, 3) := by decide +kernel
theorem dX8_press_13 : decode cX8_press 13 = .ok (.iload_n 2, 1) := by decide +kernel
theorem dX8_press_14 : decode cX8_press 14 = .ok (.invokestatic 124, 3) := by decide +kernel
theorem dX8_press_17 : decode cX8_press 17 = .ok (.ifCond .eq 5, 3) := by decide +kernel
theorem dX8_press_20 : decode cX8_press 20 = .ok (.iconst (-1), 1) := by decide +kernel
theorem dX8_press_21 : decode cX8_press 21 = .ok (.ireturn, 1) := by decide +kernel
theorem dX8_press_22 : decode cX8_press 22 = .ok (.iload_n 3, 1) := by decide +kernel
theorem dX8_press_23 : decode cX8_press 23 = .ok (.i2l, 1) := by decide +kernel
theorem dX8_press_24 : decode cX8_press 24 = .ok (.lconst 0, 1) := by decide +kernel
theorem dX8_press_25 : decode cX8_press 25 = .ok (.ldc2_w 127, 3) := by decide +kernel
theorem dX8_press_28 : decode cX8_press 28 = .ok (.invokestatic 103, 3) := by decide +kernel
theorem dX8_press_31 : decode cX8_press 31 = .ok (.ifCond .ne 6, 3) := by decide +kernel
theorem dX8_press_34 : decode cX8_press 34 = .ok (.bipush (-2), 2) := by decide +kernel
theorem dX8_press_36 : decode cX8_press 36 = .ok (.ireturn, 1) := by decide +kernel
theorem dX8_press_37 : decode cX8_press 37 = .ok (.sipush 2400, 3) := by decide +kernel
theorem dX8_press_40 : decode cX8_press 40 = .ok (.bipush 100, 2) := by decide +kernel
theorem dX8_press_42 : decode cX8_press 42 = .ok (.iload_n 1, 1) := by decide +kernel
theorem dX8_press_43 : decode cX8_press 43 = .ok (.imul, 1) := by decide +kernel
theorem dX8_press_44 : decode cX8_press 44 = .ok (.iadd, 1) := by decide +kernel
theorem dX8_press_45 : decode cX8_press 45 = .ok (.iload_n 2, 1) := by decide +kernel
theorem dX8_press_46 : decode cX8_press 46 = .ok (.iadd, 1) := by decide +kernel
theorem dX8_press_47 : decode cX8_press 47 = .ok (.istore 4, 2) := by decide +kernel
theorem dX8_press_49 : decode cX8_press 49 = .ok (.aload_n 0, 1) := by decide +kernel
theorem dX8_press_50 : decode cX8_press 50 = .ok (.getfield 28, 3) := by decide +kernel
theorem dX8_press_53 : decode cX8_press 53 = .ok (.iload 4, 2) := by decide +kernel
theorem dX8_press_55 : decode cX8_press 55 = .ok (.iaload, 1) := by decide +kernel
theorem dX8_press_56 : decode cX8_press 56 = .ok (.istore 5, 2) := by decide +kernel
theorem dX8_press_58 : decode cX8_press 58 = .ok (.aload_n 0, 1) := by decide +kernel
theorem dX8_press_59 : decode cX8_press 59 = .ok (.getfield 28, 3) := by decide +kernel
theorem dX8_press_62 : decode cX8_press 62 = .ok (.iload 4, 2) := by decide +kernel
theorem dX8_press_64 : decode cX8_press 64 = .ok (.iload_n 3, 1) := by decide +kernel
theorem dX8_press_65 : decode cX8_press 65 = .ok (.iastore, 1) := by decide +kernel
theorem dX8_press_66 : decode cX8_press 66 = .ok (.iload 5, 2) := by decide +kernel
theorem dX8_press_68 : decode cX8_press 68 = .ok (.ireturn, 1) := by decide +kernel
set_option maxRecDepth 20000 in
theorem ggX8_hold_X8_noHand : GoodIn wsX8_hold wsX8_noHand := goodIn_r _ [8, 9, 10, 11, 7, 12, 17, 18, 19, 20, 21, 22, 23, 24, 25, 26, 27, 28, 29, 30, 31, 32, 33, 34, 35, 36, 37, 38, 39, 40, 41, 42, 43, 44, 45, 46, 47, 48, 49, 50, 51, 52] (by decide +kernel) (by decide +kernel)
set_option maxRecDepth 20000 in
theorem gX8_hold_X8_noHand : GoodIn wsX8_hold (wsV RX8 120 RX8 yX8_noHand wsX8_noHand) := goodIn_app (goodIn_of _ (by decide +kernel)) ggX8_hold_X8_noHand
set_option maxRecDepth 20000 in
theorem ggX8_hold_X8_noTick : GoodIn wsX8_hold wsX8_noTick := goodIn_r _ [15, 16, 10, 11, 7, 12] (by decide +kernel) (by decide +kernel)
set_option maxRecDepth 20000 in
theorem gX8_hold_X8_noTick : GoodIn wsX8_hold (va_wsS RX8 124 yX8_noTick wsX8_noTick) := goodIn_app (goodIn_of _ (by decide +kernel)) ggX8_hold_X8_noTick
set_option maxRecDepth 20000 in
theorem ggX8_hold_X8_in : GoodIn wsX8_hold wsX8_in := goodIn_r _ [12] (by decide +kernel) (by decide +kernel)
set_option maxRecDepth 20000 in
theorem gX8_hold_X8_in : GoodIn wsX8_hold (va_wsS RX8 103 yX8_in wsX8_in) := goodIn_app (goodIn_of _ (by decide +kernel)) ggX8_hold_X8_in
theorem dX8_hold_0 : decode cX8_hold 0 = .ok (.aload_n 0, 1) := by decide +kernel
theorem dX8_hold_1 : decode cX8_hold 1 = .ok (.iconst 0, 1) := by decide +kernel
theorem dX8_hold_2 : decode cX8_hold 2 = .ok (.putfield 100, 3) := by decide +kernel
theorem dX8_hold_5 : decode cX8_hold 5 = .ok (.aload_n 0, 1) := by decide +kernel
theorem dX8_hold_6 : decode cX8_hold 6 = .ok (.iload_n 1, 1) := by decide +kernel
theorem dX8_hold_7 : decode cX8_hold 7 = .ok (.invokevirtual 120, 3) := by decide +kernel
theorem dX8_hold_10 : decode cX8_hold 10 = .ok (.ifCond .ne 17, 3) := by decide +kernel
theorem dX8_hold_13 : decode cX8_hold 13 = .ok (.iload_n 2, 1) := by decide +kernel
theorem dX8_hold_14 : decode cX8_hold 14 = .ok (.invokestatic 124, 3) := by decide +kernel
theorem dX8_hold_17 : decode cX8_hold 17 = .ok (.ifCond .ne 10, 3) := by decide +kernel
theorem dX8_hold_20 : decode cX8_hold 20 = .ok (.iload_n 3, 1) := by decide +kernel
theorem dX8_hold_21 : decode cX8_hold 21 = .ok (.invokestatic 124, 3) := by decide +kernel
theorem dX8_hold_24 : decode cX8_hold 24 = .ok (.ifCond .eq 5, 3) := by decide +kernel
theorem dX8_hold_27 : decode cX8_hold 27 = .ok (.iconst (-1), 1) := by decide +kernel
theorem dX8_hold_28 : decode cX8_hold 28 = .ok (.ireturn, 1) := by decide +kernel
theorem dX8_hold_29 : decode cX8_hold 29 = .ok (.iload_n 3, 1) := by decide +kernel
theorem dX8_hold_30 : decode cX8_hold 30 = .ok (.iload_n 2, 1) := by decide +kernel
theorem dX8_hold_31 : decode cX8_hold 31 = .ok (.if_icmp .lt 16, 3) := by decide +kernel
theorem dX8_hold_34 : decode cX8_hold 34 = .ok (.iload 4, 2) := by decide +kernel
theorem dX8_hold_36 : decode cX8_hold 36 = .ok (.i2l, 1) := by decide +kernel
theorem dX8_hold_37 : decode cX8_hold 37 = .ok (.lconst 0, 1) := by decide +kernel
theorem dX8_hold_38 : decode cX8_hold 38 = .ok (.ldc2_w 127, 3) := by decide +kernel
theorem dX8_hold_41 : decode cX8_hold 41 = .ok (.invokestatic 103, 3) := by decide +kernel
theorem dX8_hold_44 : decode cX8_hold 44 = .ok (.ifCond .ne 6, 3) := by decide +kernel
theorem dX8_hold_47 : decode cX8_hold 47 = .ok (.bipush (-2), 2) := by decide +kernel
theorem dX8_hold_49 : decode cX8_hold 49 = .ok (.ireturn, 1) := by decide +kernel
theorem dX8_hold_50 : decode cX8_hold 50 = .ok (.iconst 0, 1) := by decide +kernel
theorem dX8_hold_51 : decode cX8_hold 51 = .ok (.istore 5, 2) := by decide +kernel
theorem dX8_hold_53 : decode cX8_hold 53 = .ok (.iload_n 2, 1) := by decide +kernel
theorem dX8_hold_54 : decode cX8_hold 54 = .ok (.istore 6, 2) := by decide +kernel
theorem dX8_hold_56 : decode cX8_hold 56 = .ok (.iload 6, 2) := by decide +kernel
theorem dX8_hold_58 : decode cX8_hold 58 = .ok (.iload_n 3, 1) := by decide +kernel
theorem dX8_hold_59 : decode cX8_hold 59 = .ok (.if_icmp .gt 53, 3) := by decide +kernel
theorem dX8_hold_62 : decode cX8_hold 62 = .ok (.sipush 2400, 3) := by decide +kernel
theorem dX8_hold_65 : decode cX8_hold 65 = .ok (.bipush 100, 2) := by decide +kernel
theorem dX8_hold_67 : decode cX8_hold 67 = .ok (.iload_n 1, 1) := by decide +kernel
theorem dX8_hold_68 : decode cX8_hold 68 = .ok (.imul, 1) := by decide +kernel
theorem dX8_hold_69 : decode cX8_hold 69 = .ok (.iadd, 1) := by decide +kernel
theorem dX8_hold_70 : decode cX8_hold 70 = .ok (.iload 6, 2) := by decide +kernel
theorem dX8_hold_72 : decode cX8_hold 72 = .ok (.iadd, 1) := by decide +kernel
theorem dX8_hold_73 : decode cX8_hold 73 = .ok (.istore 7, 2) := by decide +kernel
theorem dX8_hold_75 : decode cX8_hold 75 = .ok (.iload 5, 2) := by decide +kernel
theorem dX8_hold_77 : decode cX8_hold 77 = .ok (.aload_n 0, 1) := by decide +kernel
theorem dX8_hold_78 : decode cX8_hold 78 = .ok (.getfield 28, 3) := by decide +kernel
theorem dX8_hold_81 : decode cX8_hold 81 = .ok (.iload 7, 2) := by decide +kernel
theorem dX8_hold_83 : decode cX8_hold 83 = .ok (.iaload, 1) := by decide +kernel
theorem dX8_hold_84 : decode cX8_hold 84 = .ok (.iload 4, 2) := by decide +kernel
theorem dX8_hold_86 : decode cX8_hold 86 = .ok (.if_icmp .ne 7, 3) := by decide +kernel
theorem dX8_hold_89 : decode cX8_hold 89 = .ok (.iconst 0, 1) := by decide +kernel
theorem dX8_hold_90 : decode cX8_hold 90 = .ok (.goto 4, 3) := by decide +kernel
theorem dX8_hold_93 : decode cX8_hold 93 = .ok (.iconst 1, 1) := by decide +kernel
theorem dX8_hold_94 : decode cX8_hold 94 = .ok (.iadd, 1) := by decide +kernel
theorem dX8_hold_95 : decode cX8_hold 95 = .ok (.istore 5, 2) := by decide +kernel
theorem dX8_hold_97 : decode cX8_hold 97 = .ok (.aload_n 0, 1) := by decide +kernel
theorem dX8_hold_98 : decode cX8_hold 98 = .ok (.getfield 28, 3) := by decide +kernel
theorem dX8_hold_101 : decode cX8_hold 101 = .ok (.iload 7, 2) := by decide +kernel
theorem dX8_hold_103 : decode cX8_hold 103 = .ok (.iload 4, 2) := by decide +kernel
theorem dX8_hold_105 : decode cX8_hold 105 = .ok (.iastore, 1) := by decide +kernel
theorem dX8_hold_106 : decode cX8_hold 106 = .ok (.iinc 6 1, 3) := by decide +kernel
theorem dX8_hold_109 : decode cX8_hold 109 = .ok (.goto (-53), 3) := by decide +kernel
theorem dX8_hold_112 : decode cX8_hold 112 = .ok (.iload 5, 2) := by decide +kernel
theorem dX8_hold_114 : decode cX8_hold 114 = .ok (.ireturn, 1) := by decide +kernel
set_option maxRecDepth 20000 in
theorem ggX8_leave_X8_noHand : GoodIn wsX8_leave wsX8_noHand := goodIn_r _ [8, 9, 10, 11, 7, 12, 13, 14, 15, 16, 17, 18, 19, 20, 21, 22, 23, 24, 25, 26, 27, 28, 29, 30, 31, 32, 33, 34, 35, 36, 37, 38, 39, 40, 41, 42, 43, 44, 45, 46, 47, 48] (by decide +kernel) (by decide +kernel)
set_option maxRecDepth 20000 in
theorem gX8_leave_X8_noHand : GoodIn wsX8_leave (wsV RX8 120 RX8 yX8_noHand wsX8_noHand) := goodIn_app (goodIn_of _ (by decide +kernel)) ggX8_leave_X8_noHand
set_option maxRecDepth 20000 in
theorem ggX8_leave_X8_in : GoodIn wsX8_leave wsX8_in := goodIn_r _ [12] (by decide +kernel) (by decide +kernel)
set_option maxRecDepth 20000 in
theorem gX8_leave_X8_in : GoodIn wsX8_leave (va_wsS RX8 103 yX8_in wsX8_in) := goodIn_app (goodIn_of _ (by decide +kernel)) ggX8_leave_X8_in
theorem dX8_leave_0 : decode cX8_leave 0 = .ok (.aload_n 0, 1) := by decide +kernel
theorem dX8_leave_1 : decode cX8_leave 1 = .ok (.iconst 0, 1) := by decide +kernel
theorem dX8_leave_2 : decode cX8_leave 2 = .ok (.putfield 100, 3) := by decide +kernel
theorem dX8_leave_5 : decode cX8_leave 5 = .ok (.aload_n 0, 1) := by decide +kernel
theorem dX8_leave_6 : decode cX8_leave 6 = .ok (.iload_n 1, 1) := by decide +kernel
theorem dX8_leave_7 : decode cX8_leave 7 = .ok (.invokevirtual 120, 3) := by decide +kernel
theorem dX8_leave_10 : decode cX8_leave 10 = .ok (.ifCond .eq 5, 3) := by decide +kernel
theorem dX8_leave_13 : decode cX8_leave 13 = .ok (.iconst (-1), 1) := by decide +kernel
theorem dX8_leave_14 : decode cX8_leave 14 = .ok (.ireturn, 1) := by decide +kernel
theorem dX8_leave_15 : decode cX8_leave 15 = .ok (.iload_n 2, 1) := by decide +kernel
theorem dX8_leave_16 : decode cX8_leave 16 = .ok (.i2l, 1) := by decide +kernel
theorem dX8_leave_17 : decode cX8_leave 17 = .ok (.lconst 0, 1) := by decide +kernel
theorem dX8_leave_18 : decode cX8_leave 18 = .ok (.iload_n 3, 1) := by decide +kernel
theorem dX8_leave_19 : decode cX8_leave 19 = .ok (.i2l, 1) := by decide +kernel
theorem dX8_leave_20 : decode cX8_leave 20 = .ok (.invokestatic 103, 3) := by decide +kernel
theorem dX8_leave_23 : decode cX8_leave 23 = .ok (.ifCond .eq 9, 3) := by decide +kernel
theorem dX8_leave_26 : decode cX8_leave 26 = .ok (.iload_n 3, 1) := by decide +kernel
theorem dX8_leave_27 : decode cX8_leave 27 = .ok (.bipush 100, 2) := by decide +kernel
theorem dX8_leave_29 : decode cX8_leave 29 = .ok (.if_icmp .le 6, 3) := by decide +kernel
theorem dX8_leave_32 : decode cX8_leave 32 = .ok (.bipush (-2), 2) := by decide +kernel
theorem dX8_leave_34 : decode cX8_leave 34 = .ok (.ireturn, 1) := by decide +kernel
theorem dX8_leave_35 : decode cX8_leave 35 = .ok (.aload_n 0, 1) := by decide +kernel
theorem dX8_leave_36 : decode cX8_leave 36 = .ok (.getfield 31, 3) := by decide +kernel
theorem dX8_leave_39 : decode cX8_leave 39 = .ok (.bipush 24, 2) := by decide +kernel
theorem dX8_leave_41 : decode cX8_leave 41 = .ok (.iload_n 1, 1) := by decide +kernel
theorem dX8_leave_42 : decode cX8_leave 42 = .ok (.iadd, 1) := by decide +kernel
theorem dX8_leave_43 : decode cX8_leave 43 = .ok (.iload_n 2, 1) := by decide +kernel
theorem dX8_leave_44 : decode cX8_leave 44 = .ok (.iastore, 1) := by decide +kernel
theorem dX8_leave_45 : decode cX8_leave 45 = .ok (.aload_n 0, 1) := by decide +kernel
theorem dX8_leave_46 : decode cX8_leave 46 = .ok (.getfield 34, 3) := by decide +kernel
theorem dX8_leave_49 : decode cX8_leave 49 = .ok (.bipush 24, 2) := by decide +kernel
theorem dX8_leave_51 : decode cX8_leave 51 = .ok (.iload_n 1, 1) := by decide +kernel
theorem dX8_leave_52 : decode cX8_leave 52 = .ok (.iadd, 1) := by decide +kernel
theorem dX8_leave_53 : decode cX8_leave 53 = .ok (.iload_n 3, 1) := by decide +kernel
theorem dX8_leave_54 : decode cX8_leave 54 = .ok (.iastore, 1) := by decide +kernel
theorem dX8_leave_55 : decode cX8_leave 55 = .ok (.iload_n 3, 1) := by decide +kernel
theorem dX8_leave_56 : decode cX8_leave 56 = .ok (.iload_n 2, 1) := by decide +kernel
theorem dX8_leave_57 : decode cX8_leave 57 = .ok (.isub, 1) := by decide +kernel
theorem dX8_leave_58 : decode cX8_leave 58 = .ok (.ireturn, 1) := by decide +kernel
theorem dX8_isLeft_0 : decode cX8_isLeft 0 = .ok (.iload_n 3, 1) := by decide +kernel
theorem dX8_isLeft_1 : decode cX8_isLeft 1 = .ok (.aload_n 0, 1) := by decide +kernel
theorem dX8_isLeft_2 : decode cX8_isLeft 2 = .ok (.getfield 31, 3) := by decide +kernel
theorem dX8_isLeft_5 : decode cX8_isLeft 5 = .ok (.bipush 6, 2) := by decide +kernel
theorem dX8_isLeft_7 : decode cX8_isLeft 7 = .ok (.iload_n 1, 1) := by decide +kernel
theorem dX8_isLeft_8 : decode cX8_isLeft 8 = .ok (.imul, 1) := by decide +kernel
theorem dX8_isLeft_9 : decode cX8_isLeft 9 = .ok (.iload_n 2, 1) := by decide +kernel
theorem dX8_isLeft_10 : decode cX8_isLeft 10 = .ok (.iadd, 1) := by decide +kernel
theorem dX8_isLeft_11 : decode cX8_isLeft 11 = .ok (.iaload, 1) := by decide +kernel
theorem dX8_isLeft_12 : decode cX8_isLeft 12 = .ok (.if_icmp .lt 22, 3) := by decide +kernel
theorem dX8_isLeft_15 : decode cX8_isLeft 15 = .ok (.iload_n 3, 1) := by decide +kernel
theorem dX8_isLeft_16 : decode cX8_isLeft 16 = .ok (.aload_n 0, 1) := by decide +kernel
theorem dX8_isLeft_17 : decode cX8_isLeft 17 = .ok (.getfield 34, 3) := by decide +kernel
theorem dX8_isLeft_20 : decode cX8_isLeft 20 = .ok (.bipush 6, 2) := by decide +kernel
theorem dX8_isLeft_22 : decode cX8_isLeft 22 = .ok (.iload_n 1, 1) := by decide +kernel
theorem dX8_isLeft_23 : decode cX8_isLeft 23 = .ok (.imul, 1) := by decide +kernel
theorem dX8_isLeft_24 : decode cX8_isLeft 24 = .ok (.iload_n 2, 1) := by decide +kernel
theorem dX8_isLeft_25 : decode cX8_isLeft 25 = .ok (.iadd, 1) := by decide +kernel
theorem dX8_isLeft_26 : decode cX8_isLeft 26 = .ok (.iaload, 1) := by decide +kernel
theorem dX8_isLeft_27 : decode cX8_isLeft 27 = .ok (.if_icmp .ge 7, 3) := by decide +kernel
theorem dX8_isLeft_30 : decode cX8_isLeft 30 = .ok (.iconst 1, 1) := by decide +kernel
theorem dX8_isLeft_31 : decode cX8_isLeft 31 = .ok (.goto 4, 3) := by decide +kernel
theorem dX8_isLeft_34 : decode cX8_isLeft 34 = .ok (.iconst 0, 1) := by decide +kernel
theorem dX8_isLeft_35 : decode cX8_isLeft 35 = .ok (.ireturn, 1) := by decide +kernel
set_option maxRecDepth 20000 in
theorem ggX8_by_X8_in : GoodIn wsX8_by wsX8_in := goodIn_r _ [6] (by decide +kernel) (by decide +kernel)
set_option maxRecDepth 20000 in
theorem gX8_by_X8_in : GoodIn wsX8_by (va_wsS RX8 103 yX8_in wsX8_in) := goodIn_app (goodIn_of _ (by decide +kernel)) ggX8_by_X8_in
theorem dX8_by_0 : decode cX8_by 0 = .ok (.iload_n 1, 1) := by decide +kernel
theorem dX8_by_1 : decode cX8_by 1 = .ok (.aload_n 0, 1) := by decide +kernel
theorem dX8_by_2 : decode cX8_by 2 = .ok (.getfield 129, 3) := by decide +kernel
theorem dX8_by_5 : decode cX8_by 5 = .ok (.irem, 1) := by decide +kernel
theorem dX8_by_6 : decode cX8_by 6 = .ok (.iload_n 2, 1) := by decide +kernel
theorem dX8_by_7 : decode cX8_by 7 = .ok (.iconst 1, 1) := by decide +kernel
theorem dX8_by_8 : decode cX8_by 8 = .ok (.if_icmp .ne 7, 3) := by decide +kernel
theorem dX8_by_11 : decode cX8_by 11 = .ok (.iconst 1, 1) := by decide +kernel
theorem dX8_by_12 : decode cX8_by 12 = .ok (.goto 13, 3) := by decide +kernel
theorem dX8_by_15 : decode cX8_by 15 = .ok (.iload_n 2, 1) := by decide +kernel
theorem dX8_by_16 : decode cX8_by 16 = .ok (.iconst 3, 1) := by decide +kernel
theorem dX8_by_17 : decode cX8_by 17 = .ok (.if_icmp .ne 7, 3) := by decide +kernel
theorem dX8_by_20 : decode cX8_by 20 = .ok (.iconst (-1), 1) := by decide +kernel
theorem dX8_by_21 : decode cX8_by 21 = .ok (.goto 4, 3) := by decide +kernel
theorem dX8_by_24 : decode cX8_by 24 = .ok (.iconst 0, 1) := by decide +kernel
theorem dX8_by_25 : decode cX8_by 25 = .ok (.iadd, 1) := by decide +kernel
theorem dX8_by_26 : decode cX8_by 26 = .ok (.istore_n 3, 1) := by decide +kernel
theorem dX8_by_27 : decode cX8_by 27 = .ok (.iload_n 1, 1) := by decide +kernel
theorem dX8_by_28 : decode cX8_by 28 = .ok (.aload_n 0, 1) := by decide +kernel
theorem dX8_by_29 : decode cX8_by 29 = .ok (.getfield 129, 3) := by decide +kernel
theorem dX8_by_32 : decode cX8_by 32 = .ok (.idiv, 1) := by decide +kernel
theorem dX8_by_33 : decode cX8_by 33 = .ok (.iload_n 2, 1) := by decide +kernel
theorem dX8_by_34 : decode cX8_by 34 = .ok (.iconst 2, 1) := by decide +kernel
theorem dX8_by_35 : decode cX8_by 35 = .ok (.if_icmp .ne 7, 3) := by decide +kernel
theorem dX8_by_38 : decode cX8_by 38 = .ok (.iconst 1, 1) := by decide +kernel
theorem dX8_by_39 : decode cX8_by 39 = .ok (.goto 13, 3) := by decide +kernel
theorem dX8_by_42 : decode cX8_by 42 = .ok (.iload_n 2, 1) := by decide +kernel
theorem dX8_by_43 : decode cX8_by 43 = .ok (.iconst 4, 1) := by decide +kernel
theorem dX8_by_44 : decode cX8_by 44 = .ok (.if_icmp .ne 7, 3) := by decide +kernel
theorem dX8_by_47 : decode cX8_by 47 = .ok (.iconst (-1), 1) := by decide +kernel
theorem dX8_by_48 : decode cX8_by 48 = .ok (.goto 4, 3) := by decide +kernel
theorem dX8_by_51 : decode cX8_by 51 = .ok (.iconst 0, 1) := by decide +kernel
theorem dX8_by_52 : decode cX8_by 52 = .ok (.iadd, 1) := by decide +kernel
theorem dX8_by_53 : decode cX8_by 53 = .ok (.istore 4, 2) := by decide +kernel
theorem dX8_by_55 : decode cX8_by 55 = .ok (.iload_n 3, 1) := by decide +kernel
theorem dX8_by_56 : decode cX8_by 56 = .ok (.i2l, 1) := by decide +kernel
theorem dX8_by_57 : decode cX8_by 57 = .ok (.lconst 0, 1) := by decide +kernel
theorem dX8_by_58 : decode cX8_by 58 = .ok (.aload_n 0, 1) := by decide +kernel
theorem dX8_by_59 : decode cX8_by 59 = .ok (.getfield 129, 3) := by decide +kernel
theorem dX8_by_62 : decode cX8_by 62 = .ok (.iconst 1, 1) := by decide +kernel
theorem dX8_by_63 : decode cX8_by 63 = .ok (.isub, 1) := by decide +kernel
theorem dX8_by_64 : decode cX8_by 64 = .ok (.i2l, 1) := by decide +kernel
theorem dX8_by_65 : decode cX8_by 65 = .ok (.invokestatic 103, 3) := by decide +kernel
theorem dX8_by_68 : decode cX8_by 68 = .ok (.ifCond .eq 32, 3) := by decide +kernel
theorem dX8_by_71 : decode cX8_by 71 = .ok (.iload 4, 2) := by decide +kernel
theorem dX8_by_73 : decode cX8_by 73 = .ok (.i2l, 1) := by decide +kernel
theorem dX8_by_74 : decode cX8_by 74 = .ok (.lconst 0, 1) := by decide +kernel
theorem dX8_by_75 : decode cX8_by 75 = .ok (.aload_n 0, 1) := by decide +kernel
theorem dX8_by_76 : decode cX8_by 76 = .ok (.getfield 132, 3) := by decide +kernel
theorem dX8_by_79 : decode cX8_by 79 = .ok (.iconst 1, 1) := by decide +kernel
theorem dX8_by_80 : decode cX8_by 80 = .ok (.isub, 1) := by decide +kernel
theorem dX8_by_81 : decode cX8_by 81 = .ok (.i2l, 1) := by decide +kernel
theorem dX8_by_82 : decode cX8_by 82 = .ok (.invokestatic 103, 3) := by decide +kernel
theorem dX8_by_85 : decode cX8_by 85 = .ok (.ifCond .eq 15, 3) := by decide +kernel
theorem dX8_by_88 : decode cX8_by 88 = .ok (.iload 4, 2) := by decide +kernel
theorem dX8_by_90 : decode cX8_by 90 = .ok (.aload_n 0, 1) := by decide +kernel
theorem dX8_by_91 : decode cX8_by 91 = .ok (.getfield 129, 3) := by decide +kernel
theorem dX8_by_94 : decode cX8_by 94 = .ok (.imul, 1) := by decide +kernel
theorem dX8_by_95 : decode cX8_by 95 = .ok (.iload_n 3, 1) := by decide +kernel
theorem dX8_by_96 : decode cX8_by 96 = .ok (.iadd, 1) := by decide +kernel
theorem dX8_by_97 : decode cX8_by 97 = .ok (.goto 5, 3) := by decide +kernel
theorem dX8_by_100 : decode cX8_by 100 = .ok (.bipush (-9), 2) := by decide +kernel
theorem dX8_by_102 : decode cX8_by 102 = .ok (.ireturn, 1) := by decide +kernel
theorem dX8_isFree_0 : decode cX8_isFree 0 = .ok (.iload_n 1, 1) := by decide +kernel
theorem dX8_isFree_1 : decode cX8_isFree 1 = .ok (.bipush (-9), 2) := by decide +kernel
theorem dX8_isFree_3 : decode cX8_isFree 3 = .ok (.if_icmp .eq 7, 3) := by decide +kernel
theorem dX8_isFree_6 : decode cX8_isFree 6 = .ok (.iconst 1, 1) := by decide +kernel
theorem dX8_isFree_7 : decode cX8_isFree 7 = .ok (.goto 4, 3) := by decide +kernel
theorem dX8_isFree_10 : decode cX8_isFree 10 = .ok (.iconst 0, 1) := by decide +kernel
theorem dX8_isFree_11 : decode cX8_isFree 11 = .ok (.istore_n 2, 1) := by decide +kernel
theorem dX8_isFree_12 : decode cX8_isFree 12 = .ok (.iconst 0, 1) := by decide +kernel
theorem dX8_isFree_13 : decode cX8_isFree 13 = .ok (.istore_n 3, 1) := by decide +kernel
theorem dX8_isFree_14 : decode cX8_isFree 14 = .ok (.iload_n 3, 1) := by decide +kernel
theorem dX8_isFree_15 : decode cX8_isFree 15 = .ok (.aload_n 0, 1) := by decide +kernel
theorem dX8_isFree_16 : decode cX8_isFree 16 = .ok (.getfield 135, 3) := by decide +kernel
theorem dX8_isFree_19 : decode cX8_isFree 19 = .ok (.if_icmp .ge 29, 3) := by decide +kernel
theorem dX8_isFree_22 : decode cX8_isFree 22 = .ok (.iload_n 2, 1) := by decide +kernel
theorem dX8_isFree_23 : decode cX8_isFree 23 = .ok (.ifCond .eq 17, 3) := by decide +kernel
theorem dX8_isFree_26 : decode cX8_isFree 26 = .ok (.aload_n 0, 1) := by decide +kernel
theorem dX8_isFree_27 : decode cX8_isFree 27 = .ok (.getfield 57, 3) := by decide +kernel
theorem dX8_isFree_30 : decode cX8_isFree 30 = .ok (.iload_n 3, 1) := by decide +kernel
theorem dX8_isFree_31 : decode cX8_isFree 31 = .ok (.iaload, 1) := by decide +kernel
theorem dX8_isFree_32 : decode cX8_isFree 32 = .ok (.iload_n 1, 1) := by decide +kernel
theorem dX8_isFree_33 : decode cX8_isFree 33 = .ok (.if_icmp .eq 7, 3) := by decide +kernel
theorem dX8_isFree_36 : decode cX8_isFree 36 = .ok (.iconst 1, 1) := by decide +kernel
theorem dX8_isFree_37 : decode cX8_isFree 37 = .ok (.goto 4, 3) := by decide +kernel
theorem dX8_isFree_40 : decode cX8_isFree 40 = .ok (.iconst 0, 1) := by decide +kernel
theorem dX8_isFree_41 : decode cX8_isFree 41 = .ok (.istore_n 2, 1) := by decide +kernel
theorem dX8_isFree_42 : decode cX8_isFree 42 = .ok (.iinc 3 1, 3) := by decide +kernel
theorem dX8_isFree_45 : decode cX8_isFree 45 = .ok (.goto (-31), 3) := by decide +kernel
theorem dX8_isFree_48 : decode cX8_isFree 48 = .ok (.iload_n 2, 1) := by decide +kernel
theorem dX8_isFree_49 : decode cX8_isFree 49 = .ok (.ireturn, 1) := by decide +kernel
theorem dX8_start_0 : decode cX8_start 0 = .ok (.aload_n 0, 1) := by decide +kernel
theorem dX8_start_1 : decode cX8_start 1 = .ok (.aload_n 0, 1) := by decide +kernel
theorem dX8_start_2 : decode cX8_start 2 = .ok (.getfield 7, 3) := by decide +kernel
theorem dX8_start_5 : decode cX8_start 5 = .ok (.iload_n 1, 1) := by decide +kernel
theorem dX8_start_6 : decode cX8_start 6 = .ok (.iaload, 1) := by decide +kernel
theorem dX8_start_7 : decode cX8_start 7 = .ok (.putfield 129, 3) := by decide +kernel
theorem dX8_start_10 : decode cX8_start 10 = .ok (.aload_n 0, 1) := by decide +kernel
theorem dX8_start_11 : decode cX8_start 11 = .ok (.aload_n 0, 1) := by decide +kernel
theorem dX8_start_12 : decode cX8_start 12 = .ok (.getfield 13, 3) := by decide +kernel
theorem dX8_start_15 : decode cX8_start 15 = .ok (.iload_n 1, 1) := by decide +kernel
theorem dX8_start_16 : decode cX8_start 16 = .ok (.iaload, 1) := by decide +kernel
theorem dX8_start_17 : decode cX8_start 17 = .ok (.putfield 132, 3) := by decide +kernel
theorem dX8_start_20 : decode cX8_start 20 = .ok (.aload_n 0, 1) := by decide +kernel
theorem dX8_start_21 : decode cX8_start 21 = .ok (.aload_n 0, 1) := by decide +kernel
theorem dX8_start_22 : decode cX8_start 22 = .ok (.getfield 16, 3) := by decide +kernel
theorem dX8_start_25 : decode cX8_start 25 = .ok (.iload_n 1, 1) := by decide +kernel
theorem dX8_start_26 : decode cX8_start 26 = .ok (.iaload, 1) := by decide +kernel
theorem dX8_start_27 : decode cX8_start 27 = .ok (.putfield 135, 3) := by decide +kernel
theorem dX8_start_30 : decode cX8_start 30 = .ok (.iconst 0, 1) := by decide +kernel
theorem dX8_start_31 : decode cX8_start 31 = .ok (.istore_n 2, 1) := by decide +kernel
theorem dX8_start_32 : decode cX8_start 32 = .ok (.iload_n 2, 1) := by decide +kernel
theorem dX8_start_33 : decode cX8_start 33 = .ok (.bipush 6, 2) := by decide +kernel
theorem dX8_start_35 : decode cX8_start 35 = .ok (.if_icmp .ge 36, 3) := by decide +kernel
theorem dX8_start_38 : decode cX8_start 38 = .ok (.aload_n 0, 1) := by decide +kernel
theorem dX8_start_39 : decode cX8_start 39 = .ok (.getfield 57, 3) := by decide +kernel
theorem dX8_start_42 : decode cX8_start 42 = .ok (.iload_n 2, 1) := by decide +kernel
theorem dX8_start_43 : decode cX8_start 43 = .ok (.iload_n 2, 1) := by decide +kernel
theorem dX8_start_44 : decode cX8_start 44 = .ok (.aload_n 0, 1) := by decide +kernel
theorem dX8_start_45 : decode cX8_start 45 = .ok (.getfield 135, 3) := by decide +kernel
theorem dX8_start_48 : decode cX8_start 48 = .ok (.if_icmp .ge 7, 3) := by decide +kernel
theorem dX8_start_51 : decode cX8_start 51 = .ok (.iload_n 2, 1) := by decide +kernel
theorem dX8_start_52 : decode cX8_start 52 = .ok (.goto 5, 3) := by decide +kernel
theorem dX8_start_55 : decode cX8_start 55 = .ok (.bipush (-9), 2) := by decide +kernel
theorem dX8_start_57 : decode cX8_start 57 = .ok (.iastore, 1) := by decide +kernel
theorem dX8_start_58 : decode cX8_start 58 = .ok (.aload_n 0, 1) := by decide +kernel
theorem dX8_start_59 : decode cX8_start 59 = .ok (.getfield 60, 3) := by decide +kernel
theorem dX8_start_62 : decode cX8_start 62 = .ok (.iload_n 2, 1) := by decide +kernel
theorem dX8_start_63 : decode cX8_start 63 = .ok (.iconst 0, 1) := by decide +kernel
theorem dX8_start_64 : decode cX8_start 64 = .ok (.iastore, 1) := by decide +kernel
theorem dX8_start_65 : decode cX8_start 65 = .ok (.iinc 2 1, 3) := by decide +kernel
theorem dX8_start_68 : decode cX8_start 68 = .ok (.goto (-36), 3) := by decide +kernel
theorem dX8_start_71 : decode cX8_start 71 = .ok (.aload_n 0, 1) := by decide +kernel
theorem dX8_start_72 : decode cX8_start 72 = .ok (.aload_n 0, 1) := by decide +kernel
theorem dX8_start_73 : decode cX8_start 73 = .ok (.getfield 129, 3) := by decide +kernel
theorem dX8_start_76 : decode cX8_start 76 = .ok (.aload_n 0, 1) := by decide +kernel
theorem dX8_start_77 : decode cX8_start 77 = .ok (.getfield 132, 3) := by decide +kernel
theorem dX8_start_80 : decode cX8_start 80 = .ok (.imul, 1) := by decide +kernel
theorem dX8_start_81 : decode cX8_start 81 = .ok (.iconst 1, 1) := by decide +kernel
theorem dX8_start_82 : decode cX8_start 82 = .ok (.isub, 1) := by decide +kernel
theorem dX8_start_83 : decode cX8_start 83 = .ok (.putfield 138, 3) := by decide +kernel
theorem dX8_start_86 : decode cX8_start 86 = .ok (.return_, 1) := by decide +kernel
set_option maxRecDepth 20000 in
theorem ggX8_besideBall_X8_by : GoodIn wsX8_besideBall wsX8_by := goodIn_r _ [7, 8, 9, 10, 11, 6, 12, 13, 14, 15, 16, 17, 18, 19, 20, 21, 22, 23, 24, 25, 26, 27, 28, 29, 30, 31, 32, 33, 34, 35, 36, 37, 38, 39, 40, 41, 42, 43, 44, 45, 46, 47, 48] (by decide +kernel) (by decide +kernel)
set_option maxRecDepth 20000 in
theorem gX8_besideBall_X8_by : GoodIn wsX8_besideBall (wsV RX8 141 RX8 yX8_by wsX8_by) := goodIn_app (goodIn_of _ (by decide +kernel)) ggX8_besideBall_X8_by
theorem dX8_besideBall_0 : decode cX8_besideBall 0 = .ok (.bipush (-9), 2) := by decide +kernel
theorem dX8_besideBall_2 : decode cX8_besideBall 2 = .ok (.istore_n 2, 1) := by decide +kernel
theorem dX8_besideBall_3 : decode cX8_besideBall 3 = .ok (.iconst 4, 1) := by decide +kernel
theorem dX8_besideBall_4 : decode cX8_besideBall 4 = .ok (.istore_n 3, 1) := by decide +kernel
theorem dX8_besideBall_5 : decode cX8_besideBall 5 = .ok (.iload_n 3, 1) := by decide +kernel
theorem dX8_besideBall_6 : decode cX8_besideBall 6 = .ok (.iconst 1, 1) := by decide +kernel
theorem dX8_besideBall_7 : decode cX8_besideBall 7 = .ok (.if_icmp .lt 33, 3) := by decide +kernel
theorem dX8_besideBall_10 : decode cX8_besideBall 10 = .ok (.aload_n 0, 1) := by decide +kernel
theorem dX8_besideBall_11 : decode cX8_besideBall 11 = .ok (.aload_n 0, 1) := by decide +kernel
theorem dX8_besideBall_12 : decode cX8_besideBall 12 = .ok (.getfield 57, 3) := by decide +kernel
theorem dX8_besideBall_15 : decode cX8_besideBall 15 = .ok (.iload_n 1, 1) := by decide +kernel
theorem dX8_besideBall_16 : decode cX8_besideBall 16 = .ok (.iaload, 1) := by decide +kernel
theorem dX8_besideBall_17 : decode cX8_besideBall 17 = .ok (.iload_n 3, 1) := by decide +kernel
theorem dX8_besideBall_18 : decode cX8_besideBall 18 = .ok (.invokevirtual 141, 3) := by decide +kernel
theorem dX8_besideBall_21 : decode cX8_besideBall 21 = .ok (.aload_n 0, 1) := by decide +kernel
theorem dX8_besideBall_22 : decode cX8_besideBall 22 = .ok (.getfield 138, 3) := by decide +kernel
theorem dX8_besideBall_25 : decode cX8_besideBall 25 = .ok (.if_icmp .ne 7, 3) := by decide +kernel
theorem dX8_besideBall_28 : decode cX8_besideBall 28 = .ok (.iload_n 3, 1) := by decide +kernel
theorem dX8_besideBall_29 : decode cX8_besideBall 29 = .ok (.goto 4, 3) := by decide +kernel
theorem dX8_besideBall_32 : decode cX8_besideBall 32 = .ok (.iload_n 2, 1) := by decide +kernel
theorem dX8_besideBall_33 : decode cX8_besideBall 33 = .ok (.istore_n 2, 1) := by decide +kernel
theorem dX8_besideBall_34 : decode cX8_besideBall 34 = .ok (.iinc 3 (-1), 3) := by decide +kernel
theorem dX8_besideBall_37 : decode cX8_besideBall 37 = .ok (.goto (-32), 3) := by decide +kernel
theorem dX8_besideBall_40 : decode cX8_besideBall 40 = .ok (.iload_n 2, 1) := by decide +kernel
theorem dX8_besideBall_41 : decode cX8_besideBall 41 = .ok (.ireturn, 1) := by decide +kernel
set_option maxRecDepth 20000 in
theorem ggX8_thinks_X8_besideBall : GoodIn wsX8_thinks wsX8_besideBall := goodIn_r _ [8, 3, 1, 9, 10, 11, 7, 12, 2, 13, 14, 15, 16, 20, 21, 22, 23, 24, 25, 26, 27, 28, 29, 30, 31, 32, 33, 34, 35, 36, 37, 38, 39, 40, 41, 42, 43, 44, 45, 46, 47, 48, 49, 50, 51, 52, 53, 54, 55] (by decide +kernel) (by decide +kernel)
set_option maxRecDepth 20000 in
theorem gX8_thinks_X8_besideBall : GoodIn wsX8_thinks (wsV RX8 145 RX8 yX8_besideBall wsX8_besideBall) := goodIn_app (goodIn_of _ (by decide +kernel)) ggX8_thinks_X8_besideBall
set_option maxRecDepth 20000 in
theorem ggX8_thinks_X8_size : GoodIn wsX8_thinks wsX8_size := goodIn_r _ [19] (by decide +kernel) (by decide +kernel)
set_option maxRecDepth 20000 in
theorem gX8_thinks_X8_size : GoodIn wsX8_thinks (va_wsS RX8 149 yX8_size wsX8_size) := goodIn_app (goodIn_of _ (by decide +kernel)) ggX8_thinks_X8_size
theorem dX8_thinks_0 : decode cX8_thinks 0 = .ok (.aload_n 0, 1) := by decide +kernel
theorem dX8_thinks_1 : decode cX8_thinks 1 = .ok (.iload_n 1, 1) := by decide +kernel
theorem dX8_thinks_2 : decode cX8_thinks 2 = .ok (.invokevirtual 145, 3) := by decide +kernel
theorem dX8_thinks_5 : decode cX8_thinks 5 = .ok (.bipush (-9), 2) := by decide +kernel
theorem dX8_thinks_7 : decode cX8_thinks 7 = .ok (.if_icmp .eq 5, 3) := by decide +kernel
theorem dX8_thinks_10 : decode cX8_thinks 10 = .ok (.iconst 5, 1) := by decide +kernel
theorem dX8_thinks_11 : decode cX8_thinks 11 = .ok (.ireturn, 1) := by decide +kernel
theorem dX8_thinks_12 : decode cX8_thinks 12 = .ok (.aload_n 0, 1) := by decide +kernel
theorem dX8_thinks_13 : decode cX8_thinks 13 = .ok (.getfield 138, 3) := by decide +kernel
theorem dX8_thinks_16 : decode cX8_thinks 16 = .ok (.aload_n 0, 1) := by decide +kernel
theorem dX8_thinks_17 : decode cX8_thinks 17 = .ok (.getfield 129, 3) := by decide +kernel
theorem dX8_thinks_20 : decode cX8_thinks 20 = .ok (.irem, 1) := by decide +kernel
theorem dX8_thinks_21 : decode cX8_thinks 21 = .ok (.aload_n 0, 1) := by decide +kernel
theorem dX8_thinks_22 : decode cX8_thinks 22 = .ok (.getfield 57, 3) := by decide +kernel
theorem dX8_thinks_25 : decode cX8_thinks 25 = .ok (.iload_n 1, 1) := by decide +kernel
theorem dX8_thinks_26 : decode cX8_thinks 26 = .ok (.iaload, 1) := by decide +kernel
theorem dX8_thinks_27 : decode cX8_thinks 27 = .ok (.aload_n 0, 1) := by decide +kernel
theorem dX8_thinks_28 : decode cX8_thinks 28 = .ok (.getfield 129, 3) := by decide +kernel
theorem dX8_thinks_31 : decode cX8_thinks 31 = .ok (.irem, 1) := by decide +kernel
theorem dX8_thinks_32 : decode cX8_thinks 32 = .ok (.isub, 1) := by decide +kernel
theorem dX8_thinks_33 : decode cX8_thinks 33 = .ok (.istore_n 2, 1) := by decide +kernel
theorem dX8_thinks_34 : decode cX8_thinks 34 = .ok (.aload_n 0, 1) := by decide +kernel
theorem dX8_thinks_35 : decode cX8_thinks 35 = .ok (.getfield 138, 3) := by decide +kernel
theorem dX8_thinks_38 : decode cX8_thinks 38 = .ok (.aload_n 0, 1) := by decide +kernel
theorem dX8_thinks_39 : decode cX8_thinks 39 = .ok (.getfield 129, 3) := by decide +kernel
theorem dX8_thinks_42 : decode cX8_thinks 42 = .ok (.idiv, 1) := by decide +kernel
theorem dX8_thinks_43 : decode cX8_thinks 43 = .ok (.aload_n 0, 1) := by decide +kernel
theorem dX8_thinks_44 : decode cX8_thinks 44 = .ok (.getfield 57, 3) := by decide +kernel
theorem dX8_thinks_47 : decode cX8_thinks 47 = .ok (.iload_n 1, 1) := by decide +kernel
theorem dX8_thinks_48 : decode cX8_thinks 48 = .ok (.iaload, 1) := by decide +kernel
theorem dX8_thinks_49 : decode cX8_thinks 49 = .ok (.aload_n 0, 1) := by decide +kernel
theorem dX8_thinks_50 : decode cX8_thinks 50 = .ok (.getfield 129, 3) := by decide +kernel
theorem dX8_thinks_53 : decode cX8_thinks 53 = .ok (.idiv, 1) := by decide +kernel
theorem dX8_thinks_54 : decode cX8_thinks 54 = .ok (.isub, 1) := by decide +kernel
theorem dX8_thinks_55 : decode cX8_thinks 55 = .ok (.istore_n 3, 1) := by decide +kernel
theorem dX8_thinks_56 : decode cX8_thinks 56 = .ok (.iload_n 2, 1) := by decide +kernel
theorem dX8_thinks_57 : decode cX8_thinks 57 = .ok (.invokestatic 149, 3) := by decide +kernel
theorem dX8_thinks_60 : decode cX8_thinks 60 = .ok (.iload_n 3, 1) := by decide +kernel
theorem dX8_thinks_61 : decode cX8_thinks 61 = .ok (.invokestatic 149, 3) := by decide +kernel
theorem dX8_thinks_64 : decode cX8_thinks 64 = .ok (.if_icmp .lt 13, 3) := by decide +kernel
theorem dX8_thinks_67 : decode cX8_thinks 67 = .ok (.iload_n 2, 1) := by decide +kernel
theorem dX8_thinks_68 : decode cX8_thinks 68 = .ok (.ifCond .le 7, 3) := by decide +kernel
theorem dX8_thinks_71 : decode cX8_thinks 71 = .ok (.iconst 1, 1) := by decide +kernel
theorem dX8_thinks_72 : decode cX8_thinks 72 = .ok (.goto 4, 3) := by decide +kernel
theorem dX8_thinks_75 : decode cX8_thinks 75 = .ok (.iconst 3, 1) := by decide +kernel
theorem dX8_thinks_76 : decode cX8_thinks 76 = .ok (.ireturn, 1) := by decide +kernel
theorem dX8_thinks_77 : decode cX8_thinks 77 = .ok (.iload_n 3, 1) := by decide +kernel
theorem dX8_thinks_78 : decode cX8_thinks 78 = .ok (.ifCond .le 7, 3) := by decide +kernel
theorem dX8_thinks_81 : decode cX8_thinks 81 = .ok (.iconst 2, 1) := by decide +kernel
theorem dX8_thinks_82 : decode cX8_thinks 82 = .ok (.goto 4, 3) := by decide +kernel
theorem dX8_thinks_85 : decode cX8_thinks 85 = .ok (.iconst 4, 1) := by decide +kernel
theorem dX8_thinks_86 : decode cX8_thinks 86 = .ok (.ireturn, 1) := by decide +kernel
set_option maxRecDepth 20000 in
theorem ggX8_act_X8_in : GoodIn wsX8_act wsX8_in := goodIn_r _ [7] (by decide +kernel) (by decide +kernel)
set_option maxRecDepth 20000 in
theorem gX8_act_X8_in : GoodIn wsX8_act (va_wsS RX8 103 yX8_in wsX8_in) := goodIn_app (goodIn_of _ (by decide +kernel)) ggX8_act_X8_in
set_option maxRecDepth 20000 in
theorem ggX8_act_X8_by : GoodIn wsX8_act wsX8_by := goodIn_r _ [11, 12, 13, 4, 5, 6, 7, 23, 24, 25, 26, 27, 28, 29, 30, 31, 32, 33, 34, 35, 36, 37, 38, 39, 40, 41, 42, 43, 44, 45, 46, 47, 48, 49, 50, 51, 52, 53, 54, 55, 56, 57, 58] (by decide +kernel) (by decide +kernel)
set_option maxRecDepth 20000 in
theorem gX8_act_X8_by : GoodIn wsX8_act (wsV RX8 141 RX8 yX8_by wsX8_by) := goodIn_app (goodIn_of _ (by decide +kernel)) ggX8_act_X8_by
set_option maxRecDepth 20000 in
theorem ggX8_act_X8_isFree : GoodIn wsX8_act wsX8_isFree := goodIn_r _ [17, 18, 2, 23, 24, 25, 26, 27, 28, 29, 30, 31, 32, 33, 34, 35, 36, 37, 38, 39, 40, 41, 42, 43, 44, 45, 46, 47, 48, 49, 50, 51, 52, 53, 54, 55, 56, 57, 58] (by decide +kernel) (by decide +kernel)
set_option maxRecDepth 20000 in
theorem gX8_act_X8_isFree : GoodIn wsX8_act (wsV RX8 154 RX8 yX8_isFree wsX8_isFree) := goodIn_app (goodIn_of _ (by decide +kernel)) ggX8_act_X8_isFree
set_option maxRecDepth 20000 in
theorem ggX8_act_X8_besideBall : GoodIn wsX8_act wsX8_besideBall := goodIn_r _ [22, 2, 3, 8, 9, 10, 6, 11, 12, 13, 4, 5, 7, 23, 24, 25, 26, 27, 28, 29, 30, 31, 32, 33, 34, 35, 36, 37, 38, 39, 40, 41, 42, 43, 44, 45, 46, 47, 48, 49, 50, 51, 52, 53, 54, 55, 56, 57, 58] (by decide +kernel) (by decide +kernel)
set_option maxRecDepth 20000 in
theorem gX8_act_X8_besideBall : GoodIn wsX8_act (wsV RX8 145 RX8 yX8_besideBall wsX8_besideBall) := goodIn_app (goodIn_of _ (by decide +kernel)) ggX8_act_X8_besideBall
theorem dX8_act_0 : decode cX8_act 0 = .ok (.iload_n 2, 1) := by decide +kernel
theorem dX8_act_1 : decode cX8_act 1 = .ok (.i2l, 1) := by decide +kernel
theorem dX8_act_2 : decode cX8_act 2 = .ok (.lconst 1, 1) := by decide +kernel
theorem dX8_act_3 : decode cX8_act 3 = .ok (.ldc2_w 152, 3) := by decide +kernel
theorem dX8_act_6 : decode cX8_act 6 = .ok (.invokestatic 103, 3) := by decide +kernel
theorem dX8_act_9 : decode cX8_act 9 = .ok (.ifCond .eq 111, 3) := by decide +kernel
theorem dX8_act_12 : decode cX8_act 12 = .ok (.aload_n 0, 1) := by decide +kernel
theorem dX8_act_13 : decode cX8_act 13 = .ok (.aload_n 0, 1) := by decide +kernel
theorem dX8_act_14 : decode cX8_act 14 = .ok (.getfield 57, 3) := by decide +kernel
theorem dX8_act_17 : decode cX8_act 17 = .ok (.iload_n 1, 1) := by decide +kernel
theorem dX8_act_18 : decode cX8_act 18 = .ok (.iaload, 1) := by decide +kernel
theorem dX8_act_19 : decode cX8_act 19 = .ok (.iload_n 2, 1) := by decide +kernel
theorem dX8_act_20 : decode cX8_act 20 = .ok (.invokevirtual 141, 3) := by decide +kernel
theorem dX8_act_23 : decode cX8_act 23 = .ok (.istore 4, 2) := by decide +kernel
theorem dX8_act_25 : decode cX8_act 25 = .ok (.aload_n 0, 1) := by decide +kernel
theorem dX8_act_26 : decode cX8_act 26 = .ok (.iload 4, 2) := by decide +kernel
theorem dX8_act_28 : decode cX8_act 28 = .ok (.invokevirtual 154, 3) := by decide +kernel
theorem dX8_act_31 : decode cX8_act 31 = .ok (.ifCond .eq 86, 3) := by decide +kernel
theorem dX8_act_34 : decode cX8_act 34 = .ok (.aload_n 0, 1) := by decide +kernel
theorem dX8_act_35 : decode cX8_act 35 = .ok (.iload 4, 2) := by decide +kernel
theorem dX8_act_37 : decode cX8_act 37 = .ok (.iload_n 2, 1) := by decide +kernel
theorem dX8_act_38 : decode cX8_act 38 = .ok (.invokevirtual 141, 3) := by decide +kernel
theorem dX8_act_41 : decode cX8_act 41 = .ok (.istore 5, 2) := by decide +kernel
theorem dX8_act_43 : decode cX8_act 43 = .ok (.iload 4, 2) := by decide +kernel
theorem dX8_act_45 : decode cX8_act 45 = .ok (.aload_n 0, 1) := by decide +kernel
theorem dX8_act_46 : decode cX8_act 46 = .ok (.getfield 138, 3) := by decide +kernel
theorem dX8_act_49 : decode cX8_act 49 = .ok (.if_icmp .ne 12, 3) := by decide +kernel
theorem dX8_act_52 : decode cX8_act 52 = .ok (.aload_n 0, 1) := by decide +kernel
theorem dX8_act_53 : decode cX8_act 53 = .ok (.iload 5, 2) := by decide +kernel
theorem dX8_act_55 : decode cX8_act 55 = .ok (.invokevirtual 154, 3) := by decide +kernel
theorem dX8_act_58 : decode cX8_act 58 = .ok (.ifCond .eq 7, 3) := by decide +kernel
theorem dX8_act_61 : decode cX8_act 61 = .ok (.iconst 1, 1) := by decide +kernel
theorem dX8_act_62 : decode cX8_act 62 = .ok (.goto 4, 3) := by decide +kernel
theorem dX8_act_65 : decode cX8_act 65 = .ok (.iconst 0, 1) := by decide +kernel
theorem dX8_act_66 : decode cX8_act 66 = .ok (.istore 6, 2) := by decide +kernel
theorem dX8_act_68 : decode cX8_act 68 = .ok (.aload_n 0, 1) := by decide +kernel
theorem dX8_act_69 : decode cX8_act 69 = .ok (.iload 4, 2) := by decide +kernel
theorem dX8_act_71 : decode cX8_act 71 = .ok (.aload_n 0, 1) := by decide +kernel
theorem dX8_act_72 : decode cX8_act 72 = .ok (.getfield 138, 3) := by decide +kernel
theorem dX8_act_75 : decode cX8_act 75 = .ok (.if_icmp .ne 13, 3) := by decide +kernel
theorem dX8_act_78 : decode cX8_act 78 = .ok (.iload 6, 2) := by decide +kernel
theorem dX8_act_80 : decode cX8_act 80 = .ok (.ifCond .eq 8, 3) := by decide +kernel
theorem dX8_act_83 : decode cX8_act 83 = .ok (.iload 5, 2) := by decide +kernel
theorem dX8_act_85 : decode cX8_act 85 = .ok (.goto 7, 3) := by decide +kernel
theorem dX8_act_88 : decode cX8_act 88 = .ok (.aload_n 0, 1) := by decide +kernel
theorem dX8_act_89 : decode cX8_act 89 = .ok (.getfield 138, 3) := by decide +kernel
theorem dX8_act_92 : decode cX8_act 92 = .ok (.putfield 138, 3) := by decide +kernel
theorem dX8_act_95 : decode cX8_act 95 = .ok (.aload_n 0, 1) := by decide +kernel
theorem dX8_act_96 : decode cX8_act 96 = .ok (.getfield 57, 3) := by decide +kernel
theorem dX8_act_99 : decode cX8_act 99 = .ok (.iload_n 1, 1) := by decide +kernel
theorem dX8_act_100 : decode cX8_act 100 = .ok (.iload 6, 2) := by decide +kernel
theorem dX8_act_102 : decode cX8_act 102 = .ok (.ifCond .eq 8, 3) := by decide +kernel
theorem dX8_act_105 : decode cX8_act 105 = .ok (.iload 4, 2) := by decide +kernel
theorem dX8_act_107 : decode cX8_act 107 = .ok (.goto 9, 3) := by decide +kernel
theorem dX8_act_110 : decode cX8_act 110 = .ok (.aload_n 0, 1) := by decide +kernel
theorem dX8_act_111 : decode cX8_act 111 = .ok (.getfield 57, 3) := by decide +kernel
theorem dX8_act_114 : decode cX8_act 114 = .ok (.iload_n 1, 1) := by decide +kernel
theorem dX8_act_115 : decode cX8_act 115 = .ok (.iaload, 1) := by decide +kernel
theorem dX8_act_116 : decode cX8_act 116 = .ok (.iastore, 1) := by decide +kernel
theorem dX8_act_117 : decode cX8_act 117 = .ok (.goto 71, 3) := by decide +kernel
theorem dX8_act_120 : decode cX8_act 120 = .ok (.iload_n 2, 1) := by decide +kernel
theorem dX8_act_121 : decode cX8_act 121 = .ok (.iconst 5, 1) := by decide +kernel
theorem dX8_act_122 : decode cX8_act 122 = .ok (.if_icmp .ne 66, 3) := by decide +kernel
theorem dX8_act_125 : decode cX8_act 125 = .ok (.aload_n 0, 1) := by decide +kernel
theorem dX8_act_126 : decode cX8_act 126 = .ok (.iload_n 1, 1) := by decide +kernel
theorem dX8_act_127 : decode cX8_act 127 = .ok (.invokevirtual 145, 3) := by decide +kernel
theorem dX8_act_130 : decode cX8_act 130 = .ok (.istore 4, 2) := by decide +kernel
theorem dX8_act_132 : decode cX8_act 132 = .ok (.iconst 0, 1) := by decide +kernel
theorem dX8_act_133 : decode cX8_act 133 = .ok (.istore 5, 2) := by decide +kernel
theorem dX8_act_135 : decode cX8_act 135 = .ok (.iload 5, 2) := by decide +kernel
theorem dX8_act_137 : decode cX8_act 137 = .ok (.iload_n 3, 1) := by decide +kernel
theorem dX8_act_138 : decode cX8_act 138 = .ok (.if_icmp .ge 50, 3) := by decide +kernel
theorem dX8_act_141 : decode cX8_act 141 = .ok (.iload 4, 2) := by decide +kernel
theorem dX8_act_143 : decode cX8_act 143 = .ok (.bipush (-9), 2) := by decide +kernel
theorem dX8_act_145 : decode cX8_act 145 = .ok (.if_icmp .eq 43, 3) := by decide +kernel
theorem dX8_act_148 : decode cX8_act 148 = .ok (.aload_n 0, 1) := by decide +kernel
theorem dX8_act_149 : decode cX8_act 149 = .ok (.aload_n 0, 1) := by decide +kernel
theorem dX8_act_150 : decode cX8_act 150 = .ok (.getfield 138, 3) := by decide +kernel
theorem dX8_act_153 : decode cX8_act 153 = .ok (.iload 4, 2) := by decide +kernel
theorem dX8_act_155 : decode cX8_act 155 = .ok (.invokevirtual 141, 3) := by decide +kernel
theorem dX8_act_158 : decode cX8_act 158 = .ok (.istore 6, 2) := by decide +kernel
theorem dX8_act_160 : decode cX8_act 160 = .ok (.aload_n 0, 1) := by decide +kernel
theorem dX8_act_161 : decode cX8_act 161 = .ok (.aload_n 0, 1) := by decide +kernel
theorem dX8_act_162 : decode cX8_act 162 = .ok (.iload 6, 2) := by decide +kernel
theorem dX8_act_164 : decode cX8_act 164 = .ok (.invokevirtual 154, 3) := by decide +kernel
theorem dX8_act_167 : decode cX8_act 167 = .ok (.ifCond .eq 8, 3) := by decide +kernel
theorem dX8_act_170 : decode cX8_act 170 = .ok (.iload 6, 2) := by decide +kernel
theorem dX8_act_172 : decode cX8_act 172 = .ok (.goto 7, 3) := by decide +kernel
theorem dX8_act_175 : decode cX8_act 175 = .ok (.aload_n 0, 1) := by decide +kernel
theorem dX8_act_176 : decode cX8_act 176 = .ok (.getfield 138, 3) := by decide +kernel
theorem dX8_act_179 : decode cX8_act 179 = .ok (.putfield 138, 3) := by decide +kernel
theorem dX8_act_182 : decode cX8_act 182 = .ok (.iinc 5 1, 3) := by decide +kernel
theorem dX8_act_185 : decode cX8_act 185 = .ok (.goto (-50), 3) := by decide +kernel
theorem dX8_act_188 : decode cX8_act 188 = .ok (.return_, 1) := by decide +kernel
set_option maxRecDepth 20000 in
theorem ggX8_step_X8_isLeft : GoodIn wsX8_step wsX8_isLeft := goodIn_r _ [13, 14, 15, 44, 45, 46, 47, 48, 49, 50, 51, 52, 53, 54, 55, 56, 57, 58, 59, 60, 61, 62, 63, 64, 65, 66, 67, 68, 69, 70, 71, 72, 73, 74, 75, 76, 77, 78, 79] (by decide +kernel) (by decide +kernel)
set_option maxRecDepth 20000 in
theorem gX8_step_X8_isLeft : GoodIn wsX8_step (wsV RX8 157 RX8 yX8_isLeft wsX8_isLeft) := goodIn_app (goodIn_of _ (by decide +kernel)) ggX8_step_X8_isLeft
set_option maxRecDepth 20000 in
theorem ggX8_step_X8_thinks : GoodIn wsX8_step wsX8_thinks := goodIn_r _ [19, 3, 6, 7, 20, 21, 22, 12, 23, 24, 25, 26, 27, 28, 29, 30, 31, 32, 33, 34, 44, 45, 46, 47, 48, 49, 50, 51, 52, 53, 54, 55, 56, 57, 58, 59, 60, 61, 62, 63, 64, 65, 66, 67, 68, 69, 70, 71, 72, 73, 74, 75, 76, 77, 78, 79] (by decide +kernel) (by decide +kernel)
set_option maxRecDepth 20000 in
theorem gX8_step_X8_thinks : GoodIn wsX8_step (wsV RX8 161 RX8 yX8_thinks wsX8_thinks) := goodIn_app (goodIn_of _ (by decide +kernel)) ggX8_step_X8_thinks
set_option maxRecDepth 20000 in
theorem ggX8_step_X8_act : GoodIn wsX8_step wsX8_act := goodIn_r _ [38, 39, 7, 3, 29, 30, 12, 31, 24, 25, 26, 27, 6, 28, 40, 41, 42, 43, 1, 20, 21, 22, 23, 44, 45, 46, 47, 48, 49, 50, 51, 52, 53, 54, 55, 56, 57, 58, 59, 60, 61, 62, 63, 64, 65, 66, 67, 68, 69, 70, 71, 72, 73, 74, 75, 76, 77, 78, 79] (by decide +kernel) (by decide +kernel)
set_option maxRecDepth 20000 in
theorem gX8_step_X8_act : GoodIn wsX8_step (wsV RX8 164 RX8 yX8_act wsX8_act) := goodIn_app (goodIn_of _ (by decide +kernel)) ggX8_step_X8_act
set_option maxRecDepth 20000 in
theorem ggX8_step_X8_by : GoodIn wsX8_step wsX8_by := goodIn_r _ [27, 6, 28, 29, 30, 12, 31, 44, 45, 46, 47, 48, 49, 50, 51, 52, 53, 54, 55, 56, 57, 58, 59, 60, 61, 62, 63, 64, 65, 66, 67, 68, 69, 70, 71, 72, 73, 74, 75, 76, 77, 78, 79] (by decide +kernel) (by decide +kernel)
set_option maxRecDepth 20000 in
theorem gX8_step_X8_by : GoodIn wsX8_step (wsV RX8 141 RX8 yX8_by wsX8_by) := goodIn_app (goodIn_of _ (by decide +kernel)) ggX8_step_X8_by
set_option maxRecDepth 20000 in
theorem ggX8_step_X8_isFree : GoodIn wsX8_step wsX8_isFree := goodIn_r _ [43, 1, 7, 44, 45, 46, 47, 48, 49, 50, 51, 52, 53, 54, 55, 56, 57, 58, 59, 60, 61, 62, 63, 64, 65, 66, 67, 68, 69, 70, 71, 72, 73, 74, 75, 76, 77, 78, 79] (by decide +kernel) (by decide +kernel)
set_option maxRecDepth 20000 in
theorem gX8_step_X8_isFree : GoodIn wsX8_step (wsV RX8 154 RX8 yX8_isFree wsX8_isFree) := goodIn_app (goodIn_of _ (by decide +kernel)) ggX8_step_X8_isFree
set_option maxRecDepth 20000 in
theorem ggX8_step_X8_size : GoodIn wsX8_step wsX8_size := goodIn_r _ [34] (by decide +kernel) (by decide +kernel)
set_option maxRecDepth 20000 in
theorem gX8_step_X8_size : GoodIn wsX8_step (va_wsS RX8 149 yX8_size wsX8_size) := goodIn_app (goodIn_of _ (by decide +kernel)) ggX8_step_X8_size
theorem dX8_step_0 : decode cX8_step 0 = .ok (.iconst 0, 1) := by decide +kernel
theorem dX8_step_1 : decode cX8_step 1 = .ok (.istore 6, 2) := by decide +kernel
theorem dX8_step_3 : decode cX8_step 3 = .ok (.iload 6, 2) := by decide +kernel
theorem dX8_step_5 : decode cX8_step 5 = .ok (.aload_n 0, 1) := by decide +kernel
theorem dX8_step_6 : decode cX8_step 6 = .ok (.getfield 135, 3) := by decide +kernel
theorem dX8_step_9 : decode cX8_step 9 = .ok (.if_icmp .ge 49, 3) := by decide +kernel
theorem dX8_step_12 : decode cX8_step 12 = .ok (.aload_n 0, 1) := by decide +kernel
theorem dX8_step_13 : decode cX8_step 13 = .ok (.iload 6, 2) := by decide +kernel
theorem dX8_step_15 : decode cX8_step 15 = .ok (.aload_n 0, 1) := by decide +kernel
theorem dX8_step_16 : decode cX8_step 16 = .ok (.iload_n 1, 1) := by decide +kernel
theorem dX8_step_17 : decode cX8_step 17 = .ok (.iload 6, 2) := by decide +kernel
theorem dX8_step_19 : decode cX8_step 19 = .ok (.iload_n 2, 1) := by decide +kernel
theorem dX8_step_20 : decode cX8_step 20 = .ok (.invokevirtual 157, 3) := by decide +kernel
theorem dX8_step_23 : decode cX8_step 23 = .ok (.ifCond .eq 12, 3) := by decide +kernel
theorem dX8_step_26 : decode cX8_step 26 = .ok (.aload_n 0, 1) := by decide +kernel
theorem dX8_step_27 : decode cX8_step 27 = .ok (.iload 6, 2) := by decide +kernel
theorem dX8_step_29 : decode cX8_step 29 = .ok (.invokevirtual 161, 3) := by decide +kernel
theorem dX8_step_32 : decode cX8_step 32 = .ok (.goto 15, 3) := by decide +kernel
theorem dX8_step_35 : decode cX8_step 35 = .ok (.aload_n 3, 1) := by decide +kernel
theorem dX8_step_36 : decode cX8_step 36 = .ok (.iload 4, 2) := by decide +kernel
theorem dX8_step_38 : decode cX8_step 38 = .ok (.bipush 100, 2) := by decide +kernel
theorem dX8_step_40 : decode cX8_step 40 = .ok (.iload 6, 2) := by decide +kernel
theorem dX8_step_42 : decode cX8_step 42 = .ok (.imul, 1) := by decide +kernel
theorem dX8_step_43 : decode cX8_step 43 = .ok (.iadd, 1) := by decide +kernel
theorem dX8_step_44 : decode cX8_step 44 = .ok (.iload_n 2, 1) := by decide +kernel
theorem dX8_step_45 : decode cX8_step 45 = .ok (.iadd, 1) := by decide +kernel
theorem dX8_step_46 : decode cX8_step 46 = .ok (.iaload, 1) := by decide +kernel
theorem dX8_step_47 : decode cX8_step 47 = .ok (.iload 5, 2) := by decide +kernel
theorem dX8_step_49 : decode cX8_step 49 = .ok (.invokevirtual 164, 3) := by decide +kernel
theorem dX8_step_52 : decode cX8_step 52 = .ok (.iinc 6 1, 3) := by decide +kernel
theorem dX8_step_55 : decode cX8_step 55 = .ok (.goto (-52), 3) := by decide +kernel
theorem dX8_step_58 : decode cX8_step 58 = .ok (.aload_n 0, 1) := by decide +kernel
theorem dX8_step_59 : decode cX8_step 59 = .ok (.getfield 22, 3) := by decide +kernel
theorem dX8_step_62 : decode cX8_step 62 = .ok (.iload_n 1, 1) := by decide +kernel
theorem dX8_step_63 : decode cX8_step 63 = .ok (.iaload, 1) := by decide +kernel
theorem dX8_step_64 : decode cX8_step 64 = .ok (.ifCond .le 66, 3) := by decide +kernel
theorem dX8_step_67 : decode cX8_step 67 = .ok (.iload_n 2, 1) := by decide +kernel
theorem dX8_step_68 : decode cX8_step 68 = .ok (.iconst 1, 1) := by decide +kernel
theorem dX8_step_69 : decode cX8_step 69 = .ok (.iadd, 1) := by decide +kernel
theorem dX8_step_70 : decode cX8_step 70 = .ok (.aload_n 0, 1) := by decide +kernel
theorem dX8_step_71 : decode cX8_step 71 = .ok (.getfield 22, 3) := by decide +kernel
theorem dX8_step_74 : decode cX8_step 74 = .ok (.iload_n 1, 1) := by decide +kernel
theorem dX8_step_75 : decode cX8_step 75 = .ok (.iaload, 1) := by decide +kernel
theorem dX8_step_76 : decode cX8_step 76 = .ok (.irem, 1) := by decide +kernel
theorem dX8_step_77 : decode cX8_step 77 = .ok (.ifCond .ne 53, 3) := by decide +kernel
theorem dX8_step_80 : decode cX8_step 80 = .ok (.aload_n 0, 1) := by decide +kernel
theorem dX8_step_81 : decode cX8_step 81 = .ok (.aload_n 0, 1) := by decide +kernel
theorem dX8_step_82 : decode cX8_step 82 = .ok (.getfield 138, 3) := by decide +kernel
theorem dX8_step_85 : decode cX8_step 85 = .ok (.bipush 31, 2) := by decide +kernel
theorem dX8_step_87 : decode cX8_step 87 = .ok (.aload_n 0, 1) := by decide +kernel
theorem dX8_step_88 : decode cX8_step 88 = .ok (.getfield 25, 3) := by decide +kernel
theorem dX8_step_91 : decode cX8_step 91 = .ok (.iload_n 1, 1) := by decide +kernel
theorem dX8_step_92 : decode cX8_step 92 = .ok (.iaload, 1) := by decide +kernel
theorem dX8_step_93 : decode cX8_step 93 = .ok (.imul, 1) := by decide +kernel
theorem dX8_step_94 : decode cX8_step 94 = .ok (.bipush 17, 2) := by decide +kernel
theorem dX8_step_96 : decode cX8_step 96 = .ok (.iload_n 2, 1) := by decide +kernel
theorem dX8_step_97 : decode cX8_step 97 = .ok (.imul, 1) := by decide +kernel
theorem dX8_step_98 : decode cX8_step 98 = .ok (.iadd, 1) := by decide +kernel
theorem dX8_step_99 : decode cX8_step 99 = .ok (.iconst 4, 1) := by decide +kernel
theorem dX8_step_100 : decode cX8_step 100 = .ok (.irem, 1) := by decide +kernel
theorem dX8_step_101 : decode cX8_step 101 = .ok (.iconst 1, 1) := by decide +kernel
theorem dX8_step_102 : decode cX8_step 102 = .ok (.iadd, 1) := by decide +kernel
theorem dX8_step_103 : decode cX8_step 103 = .ok (.invokevirtual 141, 3) := by decide +kernel
theorem dX8_step_106 : decode cX8_step 106 = .ok (.istore 6, 2) := by decide +kernel
theorem dX8_step_108 : decode cX8_step 108 = .ok (.aload_n 0, 1) := by decide +kernel
theorem dX8_step_109 : decode cX8_step 109 = .ok (.aload_n 0, 1) := by decide +kernel
theorem dX8_step_110 : decode cX8_step 110 = .ok (.iload 6, 2) := by decide +kernel
theorem dX8_step_112 : decode cX8_step 112 = .ok (.invokevirtual 154, 3) := by decide +kernel
theorem dX8_step_115 : decode cX8_step 115 = .ok (.ifCond .eq 8, 3) := by decide +kernel
theorem dX8_step_118 : decode cX8_step 118 = .ok (.iload 6, 2) := by decide +kernel
theorem dX8_step_120 : decode cX8_step 120 = .ok (.goto 7, 3) := by decide +kernel
theorem dX8_step_123 : decode cX8_step 123 = .ok (.aload_n 0, 1) := by decide +kernel
theorem dX8_step_124 : decode cX8_step 124 = .ok (.getfield 138, 3) := by decide +kernel
theorem dX8_step_127 : decode cX8_step 127 = .ok (.putfield 138, 3) := by decide +kernel
theorem dX8_step_130 : decode cX8_step 130 = .ok (.ldc 168, 2) := by decide +kernel
theorem dX8_step_132 : decode cX8_step 132 = .ok (.istore 6, 2) := by decide +kernel
theorem dX8_step_134 : decode cX8_step 134 = .ok (.bipush (-9), 2) := by decide +kernel
theorem dX8_step_136 : decode cX8_step 136 = .ok (.istore 7, 2) := by decide +kernel
theorem dX8_step_138 : decode cX8_step 138 = .ok (.iconst 0, 1) := by decide +kernel
theorem dX8_step_139 : decode cX8_step 139 = .ok (.istore 8, 2) := by decide +kernel
theorem dX8_step_141 : decode cX8_step 141 = .ok (.iload 8, 2) := by decide +kernel
theorem dX8_step_143 : decode cX8_step 143 = .ok (.aload_n 0, 1) := by decide +kernel
theorem dX8_step_144 : decode cX8_step 144 = .ok (.getfield 135, 3) := by decide +kernel
theorem dX8_step_147 : decode cX8_step 147 = .ok (.if_icmp .ge 106, 3) := by decide +kernel
theorem dX8_step_150 : decode cX8_step 150 = .ok (.aload_n 0, 1) := by decide +kernel
theorem dX8_step_151 : decode cX8_step 151 = .ok (.getfield 138, 3) := by decide +kernel
theorem dX8_step_154 : decode cX8_step 154 = .ok (.aload_n 0, 1) := by decide +kernel
theorem dX8_step_155 : decode cX8_step 155 = .ok (.getfield 129, 3) := by decide +kernel
theorem dX8_step_158 : decode cX8_step 158 = .ok (.irem, 1) := by decide +kernel
theorem dX8_step_159 : decode cX8_step 159 = .ok (.aload_n 0, 1) := by decide +kernel
theorem dX8_step_160 : decode cX8_step 160 = .ok (.getfield 57, 3) := by decide +kernel
theorem dX8_step_163 : decode cX8_step 163 = .ok (.iload 8, 2) := by decide +kernel
theorem dX8_step_165 : decode cX8_step 165 = .ok (.iaload, 1) := by decide +kernel
theorem dX8_step_166 : decode cX8_step 166 = .ok (.aload_n 0, 1) := by decide +kernel
theorem dX8_step_167 : decode cX8_step 167 = .ok (.getfield 129, 3) := by decide +kernel
theorem dX8_step_170 : decode cX8_step 170 = .ok (.irem, 1) := by decide +kernel
theorem dX8_step_171 : decode cX8_step 171 = .ok (.isub, 1) := by decide +kernel
theorem dX8_step_172 : decode cX8_step 172 = .ok (.invokestatic 149, 3) := by decide +kernel
theorem dX8_step_175 : decode cX8_step 175 = .ok (.aload_n 0, 1) := by decide +kernel
theorem dX8_step_176 : decode cX8_step 176 = .ok (.getfield 138, 3) := by decide +kernel
theorem dX8_step_179 : decode cX8_step 179 = .ok (.aload_n 0, 1) := by decide +kernel
theorem dX8_step_180 : decode cX8_step 180 = .ok (.getfield 129, 3) := by decide +kernel
theorem dX8_step_183 : decode cX8_step 183 = .ok (.idiv, 1) := by decide +kernel
theorem dX8_step_184 : decode cX8_step 184 = .ok (.aload_n 0, 1) := by decide +kernel
theorem dX8_step_185 : decode cX8_step 185 = .ok (.getfield 57, 3) := by decide +kernel
theorem dX8_step_188 : decode cX8_step 188 = .ok (.iload 8, 2) := by decide +kernel
theorem dX8_step_190 : decode cX8_step 190 = .ok (.iaload, 1) := by decide +kernel
theorem dX8_step_191 : decode cX8_step 191 = .ok (.aload_n 0, 1) := by decide +kernel
theorem dX8_step_192 : decode cX8_step 192 = .ok (.getfield 129, 3) := by decide +kernel
theorem dX8_step_195 : decode cX8_step 195 = .ok (.idiv, 1) := by decide +kernel
theorem dX8_step_196 : decode cX8_step 196 = .ok (.isub, 1) := by decide +kernel
theorem dX8_step_197 : decode cX8_step 197 = .ok (.invokestatic 149, 3) := by decide +kernel
theorem dX8_step_200 : decode cX8_step 200 = .ok (.iadd, 1) := by decide +kernel
theorem dX8_step_201 : decode cX8_step 201 = .ok (.istore 9, 2) := by decide +kernel
theorem dX8_step_203 : decode cX8_step 203 = .ok (.iload 9, 2) := by decide +kernel
theorem dX8_step_205 : decode cX8_step 205 = .ok (.iload 6, 2) := by decide +kernel
theorem dX8_step_207 : decode cX8_step 207 = .ok (.if_icmp .ge 8, 3) := by decide +kernel
theorem dX8_step_210 : decode cX8_step 210 = .ok (.iload 8, 2) := by decide +kernel
theorem dX8_step_212 : decode cX8_step 212 = .ok (.goto 17, 3) := by decide +kernel
theorem dX8_step_215 : decode cX8_step 215 = .ok (.iload 9, 2) := by decide +kernel
theorem dX8_step_217 : decode cX8_step 217 = .ok (.iload 6, 2) := by decide +kernel
theorem dX8_step_219 : decode cX8_step 219 = .ok (.if_icmp .ne 8, 3) := by decide +kernel
theorem dX8_step_222 : decode cX8_step 222 = .ok (.bipush (-9), 2) := by decide +kernel
theorem dX8_step_224 : decode cX8_step 224 = .ok (.goto 5, 3) := by decide +kernel
theorem dX8_step_227 : decode cX8_step 227 = .ok (.iload 7, 2) := by decide +kernel
theorem dX8_step_229 : decode cX8_step 229 = .ok (.istore 7, 2) := by decide +kernel
theorem dX8_step_231 : decode cX8_step 231 = .ok (.iload 9, 2) := by decide +kernel
theorem dX8_step_233 : decode cX8_step 233 = .ok (.iload 6, 2) := by decide +kernel
theorem dX8_step_235 : decode cX8_step 235 = .ok (.if_icmp .ge 8, 3) := by decide +kernel
theorem dX8_step_238 : decode cX8_step 238 = .ok (.iload 9, 2) := by decide +kernel
theorem dX8_step_240 : decode cX8_step 240 = .ok (.goto 5, 3) := by decide +kernel
theorem dX8_step_243 : decode cX8_step 243 = .ok (.iload 6, 2) := by decide +kernel
theorem dX8_step_245 : decode cX8_step 245 = .ok (.istore 6, 2) := by decide +kernel
theorem dX8_step_247 : decode cX8_step 247 = .ok (.iinc 8 1, 3) := by decide +kernel
theorem dX8_step_250 : decode cX8_step 250 = .ok (.goto (-109), 3) := by decide +kernel
theorem dX8_step_253 : decode cX8_step 253 = .ok (.iload 7, 2) := by decide +kernel
theorem dX8_step_255 : decode cX8_step 255 = .ok (.bipush (-9), 2) := by decide +kernel
theorem dX8_step_257 : decode cX8_step 257 = .ok (.if_icmp .eq 14, 3) := by decide +kernel
theorem dX8_step_260 : decode cX8_step 260 = .ok (.aload_n 0, 1) := by decide +kernel
theorem dX8_step_261 : decode cX8_step 261 = .ok (.getfield 60, 3) := by decide +kernel
theorem dX8_step_264 : decode cX8_step 264 = .ok (.iload 7, 2) := by decide +kernel
theorem dX8_step_266 : decode cX8_step 266 = .ok (.dup2, 1) := by decide +kernel
theorem dX8_step_267 : decode cX8_step 267 = .ok (.iaload, 1) := by decide +kernel
theorem dX8_step_268 : decode cX8_step 268 = .ok (.iconst 1, 1) := by decide +kernel
theorem dX8_step_269 : decode cX8_step 269 = .ok (.iadd, 1) := by decide +kernel
theorem dX8_step_270 : decode cX8_step 270 = .ok (.iastore, 1) := by decide +kernel
theorem dX8_step_271 : decode cX8_step 271 = .ok (.return_, 1) := by decide +kernel
set_option maxRecDepth 20000 in
theorem ggX8_live_X8_start : GoodIn wsX8_live wsX8_start := goodIn_r _ [6, 7, 8, 9, 10, 11, 12, 13, 14, 15, 56, 57, 58, 59, 60, 61, 62, 63, 64, 65, 66, 67, 68, 69, 70, 71, 72, 73, 74, 75, 76, 77, 78, 79, 80, 81, 82, 83, 84, 85, 86, 87, 88, 89, 90, 91] (by decide +kernel) (by decide +kernel)
set_option maxRecDepth 20000 in
theorem gX8_live_X8_start : GoodIn wsX8_live (wsV RX8 169 RX8 yX8_start wsX8_start) := goodIn_app (goodIn_of _ (by decide +kernel)) ggX8_live_X8_start
set_option maxRecDepth 20000 in
theorem ggX8_live_X8_step : GoodIn wsX8_live wsX8_step := goodIn_r _ [19, 12, 20, 15, 21, 22, 8, 13, 14, 23, 24, 25, 5, 26, 27, 28, 29, 30, 31, 32, 33, 34, 35, 36, 37, 38, 39, 40, 10, 41, 42, 43, 44, 45, 46, 47, 48, 49, 50, 51, 52, 53, 54, 55, 56, 57, 58, 59, 60, 61, 62, 63, 64, 65, 66, 67, 68, 69, 70, 71, 72, 73, 74, 75, 76, 77, 78, 79, 80, 81, 82, 83, 84, 85, 86, 87, 88, 89, 90, 91] (by decide +kernel) (by decide +kernel)
set_option maxRecDepth 20000 in
theorem gX8_live_X8_step : GoodIn wsX8_live (wsV RX8 173 RX8 yX8_step wsX8_step) := goodIn_app (goodIn_of _ (by decide +kernel)) ggX8_live_X8_step
theorem dX8_live_0 : decode cX8_live 0 = .ok (.aload_n 0, 1) := by decide +kernel
theorem dX8_live_1 : decode cX8_live 1 = .ok (.iload_n 1, 1) := by decide +kernel
theorem dX8_live_2 : decode cX8_live 2 = .ok (.invokevirtual 169, 3) := by decide +kernel
theorem dX8_live_5 : decode cX8_live 5 = .ok (.iconst 0, 1) := by decide +kernel
theorem dX8_live_6 : decode cX8_live 6 = .ok (.istore 4, 2) := by decide +kernel
theorem dX8_live_8 : decode cX8_live 8 = .ok (.iload 4, 2) := by decide +kernel
theorem dX8_live_10 : decode cX8_live 10 = .ok (.iload_n 2, 1) := by decide +kernel
theorem dX8_live_11 : decode cX8_live 11 = .ok (.if_icmp .gt 26, 3) := by decide +kernel
theorem dX8_live_14 : decode cX8_live 14 = .ok (.aload_n 0, 1) := by decide +kernel
theorem dX8_live_15 : decode cX8_live 15 = .ok (.iload_n 1, 1) := by decide +kernel
theorem dX8_live_16 : decode cX8_live 16 = .ok (.iload 4, 2) := by decide +kernel
theorem dX8_live_18 : decode cX8_live 18 = .ok (.aload_n 0, 1) := by decide +kernel
theorem dX8_live_19 : decode cX8_live 19 = .ok (.getfield 28, 3) := by decide +kernel
theorem dX8_live_22 : decode cX8_live 22 = .ok (.sipush 600, 3) := by decide +kernel
theorem dX8_live_25 : decode cX8_live 25 = .ok (.iload_n 1, 1) := by decide +kernel
theorem dX8_live_26 : decode cX8_live 26 = .ok (.imul, 1) := by decide +kernel
theorem dX8_live_27 : decode cX8_live 27 = .ok (.iload_n 3, 1) := by decide +kernel
theorem dX8_live_28 : decode cX8_live 28 = .ok (.invokevirtual 173, 3) := by decide +kernel
theorem dX8_live_31 : decode cX8_live 31 = .ok (.iinc 4 1, 3) := by decide +kernel
theorem dX8_live_34 : decode cX8_live 34 = .ok (.goto (-26), 3) := by decide +kernel
theorem dX8_live_37 : decode cX8_live 37 = .ok (.return_, 1) := by decide +kernel
set_option maxRecDepth 20000 in
theorem ggX8_liveNow_X8_live : GoodIn wsX8_liveNow wsX8_live := goodIn_r _ [6, 7, 8, 9, 10, 5, 11, 12, 13, 14, 15, 16, 17, 18, 19, 20, 21, 22, 23, 24, 25, 26, 27, 28, 29, 30, 31, 32, 33, 34, 35, 36, 37, 38, 39, 40, 41, 42, 43, 44, 45, 46, 47, 48, 49, 50, 51, 52, 53, 54, 55, 56, 57, 58, 59, 60, 61, 62, 63, 64, 65, 66, 67, 68, 69, 70, 71, 72, 73, 74, 75, 76, 77, 78, 79, 80, 81, 82, 83, 84, 85, 86, 87, 88, 89, 90, 91, 92, 93, 94, 95, 96] (by decide +kernel) (by decide +kernel)
set_option maxRecDepth 20000 in
theorem gX8_liveNow_X8_live : GoodIn wsX8_liveNow (wsV RX8 177 RX8 yX8_live wsX8_live) := goodIn_app (goodIn_of _ (by decide +kernel)) ggX8_liveNow_X8_live
theorem dX8_liveNow_0 : decode cX8_liveNow 0 = .ok (.aload_n 0, 1) := by decide +kernel
theorem dX8_liveNow_1 : decode cX8_liveNow 1 = .ok (.iconst 4, 1) := by decide +kernel
theorem dX8_liveNow_2 : decode cX8_liveNow 2 = .ok (.iload_n 1, 1) := by decide +kernel
theorem dX8_liveNow_3 : decode cX8_liveNow 3 = .ok (.aload_n 0, 1) := by decide +kernel
theorem dX8_liveNow_4 : decode cX8_liveNow 4 = .ok (.getfield 19, 3) := by decide +kernel
theorem dX8_liveNow_7 : decode cX8_liveNow 7 = .ok (.iconst 4, 1) := by decide +kernel
theorem dX8_liveNow_8 : decode cX8_liveNow 8 = .ok (.iaload, 1) := by decide +kernel
theorem dX8_liveNow_9 : decode cX8_liveNow 9 = .ok (.invokevirtual 177, 3) := by decide +kernel
theorem dX8_liveNow_12 : decode cX8_liveNow 12 = .ok (.return_, 1) := by decide +kernel
set_option maxRecDepth 20000 in
theorem ggX8_noWhat_X8_in : GoodIn wsX8_noWhat wsX8_in := goodIn_r _ [5] (by decide +kernel) (by decide +kernel)
set_option maxRecDepth 20000 in
theorem gX8_noWhat_X8_in : GoodIn wsX8_noWhat (va_wsS RX8 103 yX8_in wsX8_in) := goodIn_app (goodIn_of _ (by decide +kernel)) ggX8_noWhat_X8_in
theorem dX8_noWhat_0 : decode cX8_noWhat 0 = .ok (.iload_n 1, 1) := by decide +kernel
theorem dX8_noWhat_1 : decode cX8_noWhat 1 = .ok (.i2l, 1) := by decide +kernel
theorem dX8_noWhat_2 : decode cX8_noWhat 2 = .ok (.lconst 0, 1) := by decide +kernel
theorem dX8_noWhat_3 : decode cX8_noWhat 3 = .ok (.iload_n 2, 1) := by decide +kernel
theorem dX8_noWhat_4 : decode cX8_noWhat 4 = .ok (.iconst 1, 1) := by decide +kernel
theorem dX8_noWhat_5 : decode cX8_noWhat 5 = .ok (.isub, 1) := by decide +kernel
theorem dX8_noWhat_6 : decode cX8_noWhat 6 = .ok (.i2l, 1) := by decide +kernel
theorem dX8_noWhat_7 : decode cX8_noWhat 7 = .ok (.invokestatic 103, 3) := by decide +kernel
theorem dX8_noWhat_10 : decode cX8_noWhat 10 = .ok (.ifCond .ne 29, 3) := by decide +kernel
theorem dX8_noWhat_13 : decode cX8_noWhat 13 = .ok (.iload_n 1, 1) := by decide +kernel
theorem dX8_noWhat_14 : decode cX8_noWhat 14 = .ok (.bipush 6, 2) := by decide +kernel
theorem dX8_noWhat_16 : decode cX8_noWhat 16 = .ok (.if_icmp .eq 23, 3) := by decide +kernel
theorem dX8_noWhat_19 : decode cX8_noWhat 19 = .ok (.iload_n 1, 1) := by decide +kernel
theorem dX8_noWhat_20 : decode cX8_noWhat 20 = .ok (.i2l, 1) := by decide +kernel
theorem dX8_noWhat_21 : decode cX8_noWhat 21 = .ok (.ldc2_w 180, 3) := by decide +kernel
theorem dX8_noWhat_24 : decode cX8_noWhat 24 = .ok (.bipush 9, 2) := by decide +kernel
theorem dX8_noWhat_26 : decode cX8_noWhat 26 = .ok (.iload_n 2, 1) := by decide +kernel
theorem dX8_noWhat_27 : decode cX8_noWhat 27 = .ok (.iadd, 1) := by decide +kernel
theorem dX8_noWhat_28 : decode cX8_noWhat 28 = .ok (.i2l, 1) := by decide +kernel
theorem dX8_noWhat_29 : decode cX8_noWhat 29 = .ok (.invokestatic 103, 3) := by decide +kernel
theorem dX8_noWhat_32 : decode cX8_noWhat 32 = .ok (.ifCond .ne 7, 3) := by decide +kernel
theorem dX8_noWhat_35 : decode cX8_noWhat 35 = .ok (.iconst 1, 1) := by decide +kernel
theorem dX8_noWhat_36 : decode cX8_noWhat 36 = .ok (.goto 4, 3) := by decide +kernel
theorem dX8_noWhat_39 : decode cX8_noWhat 39 = .ok (.iconst 0, 1) := by decide +kernel
theorem dX8_noWhat_40 : decode cX8_noWhat 40 = .ok (.ireturn, 1) := by decide +kernel
theorem dX8_seen_0 : decode cX8_seen 0 = .ok (.iload_n 1, 1) := by decide +kernel
theorem dX8_seen_1 : decode cX8_seen 1 = .ok (.bipush 6, 2) := by decide +kernel
theorem dX8_seen_3 : decode cX8_seen 3 = .ok (.if_icmp .ge 12, 3) := by decide +kernel
theorem dX8_seen_6 : decode cX8_seen 6 = .ok (.aload_n 0, 1) := by decide +kernel
theorem dX8_seen_7 : decode cX8_seen 7 = .ok (.getfield 57, 3) := by decide +kernel
theorem dX8_seen_10 : decode cX8_seen 10 = .ok (.iload_n 1, 1) := by decide +kernel
theorem dX8_seen_11 : decode cX8_seen 11 = .ok (.iaload, 1) := by decide +kernel
theorem dX8_seen_12 : decode cX8_seen 12 = .ok (.goto 25, 3) := by decide +kernel
theorem dX8_seen_15 : decode cX8_seen 15 = .ok (.iload_n 1, 1) := by decide +kernel
theorem dX8_seen_16 : decode cX8_seen 16 = .ok (.bipush 6, 2) := by decide +kernel
theorem dX8_seen_18 : decode cX8_seen 18 = .ok (.if_icmp .ne 10, 3) := by decide +kernel
theorem dX8_seen_21 : decode cX8_seen 21 = .ok (.aload_n 0, 1) := by decide +kernel
theorem dX8_seen_22 : decode cX8_seen 22 = .ok (.getfield 138, 3) := by decide +kernel
theorem dX8_seen_25 : decode cX8_seen 25 = .ok (.goto 12, 3) := by decide +kernel
theorem dX8_seen_28 : decode cX8_seen 28 = .ok (.aload_n 0, 1) := by decide +kernel
theorem dX8_seen_29 : decode cX8_seen 29 = .ok (.getfield 60, 3) := by decide +kernel
theorem dX8_seen_32 : decode cX8_seen 32 = .ok (.iload_n 1, 1) := by decide +kernel
theorem dX8_seen_33 : decode cX8_seen 33 = .ok (.bipush 10, 2) := by decide +kernel
theorem dX8_seen_35 : decode cX8_seen 35 = .ok (.isub, 1) := by decide +kernel
theorem dX8_seen_36 : decode cX8_seen 36 = .ok (.iaload, 1) := by decide +kernel
theorem dX8_seen_37 : decode cX8_seen 37 = .ok (.ireturn, 1) := by decide +kernel
set_option maxRecDepth 20000 in
theorem ggX8_truly_X8_noTick : GoodIn wsX8_truly wsX8_noTick := goodIn_r _ [6, 7, 8, 9, 5, 10] (by decide +kernel) (by decide +kernel)
set_option maxRecDepth 20000 in
theorem gX8_truly_X8_noTick : GoodIn wsX8_truly (va_wsS RX8 124 yX8_noTick wsX8_noTick) := goodIn_app (goodIn_of _ (by decide +kernel)) ggX8_truly_X8_noTick
set_option maxRecDepth 20000 in
theorem ggX8_truly_X8_noWhat : GoodIn wsX8_truly wsX8_noWhat := goodIn_r _ [14, 15, 8, 9, 5, 10] (by decide +kernel) (by decide +kernel)
set_option maxRecDepth 20000 in
theorem gX8_truly_X8_noWhat : GoodIn wsX8_truly (wsV RX8 182 RX8 yX8_noWhat wsX8_noWhat) := goodIn_app (goodIn_of _ (by decide +kernel)) ggX8_truly_X8_noWhat
set_option maxRecDepth 20000 in
theorem ggX8_truly_X8_liveNow : GoodIn wsX8_truly wsX8_liveNow := goodIn_r _ [19, 20, 21, 22, 23, 5, 24, 25, 26, 27, 28, 29, 30, 31, 32, 33, 2, 34, 35, 36, 37, 38, 39, 40, 41, 42, 43, 44, 45, 46, 47, 48, 49, 50, 51, 52, 53, 54, 55, 56, 57, 58, 59, 60, 61, 62, 8, 9, 10, 63, 64, 65, 66, 67, 68, 69, 70, 71, 72, 73, 74, 79, 80, 81, 82, 83, 84, 85, 86, 87, 88, 89, 90, 91, 92, 93, 94, 95, 96, 97, 98, 99, 100, 101, 102, 103, 104, 105, 106, 107, 108, 109, 110, 111, 112, 113, 114] (by decide +kernel) (by decide +kernel)
set_option maxRecDepth 20000 in
theorem gX8_truly_X8_liveNow : GoodIn wsX8_truly (wsV RX8 186 RX8 yX8_liveNow wsX8_liveNow) := goodIn_app (goodIn_of _ (by decide +kernel)) ggX8_truly_X8_liveNow
set_option maxRecDepth 20000 in
theorem ggX8_truly_X8_seen : GoodIn wsX8_truly wsX8_seen := goodIn_r _ [78, 35, 37, 36, 79, 80, 81, 82, 83, 84, 85, 86, 87, 88, 89, 90, 91, 92, 93, 94, 95, 96, 97, 98, 99, 100, 101, 102, 103, 104, 105, 106, 107, 108, 109, 110, 111, 112, 113, 114] (by decide +kernel) (by decide +kernel)
set_option maxRecDepth 20000 in
theorem gX8_truly_X8_seen : GoodIn wsX8_truly (wsV RX8 189 RX8 yX8_seen wsX8_seen) := goodIn_app (goodIn_of _ (by decide +kernel)) ggX8_truly_X8_seen
theorem dX8_truly_0 : decode cX8_truly 0 = .ok (.aload_n 0, 1) := by decide +kernel
theorem dX8_truly_1 : decode cX8_truly 1 = .ok (.iconst 0, 1) := by decide +kernel
theorem dX8_truly_2 : decode cX8_truly 2 = .ok (.putfield 100, 3) := by decide +kernel
theorem dX8_truly_5 : decode cX8_truly 5 = .ok (.iload_n 1, 1) := by decide +kernel
theorem dX8_truly_6 : decode cX8_truly 6 = .ok (.invokestatic 124, 3) := by decide +kernel
theorem dX8_truly_9 : decode cX8_truly 9 = .ok (.ifCond .eq 5, 3) := by decide +kernel
theorem dX8_truly_12 : decode cX8_truly 12 = .ok (.iconst (-1), 1) := by decide +kernel
theorem dX8_truly_13 : decode cX8_truly 13 = .ok (.ireturn, 1) := by decide +kernel
theorem dX8_truly_14 : decode cX8_truly 14 = .ok (.aload_n 0, 1) := by decide +kernel
theorem dX8_truly_15 : decode cX8_truly 15 = .ok (.iload_n 2, 1) := by decide +kernel
theorem dX8_truly_16 : decode cX8_truly 16 = .ok (.aload_n 0, 1) := by decide +kernel
theorem dX8_truly_17 : decode cX8_truly 17 = .ok (.getfield 16, 3) := by decide +kernel
theorem dX8_truly_20 : decode cX8_truly 20 = .ok (.iconst 4, 1) := by decide +kernel
theorem dX8_truly_21 : decode cX8_truly 21 = .ok (.iaload, 1) := by decide +kernel
theorem dX8_truly_22 : decode cX8_truly 22 = .ok (.invokevirtual 182, 3) := by decide +kernel
theorem dX8_truly_25 : decode cX8_truly 25 = .ok (.ifCond .eq 6, 3) := by decide +kernel
theorem dX8_truly_28 : decode cX8_truly 28 = .ok (.bipush (-2), 2) := by decide +kernel
theorem dX8_truly_30 : decode cX8_truly 30 = .ok (.ireturn, 1) := by decide +kernel
theorem dX8_truly_31 : decode cX8_truly 31 = .ok (.aload_n 0, 1) := by decide +kernel
theorem dX8_truly_32 : decode cX8_truly 32 = .ok (.iload_n 1, 1) := by decide +kernel
theorem dX8_truly_33 : decode cX8_truly 33 = .ok (.invokevirtual 186, 3) := by decide +kernel
theorem dX8_truly_36 : decode cX8_truly 36 = .ok (.aload_n 0, 1) := by decide +kernel
theorem dX8_truly_37 : decode cX8_truly 37 = .ok (.iload_n 2, 1) := by decide +kernel
theorem dX8_truly_38 : decode cX8_truly 38 = .ok (.invokevirtual 189, 3) := by decide +kernel
theorem dX8_truly_41 : decode cX8_truly 41 = .ok (.ireturn, 1) := by decide +kernel
set_option maxRecDepth 20000 in
theorem ggX8_machine_X8_noHand : GoodIn wsX8_machine wsX8_noHand := goodIn_r _ [6, 7, 8, 9, 5, 10, 74, 75, 76, 77, 78, 79, 80, 81, 82, 83, 84, 85, 86, 87, 88, 89, 90, 91, 92, 93, 94, 95, 96, 97, 98, 99, 100, 101, 102, 103, 104, 105, 106, 107, 108, 109] (by decide +kernel) (by decide +kernel)
set_option maxRecDepth 20000 in
theorem gX8_machine_X8_noHand : GoodIn wsX8_machine (wsV RX8 120 RX8 yX8_noHand wsX8_noHand) := goodIn_app (goodIn_of _ (by decide +kernel)) ggX8_machine_X8_noHand
set_option maxRecDepth 20000 in
theorem ggX8_machine_X8_noTick : GoodIn wsX8_machine wsX8_noTick := goodIn_r _ [13, 14, 8, 9, 5, 10] (by decide +kernel) (by decide +kernel)
set_option maxRecDepth 20000 in
theorem gX8_machine_X8_noTick : GoodIn wsX8_machine (va_wsS RX8 124 yX8_noTick wsX8_noTick) := goodIn_app (goodIn_of _ (by decide +kernel)) ggX8_machine_X8_noTick
set_option maxRecDepth 20000 in
theorem ggX8_machine_X8_liveNow : GoodIn wsX8_machine wsX8_liveNow := goodIn_r _ [18, 19, 20, 21, 22, 5, 23, 24, 25, 26, 27, 28, 29, 30, 31, 32, 7, 33, 34, 35, 36, 37, 38, 39, 40, 41, 42, 43, 44, 45, 46, 47, 48, 49, 50, 51, 52, 53, 54, 55, 56, 57, 58, 59, 60, 61, 8, 9, 10, 62, 63, 64, 65, 66, 67, 68, 69, 70, 71, 72, 73, 74, 75, 76, 77, 78, 79, 80, 81, 82, 83, 84, 85, 86, 87, 88, 89, 90, 91, 92, 93, 94, 95, 96, 97, 98, 99, 100, 101, 102, 103, 104, 105, 106, 107, 108, 109] (by decide +kernel) (by decide +kernel)
set_option maxRecDepth 20000 in
theorem gX8_machine_X8_liveNow : GoodIn wsX8_machine (wsV RX8 186 RX8 yX8_liveNow wsX8_liveNow) := goodIn_app (goodIn_of _ (by decide +kernel)) ggX8_machine_X8_liveNow
set_option maxRecDepth 20000 in
theorem ggX8_machine_X8_thinks : GoodIn wsX8_machine wsX8_thinks := goodIn_r _ [53, 36, 30, 34, 54, 55, 56, 5, 57, 58, 59, 60, 61, 32, 8, 9, 10, 62, 63, 64, 74, 75, 76, 77, 78, 79, 80, 81, 82, 83, 84, 85, 86, 87, 88, 89, 90, 91, 92, 93, 94, 95, 96, 97, 98, 99, 100, 101, 102, 103, 104, 105, 106, 107, 108, 109] (by decide +kernel) (by decide +kernel)
set_option maxRecDepth 20000 in
theorem gX8_machine_X8_thinks : GoodIn wsX8_machine (wsV RX8 161 RX8 yX8_thinks wsX8_thinks) := goodIn_app (goodIn_of _ (by decide +kernel)) ggX8_machine_X8_thinks
theorem dX8_machine_0 : decode cX8_machine 0 = .ok (.aload_n 0, 1) := by decide +kernel
theorem dX8_machine_1 : decode cX8_machine 1 = .ok (.iconst 0, 1) := by decide +kernel
theorem dX8_machine_2 : decode cX8_machine 2 = .ok (.putfield 100, 3) := by decide +kernel
theorem dX8_machine_5 : decode cX8_machine 5 = .ok (.aload_n 0, 1) := by decide +kernel
theorem dX8_machine_6 : decode cX8_machine 6 = .ok (.iload_n 1, 1) := by decide +kernel
theorem dX8_machine_7 : decode cX8_machine 7 = .ok (.invokevirtual 120, 3) := by decide +kernel
theorem dX8_machine_10 : decode cX8_machine 10 = .ok (.ifCond .ne 10, 3) := by decide +kernel
theorem dX8_machine_13 : decode cX8_machine 13 = .ok (.iload_n 2, 1) := by decide +kernel
theorem dX8_machine_14 : decode cX8_machine 14 = .ok (.invokestatic 124, 3) := by decide +kernel
theorem dX8_machine_17 : decode cX8_machine 17 = .ok (.ifCond .eq 5, 3) := by decide +kernel
theorem dX8_machine_20 : decode cX8_machine 20 = .ok (.iconst (-1), 1) := by decide +kernel
theorem dX8_machine_21 : decode cX8_machine 21 = .ok (.ireturn, 1) := by decide +kernel
theorem dX8_machine_22 : decode cX8_machine 22 = .ok (.aload_n 0, 1) := by decide +kernel
theorem dX8_machine_23 : decode cX8_machine 23 = .ok (.iload_n 2, 1) := by decide +kernel
theorem dX8_machine_24 : decode cX8_machine 24 = .ok (.invokevirtual 186, 3) := by decide +kernel
theorem dX8_machine_27 : decode cX8_machine 27 = .ok (.aload_n 0, 1) := by decide +kernel
theorem dX8_machine_28 : decode cX8_machine 28 = .ok (.iload_n 1, 1) := by decide +kernel
theorem dX8_machine_29 : decode cX8_machine 29 = .ok (.invokevirtual 161, 3) := by decide +kernel
theorem dX8_machine_32 : decode cX8_machine 32 = .ok (.ireturn, 1) := by decide +kernel
set_option maxRecDepth 20000 in
theorem ggX8_line_X8_noHand : GoodIn wsX8_line wsX8_noHand := goodIn_r _ [8, 9, 10, 11, 7, 12, 13, 14, 15, 16, 17, 18, 19, 20, 21, 22, 23, 24, 25, 26, 27, 28, 29, 30, 31, 32, 33, 34, 35, 36, 37, 38, 39, 40, 41, 42, 43, 44, 45, 46, 47, 48] (by decide +kernel) (by decide +kernel)
set_option maxRecDepth 20000 in
theorem gX8_line_X8_noHand : GoodIn wsX8_line (wsV RX8 120 RX8 yX8_noHand wsX8_noHand) := goodIn_app (goodIn_of _ (by decide +kernel)) ggX8_line_X8_noHand
set_option maxRecDepth 20000 in
theorem ggX8_line_X8_in : GoodIn wsX8_line wsX8_in := goodIn_r _ [12] (by decide +kernel) (by decide +kernel)
set_option maxRecDepth 20000 in
theorem gX8_line_X8_in : GoodIn wsX8_line (va_wsS RX8 103 yX8_in wsX8_in) := goodIn_app (goodIn_of _ (by decide +kernel)) ggX8_line_X8_in
theorem dX8_line_0 : decode cX8_line 0 = .ok (.aload_n 0, 1) := by decide +kernel
theorem dX8_line_1 : decode cX8_line 1 = .ok (.iconst 0, 1) := by decide +kernel
theorem dX8_line_2 : decode cX8_line 2 = .ok (.putfield 100, 3) := by decide +kernel
theorem dX8_line_5 : decode cX8_line 5 = .ok (.aload_n 0, 1) := by decide +kernel
theorem dX8_line_6 : decode cX8_line 6 = .ok (.iload_n 1, 1) := by decide +kernel
theorem dX8_line_7 : decode cX8_line 7 = .ok (.invokevirtual 120, 3) := by decide +kernel
theorem dX8_line_10 : decode cX8_line 10 = .ok (.ifCond .ne 11, 3) := by decide +kernel
theorem dX8_line_13 : decode cX8_line 13 = .ok (.aload_n 0, 1) := by decide +kernel
theorem dX8_line_14 : decode cX8_line 14 = .ok (.iload_n 2, 1) := by decide +kernel
theorem dX8_line_15 : decode cX8_line 15 = .ok (.invokevirtual 120, 3) := by decide +kernel
theorem dX8_line_18 : decode cX8_line 18 = .ok (.ifCond .eq 5, 3) := by decide +kernel
theorem dX8_line_21 : decode cX8_line 21 = .ok (.iconst (-1), 1) := by decide +kernel
theorem dX8_line_22 : decode cX8_line 22 = .ok (.ireturn, 1) := by decide +kernel
theorem dX8_line_23 : decode cX8_line 23 = .ok (.iload_n 3, 1) := by decide +kernel
theorem dX8_line_24 : decode cX8_line 24 = .ok (.i2l, 1) := by decide +kernel
theorem dX8_line_25 : decode cX8_line 25 = .ok (.lconst 0, 1) := by decide +kernel
theorem dX8_line_26 : decode cX8_line 26 = .ok (.ldc2_w 111, 3) := by decide +kernel
theorem dX8_line_29 : decode cX8_line 29 = .ok (.invokestatic 103, 3) := by decide +kernel
theorem dX8_line_32 : decode cX8_line 32 = .ok (.ifCond .ne 6, 3) := by decide +kernel
theorem dX8_line_35 : decode cX8_line 35 = .ok (.bipush (-2), 2) := by decide +kernel
theorem dX8_line_37 : decode cX8_line 37 = .ok (.ireturn, 1) := by decide +kernel
theorem dX8_line_38 : decode cX8_line 38 = .ok (.iload_n 1, 1) := by decide +kernel
theorem dX8_line_39 : decode cX8_line 39 = .ok (.iload_n 2, 1) := by decide +kernel
theorem dX8_line_40 : decode cX8_line 40 = .ok (.if_icmp .ne 6, 3) := by decide +kernel
theorem dX8_line_43 : decode cX8_line 43 = .ok (.bipush (-3), 2) := by decide +kernel
theorem dX8_line_45 : decode cX8_line 45 = .ok (.ireturn, 1) := by decide +kernel
theorem dX8_line_46 : decode cX8_line 46 = .ok (.aload_n 0, 1) := by decide +kernel
theorem dX8_line_47 : decode cX8_line 47 = .ok (.getfield 51, 3) := by decide +kernel
theorem dX8_line_50 : decode cX8_line 50 = .ok (.bipush 6, 2) := by decide +kernel
theorem dX8_line_52 : decode cX8_line 52 = .ok (.iload_n 1, 1) := by decide +kernel
theorem dX8_line_53 : decode cX8_line 53 = .ok (.imul, 1) := by decide +kernel
theorem dX8_line_54 : decode cX8_line 54 = .ok (.iload_n 2, 1) := by decide +kernel
theorem dX8_line_55 : decode cX8_line 55 = .ok (.iadd, 1) := by decide +kernel
theorem dX8_line_56 : decode cX8_line 56 = .ok (.iaload, 1) := by decide +kernel
theorem dX8_line_57 : decode cX8_line 57 = .ok (.istore 4, 2) := by decide +kernel
theorem dX8_line_59 : decode cX8_line 59 = .ok (.aload_n 0, 1) := by decide +kernel
theorem dX8_line_60 : decode cX8_line 60 = .ok (.getfield 51, 3) := by decide +kernel
theorem dX8_line_63 : decode cX8_line 63 = .ok (.bipush 6, 2) := by decide +kernel
theorem dX8_line_65 : decode cX8_line 65 = .ok (.iload_n 1, 1) := by decide +kernel
theorem dX8_line_66 : decode cX8_line 66 = .ok (.imul, 1) := by decide +kernel
theorem dX8_line_67 : decode cX8_line 67 = .ok (.iload_n 2, 1) := by decide +kernel
theorem dX8_line_68 : decode cX8_line 68 = .ok (.iadd, 1) := by decide +kernel
theorem dX8_line_69 : decode cX8_line 69 = .ok (.iload_n 3, 1) := by decide +kernel
theorem dX8_line_70 : decode cX8_line 70 = .ok (.iastore, 1) := by decide +kernel
theorem dX8_line_71 : decode cX8_line 71 = .ok (.aload_n 0, 1) := by decide +kernel
theorem dX8_line_72 : decode cX8_line 72 = .ok (.getfield 51, 3) := by decide +kernel
theorem dX8_line_75 : decode cX8_line 75 = .ok (.bipush 6, 2) := by decide +kernel
theorem dX8_line_77 : decode cX8_line 77 = .ok (.iload_n 2, 1) := by decide +kernel
theorem dX8_line_78 : decode cX8_line 78 = .ok (.imul, 1) := by decide +kernel
theorem dX8_line_79 : decode cX8_line 79 = .ok (.iload_n 1, 1) := by decide +kernel
theorem dX8_line_80 : decode cX8_line 80 = .ok (.iadd, 1) := by decide +kernel
theorem dX8_line_81 : decode cX8_line 81 = .ok (.iload_n 3, 1) := by decide +kernel
theorem dX8_line_82 : decode cX8_line 82 = .ok (.iastore, 1) := by decide +kernel
theorem dX8_line_83 : decode cX8_line 83 = .ok (.iload 4, 2) := by decide +kernel
theorem dX8_line_85 : decode cX8_line 85 = .ok (.ireturn, 1) := by decide +kernel
set_option maxRecDepth 20000 in
theorem ggX8_lose_X8_noHand : GoodIn wsX8_lose wsX8_noHand := goodIn_r _ [7, 8, 9, 10, 6, 11, 16, 17, 18, 19, 20, 21, 22, 23, 24, 25, 26, 27, 28, 29, 30, 31, 32, 33, 34, 35, 36, 37, 38, 39, 40, 41, 42, 43, 44, 45, 46, 47, 48, 49, 50, 51] (by decide +kernel) (by decide +kernel)
set_option maxRecDepth 20000 in
theorem gX8_lose_X8_noHand : GoodIn wsX8_lose (wsV RX8 120 RX8 yX8_noHand wsX8_noHand) := goodIn_app (goodIn_of _ (by decide +kernel)) ggX8_lose_X8_noHand
set_option maxRecDepth 20000 in
theorem ggX8_lose_X8_noTick : GoodIn wsX8_lose wsX8_noTick := goodIn_r _ [14, 15, 9, 10, 6, 11] (by decide +kernel) (by decide +kernel)
set_option maxRecDepth 20000 in
theorem gX8_lose_X8_noTick : GoodIn wsX8_lose (va_wsS RX8 124 yX8_noTick wsX8_noTick) := goodIn_app (goodIn_of _ (by decide +kernel)) ggX8_lose_X8_noTick
theorem dX8_lose_0 : decode cX8_lose 0 = .ok (.aload_n 0, 1) := by decide +kernel
theorem dX8_lose_1 : decode cX8_lose 1 = .ok (.iconst 0, 1) := by decide +kernel
theorem dX8_lose_2 : decode cX8_lose 2 = .ok (.putfield 100, 3) := by decide +kernel
theorem dX8_lose_5 : decode cX8_lose 5 = .ok (.aload_n 0, 1) := by decide +kernel
theorem dX8_lose_6 : decode cX8_lose 6 = .ok (.iload_n 1, 1) := by decide +kernel
theorem dX8_lose_7 : decode cX8_lose 7 = .ok (.invokevirtual 120, 3) := by decide +kernel
theorem dX8_lose_10 : decode cX8_lose 10 = .ok (.ifCond .ne 10, 3) := by decide +kernel
theorem dX8_lose_13 : decode cX8_lose 13 = .ok (.iload_n 2, 1) := by decide +kernel
theorem dX8_lose_14 : decode cX8_lose 14 = .ok (.invokestatic 124, 3) := by decide +kernel
theorem dX8_lose_17 : decode cX8_lose 17 = .ok (.ifCond .eq 5, 3) := by decide +kernel
theorem dX8_lose_20 : decode cX8_lose 20 = .ok (.iconst (-1), 1) := by decide +kernel
theorem dX8_lose_21 : decode cX8_lose 21 = .ok (.ireturn, 1) := by decide +kernel
theorem dX8_lose_22 : decode cX8_lose 22 = .ok (.aload_n 0, 1) := by decide +kernel
theorem dX8_lose_23 : decode cX8_lose 23 = .ok (.getfield 54, 3) := by decide +kernel
theorem dX8_lose_26 : decode cX8_lose 26 = .ok (.bipush 100, 2) := by decide +kernel
theorem dX8_lose_28 : decode cX8_lose 28 = .ok (.iload_n 1, 1) := by decide +kernel
theorem dX8_lose_29 : decode cX8_lose 29 = .ok (.imul, 1) := by decide +kernel
theorem dX8_lose_30 : decode cX8_lose 30 = .ok (.iload_n 2, 1) := by decide +kernel
theorem dX8_lose_31 : decode cX8_lose 31 = .ok (.iadd, 1) := by decide +kernel
theorem dX8_lose_32 : decode cX8_lose 32 = .ok (.baload, 1) := by decide +kernel
theorem dX8_lose_33 : decode cX8_lose 33 = .ok (.ifCond .eq 7, 3) := by decide +kernel
theorem dX8_lose_36 : decode cX8_lose 36 = .ok (.iconst 1, 1) := by decide +kernel
theorem dX8_lose_37 : decode cX8_lose 37 = .ok (.goto 4, 3) := by decide +kernel
theorem dX8_lose_40 : decode cX8_lose 40 = .ok (.iconst 0, 1) := by decide +kernel
theorem dX8_lose_41 : decode cX8_lose 41 = .ok (.istore 4, 2) := by decide +kernel
theorem dX8_lose_43 : decode cX8_lose 43 = .ok (.aload_n 0, 1) := by decide +kernel
theorem dX8_lose_44 : decode cX8_lose 44 = .ok (.getfield 54, 3) := by decide +kernel
theorem dX8_lose_47 : decode cX8_lose 47 = .ok (.bipush 100, 2) := by decide +kernel
theorem dX8_lose_49 : decode cX8_lose 49 = .ok (.iload_n 1, 1) := by decide +kernel
theorem dX8_lose_50 : decode cX8_lose 50 = .ok (.imul, 1) := by decide +kernel
theorem dX8_lose_51 : decode cX8_lose 51 = .ok (.iload_n 2, 1) := by decide +kernel
theorem dX8_lose_52 : decode cX8_lose 52 = .ok (.iadd, 1) := by decide +kernel
theorem dX8_lose_53 : decode cX8_lose 53 = .ok (.iload_n 3, 1) := by decide +kernel
theorem dX8_lose_54 : decode cX8_lose 54 = .ok (.bastore, 1) := by decide +kernel
theorem dX8_lose_55 : decode cX8_lose 55 = .ok (.iload 4, 2) := by decide +kernel
theorem dX8_lose_57 : decode cX8_lose 57 = .ok (.ireturn, 1) := by decide +kernel
set_option maxRecDepth 20000 in
theorem ggX8_knownAt_X8_isLeft : GoodIn wsX8_knownAt wsX8_isLeft := goodIn_r _ [8, 9, 10, 11, 12, 13, 14, 15, 16, 17, 18, 19, 20, 21, 22, 23, 24, 25, 26, 27, 28, 29, 30, 31, 32, 33, 34, 35, 36, 37, 38, 39, 40, 41, 42, 43, 44, 45, 46] (by decide +kernel) (by decide +kernel)
set_option maxRecDepth 20000 in
theorem gX8_knownAt_X8_isLeft : GoodIn wsX8_knownAt (wsV RX8 157 RX8 yX8_isLeft wsX8_isLeft) := goodIn_app (goodIn_of _ (by decide +kernel)) ggX8_knownAt_X8_isLeft
theorem dX8_knownAt_0 : decode cX8_knownAt 0 = .ok (.aload_n 0, 1) := by decide +kernel
theorem dX8_knownAt_1 : decode cX8_knownAt 1 = .ok (.iconst 4, 1) := by decide +kernel
theorem dX8_knownAt_2 : decode cX8_knownAt 2 = .ok (.iload_n 2, 1) := by decide +kernel
theorem dX8_knownAt_3 : decode cX8_knownAt 3 = .ok (.iload_n 3, 1) := by decide +kernel
theorem dX8_knownAt_4 : decode cX8_knownAt 4 = .ok (.invokevirtual 157, 3) := by decide +kernel
theorem dX8_knownAt_7 : decode cX8_knownAt 7 = .ok (.ifCond .eq 6, 3) := by decide +kernel
theorem dX8_knownAt_10 : decode cX8_knownAt 10 = .ok (.ldc 192, 2) := by decide +kernel
theorem dX8_knownAt_12 : decode cX8_knownAt 12 = .ok (.ireturn, 1) := by decide +kernel
theorem dX8_knownAt_13 : decode cX8_knownAt 13 = .ok (.aload_n 0, 1) := by decide +kernel
theorem dX8_knownAt_14 : decode cX8_knownAt 14 = .ok (.getfield 51, 3) := by decide +kernel
theorem dX8_knownAt_17 : decode cX8_knownAt 17 = .ok (.bipush 6, 2) := by decide +kernel
theorem dX8_knownAt_19 : decode cX8_knownAt 19 = .ok (.iload_n 1, 1) := by decide +kernel
theorem dX8_knownAt_20 : decode cX8_knownAt 20 = .ok (.imul, 1) := by decide +kernel
theorem dX8_knownAt_21 : decode cX8_knownAt 21 = .ok (.iload_n 2, 1) := by decide +kernel
theorem dX8_knownAt_22 : decode cX8_knownAt 22 = .ok (.iadd, 1) := by decide +kernel
theorem dX8_knownAt_23 : decode cX8_knownAt 23 = .ok (.iaload, 1) := by decide +kernel
theorem dX8_knownAt_24 : decode cX8_knownAt 24 = .ok (.istore 5, 2) := by decide +kernel
theorem dX8_knownAt_26 : decode cX8_knownAt 26 = .ok (.iload_n 3, 1) := by decide +kernel
theorem dX8_knownAt_27 : decode cX8_knownAt 27 = .ok (.iload 4, 2) := by decide +kernel
theorem dX8_knownAt_29 : decode cX8_knownAt 29 = .ok (.isub, 1) := by decide +kernel
theorem dX8_knownAt_30 : decode cX8_knownAt 30 = .ok (.iload_n 1, 1) := by decide +kernel
theorem dX8_knownAt_31 : decode cX8_knownAt 31 = .ok (.iload_n 2, 1) := by decide +kernel
theorem dX8_knownAt_32 : decode cX8_knownAt 32 = .ok (.if_icmp .ne 7, 3) := by decide +kernel
theorem dX8_knownAt_35 : decode cX8_knownAt 35 = .ok (.iconst 0, 1) := by decide +kernel
theorem dX8_knownAt_36 : decode cX8_knownAt 36 = .ok (.goto 28, 3) := by decide +kernel
theorem dX8_knownAt_39 : decode cX8_knownAt 39 = .ok (.aload_n 0, 1) := by decide +kernel
theorem dX8_knownAt_40 : decode cX8_knownAt 40 = .ok (.getfield 54, 3) := by decide +kernel
theorem dX8_knownAt_43 : decode cX8_knownAt 43 = .ok (.bipush 100, 2) := by decide +kernel
theorem dX8_knownAt_45 : decode cX8_knownAt 45 = .ok (.iload_n 2, 1) := by decide +kernel
theorem dX8_knownAt_46 : decode cX8_knownAt 46 = .ok (.imul, 1) := by decide +kernel
theorem dX8_knownAt_47 : decode cX8_knownAt 47 = .ok (.iload_n 3, 1) := by decide +kernel
theorem dX8_knownAt_48 : decode cX8_knownAt 48 = .ok (.iadd, 1) := by decide +kernel
theorem dX8_knownAt_49 : decode cX8_knownAt 49 = .ok (.baload, 1) := by decide +kernel
theorem dX8_knownAt_50 : decode cX8_knownAt 50 = .ok (.ifCond .eq 12, 3) := by decide +kernel
theorem dX8_knownAt_53 : decode cX8_knownAt 53 = .ok (.iconst 3, 1) := by decide +kernel
theorem dX8_knownAt_54 : decode cX8_knownAt 54 = .ok (.iload 5, 2) := by decide +kernel
theorem dX8_knownAt_56 : decode cX8_knownAt 56 = .ok (.imul, 1) := by decide +kernel
theorem dX8_knownAt_57 : decode cX8_knownAt 57 = .ok (.iconst 1, 1) := by decide +kernel
theorem dX8_knownAt_58 : decode cX8_knownAt 58 = .ok (.iadd, 1) := by decide +kernel
theorem dX8_knownAt_59 : decode cX8_knownAt 59 = .ok (.goto 5, 3) := by decide +kernel
theorem dX8_knownAt_62 : decode cX8_knownAt 62 = .ok (.iload 5, 2) := by decide +kernel
theorem dX8_knownAt_64 : decode cX8_knownAt 64 = .ok (.iadd, 1) := by decide +kernel
theorem dX8_knownAt_65 : decode cX8_knownAt 65 = .ok (.ireturn, 1) := by decide +kernel
set_option maxRecDepth 20000 in
theorem ggX8_known_X8_noHand : GoodIn wsX8_known wsX8_noHand := goodIn_r _ [8, 9, 10, 11, 7, 12, 29, 30, 31, 32, 33, 34, 35, 36, 37, 38, 39, 40, 41, 42, 43, 44, 45, 46, 47, 48, 49, 50, 51, 52, 53, 54, 55, 56, 57, 58, 59, 60, 61, 62, 63, 64] (by decide +kernel) (by decide +kernel)
set_option maxRecDepth 20000 in
theorem gX8_known_X8_noHand : GoodIn wsX8_known (wsV RX8 120 RX8 yX8_noHand wsX8_noHand) := goodIn_app (goodIn_of _ (by decide +kernel)) ggX8_known_X8_noHand
set_option maxRecDepth 20000 in
theorem ggX8_known_X8_noTick : GoodIn wsX8_known wsX8_noTick := goodIn_r _ [15, 16, 10, 11, 7, 12] (by decide +kernel) (by decide +kernel)
set_option maxRecDepth 20000 in
theorem gX8_known_X8_noTick : GoodIn wsX8_known (va_wsS RX8 124 yX8_noTick wsX8_noTick) := goodIn_app (goodIn_of _ (by decide +kernel)) ggX8_known_X8_noTick
set_option maxRecDepth 20000 in
theorem ggX8_known_X8_knownAt : GoodIn wsX8_known wsX8_knownAt := goodIn_r _ [20, 3, 21, 22, 23, 24, 25, 7, 26, 27, 28, 29, 30, 31, 32, 33, 34, 35, 36, 37, 38, 39, 40, 41, 42, 43, 44, 45, 46, 47, 48, 49, 50, 51, 52, 53, 54, 55, 56, 57, 58, 59, 60, 61, 62, 63, 64] (by decide +kernel) (by decide +kernel)
set_option maxRecDepth 20000 in
theorem gX8_known_X8_knownAt : GoodIn wsX8_known (wsV RX8 193 RX8 yX8_knownAt wsX8_knownAt) := goodIn_app (goodIn_of _ (by decide +kernel)) ggX8_known_X8_knownAt
theorem dX8_known_0 : decode cX8_known 0 = .ok (.aload_n 0, 1) := by decide +kernel
theorem dX8_known_1 : decode cX8_known 1 = .ok (.iconst 0, 1) := by decide +kernel
theorem dX8_known_2 : decode cX8_known 2 = .ok (.putfield 100, 3) := by decide +kernel
theorem dX8_known_5 : decode cX8_known 5 = .ok (.aload_n 0, 1) := by decide +kernel
theorem dX8_known_6 : decode cX8_known 6 = .ok (.iload_n 1, 1) := by decide +kernel
theorem dX8_known_7 : decode cX8_known 7 = .ok (.invokevirtual 120, 3) := by decide +kernel
theorem dX8_known_10 : decode cX8_known 10 = .ok (.ifCond .ne 18, 3) := by decide +kernel
theorem dX8_known_13 : decode cX8_known 13 = .ok (.aload_n 0, 1) := by decide +kernel
theorem dX8_known_14 : decode cX8_known 14 = .ok (.iload_n 2, 1) := by decide +kernel
theorem dX8_known_15 : decode cX8_known 15 = .ok (.invokevirtual 120, 3) := by decide +kernel
theorem dX8_known_18 : decode cX8_known 18 = .ok (.ifCond .ne 10, 3) := by decide +kernel
theorem dX8_known_21 : decode cX8_known 21 = .ok (.iload_n 3, 1) := by decide +kernel
theorem dX8_known_22 : decode cX8_known 22 = .ok (.invokestatic 124, 3) := by decide +kernel
theorem dX8_known_25 : decode cX8_known 25 = .ok (.ifCond .eq 5, 3) := by decide +kernel
theorem dX8_known_28 : decode cX8_known 28 = .ok (.iconst (-1), 1) := by decide +kernel
theorem dX8_known_29 : decode cX8_known 29 = .ok (.ireturn, 1) := by decide +kernel
theorem dX8_known_30 : decode cX8_known 30 = .ok (.aload_n 0, 1) := by decide +kernel
theorem dX8_known_31 : decode cX8_known 31 = .ok (.iload_n 1, 1) := by decide +kernel
theorem dX8_known_32 : decode cX8_known 32 = .ok (.iload_n 2, 1) := by decide +kernel
theorem dX8_known_33 : decode cX8_known 33 = .ok (.iload_n 3, 1) := by decide +kernel
theorem dX8_known_34 : decode cX8_known 34 = .ok (.aload_n 0, 1) := by decide +kernel
theorem dX8_known_35 : decode cX8_known 35 = .ok (.getfield 117, 3) := by decide +kernel
theorem dX8_known_38 : decode cX8_known 38 = .ok (.invokevirtual 193, 3) := by decide +kernel
theorem dX8_known_41 : decode cX8_known 41 = .ok (.istore 4, 2) := by decide +kernel
theorem dX8_known_43 : decode cX8_known 43 = .ok (.iload 4, 2) := by decide +kernel
theorem dX8_known_45 : decode cX8_known 45 = .ok (.ldc 192, 2) := by decide +kernel
theorem dX8_known_47 : decode cX8_known 47 = .ok (.if_icmp .ne 7, 3) := by decide +kernel
theorem dX8_known_50 : decode cX8_known 50 = .ok (.iconst 0, 1) := by decide +kernel
theorem dX8_known_51 : decode cX8_known 51 = .ok (.goto 8, 3) := by decide +kernel
theorem dX8_known_54 : decode cX8_known 54 = .ok (.iload 4, 2) := by decide +kernel
theorem dX8_known_56 : decode cX8_known 56 = .ok (.bipush 100, 2) := by decide +kernel
theorem dX8_known_58 : decode cX8_known 58 = .ok (.iadd, 1) := by decide +kernel
theorem dX8_known_59 : decode cX8_known 59 = .ok (.ireturn, 1) := by decide +kernel
set_option maxRecDepth 20000 in
theorem ggX8_take_X8_knownAt : GoodIn wsX8_take wsX8_knownAt := goodIn_r _ [7, 8, 9, 10, 11, 12, 13, 6, 14, 15, 16, 17, 18, 19, 20, 21, 22, 23, 24, 25, 26, 27, 28, 29, 30, 31, 32, 33, 34, 35, 36, 37, 38, 39, 40, 41, 42, 43, 44, 45, 46, 47, 48, 49, 50, 51, 52] (by decide +kernel) (by decide +kernel)
set_option maxRecDepth 20000 in
theorem gX8_take_X8_knownAt : GoodIn wsX8_take (wsV RX8 193 RX8 yX8_knownAt wsX8_knownAt) := goodIn_app (goodIn_of _ (by decide +kernel)) ggX8_take_X8_knownAt
set_option maxRecDepth 20000 in
theorem ggX8_take_X8_isLeft : GoodIn wsX8_take wsX8_isLeft := goodIn_r _ [14, 15, 16, 17, 18, 19, 20, 21, 22, 23, 24, 25, 26, 27, 28, 29, 30, 31, 32, 33, 34, 35, 36, 37, 38, 39, 40, 41, 42, 43, 44, 45, 46, 47, 48, 49, 50, 51, 52] (by decide +kernel) (by decide +kernel)
set_option maxRecDepth 20000 in
theorem gX8_take_X8_isLeft : GoodIn wsX8_take (wsV RX8 157 RX8 yX8_isLeft wsX8_isLeft) := goodIn_app (goodIn_of _ (by decide +kernel)) ggX8_take_X8_isLeft
theorem dX8_take_0 : decode cX8_take 0 = .ok (.iconst 0, 1) := by decide +kernel
theorem dX8_take_1 : decode cX8_take 1 = .ok (.istore 5, 2) := by decide +kernel
theorem dX8_take_3 : decode cX8_take 3 = .ok (.iload 5, 2) := by decide +kernel
theorem dX8_take_5 : decode cX8_take 5 = .ok (.aload_n 0, 1) := by decide +kernel
theorem dX8_take_6 : decode cX8_take 6 = .ok (.getfield 16, 3) := by decide +kernel
theorem dX8_take_9 : decode cX8_take 9 = .ok (.iconst 4, 1) := by decide +kernel
theorem dX8_take_10 : decode cX8_take 10 = .ok (.iaload, 1) := by decide +kernel
theorem dX8_take_11 : decode cX8_take 11 = .ok (.if_icmp .ge 120, 3) := by decide +kernel
theorem dX8_take_14 : decode cX8_take 14 = .ok (.iconst 0, 1) := by decide +kernel
theorem dX8_take_15 : decode cX8_take 15 = .ok (.istore 6, 2) := by decide +kernel
theorem dX8_take_17 : decode cX8_take 17 = .ok (.iconst 0, 1) := by decide +kernel
theorem dX8_take_18 : decode cX8_take 18 = .ok (.istore 7, 2) := by decide +kernel
theorem dX8_take_20 : decode cX8_take 20 = .ok (.iload 7, 2) := by decide +kernel
theorem dX8_take_22 : decode cX8_take 22 = .ok (.iload_n 2, 1) := by decide +kernel
theorem dX8_take_23 : decode cX8_take 23 = .ok (.if_icmp .gt 102, 3) := by decide +kernel
theorem dX8_take_26 : decode cX8_take 26 = .ok (.aload_n 0, 1) := by decide +kernel
theorem dX8_take_27 : decode cX8_take 27 = .ok (.iload_n 1, 1) := by decide +kernel
theorem dX8_take_28 : decode cX8_take 28 = .ok (.iload 5, 2) := by decide +kernel
theorem dX8_take_30 : decode cX8_take 30 = .ok (.iload 7, 2) := by decide +kernel
theorem dX8_take_32 : decode cX8_take 32 = .ok (.iload_n 3, 1) := by decide +kernel
theorem dX8_take_33 : decode cX8_take 33 = .ok (.invokevirtual 193, 3) := by decide +kernel
theorem dX8_take_36 : decode cX8_take 36 = .ok (.iload_n 2, 1) := by decide +kernel
theorem dX8_take_37 : decode cX8_take 37 = .ok (.if_icmp .gt 7, 3) := by decide +kernel
theorem dX8_take_40 : decode cX8_take 40 = .ok (.iconst 1, 1) := by decide +kernel
theorem dX8_take_41 : decode cX8_take 41 = .ok (.goto 4, 3) := by decide +kernel
theorem dX8_take_44 : decode cX8_take 44 = .ok (.iconst 0, 1) := by decide +kernel
theorem dX8_take_45 : decode cX8_take 45 = .ok (.istore 8, 2) := by decide +kernel
theorem dX8_take_47 : decode cX8_take 47 = .ok (.aload_n 0, 1) := by decide +kernel
theorem dX8_take_48 : decode cX8_take 48 = .ok (.getfield 28, 3) := by decide +kernel
theorem dX8_take_51 : decode cX8_take 51 = .ok (.sipush 2400, 3) := by decide +kernel
theorem dX8_take_54 : decode cX8_take 54 = .ok (.bipush 100, 2) := by decide +kernel
theorem dX8_take_56 : decode cX8_take 56 = .ok (.iload 5, 2) := by decide +kernel
theorem dX8_take_58 : decode cX8_take 58 = .ok (.imul, 1) := by decide +kernel
theorem dX8_take_59 : decode cX8_take 59 = .ok (.iadd, 1) := by decide +kernel
theorem dX8_take_60 : decode cX8_take 60 = .ok (.iload 7, 2) := by decide +kernel
theorem dX8_take_62 : decode cX8_take 62 = .ok (.iadd, 1) := by decide +kernel
theorem dX8_take_63 : decode cX8_take 63 = .ok (.iaload, 1) := by decide +kernel
theorem dX8_take_64 : decode cX8_take 64 = .ok (.istore 9, 2) := by decide +kernel
theorem dX8_take_66 : decode cX8_take 66 = .ok (.aload 4, 2) := by decide +kernel
theorem dX8_take_68 : decode cX8_take 68 = .ok (.bipush 100, 2) := by decide +kernel
theorem dX8_take_70 : decode cX8_take 70 = .ok (.iload 5, 2) := by decide +kernel
theorem dX8_take_72 : decode cX8_take 72 = .ok (.imul, 1) := by decide +kernel
theorem dX8_take_73 : decode cX8_take 73 = .ok (.iload 7, 2) := by decide +kernel
theorem dX8_take_75 : decode cX8_take 75 = .ok (.iadd, 1) := by decide +kernel
theorem dX8_take_76 : decode cX8_take 76 = .ok (.iload 8, 2) := by decide +kernel
theorem dX8_take_78 : decode cX8_take 78 = .ok (.ifCond .eq 8, 3) := by decide +kernel
theorem dX8_take_81 : decode cX8_take 81 = .ok (.iload 9, 2) := by decide +kernel
theorem dX8_take_83 : decode cX8_take 83 = .ok (.goto 5, 3) := by decide +kernel
theorem dX8_take_86 : decode cX8_take 86 = .ok (.iload 6, 2) := by decide +kernel
theorem dX8_take_88 : decode cX8_take 88 = .ok (.iastore, 1) := by decide +kernel
theorem dX8_take_89 : decode cX8_take 89 = .ok (.iload 8, 2) := by decide +kernel
theorem dX8_take_91 : decode cX8_take 91 = .ok (.ifCond .ne 8, 3) := by decide +kernel
theorem dX8_take_94 : decode cX8_take 94 = .ok (.iload 6, 2) := by decide +kernel
theorem dX8_take_96 : decode cX8_take 96 = .ok (.goto 21, 3) := by decide +kernel
theorem dX8_take_99 : decode cX8_take 99 = .ok (.aload_n 0, 1) := by decide +kernel
theorem dX8_take_100 : decode cX8_take 100 = .ok (.iconst 4, 1) := by decide +kernel
theorem dX8_take_101 : decode cX8_take 101 = .ok (.iload 5, 2) := by decide +kernel
theorem dX8_take_103 : decode cX8_take 103 = .ok (.iload 7, 2) := by decide +kernel
theorem dX8_take_105 : decode cX8_take 105 = .ok (.invokevirtual 157, 3) := by decide +kernel
theorem dX8_take_108 : decode cX8_take 108 = .ok (.ifCond .eq 7, 3) := by decide +kernel
theorem dX8_take_111 : decode cX8_take 111 = .ok (.iconst 0, 1) := by decide +kernel
theorem dX8_take_112 : decode cX8_take 112 = .ok (.goto 5, 3) := by decide +kernel
theorem dX8_take_115 : decode cX8_take 115 = .ok (.iload 9, 2) := by decide +kernel
theorem dX8_take_117 : decode cX8_take 117 = .ok (.istore 6, 2) := by decide +kernel
theorem dX8_take_119 : decode cX8_take 119 = .ok (.iinc 7 1, 3) := by decide +kernel
theorem dX8_take_122 : decode cX8_take 122 = .ok (.goto (-102), 3) := by decide +kernel
theorem dX8_take_125 : decode cX8_take 125 = .ok (.iinc 5 1, 3) := by decide +kernel
theorem dX8_take_128 : decode cX8_take 128 = .ok (.goto (-125), 3) := by decide +kernel
theorem dX8_take_131 : decode cX8_take 131 = .ok (.return_, 1) := by decide +kernel
set_option maxRecDepth 20000 in
theorem ggX8_takes_X8_noHand : GoodIn wsX8_takes wsX8_noHand := goodIn_r _ [8, 9, 10, 11, 7, 12, 35, 36, 37, 38, 39, 40, 41, 42, 43, 44, 45, 46, 47, 48, 49, 50, 51, 52, 53, 54, 55, 56, 57, 58, 59, 60, 61, 62, 63, 64, 65, 66, 67, 68, 69, 70] (by decide +kernel) (by decide +kernel)
set_option maxRecDepth 20000 in
theorem gX8_takes_X8_noHand : GoodIn wsX8_takes (wsV RX8 120 RX8 yX8_noHand wsX8_noHand) := goodIn_app (goodIn_of _ (by decide +kernel)) ggX8_takes_X8_noHand
set_option maxRecDepth 20000 in
theorem ggX8_takes_X8_noTick : GoodIn wsX8_takes wsX8_noTick := goodIn_r _ [15, 16, 10, 11, 7, 12] (by decide +kernel) (by decide +kernel)
set_option maxRecDepth 20000 in
theorem gX8_takes_X8_noTick : GoodIn wsX8_takes (va_wsS RX8 124 yX8_noTick wsX8_noTick) := goodIn_app (goodIn_of _ (by decide +kernel)) ggX8_takes_X8_noTick
set_option maxRecDepth 20000 in
theorem ggX8_takes_X8_in : GoodIn wsX8_takes wsX8_in := goodIn_r _ [12] (by decide +kernel) (by decide +kernel)
set_option maxRecDepth 20000 in
theorem gX8_takes_X8_in : GoodIn wsX8_takes (va_wsS RX8 103 yX8_in wsX8_in) := goodIn_app (goodIn_of _ (by decide +kernel)) ggX8_takes_X8_in
set_option maxRecDepth 20000 in
theorem ggX8_takes_X8_take : GoodIn wsX8_takes wsX8_take := goodIn_r _ [20, 9, 21, 22, 23, 24, 7, 25, 26, 27, 28, 29, 30, 31, 32, 33, 34, 35, 36, 37, 38, 39, 40, 41, 42, 43, 44, 45, 46, 47, 48, 49, 50, 51, 52, 53, 54, 55, 56, 57, 58, 59, 60, 61, 62, 63, 64, 65, 66, 67, 68, 69, 70] (by decide +kernel) (by decide +kernel)
set_option maxRecDepth 20000 in
theorem gX8_takes_X8_take : GoodIn wsX8_takes (wsV RX8 197 RX8 yX8_take wsX8_take) := goodIn_app (goodIn_of _ (by decide +kernel)) ggX8_takes_X8_take
theorem dX8_takes_0 : decode cX8_takes 0 = .ok (.aload_n 0, 1) := by decide +kernel
theorem dX8_takes_1 : decode cX8_takes 1 = .ok (.iconst 0, 1) := by decide +kernel
theorem dX8_takes_2 : decode cX8_takes 2 = .ok (.putfield 100, 3) := by decide +kernel
theorem dX8_takes_5 : decode cX8_takes 5 = .ok (.aload_n 0, 1) := by decide +kernel
theorem dX8_takes_6 : decode cX8_takes 6 = .ok (.iload_n 1, 1) := by decide +kernel
theorem dX8_takes_7 : decode cX8_takes 7 = .ok (.invokevirtual 120, 3) := by decide +kernel
theorem dX8_takes_10 : decode cX8_takes 10 = .ok (.ifCond .ne 30, 3) := by decide +kernel
theorem dX8_takes_13 : decode cX8_takes 13 = .ok (.aload_n 0, 1) := by decide +kernel
theorem dX8_takes_14 : decode cX8_takes 14 = .ok (.iload_n 3, 1) := by decide +kernel
theorem dX8_takes_15 : decode cX8_takes 15 = .ok (.invokevirtual 120, 3) := by decide +kernel
theorem dX8_takes_18 : decode cX8_takes 18 = .ok (.ifCond .ne 22, 3) := by decide +kernel
theorem dX8_takes_21 : decode cX8_takes 21 = .ok (.iload_n 2, 1) := by decide +kernel
theorem dX8_takes_22 : decode cX8_takes 22 = .ok (.invokestatic 124, 3) := by decide +kernel
theorem dX8_takes_25 : decode cX8_takes 25 = .ok (.ifCond .ne 15, 3) := by decide +kernel
theorem dX8_takes_28 : decode cX8_takes 28 = .ok (.iload 4, 2) := by decide +kernel
theorem dX8_takes_30 : decode cX8_takes 30 = .ok (.i2l, 1) := by decide +kernel
theorem dX8_takes_31 : decode cX8_takes 31 = .ok (.lconst 0, 1) := by decide +kernel
theorem dX8_takes_32 : decode cX8_takes 32 = .ok (.iload_n 2, 1) := by decide +kernel
theorem dX8_takes_33 : decode cX8_takes 33 = .ok (.i2l, 1) := by decide +kernel
theorem dX8_takes_34 : decode cX8_takes 34 = .ok (.invokestatic 103, 3) := by decide +kernel
theorem dX8_takes_37 : decode cX8_takes 37 = .ok (.ifCond .ne 5, 3) := by decide +kernel
theorem dX8_takes_40 : decode cX8_takes 40 = .ok (.iconst (-1), 1) := by decide +kernel
theorem dX8_takes_41 : decode cX8_takes 41 = .ok (.ireturn, 1) := by decide +kernel
theorem dX8_takes_42 : decode cX8_takes 42 = .ok (.aload_n 0, 1) := by decide +kernel
theorem dX8_takes_43 : decode cX8_takes 43 = .ok (.iload_n 1, 1) := by decide +kernel
theorem dX8_takes_44 : decode cX8_takes 44 = .ok (.iload_n 2, 1) := by decide +kernel
theorem dX8_takes_45 : decode cX8_takes 45 = .ok (.aload_n 0, 1) := by decide +kernel
theorem dX8_takes_46 : decode cX8_takes 46 = .ok (.getfield 117, 3) := by decide +kernel
theorem dX8_takes_49 : decode cX8_takes 49 = .ok (.aload_n 0, 1) := by decide +kernel
theorem dX8_takes_50 : decode cX8_takes 50 = .ok (.getfield 66, 3) := by decide +kernel
theorem dX8_takes_53 : decode cX8_takes 53 = .ok (.invokevirtual 197, 3) := by decide +kernel
theorem dX8_takes_56 : decode cX8_takes 56 = .ok (.aload_n 0, 1) := by decide +kernel
theorem dX8_takes_57 : decode cX8_takes 57 = .ok (.getfield 66, 3) := by decide +kernel
theorem dX8_takes_60 : decode cX8_takes 60 = .ok (.bipush 100, 2) := by decide +kernel
theorem dX8_takes_62 : decode cX8_takes 62 = .ok (.iload_n 3, 1) := by decide +kernel
theorem dX8_takes_63 : decode cX8_takes 63 = .ok (.imul, 1) := by decide +kernel
theorem dX8_takes_64 : decode cX8_takes 64 = .ok (.iload 4, 2) := by decide +kernel
theorem dX8_takes_66 : decode cX8_takes 66 = .ok (.iadd, 1) := by decide +kernel
theorem dX8_takes_67 : decode cX8_takes 67 = .ok (.iaload, 1) := by decide +kernel
theorem dX8_takes_68 : decode cX8_takes 68 = .ok (.ireturn, 1) := by decide +kernel
set_option maxRecDepth 20000 in
theorem ggX8_show_X8_take : GoodIn wsX8_show wsX8_take := goodIn_r _ [8, 9, 10, 11, 12, 13, 7, 14, 15, 16, 17, 18, 19, 20, 21, 22, 23, 70, 71, 72, 73, 74, 75, 76, 77, 78, 79, 80, 81, 82, 83, 84, 85, 86, 87, 88, 89, 90, 91, 92, 93, 94, 95, 96, 97, 98, 99, 100, 101, 102, 103, 104, 105] (by decide +kernel) (by decide +kernel)
set_option maxRecDepth 20000 in
theorem gX8_show_X8_take : GoodIn wsX8_show (wsV RX8 197 RX8 yX8_take wsX8_take) := goodIn_app (goodIn_of _ (by decide +kernel)) ggX8_show_X8_take
set_option maxRecDepth 20000 in
theorem ggX8_show_X8_start : GoodIn wsX8_show wsX8_start := goodIn_r _ [27, 28, 29, 30, 31, 9, 32, 33, 34, 35, 70, 71, 72, 73, 74, 75, 76, 77, 78, 79, 80, 81, 82, 83, 84, 85, 86, 87, 88, 89, 90, 91, 92, 93, 94, 95, 96, 97, 98, 99, 100, 101, 102, 103, 104, 105] (by decide +kernel) (by decide +kernel)
set_option maxRecDepth 20000 in
theorem gX8_show_X8_start : GoodIn wsX8_show (wsV RX8 169 RX8 yX8_start wsX8_start) := goodIn_app (goodIn_of _ (by decide +kernel)) ggX8_show_X8_start
set_option maxRecDepth 20000 in
theorem ggX8_show_X8_step : GoodIn wsX8_show wsX8_step := goodIn_r _ [39, 32, 40, 35, 41, 42, 29, 33, 34, 18, 19, 20, 7, 21, 22, 23, 43, 44, 45, 46, 47, 48, 49, 50, 51, 52, 53, 54, 31, 55, 56, 57, 58, 59, 60, 61, 62, 63, 64, 65, 66, 67, 68, 69, 70, 71, 72, 73, 74, 75, 76, 77, 78, 79, 80, 81, 82, 83, 84, 85, 86, 87, 88, 89, 90, 91, 92, 93, 94, 95, 96, 97, 98, 99, 100, 101, 102, 103, 104, 105] (by decide +kernel) (by decide +kernel)
set_option maxRecDepth 20000 in
theorem gX8_show_X8_step : GoodIn wsX8_show (wsV RX8 173 RX8 yX8_step wsX8_step) := goodIn_app (goodIn_of _ (by decide +kernel)) ggX8_show_X8_step
theorem dX8_show_0 : decode cX8_show 0 = .ok (.aload_n 0, 1) := by decide +kernel
theorem dX8_show_1 : decode cX8_show 1 = .ok (.iload_n 1, 1) := by decide +kernel
theorem dX8_show_2 : decode cX8_show 2 = .ok (.iload_n 2, 1) := by decide +kernel
theorem dX8_show_3 : decode cX8_show 3 = .ok (.aload_n 0, 1) := by decide +kernel
theorem dX8_show_4 : decode cX8_show 4 = .ok (.getfield 117, 3) := by decide +kernel
theorem dX8_show_7 : decode cX8_show 7 = .ok (.aload_n 0, 1) := by decide +kernel
theorem dX8_show_8 : decode cX8_show 8 = .ok (.getfield 66, 3) := by decide +kernel
theorem dX8_show_11 : decode cX8_show 11 = .ok (.invokevirtual 197, 3) := by decide +kernel
theorem dX8_show_14 : decode cX8_show 14 = .ok (.aload_n 0, 1) := by decide +kernel
theorem dX8_show_15 : decode cX8_show 15 = .ok (.iconst 4, 1) := by decide +kernel
theorem dX8_show_16 : decode cX8_show 16 = .ok (.invokevirtual 169, 3) := by decide +kernel
theorem dX8_show_19 : decode cX8_show 19 = .ok (.iconst 0, 1) := by decide +kernel
theorem dX8_show_20 : decode cX8_show 20 = .ok (.istore_n 3, 1) := by decide +kernel
theorem dX8_show_21 : decode cX8_show 21 = .ok (.iload_n 3, 1) := by decide +kernel
theorem dX8_show_22 : decode cX8_show 22 = .ok (.iload_n 2, 1) := by decide +kernel
theorem dX8_show_23 : decode cX8_show 23 = .ok (.if_icmp .gt 26, 3) := by decide +kernel
theorem dX8_show_26 : decode cX8_show 26 = .ok (.aload_n 0, 1) := by decide +kernel
theorem dX8_show_27 : decode cX8_show 27 = .ok (.iconst 4, 1) := by decide +kernel
theorem dX8_show_28 : decode cX8_show 28 = .ok (.iload_n 3, 1) := by decide +kernel
theorem dX8_show_29 : decode cX8_show 29 = .ok (.aload_n 0, 1) := by decide +kernel
theorem dX8_show_30 : decode cX8_show 30 = .ok (.getfield 66, 3) := by decide +kernel
theorem dX8_show_33 : decode cX8_show 33 = .ok (.iconst 0, 1) := by decide +kernel
theorem dX8_show_34 : decode cX8_show 34 = .ok (.aload_n 0, 1) := by decide +kernel
theorem dX8_show_35 : decode cX8_show 35 = .ok (.getfield 19, 3) := by decide +kernel
theorem dX8_show_38 : decode cX8_show 38 = .ok (.iconst 4, 1) := by decide +kernel
theorem dX8_show_39 : decode cX8_show 39 = .ok (.iaload, 1) := by decide +kernel
theorem dX8_show_40 : decode cX8_show 40 = .ok (.invokevirtual 173, 3) := by decide +kernel
theorem dX8_show_43 : decode cX8_show 43 = .ok (.iinc 3 1, 3) := by decide +kernel
theorem dX8_show_46 : decode cX8_show 46 = .ok (.goto (-25), 3) := by decide +kernel
theorem dX8_show_49 : decode cX8_show 49 = .ok (.return_, 1) := by decide +kernel
set_option maxRecDepth 20000 in
theorem ggX8_shown_X8_noHand : GoodIn wsX8_shown wsX8_noHand := goodIn_r _ [7, 2, 8, 9, 6, 10, 92, 93, 94, 95, 96, 97, 98, 99, 100, 101, 102, 103, 104, 105, 106, 107, 108, 109, 110, 111, 112, 113, 114, 115, 116, 117, 118, 119, 120, 121, 122, 123, 124, 125, 126, 127] (by decide +kernel) (by decide +kernel)
set_option maxRecDepth 20000 in
theorem gX8_shown_X8_noHand : GoodIn wsX8_shown (wsV RX8 120 RX8 yX8_noHand wsX8_noHand) := goodIn_app (goodIn_of _ (by decide +kernel)) ggX8_shown_X8_noHand
set_option maxRecDepth 20000 in
theorem ggX8_shown_X8_noTick : GoodIn wsX8_shown wsX8_noTick := goodIn_r _ [13, 14, 8, 9, 6, 10] (by decide +kernel) (by decide +kernel)
set_option maxRecDepth 20000 in
theorem gX8_shown_X8_noTick : GoodIn wsX8_shown (va_wsS RX8 124 yX8_noTick wsX8_noTick) := goodIn_app (goodIn_of _ (by decide +kernel)) ggX8_shown_X8_noTick
set_option maxRecDepth 20000 in
theorem ggX8_shown_X8_noWhat : GoodIn wsX8_shown wsX8_noWhat := goodIn_r _ [18, 19, 8, 9, 6, 10] (by decide +kernel) (by decide +kernel)
set_option maxRecDepth 20000 in
theorem gX8_shown_X8_noWhat : GoodIn wsX8_shown (wsV RX8 182 RX8 yX8_noWhat wsX8_noWhat) := goodIn_app (goodIn_of _ (by decide +kernel)) ggX8_shown_X8_noWhat
set_option maxRecDepth 20000 in
theorem ggX8_shown_X8_show : GoodIn wsX8_shown wsX8_show := goodIn_r _ [23, 24, 25, 26, 27, 28, 29, 6, 30, 2, 31, 32, 33, 34, 35, 36, 37, 38, 39, 40, 41, 42, 43, 44, 45, 46, 47, 48, 49, 50, 51, 52, 53, 54, 55, 56, 57, 58, 59, 60, 61, 62, 63, 64, 65, 66, 67, 68, 69, 70, 71, 72, 73, 74, 75, 8, 9, 10, 76, 77, 78, 79, 80, 81, 82, 83, 84, 85, 86, 87, 92, 93, 94, 95, 96, 97, 98, 99, 100, 101, 102, 103, 104, 105, 106, 107, 108, 109, 110, 111, 112, 113, 114, 115, 116, 117, 118, 119, 120, 121, 122, 123, 124, 125, 126, 127] (by decide +kernel) (by decide +kernel)
set_option maxRecDepth 20000 in
theorem gX8_shown_X8_show : GoodIn wsX8_shown (wsV RX8 201 RX8 yX8_show wsX8_show) := goodIn_app (goodIn_of _ (by decide +kernel)) ggX8_shown_X8_show
set_option maxRecDepth 20000 in
theorem ggX8_shown_X8_seen : GoodIn wsX8_shown wsX8_seen := goodIn_r _ [91, 54, 56, 55, 92, 93, 94, 95, 96, 97, 98, 99, 100, 101, 102, 103, 104, 105, 106, 107, 108, 109, 110, 111, 112, 113, 114, 115, 116, 117, 118, 119, 120, 121, 122, 123, 124, 125, 126, 127] (by decide +kernel) (by decide +kernel)
set_option maxRecDepth 20000 in
theorem gX8_shown_X8_seen : GoodIn wsX8_shown (wsV RX8 189 RX8 yX8_seen wsX8_seen) := goodIn_app (goodIn_of _ (by decide +kernel)) ggX8_shown_X8_seen
theorem dX8_shown_0 : decode cX8_shown 0 = .ok (.aload_n 0, 1) := by decide +kernel
theorem dX8_shown_1 : decode cX8_shown 1 = .ok (.iconst 0, 1) := by decide +kernel
theorem dX8_shown_2 : decode cX8_shown 2 = .ok (.putfield 100, 3) := by decide +kernel
theorem dX8_shown_5 : decode cX8_shown 5 = .ok (.aload_n 0, 1) := by decide +kernel
theorem dX8_shown_6 : decode cX8_shown 6 = .ok (.iload_n 1, 1) := by decide +kernel
theorem dX8_shown_7 : decode cX8_shown 7 = .ok (.invokevirtual 120, 3) := by decide +kernel
theorem dX8_shown_10 : decode cX8_shown 10 = .ok (.ifCond .ne 10, 3) := by decide +kernel
theorem dX8_shown_13 : decode cX8_shown 13 = .ok (.iload_n 2, 1) := by decide +kernel
theorem dX8_shown_14 : decode cX8_shown 14 = .ok (.invokestatic 124, 3) := by decide +kernel
theorem dX8_shown_17 : decode cX8_shown 17 = .ok (.ifCond .eq 5, 3) := by decide +kernel
theorem dX8_shown_20 : decode cX8_shown 20 = .ok (.iconst (-1), 1) := by decide +kernel
theorem dX8_shown_21 : decode cX8_shown 21 = .ok (.ireturn, 1) := by decide +kernel
theorem dX8_shown_22 : decode cX8_shown 22 = .ok (.aload_n 0, 1) := by decide +kernel
theorem dX8_shown_23 : decode cX8_shown 23 = .ok (.iload_n 3, 1) := by decide +kernel
theorem dX8_shown_24 : decode cX8_shown 24 = .ok (.aload_n 0, 1) := by decide +kernel
theorem dX8_shown_25 : decode cX8_shown 25 = .ok (.getfield 16, 3) := by decide +kernel
theorem dX8_shown_28 : decode cX8_shown 28 = .ok (.iconst 4, 1) := by decide +kernel
theorem dX8_shown_29 : decode cX8_shown 29 = .ok (.iaload, 1) := by decide +kernel
theorem dX8_shown_30 : decode cX8_shown 30 = .ok (.invokevirtual 182, 3) := by decide +kernel
theorem dX8_shown_33 : decode cX8_shown 33 = .ok (.ifCond .eq 6, 3) := by decide +kernel
theorem dX8_shown_36 : decode cX8_shown 36 = .ok (.bipush (-2), 2) := by decide +kernel
theorem dX8_shown_38 : decode cX8_shown 38 = .ok (.ireturn, 1) := by decide +kernel
theorem dX8_shown_39 : decode cX8_shown 39 = .ok (.aload_n 0, 1) := by decide +kernel
theorem dX8_shown_40 : decode cX8_shown 40 = .ok (.iload_n 1, 1) := by decide +kernel
theorem dX8_shown_41 : decode cX8_shown 41 = .ok (.iload_n 2, 1) := by decide +kernel
theorem dX8_shown_42 : decode cX8_shown 42 = .ok (.invokevirtual 201, 3) := by decide +kernel
theorem dX8_shown_45 : decode cX8_shown 45 = .ok (.aload_n 0, 1) := by decide +kernel
theorem dX8_shown_46 : decode cX8_shown 46 = .ok (.iload_n 3, 1) := by decide +kernel
theorem dX8_shown_47 : decode cX8_shown 47 = .ok (.invokevirtual 189, 3) := by decide +kernel
theorem dX8_shown_50 : decode cX8_shown 50 = .ok (.ireturn, 1) := by decide +kernel
set_option maxRecDepth 20000 in
theorem ggX8_backOf_X8_take : GoodIn wsX8_backOf wsX8_take := goodIn_r _ [8, 3, 9, 10, 11, 12, 7, 13, 14, 15, 16, 17, 18, 19, 20, 21, 22, 23, 24, 25, 26, 27, 28, 29, 30, 31, 32, 33, 34, 35, 36, 37, 38, 39, 40, 41, 42, 43, 44, 45, 46, 47, 48, 49, 50, 51, 52, 53, 54, 55, 56, 57, 58] (by decide +kernel) (by decide +kernel)
set_option maxRecDepth 20000 in
theorem gX8_backOf_X8_take : GoodIn wsX8_backOf (wsV RX8 197 RX8 yX8_take wsX8_take) := goodIn_app (goodIn_of _ (by decide +kernel)) ggX8_backOf_X8_take
theorem dX8_backOf_0 : decode cX8_backOf 0 = .ok (.iload_n 2, 1) := by decide +kernel
theorem dX8_backOf_1 : decode cX8_backOf 1 = .ok (.ifCond .ne 5, 3) := by decide +kernel
theorem dX8_backOf_4 : decode cX8_backOf 4 = .ok (.iconst 0, 1) := by decide +kernel
theorem dX8_backOf_5 : decode cX8_backOf 5 = .ok (.ireturn, 1) := by decide +kernel
theorem dX8_backOf_6 : decode cX8_backOf 6 = .ok (.aload_n 0, 1) := by decide +kernel
theorem dX8_backOf_7 : decode cX8_backOf 7 = .ok (.iload_n 1, 1) := by decide +kernel
theorem dX8_backOf_8 : decode cX8_backOf 8 = .ok (.iload_n 2, 1) := by decide +kernel
theorem dX8_backOf_9 : decode cX8_backOf 9 = .ok (.iload_n 3, 1) := by decide +kernel
theorem dX8_backOf_10 : decode cX8_backOf 10 = .ok (.aload_n 0, 1) := by decide +kernel
theorem dX8_backOf_11 : decode cX8_backOf 11 = .ok (.getfield 66, 3) := by decide +kernel
theorem dX8_backOf_14 : decode cX8_backOf 14 = .ok (.invokevirtual 197, 3) := by decide +kernel
theorem dX8_backOf_17 : decode cX8_backOf 17 = .ok (.aload_n 0, 1) := by decide +kernel
theorem dX8_backOf_18 : decode cX8_backOf 18 = .ok (.iload_n 1, 1) := by decide +kernel
theorem dX8_backOf_19 : decode cX8_backOf 19 = .ok (.iload_n 2, 1) := by decide +kernel
theorem dX8_backOf_20 : decode cX8_backOf 20 = .ok (.iconst 1, 1) := by decide +kernel
theorem dX8_backOf_21 : decode cX8_backOf 21 = .ok (.isub, 1) := by decide +kernel
theorem dX8_backOf_22 : decode cX8_backOf 22 = .ok (.iload_n 3, 1) := by decide +kernel
theorem dX8_backOf_23 : decode cX8_backOf 23 = .ok (.aload_n 0, 1) := by decide +kernel
theorem dX8_backOf_24 : decode cX8_backOf 24 = .ok (.getfield 69, 3) := by decide +kernel
theorem dX8_backOf_27 : decode cX8_backOf 27 = .ok (.invokevirtual 197, 3) := by decide +kernel
theorem dX8_backOf_30 : decode cX8_backOf 30 = .ok (.iconst 0, 1) := by decide +kernel
theorem dX8_backOf_31 : decode cX8_backOf 31 = .ok (.istore 4, 2) := by decide +kernel
theorem dX8_backOf_33 : decode cX8_backOf 33 = .ok (.iload 4, 2) := by decide +kernel
theorem dX8_backOf_35 : decode cX8_backOf 35 = .ok (.iload_n 2, 1) := by decide +kernel
theorem dX8_backOf_36 : decode cX8_backOf 36 = .ok (.if_icmp .ge 63, 3) := by decide +kernel
theorem dX8_backOf_39 : decode cX8_backOf 39 = .ok (.iconst 0, 1) := by decide +kernel
theorem dX8_backOf_40 : decode cX8_backOf 40 = .ok (.istore 5, 2) := by decide +kernel
theorem dX8_backOf_42 : decode cX8_backOf 42 = .ok (.iload 5, 2) := by decide +kernel
theorem dX8_backOf_44 : decode cX8_backOf 44 = .ok (.aload_n 0, 1) := by decide +kernel
theorem dX8_backOf_45 : decode cX8_backOf 45 = .ok (.getfield 16, 3) := by decide +kernel
theorem dX8_backOf_48 : decode cX8_backOf 48 = .ok (.iconst 4, 1) := by decide +kernel
theorem dX8_backOf_49 : decode cX8_backOf 49 = .ok (.iaload, 1) := by decide +kernel
theorem dX8_backOf_50 : decode cX8_backOf 50 = .ok (.if_icmp .ge 43, 3) := by decide +kernel
theorem dX8_backOf_53 : decode cX8_backOf 53 = .ok (.aload_n 0, 1) := by decide +kernel
theorem dX8_backOf_54 : decode cX8_backOf 54 = .ok (.getfield 66, 3) := by decide +kernel
theorem dX8_backOf_57 : decode cX8_backOf 57 = .ok (.bipush 100, 2) := by decide +kernel
theorem dX8_backOf_59 : decode cX8_backOf 59 = .ok (.iload 5, 2) := by decide +kernel
theorem dX8_backOf_61 : decode cX8_backOf 61 = .ok (.imul, 1) := by decide +kernel
theorem dX8_backOf_62 : decode cX8_backOf 62 = .ok (.iload 4, 2) := by decide +kernel
theorem dX8_backOf_64 : decode cX8_backOf 64 = .ok (.iadd, 1) := by decide +kernel
theorem dX8_backOf_65 : decode cX8_backOf 65 = .ok (.iaload, 1) := by decide +kernel
theorem dX8_backOf_66 : decode cX8_backOf 66 = .ok (.aload_n 0, 1) := by decide +kernel
theorem dX8_backOf_67 : decode cX8_backOf 67 = .ok (.getfield 69, 3) := by decide +kernel
theorem dX8_backOf_70 : decode cX8_backOf 70 = .ok (.bipush 100, 2) := by decide +kernel
theorem dX8_backOf_72 : decode cX8_backOf 72 = .ok (.iload 5, 2) := by decide +kernel
theorem dX8_backOf_74 : decode cX8_backOf 74 = .ok (.imul, 1) := by decide +kernel
theorem dX8_backOf_75 : decode cX8_backOf 75 = .ok (.iload 4, 2) := by decide +kernel
theorem dX8_backOf_77 : decode cX8_backOf 77 = .ok (.iadd, 1) := by decide +kernel
theorem dX8_backOf_78 : decode cX8_backOf 78 = .ok (.iaload, 1) := by decide +kernel
theorem dX8_backOf_79 : decode cX8_backOf 79 = .ok (.if_icmp .eq 8, 3) := by decide +kernel
theorem dX8_backOf_82 : decode cX8_backOf 82 = .ok (.iload_n 2, 1) := by decide +kernel
theorem dX8_backOf_83 : decode cX8_backOf 83 = .ok (.iload 4, 2) := by decide +kernel
theorem dX8_backOf_85 : decode cX8_backOf 85 = .ok (.isub, 1) := by decide +kernel
theorem dX8_backOf_86 : decode cX8_backOf 86 = .ok (.ireturn, 1) := by decide +kernel
theorem dX8_backOf_87 : decode cX8_backOf 87 = .ok (.iinc 5 1, 3) := by decide +kernel
theorem dX8_backOf_90 : decode cX8_backOf 90 = .ok (.goto (-48), 3) := by decide +kernel
theorem dX8_backOf_93 : decode cX8_backOf 93 = .ok (.iinc 4 1, 3) := by decide +kernel
theorem dX8_backOf_96 : decode cX8_backOf 96 = .ok (.goto (-63), 3) := by decide +kernel
theorem dX8_backOf_99 : decode cX8_backOf 99 = .ok (.iconst 0, 1) := by decide +kernel
theorem dX8_backOf_100 : decode cX8_backOf 100 = .ok (.ireturn, 1) := by decide +kernel
set_option maxRecDepth 20000 in
theorem ggX8_back_X8_noHand : GoodIn wsX8_back wsX8_noHand := goodIn_r _ [7, 8, 9, 10, 6, 11, 40, 41, 42, 43, 44, 45, 46, 47, 48, 49, 50, 51, 52, 53, 54, 55, 56, 57, 58, 59, 60, 61, 62, 63, 64, 65, 66, 67, 68, 69, 70, 71, 72, 73, 74, 75] (by decide +kernel) (by decide +kernel)
set_option maxRecDepth 20000 in
theorem gX8_back_X8_noHand : GoodIn wsX8_back (wsV RX8 120 RX8 yX8_noHand wsX8_noHand) := goodIn_app (goodIn_of _ (by decide +kernel)) ggX8_back_X8_noHand
set_option maxRecDepth 20000 in
theorem ggX8_back_X8_noTick : GoodIn wsX8_back wsX8_noTick := goodIn_r _ [14, 15, 9, 10, 6, 11] (by decide +kernel) (by decide +kernel)
set_option maxRecDepth 20000 in
theorem gX8_back_X8_noTick : GoodIn wsX8_back (va_wsS RX8 124 yX8_noTick wsX8_noTick) := goodIn_app (goodIn_of _ (by decide +kernel)) ggX8_back_X8_noTick
set_option maxRecDepth 20000 in
theorem ggX8_back_X8_backOf : GoodIn wsX8_back wsX8_backOf := goodIn_r _ [19, 20, 21, 8, 22, 23, 24, 6, 25, 26, 27, 28, 29, 30, 31, 32, 33, 34, 35, 36, 37, 38, 39, 40, 41, 42, 43, 44, 45, 46, 47, 48, 49, 50, 51, 52, 53, 54, 55, 56, 57, 58, 59, 60, 61, 62, 63, 64, 65, 66, 67, 68, 69, 70, 71, 72, 73, 74, 75] (by decide +kernel) (by decide +kernel)
set_option maxRecDepth 20000 in
theorem gX8_back_X8_backOf : GoodIn wsX8_back (wsV RX8 205 RX8 yX8_backOf wsX8_backOf) := goodIn_app (goodIn_of _ (by decide +kernel)) ggX8_back_X8_backOf
theorem dX8_back_0 : decode cX8_back 0 = .ok (.aload_n 0, 1) := by decide +kernel
theorem dX8_back_1 : decode cX8_back 1 = .ok (.iconst 0, 1) := by decide +kernel
theorem dX8_back_2 : decode cX8_back 2 = .ok (.putfield 100, 3) := by decide +kernel
theorem dX8_back_5 : decode cX8_back 5 = .ok (.aload_n 0, 1) := by decide +kernel
theorem dX8_back_6 : decode cX8_back 6 = .ok (.iload_n 1, 1) := by decide +kernel
theorem dX8_back_7 : decode cX8_back 7 = .ok (.invokevirtual 120, 3) := by decide +kernel
theorem dX8_back_10 : decode cX8_back 10 = .ok (.ifCond .ne 10, 3) := by decide +kernel
theorem dX8_back_13 : decode cX8_back 13 = .ok (.iload_n 2, 1) := by decide +kernel
theorem dX8_back_14 : decode cX8_back 14 = .ok (.invokestatic 124, 3) := by decide +kernel
theorem dX8_back_17 : decode cX8_back 17 = .ok (.ifCond .eq 7, 3) := by decide +kernel
theorem dX8_back_20 : decode cX8_back 20 = .ok (.iconst (-1), 1) := by decide +kernel
theorem dX8_back_21 : decode cX8_back 21 = .ok (.goto 13, 3) := by decide +kernel
theorem dX8_back_24 : decode cX8_back 24 = .ok (.aload_n 0, 1) := by decide +kernel
theorem dX8_back_25 : decode cX8_back 25 = .ok (.iload_n 1, 1) := by decide +kernel
theorem dX8_back_26 : decode cX8_back 26 = .ok (.iload_n 2, 1) := by decide +kernel
theorem dX8_back_27 : decode cX8_back 27 = .ok (.aload_n 0, 1) := by decide +kernel
theorem dX8_back_28 : decode cX8_back 28 = .ok (.getfield 117, 3) := by decide +kernel
theorem dX8_back_31 : decode cX8_back 31 = .ok (.invokevirtual 205, 3) := by decide +kernel
theorem dX8_back_34 : decode cX8_back 34 = .ok (.ireturn, 1) := by decide +kernel
set_option maxRecDepth 20000 in
theorem ggX8_agreed_X8_noHand : GoodIn wsX8_agreed wsX8_noHand := goodIn_r _ [8, 2, 9, 10, 7, 11, 29, 30, 31, 32, 33, 34, 35, 36, 37, 38, 39, 40, 41, 42, 43, 44, 45, 46, 47, 48, 49, 50, 51, 52, 53, 54, 55, 56, 57, 58, 59, 60, 61, 62, 63, 64] (by decide +kernel) (by decide +kernel)
set_option maxRecDepth 20000 in
theorem gX8_agreed_X8_noHand : GoodIn wsX8_agreed (wsV RX8 120 RX8 yX8_noHand wsX8_noHand) := goodIn_app (goodIn_of _ (by decide +kernel)) ggX8_agreed_X8_noHand
set_option maxRecDepth 20000 in
theorem ggX8_agreed_X8_noTick : GoodIn wsX8_agreed wsX8_noTick := goodIn_r _ [14, 15, 9, 10, 7, 11] (by decide +kernel) (by decide +kernel)
set_option maxRecDepth 20000 in
theorem gX8_agreed_X8_noTick : GoodIn wsX8_agreed (va_wsS RX8 124 yX8_noTick wsX8_noTick) := goodIn_app (goodIn_of _ (by decide +kernel)) ggX8_agreed_X8_noTick
set_option maxRecDepth 20000 in
theorem ggX8_agreed_X8_knownAt : GoodIn wsX8_agreed wsX8_knownAt := goodIn_r _ [19, 20, 21, 22, 23, 24, 25, 7, 26, 27, 28, 29, 30, 31, 32, 33, 34, 35, 36, 37, 38, 39, 40, 41, 42, 43, 44, 45, 46, 47, 48, 49, 50, 51, 52, 53, 54, 55, 56, 57, 58, 59, 60, 61, 62, 63, 64] (by decide +kernel) (by decide +kernel)
set_option maxRecDepth 20000 in
theorem gX8_agreed_X8_knownAt : GoodIn wsX8_agreed (wsV RX8 193 RX8 yX8_knownAt wsX8_knownAt) := goodIn_app (goodIn_of _ (by decide +kernel)) ggX8_agreed_X8_knownAt
theorem dX8_agreed_0 : decode cX8_agreed 0 = .ok (.aload_n 0, 1) := by decide +kernel
theorem dX8_agreed_1 : decode cX8_agreed 1 = .ok (.iconst 0, 1) := by decide +kernel
theorem dX8_agreed_2 : decode cX8_agreed 2 = .ok (.putfield 100, 3) := by decide +kernel
theorem dX8_agreed_5 : decode cX8_agreed 5 = .ok (.aload_n 0, 1) := by decide +kernel
theorem dX8_agreed_6 : decode cX8_agreed 6 = .ok (.iload_n 1, 1) := by decide +kernel
theorem dX8_agreed_7 : decode cX8_agreed 7 = .ok (.invokevirtual 120, 3) := by decide +kernel
theorem dX8_agreed_10 : decode cX8_agreed 10 = .ok (.ifCond .ne 10, 3) := by decide +kernel
theorem dX8_agreed_13 : decode cX8_agreed 13 = .ok (.iload_n 2, 1) := by decide +kernel
theorem dX8_agreed_14 : decode cX8_agreed 14 = .ok (.invokestatic 124, 3) := by decide +kernel
theorem dX8_agreed_17 : decode cX8_agreed 17 = .ok (.ifCond .eq 5, 3) := by decide +kernel
theorem dX8_agreed_20 : decode cX8_agreed 20 = .ok (.iconst (-1), 1) := by decide +kernel
theorem dX8_agreed_21 : decode cX8_agreed 21 = .ok (.ireturn, 1) := by decide +kernel
theorem dX8_agreed_22 : decode cX8_agreed 22 = .ok (.bipush (-9), 2) := by decide +kernel
theorem dX8_agreed_24 : decode cX8_agreed 24 = .ok (.istore_n 3, 1) := by decide +kernel
theorem dX8_agreed_25 : decode cX8_agreed 25 = .ok (.iconst 1, 1) := by decide +kernel
theorem dX8_agreed_26 : decode cX8_agreed 26 = .ok (.istore 4, 2) := by decide +kernel
theorem dX8_agreed_28 : decode cX8_agreed 28 = .ok (.iconst 0, 1) := by decide +kernel
theorem dX8_agreed_29 : decode cX8_agreed 29 = .ok (.istore 5, 2) := by decide +kernel
theorem dX8_agreed_31 : decode cX8_agreed 31 = .ok (.iload 5, 2) := by decide +kernel
theorem dX8_agreed_33 : decode cX8_agreed 33 = .ok (.iload_n 2, 1) := by decide +kernel
theorem dX8_agreed_34 : decode cX8_agreed 34 = .ok (.if_icmp .gt 75, 3) := by decide +kernel
theorem dX8_agreed_37 : decode cX8_agreed 37 = .ok (.iload 4, 2) := by decide +kernel
theorem dX8_agreed_39 : decode cX8_agreed 39 = .ok (.ifCond .eq 70, 3) := by decide +kernel
theorem dX8_agreed_42 : decode cX8_agreed 42 = .ok (.iconst 0, 1) := by decide +kernel
theorem dX8_agreed_43 : decode cX8_agreed 43 = .ok (.istore 6, 2) := by decide +kernel
theorem dX8_agreed_45 : decode cX8_agreed 45 = .ok (.iload 6, 2) := by decide +kernel
theorem dX8_agreed_47 : decode cX8_agreed 47 = .ok (.aload_n 0, 1) := by decide +kernel
theorem dX8_agreed_48 : decode cX8_agreed 48 = .ok (.getfield 16, 3) := by decide +kernel
theorem dX8_agreed_51 : decode cX8_agreed 51 = .ok (.iconst 4, 1) := by decide +kernel
theorem dX8_agreed_52 : decode cX8_agreed 52 = .ok (.iaload, 1) := by decide +kernel
theorem dX8_agreed_53 : decode cX8_agreed 53 = .ok (.if_icmp .ge 38, 3) := by decide +kernel
theorem dX8_agreed_56 : decode cX8_agreed 56 = .ok (.iload 4, 2) := by decide +kernel
theorem dX8_agreed_58 : decode cX8_agreed 58 = .ok (.ifCond .eq 24, 3) := by decide +kernel
theorem dX8_agreed_61 : decode cX8_agreed 61 = .ok (.aload_n 0, 1) := by decide +kernel
theorem dX8_agreed_62 : decode cX8_agreed 62 = .ok (.iload_n 1, 1) := by decide +kernel
theorem dX8_agreed_63 : decode cX8_agreed 63 = .ok (.iload 6, 2) := by decide +kernel
theorem dX8_agreed_65 : decode cX8_agreed 65 = .ok (.iload 5, 2) := by decide +kernel
theorem dX8_agreed_67 : decode cX8_agreed 67 = .ok (.aload_n 0, 1) := by decide +kernel
theorem dX8_agreed_68 : decode cX8_agreed 68 = .ok (.getfield 117, 3) := by decide +kernel
theorem dX8_agreed_71 : decode cX8_agreed 71 = .ok (.invokevirtual 193, 3) := by decide +kernel
theorem dX8_agreed_74 : decode cX8_agreed 74 = .ok (.iload_n 2, 1) := by decide +kernel
theorem dX8_agreed_75 : decode cX8_agreed 75 = .ok (.if_icmp .gt 7, 3) := by decide +kernel
theorem dX8_agreed_78 : decode cX8_agreed 78 = .ok (.iconst 1, 1) := by decide +kernel
theorem dX8_agreed_79 : decode cX8_agreed 79 = .ok (.goto 4, 3) := by decide +kernel
theorem dX8_agreed_82 : decode cX8_agreed 82 = .ok (.iconst 0, 1) := by decide +kernel
theorem dX8_agreed_83 : decode cX8_agreed 83 = .ok (.istore 4, 2) := by decide +kernel
theorem dX8_agreed_85 : decode cX8_agreed 85 = .ok (.iinc 6 1, 3) := by decide +kernel
theorem dX8_agreed_88 : decode cX8_agreed 88 = .ok (.goto (-43), 3) := by decide +kernel
theorem dX8_agreed_91 : decode cX8_agreed 91 = .ok (.iload 4, 2) := by decide +kernel
theorem dX8_agreed_93 : decode cX8_agreed 93 = .ok (.ifCond .eq 8, 3) := by decide +kernel
theorem dX8_agreed_96 : decode cX8_agreed 96 = .ok (.iload 5, 2) := by decide +kernel
theorem dX8_agreed_98 : decode cX8_agreed 98 = .ok (.goto 4, 3) := by decide +kernel
theorem dX8_agreed_101 : decode cX8_agreed 101 = .ok (.iload_n 3, 1) := by decide +kernel
theorem dX8_agreed_102 : decode cX8_agreed 102 = .ok (.istore_n 3, 1) := by decide +kernel
theorem dX8_agreed_103 : decode cX8_agreed 103 = .ok (.iinc 5 1, 3) := by decide +kernel
theorem dX8_agreed_106 : decode cX8_agreed 106 = .ok (.goto (-75), 3) := by decide +kernel
theorem dX8_agreed_109 : decode cX8_agreed 109 = .ok (.iload_n 3, 1) := by decide +kernel
theorem dX8_agreed_110 : decode cX8_agreed 110 = .ok (.ireturn, 1) := by decide +kernel
theorem dX8_write_0 : decode cX8_write 0 = .ok (.iconst 0, 1) := by decide +kernel
theorem dX8_write_1 : decode cX8_write 1 = .ok (.istore_n 3, 1) := by decide +kernel
theorem dX8_write_2 : decode cX8_write 2 = .ok (.iload_n 3, 1) := by decide +kernel
theorem dX8_write_3 : decode cX8_write 3 = .ok (.bipush 6, 2) := by decide +kernel
theorem dX8_write_5 : decode cX8_write 5 = .ok (.if_icmp .ge 34, 3) := by decide +kernel
theorem dX8_write_8 : decode cX8_write 8 = .ok (.aload_n 1, 1) := by decide +kernel
theorem dX8_write_9 : decode cX8_write 9 = .ok (.iload_n 2, 1) := by decide +kernel
theorem dX8_write_10 : decode cX8_write 10 = .ok (.iload_n 3, 1) := by decide +kernel
theorem dX8_write_11 : decode cX8_write 11 = .ok (.iadd, 1) := by decide +kernel
theorem dX8_write_12 : decode cX8_write 12 = .ok (.aload_n 0, 1) := by decide +kernel
theorem dX8_write_13 : decode cX8_write 13 = .ok (.getfield 57, 3) := by decide +kernel
theorem dX8_write_16 : decode cX8_write 16 = .ok (.iload_n 3, 1) := by decide +kernel
theorem dX8_write_17 : decode cX8_write 17 = .ok (.iaload, 1) := by decide +kernel
theorem dX8_write_18 : decode cX8_write 18 = .ok (.iastore, 1) := by decide +kernel
theorem dX8_write_19 : decode cX8_write 19 = .ok (.aload_n 1, 1) := by decide +kernel
theorem dX8_write_20 : decode cX8_write 20 = .ok (.iload_n 2, 1) := by decide +kernel
theorem dX8_write_21 : decode cX8_write 21 = .ok (.bipush 7, 2) := by decide +kernel
theorem dX8_write_23 : decode cX8_write 23 = .ok (.iadd, 1) := by decide +kernel
theorem dX8_write_24 : decode cX8_write 24 = .ok (.iload_n 3, 1) := by decide +kernel
theorem dX8_write_25 : decode cX8_write 25 = .ok (.iadd, 1) := by decide +kernel
theorem dX8_write_26 : decode cX8_write 26 = .ok (.aload_n 0, 1) := by decide +kernel
theorem dX8_write_27 : decode cX8_write 27 = .ok (.getfield 60, 3) := by decide +kernel
theorem dX8_write_30 : decode cX8_write 30 = .ok (.iload_n 3, 1) := by decide +kernel
theorem dX8_write_31 : decode cX8_write 31 = .ok (.iaload, 1) := by decide +kernel
theorem dX8_write_32 : decode cX8_write 32 = .ok (.iastore, 1) := by decide +kernel
theorem dX8_write_33 : decode cX8_write 33 = .ok (.iinc 3 1, 3) := by decide +kernel
theorem dX8_write_36 : decode cX8_write 36 = .ok (.goto (-34), 3) := by decide +kernel
theorem dX8_write_39 : decode cX8_write 39 = .ok (.aload_n 1, 1) := by decide +kernel
theorem dX8_write_40 : decode cX8_write 40 = .ok (.iload_n 2, 1) := by decide +kernel
theorem dX8_write_41 : decode cX8_write 41 = .ok (.bipush 6, 2) := by decide +kernel
theorem dX8_write_43 : decode cX8_write 43 = .ok (.iadd, 1) := by decide +kernel
theorem dX8_write_44 : decode cX8_write 44 = .ok (.aload_n 0, 1) := by decide +kernel
theorem dX8_write_45 : decode cX8_write 45 = .ok (.getfield 138, 3) := by decide +kernel
theorem dX8_write_48 : decode cX8_write 48 = .ok (.iastore, 1) := by decide +kernel
theorem dX8_write_49 : decode cX8_write 49 = .ok (.return_, 1) := by decide +kernel
theorem dX8_isLike_0 : decode cX8_isLike 0 = .ok (.iconst 1, 1) := by decide +kernel
theorem dX8_isLike_1 : decode cX8_isLike 1 = .ok (.istore 4, 2) := by decide +kernel
theorem dX8_isLike_3 : decode cX8_isLike 3 = .ok (.iconst 0, 1) := by decide +kernel
theorem dX8_isLike_4 : decode cX8_isLike 4 = .ok (.istore 5, 2) := by decide +kernel
theorem dX8_isLike_6 : decode cX8_isLike 6 = .ok (.iload 5, 2) := by decide +kernel
theorem dX8_isLike_8 : decode cX8_isLike 8 = .ok (.bipush 13, 2) := by decide +kernel
theorem dX8_isLike_10 : decode cX8_isLike 10 = .ok (.if_icmp .ge 36, 3) := by decide +kernel
theorem dX8_isLike_13 : decode cX8_isLike 13 = .ok (.iload 4, 2) := by decide +kernel
theorem dX8_isLike_15 : decode cX8_isLike 15 = .ok (.ifCond .eq 22, 3) := by decide +kernel
theorem dX8_isLike_18 : decode cX8_isLike 18 = .ok (.aload_n 0, 1) := by decide +kernel
theorem dX8_isLike_19 : decode cX8_isLike 19 = .ok (.iload_n 1, 1) := by decide +kernel
theorem dX8_isLike_20 : decode cX8_isLike 20 = .ok (.iload 5, 2) := by decide +kernel
theorem dX8_isLike_22 : decode cX8_isLike 22 = .ok (.iadd, 1) := by decide +kernel
theorem dX8_isLike_23 : decode cX8_isLike 23 = .ok (.iaload, 1) := by decide +kernel
theorem dX8_isLike_24 : decode cX8_isLike 24 = .ok (.aload_n 2, 1) := by decide +kernel
theorem dX8_isLike_25 : decode cX8_isLike 25 = .ok (.iload_n 3, 1) := by decide +kernel
theorem dX8_isLike_26 : decode cX8_isLike 26 = .ok (.iload 5, 2) := by decide +kernel
theorem dX8_isLike_28 : decode cX8_isLike 28 = .ok (.iadd, 1) := by decide +kernel
theorem dX8_isLike_29 : decode cX8_isLike 29 = .ok (.iaload, 1) := by decide +kernel
theorem dX8_isLike_30 : decode cX8_isLike 30 = .ok (.if_icmp .ne 7, 3) := by decide +kernel
theorem dX8_isLike_33 : decode cX8_isLike 33 = .ok (.iconst 1, 1) := by decide +kernel
theorem dX8_isLike_34 : decode cX8_isLike 34 = .ok (.goto 4, 3) := by decide +kernel
theorem dX8_isLike_37 : decode cX8_isLike 37 = .ok (.iconst 0, 1) := by decide +kernel
theorem dX8_isLike_38 : decode cX8_isLike 38 = .ok (.istore 4, 2) := by decide +kernel
theorem dX8_isLike_40 : decode cX8_isLike 40 = .ok (.iinc 5 1, 3) := by decide +kernel
theorem dX8_isLike_43 : decode cX8_isLike 43 = .ok (.goto (-37), 3) := by decide +kernel
theorem dX8_isLike_46 : decode cX8_isLike 46 = .ok (.iload 4, 2) := by decide +kernel
theorem dX8_isLike_48 : decode cX8_isLike 48 = .ok (.ireturn, 1) := by decide +kernel
set_option maxRecDepth 20000 in
theorem ggX8_wrong_X8_noHand : GoodIn wsX8_wrong wsX8_noHand := goodIn_r _ [10, 11, 12, 13, 9, 14, 92, 93, 94, 95, 96, 97, 98, 99, 100, 101, 102, 103, 104, 105, 106, 107, 108, 109, 110, 111, 112, 113, 114, 115, 116, 117, 118, 119, 120, 121, 122, 123, 124, 125, 126, 127] (by decide +kernel) (by decide +kernel)
set_option maxRecDepth 20000 in
theorem gX8_wrong_X8_noHand : GoodIn wsX8_wrong (wsV RX8 120 RX8 yX8_noHand wsX8_noHand) := goodIn_app (goodIn_of _ (by decide +kernel)) ggX8_wrong_X8_noHand
set_option maxRecDepth 20000 in
theorem ggX8_wrong_X8_noTick : GoodIn wsX8_wrong wsX8_noTick := goodIn_r _ [17, 18, 12, 13, 9, 14] (by decide +kernel) (by decide +kernel)
set_option maxRecDepth 20000 in
theorem gX8_wrong_X8_noTick : GoodIn wsX8_wrong (va_wsS RX8 124 yX8_noTick wsX8_noTick) := goodIn_app (goodIn_of _ (by decide +kernel)) ggX8_wrong_X8_noTick
set_option maxRecDepth 20000 in
theorem ggX8_wrong_X8_start : GoodIn wsX8_wrong wsX8_start := goodIn_r _ [22, 23, 24, 25, 26, 11, 27, 28, 29, 30, 92, 93, 94, 95, 96, 97, 98, 99, 100, 101, 102, 103, 104, 105, 106, 107, 108, 109, 110, 111, 112, 113, 114, 115, 116, 117, 118, 119, 120, 121, 122, 123, 124, 125, 126, 127] (by decide +kernel) (by decide +kernel)
set_option maxRecDepth 20000 in
theorem gX8_wrong_X8_start : GoodIn wsX8_wrong (wsV RX8 169 RX8 yX8_start wsX8_start) := goodIn_app (goodIn_of _ (by decide +kernel)) ggX8_wrong_X8_start
set_option maxRecDepth 20000 in
theorem ggX8_wrong_X8_step : GoodIn wsX8_wrong wsX8_step := goodIn_r _ [34, 27, 35, 30, 36, 37, 24, 28, 29, 38, 39, 40, 9, 41, 42, 43, 44, 45, 46, 47, 48, 49, 50, 51, 52, 53, 54, 55, 26, 12, 13, 14, 56, 57, 58, 59, 60, 61, 62, 63, 64, 65, 66, 67, 92, 93, 94, 95, 96, 97, 98, 99, 100, 101, 102, 103, 104, 105, 106, 107, 108, 109, 110, 111, 112, 113, 114, 115, 116, 117, 118, 119, 120, 121, 122, 123, 124, 125, 126, 127] (by decide +kernel) (by decide +kernel)
set_option maxRecDepth 20000 in
theorem gX8_wrong_X8_step : GoodIn wsX8_wrong (wsV RX8 173 RX8 yX8_step wsX8_step) := goodIn_app (goodIn_of _ (by decide +kernel)) ggX8_wrong_X8_step
set_option maxRecDepth 20000 in
theorem ggX8_wrong_X8_write : GoodIn wsX8_wrong wsX8_write := goodIn_r _ [71, 28, 29, 30, 92, 93, 94, 95, 96, 97, 98, 99, 100, 101, 102, 103, 104, 105, 106, 107, 108, 109, 110, 111, 112, 113, 114, 115, 116, 117, 118, 119, 120, 121, 122, 123, 124, 125, 126, 127] (by decide +kernel) (by decide +kernel)
set_option maxRecDepth 20000 in
theorem gX8_wrong_X8_write : GoodIn wsX8_wrong (wsV RX8 209 RX8 yX8_write wsX8_write) := goodIn_app (goodIn_of _ (by decide +kernel)) ggX8_wrong_X8_write
set_option maxRecDepth 20000 in
theorem ggX8_wrong_X8_show : GoodIn wsX8_wrong wsX8_show := goodIn_r _ [75, 76, 77, 3, 78, 79, 80, 9, 81, 11, 2, 82, 83, 84, 85, 86, 87, 88, 38, 39, 40, 41, 42, 43, 19, 20, 21, 22, 23, 24, 25, 26, 27, 28, 29, 30, 31, 32, 33, 34, 35, 36, 37, 44, 45, 46, 47, 48, 49, 50, 51, 52, 53, 54, 55, 12, 13, 14, 56, 57, 58, 59, 60, 61, 62, 63, 64, 65, 66, 67, 92, 93, 94, 95, 96, 97, 98, 99, 100, 101, 102, 103, 104, 105, 106, 107, 108, 109, 110, 111, 112, 113, 114, 115, 116, 117, 118, 119, 120, 121, 122, 123, 124, 125, 126, 127] (by decide +kernel) (by decide +kernel)
set_option maxRecDepth 20000 in
theorem gX8_wrong_X8_show : GoodIn wsX8_wrong (wsV RX8 201 RX8 yX8_show wsX8_show) := goodIn_app (goodIn_of _ (by decide +kernel)) ggX8_wrong_X8_show
set_option maxRecDepth 20000 in
theorem ggX8_wrong_X8_isLike : GoodIn wsX8_wrong wsX8_isLike := goodIn_r _ [91] (by decide +kernel) (by decide +kernel)
set_option maxRecDepth 20000 in
theorem gX8_wrong_X8_isLike : GoodIn wsX8_wrong (va_wsS RX8 213 yX8_isLike wsX8_isLike) := goodIn_app (goodIn_of _ (by decide +kernel)) ggX8_wrong_X8_isLike
theorem dX8_wrong_0 : decode cX8_wrong 0 = .ok (.aload_n 0, 1) := by decide +kernel
theorem dX8_wrong_1 : decode cX8_wrong 1 = .ok (.iconst 0, 1) := by decide +kernel
theorem dX8_wrong_2 : decode cX8_wrong 2 = .ok (.putfield 100, 3) := by decide +kernel
theorem dX8_wrong_5 : decode cX8_wrong 5 = .ok (.aload_n 0, 1) := by decide +kernel
theorem dX8_wrong_6 : decode cX8_wrong 6 = .ok (.iload_n 1, 1) := by decide +kernel
theorem dX8_wrong_7 : decode cX8_wrong 7 = .ok (.invokevirtual 120, 3) := by decide +kernel
theorem dX8_wrong_10 : decode cX8_wrong 10 = .ok (.ifCond .ne 10, 3) := by decide +kernel
theorem dX8_wrong_13 : decode cX8_wrong 13 = .ok (.iload_n 2, 1) := by decide +kernel
theorem dX8_wrong_14 : decode cX8_wrong 14 = .ok (.invokestatic 124, 3) := by decide +kernel
theorem dX8_wrong_17 : decode cX8_wrong 17 = .ok (.ifCond .eq 5, 3) := by decide +kernel
theorem dX8_wrong_20 : decode cX8_wrong 20 = .ok (.iconst (-1), 1) := by decide +kernel
theorem dX8_wrong_21 : decode cX8_wrong 21 = .ok (.ireturn, 1) := by decide +kernel
theorem dX8_wrong_22 : decode cX8_wrong 22 = .ok (.aload_n 0, 1) := by decide +kernel
theorem dX8_wrong_23 : decode cX8_wrong 23 = .ok (.iconst 4, 1) := by decide +kernel
theorem dX8_wrong_24 : decode cX8_wrong 24 = .ok (.invokevirtual 169, 3) := by decide +kernel
theorem dX8_wrong_27 : decode cX8_wrong 27 = .ok (.iconst 0, 1) := by decide +kernel
theorem dX8_wrong_28 : decode cX8_wrong 28 = .ok (.istore 4, 2) := by decide +kernel
theorem dX8_wrong_30 : decode cX8_wrong 30 = .ok (.iload 4, 2) := by decide +kernel
theorem dX8_wrong_32 : decode cX8_wrong 32 = .ok (.iload_n 2, 1) := by decide +kernel
theorem dX8_wrong_33 : decode cX8_wrong 33 = .ok (.if_icmp .gt 42, 3) := by decide +kernel
theorem dX8_wrong_36 : decode cX8_wrong 36 = .ok (.aload_n 0, 1) := by decide +kernel
theorem dX8_wrong_37 : decode cX8_wrong 37 = .ok (.iconst 4, 1) := by decide +kernel
theorem dX8_wrong_38 : decode cX8_wrong 38 = .ok (.iload 4, 2) := by decide +kernel
theorem dX8_wrong_40 : decode cX8_wrong 40 = .ok (.aload_n 0, 1) := by decide +kernel
theorem dX8_wrong_41 : decode cX8_wrong 41 = .ok (.getfield 28, 3) := by decide +kernel
theorem dX8_wrong_44 : decode cX8_wrong 44 = .ok (.sipush 2400, 3) := by decide +kernel
theorem dX8_wrong_47 : decode cX8_wrong 47 = .ok (.aload_n 0, 1) := by decide +kernel
theorem dX8_wrong_48 : decode cX8_wrong 48 = .ok (.getfield 19, 3) := by decide +kernel
theorem dX8_wrong_51 : decode cX8_wrong 51 = .ok (.iconst 4, 1) := by decide +kernel
theorem dX8_wrong_52 : decode cX8_wrong 52 = .ok (.iaload, 1) := by decide +kernel
theorem dX8_wrong_53 : decode cX8_wrong 53 = .ok (.invokevirtual 173, 3) := by decide +kernel
theorem dX8_wrong_56 : decode cX8_wrong 56 = .ok (.aload_n 0, 1) := by decide +kernel
theorem dX8_wrong_57 : decode cX8_wrong 57 = .ok (.aload_n 0, 1) := by decide +kernel
theorem dX8_wrong_58 : decode cX8_wrong 58 = .ok (.getfield 72, 3) := by decide +kernel
theorem dX8_wrong_61 : decode cX8_wrong 61 = .ok (.bipush 13, 2) := by decide +kernel
theorem dX8_wrong_63 : decode cX8_wrong 63 = .ok (.iload 4, 2) := by decide +kernel
theorem dX8_wrong_65 : decode cX8_wrong 65 = .ok (.imul, 1) := by decide +kernel
theorem dX8_wrong_66 : decode cX8_wrong 66 = .ok (.invokevirtual 209, 3) := by decide +kernel
theorem dX8_wrong_69 : decode cX8_wrong 69 = .ok (.iinc 4 1, 3) := by decide +kernel
theorem dX8_wrong_72 : decode cX8_wrong 72 = .ok (.goto (-42), 3) := by decide +kernel
theorem dX8_wrong_75 : decode cX8_wrong 75 = .ok (.iconst 0, 1) := by decide +kernel
theorem dX8_wrong_76 : decode cX8_wrong 76 = .ok (.istore 4, 2) := by decide +kernel
theorem dX8_wrong_78 : decode cX8_wrong 78 = .ok (.iconst 0, 1) := by decide +kernel
theorem dX8_wrong_79 : decode cX8_wrong 79 = .ok (.istore 5, 2) := by decide +kernel
theorem dX8_wrong_81 : decode cX8_wrong 81 = .ok (.iconst 0, 1) := by decide +kernel
theorem dX8_wrong_82 : decode cX8_wrong 82 = .ok (.istore 6, 2) := by decide +kernel
theorem dX8_wrong_84 : decode cX8_wrong 84 = .ok (.iconst 0, 1) := by decide +kernel
theorem dX8_wrong_85 : decode cX8_wrong 85 = .ok (.istore 7, 2) := by decide +kernel
theorem dX8_wrong_87 : decode cX8_wrong 87 = .ok (.iload 7, 2) := by decide +kernel
theorem dX8_wrong_89 : decode cX8_wrong 89 = .ok (.iload_n 2, 1) := by decide +kernel
theorem dX8_wrong_90 : decode cX8_wrong 90 = .ok (.if_icmp .gt 98, 3) := by decide +kernel
theorem dX8_wrong_93 : decode cX8_wrong 93 = .ok (.aload_n 0, 1) := by decide +kernel
theorem dX8_wrong_94 : decode cX8_wrong 94 = .ok (.iload_n 1, 1) := by decide +kernel
theorem dX8_wrong_95 : decode cX8_wrong 95 = .ok (.iload 7, 2) := by decide +kernel
theorem dX8_wrong_97 : decode cX8_wrong 97 = .ok (.invokevirtual 201, 3) := by decide +kernel
theorem dX8_wrong_100 : decode cX8_wrong 100 = .ok (.aload_n 0, 1) := by decide +kernel
theorem dX8_wrong_101 : decode cX8_wrong 101 = .ok (.aload_n 0, 1) := by decide +kernel
theorem dX8_wrong_102 : decode cX8_wrong 102 = .ok (.getfield 63, 3) := by decide +kernel
theorem dX8_wrong_105 : decode cX8_wrong 105 = .ok (.iconst 0, 1) := by decide +kernel
theorem dX8_wrong_106 : decode cX8_wrong 106 = .ok (.invokevirtual 209, 3) := by decide +kernel
theorem dX8_wrong_109 : decode cX8_wrong 109 = .ok (.aload_n 0, 1) := by decide +kernel
theorem dX8_wrong_110 : decode cX8_wrong 110 = .ok (.getfield 63, 3) := by decide +kernel
theorem dX8_wrong_113 : decode cX8_wrong 113 = .ok (.iconst 0, 1) := by decide +kernel
theorem dX8_wrong_114 : decode cX8_wrong 114 = .ok (.aload_n 0, 1) := by decide +kernel
theorem dX8_wrong_115 : decode cX8_wrong 115 = .ok (.getfield 72, 3) := by decide +kernel
theorem dX8_wrong_118 : decode cX8_wrong 118 = .ok (.bipush 13, 2) := by decide +kernel
theorem dX8_wrong_120 : decode cX8_wrong 120 = .ok (.iload 7, 2) := by decide +kernel
theorem dX8_wrong_122 : decode cX8_wrong 122 = .ok (.imul, 1) := by decide +kernel
theorem dX8_wrong_123 : decode cX8_wrong 123 = .ok (.invokestatic 213, 3) := by decide +kernel
theorem dX8_wrong_126 : decode cX8_wrong 126 = .ok (.ifCond .ne 7, 3) := by decide +kernel
theorem dX8_wrong_129 : decode cX8_wrong 129 = .ok (.iconst 1, 1) := by decide +kernel
theorem dX8_wrong_130 : decode cX8_wrong 130 = .ok (.goto 4, 3) := by decide +kernel
theorem dX8_wrong_133 : decode cX8_wrong 133 = .ok (.iconst 0, 1) := by decide +kernel
theorem dX8_wrong_134 : decode cX8_wrong 134 = .ok (.istore 8, 2) := by decide +kernel
theorem dX8_wrong_136 : decode cX8_wrong 136 = .ok (.iload 4, 2) := by decide +kernel
theorem dX8_wrong_138 : decode cX8_wrong 138 = .ok (.iload 8, 2) := by decide +kernel
theorem dX8_wrong_140 : decode cX8_wrong 140 = .ok (.ifCond .eq 7, 3) := by decide +kernel
theorem dX8_wrong_143 : decode cX8_wrong 143 = .ok (.iconst 1, 1) := by decide +kernel
theorem dX8_wrong_144 : decode cX8_wrong 144 = .ok (.goto 4, 3) := by decide +kernel
theorem dX8_wrong_147 : decode cX8_wrong 147 = .ok (.iconst 0, 1) := by decide +kernel
theorem dX8_wrong_148 : decode cX8_wrong 148 = .ok (.iadd, 1) := by decide +kernel
theorem dX8_wrong_149 : decode cX8_wrong 149 = .ok (.istore 4, 2) := by decide +kernel
theorem dX8_wrong_151 : decode cX8_wrong 151 = .ok (.iload 8, 2) := by decide +kernel
theorem dX8_wrong_153 : decode cX8_wrong 153 = .ok (.ifCond .eq 10, 3) := by decide +kernel
theorem dX8_wrong_156 : decode cX8_wrong 156 = .ok (.iload 5, 2) := by decide +kernel
theorem dX8_wrong_158 : decode cX8_wrong 158 = .ok (.iconst 1, 1) := by decide +kernel
theorem dX8_wrong_159 : decode cX8_wrong 159 = .ok (.iadd, 1) := by decide +kernel
theorem dX8_wrong_160 : decode cX8_wrong 160 = .ok (.goto 4, 3) := by decide +kernel
theorem dX8_wrong_163 : decode cX8_wrong 163 = .ok (.iconst 0, 1) := by decide +kernel
theorem dX8_wrong_164 : decode cX8_wrong 164 = .ok (.istore 5, 2) := by decide +kernel
theorem dX8_wrong_166 : decode cX8_wrong 166 = .ok (.iload 5, 2) := by decide +kernel
theorem dX8_wrong_168 : decode cX8_wrong 168 = .ok (.iload 6, 2) := by decide +kernel
theorem dX8_wrong_170 : decode cX8_wrong 170 = .ok (.if_icmp .le 8, 3) := by decide +kernel
theorem dX8_wrong_173 : decode cX8_wrong 173 = .ok (.iload 5, 2) := by decide +kernel
theorem dX8_wrong_175 : decode cX8_wrong 175 = .ok (.goto 5, 3) := by decide +kernel
theorem dX8_wrong_178 : decode cX8_wrong 178 = .ok (.iload 6, 2) := by decide +kernel
theorem dX8_wrong_180 : decode cX8_wrong 180 = .ok (.istore 6, 2) := by decide +kernel
theorem dX8_wrong_182 : decode cX8_wrong 182 = .ok (.iinc 7 1, 3) := by decide +kernel
theorem dX8_wrong_185 : decode cX8_wrong 185 = .ok (.goto (-98), 3) := by decide +kernel
theorem dX8_wrong_188 : decode cX8_wrong 188 = .ok (.iload_n 3, 1) := by decide +kernel
theorem dX8_wrong_189 : decode cX8_wrong 189 = .ok (.ifCond .eq 8, 3) := by decide +kernel
theorem dX8_wrong_192 : decode cX8_wrong 192 = .ok (.iload 6, 2) := by decide +kernel
theorem dX8_wrong_194 : decode cX8_wrong 194 = .ok (.goto 5, 3) := by decide +kernel
theorem dX8_wrong_197 : decode cX8_wrong 197 = .ok (.iload 4, 2) := by decide +kernel
theorem dX8_wrong_199 : decode cX8_wrong 199 = .ok (.ireturn, 1) := by decide +kernel
set_option maxRecDepth 20000 in
theorem ggX8_priceOf_X8_backOf : GoodIn wsX8_priceOf wsX8_backOf := goodIn_r _ [8, 9, 10, 2, 11, 12, 13, 7, 14, 15, 16, 17, 18, 19, 20, 21, 22, 23, 24, 25, 26, 27, 28, 29, 30, 31, 32, 33, 34, 35, 36, 37, 38, 39, 40, 41, 42, 43, 44, 45, 46, 47, 48, 49, 50, 51, 52, 53, 54, 55, 56, 57, 58, 59, 60, 61, 62, 63, 64] (by decide +kernel) (by decide +kernel)
set_option maxRecDepth 20000 in
theorem gX8_priceOf_X8_backOf : GoodIn wsX8_priceOf (wsV RX8 205 RX8 yX8_backOf wsX8_backOf) := goodIn_app (goodIn_of _ (by decide +kernel)) ggX8_priceOf_X8_backOf
theorem dX8_priceOf_0 : decode cX8_priceOf 0 = .ok (.aload_n 0, 1) := by decide +kernel
theorem dX8_priceOf_1 : decode cX8_priceOf 1 = .ok (.getfield 41, 3) := by decide +kernel
theorem dX8_priceOf_4 : decode cX8_priceOf 4 = .ok (.iload_n 1, 1) := by decide +kernel
theorem dX8_priceOf_5 : decode cX8_priceOf 5 = .ok (.imul, 1) := by decide +kernel
theorem dX8_priceOf_6 : decode cX8_priceOf 6 = .ok (.aload_n 0, 1) := by decide +kernel
theorem dX8_priceOf_7 : decode cX8_priceOf 7 = .ok (.getfield 16, 3) := by decide +kernel
theorem dX8_priceOf_10 : decode cX8_priceOf 10 = .ok (.iconst 4, 1) := by decide +kernel
theorem dX8_priceOf_11 : decode cX8_priceOf 11 = .ok (.iaload, 1) := by decide +kernel
theorem dX8_priceOf_12 : decode cX8_priceOf 12 = .ok (.imul, 1) := by decide +kernel
theorem dX8_priceOf_13 : decode cX8_priceOf 13 = .ok (.iload_n 2, 1) := by decide +kernel
theorem dX8_priceOf_14 : decode cX8_priceOf 14 = .ok (.iconst 1, 1) := by decide +kernel
theorem dX8_priceOf_15 : decode cX8_priceOf 15 = .ok (.iadd, 1) := by decide +kernel
theorem dX8_priceOf_16 : decode cX8_priceOf 16 = .ok (.imul, 1) := by decide +kernel
theorem dX8_priceOf_17 : decode cX8_priceOf 17 = .ok (.istore_n 3, 1) := by decide +kernel
theorem dX8_priceOf_18 : decode cX8_priceOf 18 = .ok (.iconst 0, 1) := by decide +kernel
theorem dX8_priceOf_19 : decode cX8_priceOf 19 = .ok (.istore 4, 2) := by decide +kernel
theorem dX8_priceOf_21 : decode cX8_priceOf 21 = .ok (.iload 4, 2) := by decide +kernel
theorem dX8_priceOf_23 : decode cX8_priceOf 23 = .ok (.aload_n 0, 1) := by decide +kernel
theorem dX8_priceOf_24 : decode cX8_priceOf 24 = .ok (.getfield 16, 3) := by decide +kernel
theorem dX8_priceOf_27 : decode cX8_priceOf 27 = .ok (.iconst 4, 1) := by decide +kernel
theorem dX8_priceOf_28 : decode cX8_priceOf 28 = .ok (.iaload, 1) := by decide +kernel
theorem dX8_priceOf_29 : decode cX8_priceOf 29 = .ok (.if_icmp .ge 41, 3) := by decide +kernel
theorem dX8_priceOf_32 : decode cX8_priceOf 32 = .ok (.iconst 0, 1) := by decide +kernel
theorem dX8_priceOf_33 : decode cX8_priceOf 33 = .ok (.istore 5, 2) := by decide +kernel
theorem dX8_priceOf_35 : decode cX8_priceOf 35 = .ok (.iload 5, 2) := by decide +kernel
theorem dX8_priceOf_37 : decode cX8_priceOf 37 = .ok (.iload_n 2, 1) := by decide +kernel
theorem dX8_priceOf_38 : decode cX8_priceOf 38 = .ok (.if_icmp .gt 26, 3) := by decide +kernel
theorem dX8_priceOf_41 : decode cX8_priceOf 41 = .ok (.iload_n 3, 1) := by decide +kernel
theorem dX8_priceOf_42 : decode cX8_priceOf 42 = .ok (.aload_n 0, 1) := by decide +kernel
theorem dX8_priceOf_43 : decode cX8_priceOf 43 = .ok (.getfield 45, 3) := by decide +kernel
theorem dX8_priceOf_46 : decode cX8_priceOf 46 = .ok (.aload_n 0, 1) := by decide +kernel
theorem dX8_priceOf_47 : decode cX8_priceOf 47 = .ok (.iload 4, 2) := by decide +kernel
theorem dX8_priceOf_49 : decode cX8_priceOf 49 = .ok (.iload 5, 2) := by decide +kernel
theorem dX8_priceOf_51 : decode cX8_priceOf 51 = .ok (.iload_n 1, 1) := by decide +kernel
theorem dX8_priceOf_52 : decode cX8_priceOf 52 = .ok (.invokevirtual 205, 3) := by decide +kernel
theorem dX8_priceOf_55 : decode cX8_priceOf 55 = .ok (.imul, 1) := by decide +kernel
theorem dX8_priceOf_56 : decode cX8_priceOf 56 = .ok (.iadd, 1) := by decide +kernel
theorem dX8_priceOf_57 : decode cX8_priceOf 57 = .ok (.istore_n 3, 1) := by decide +kernel
theorem dX8_priceOf_58 : decode cX8_priceOf 58 = .ok (.iinc 5 1, 3) := by decide +kernel
theorem dX8_priceOf_61 : decode cX8_priceOf 61 = .ok (.goto (-26), 3) := by decide +kernel
theorem dX8_priceOf_64 : decode cX8_priceOf 64 = .ok (.iinc 4 1, 3) := by decide +kernel
theorem dX8_priceOf_67 : decode cX8_priceOf 67 = .ok (.goto (-46), 3) := by decide +kernel
theorem dX8_priceOf_70 : decode cX8_priceOf 70 = .ok (.iload_n 3, 1) := by decide +kernel
theorem dX8_priceOf_71 : decode cX8_priceOf 71 = .ok (.ireturn, 1) := by decide +kernel
set_option maxRecDepth 20000 in
theorem ggX8_price_X8_in : GoodIn wsX8_price wsX8_in := goodIn_r _ [6] (by decide +kernel) (by decide +kernel)
set_option maxRecDepth 20000 in
theorem gX8_price_X8_in : GoodIn wsX8_price (va_wsS RX8 103 yX8_in wsX8_in) := goodIn_app (goodIn_of _ (by decide +kernel)) ggX8_price_X8_in
set_option maxRecDepth 20000 in
theorem ggX8_price_X8_noTick : GoodIn wsX8_price wsX8_noTick := goodIn_r _ [9, 10, 3, 4, 5, 6] (by decide +kernel) (by decide +kernel)
set_option maxRecDepth 20000 in
theorem gX8_price_X8_noTick : GoodIn wsX8_price (va_wsS RX8 124 yX8_noTick wsX8_noTick) := goodIn_app (goodIn_of _ (by decide +kernel)) ggX8_price_X8_noTick
set_option maxRecDepth 20000 in
theorem ggX8_price_X8_priceOf : GoodIn wsX8_price wsX8_priceOf := goodIn_r _ [14, 15, 16, 17, 18, 19, 20, 5, 21, 22, 23, 24, 25, 26, 27, 28, 29, 30, 31, 32, 33, 34, 35, 36, 37, 38, 39, 40, 41, 42, 43, 44, 45, 46, 47, 48, 49, 50, 51, 52, 53, 54, 55, 56, 57, 58, 59, 60, 61, 62, 63, 64, 65, 66, 67, 68, 69, 70, 71, 72, 73, 74, 75, 76, 77] (by decide +kernel) (by decide +kernel)
set_option maxRecDepth 20000 in
theorem gX8_price_X8_priceOf : GoodIn wsX8_price (wsV RX8 217 RX8 yX8_priceOf wsX8_priceOf) := goodIn_app (goodIn_of _ (by decide +kernel)) ggX8_price_X8_priceOf
theorem dX8_price_0 : decode cX8_price 0 = .ok (.aload_n 0, 1) := by decide +kernel
theorem dX8_price_1 : decode cX8_price 1 = .ok (.iconst 0, 1) := by decide +kernel
theorem dX8_price_2 : decode cX8_price 2 = .ok (.putfield 100, 3) := by decide +kernel
theorem dX8_price_5 : decode cX8_price 5 = .ok (.iload_n 1, 1) := by decide +kernel
theorem dX8_price_6 : decode cX8_price 6 = .ok (.i2l, 1) := by decide +kernel
theorem dX8_price_7 : decode cX8_price 7 = .ok (.lconst 0, 1) := by decide +kernel
theorem dX8_price_8 : decode cX8_price 8 = .ok (.ldc2_w 111, 3) := by decide +kernel
theorem dX8_price_11 : decode cX8_price 11 = .ok (.invokestatic 103, 3) := by decide +kernel
theorem dX8_price_14 : decode cX8_price 14 = .ok (.ifCond .ne 6, 3) := by decide +kernel
theorem dX8_price_17 : decode cX8_price 17 = .ok (.bipush (-2), 2) := by decide +kernel
theorem dX8_price_19 : decode cX8_price 19 = .ok (.ireturn, 1) := by decide +kernel
theorem dX8_price_20 : decode cX8_price 20 = .ok (.iload_n 2, 1) := by decide +kernel
theorem dX8_price_21 : decode cX8_price 21 = .ok (.invokestatic 124, 3) := by decide +kernel
theorem dX8_price_24 : decode cX8_price 24 = .ok (.ifCond .eq 7, 3) := by decide +kernel
theorem dX8_price_27 : decode cX8_price 27 = .ok (.iconst (-1), 1) := by decide +kernel
theorem dX8_price_28 : decode cX8_price 28 = .ok (.goto 9, 3) := by decide +kernel
theorem dX8_price_31 : decode cX8_price 31 = .ok (.aload_n 0, 1) := by decide +kernel
theorem dX8_price_32 : decode cX8_price 32 = .ok (.iload_n 1, 1) := by decide +kernel
theorem dX8_price_33 : decode cX8_price 33 = .ok (.iload_n 2, 1) := by decide +kernel
theorem dX8_price_34 : decode cX8_price 34 = .ok (.invokevirtual 217, 3) := by decide +kernel
theorem dX8_price_37 : decode cX8_price 37 = .ok (.ireturn, 1) := by decide +kernel
set_option maxRecDepth 20000 in
theorem ggX8_best_X8_noTick : GoodIn wsX8_best wsX8_noTick := goodIn_r _ [5, 6, 7, 8, 4, 9] (by decide +kernel) (by decide +kernel)
set_option maxRecDepth 20000 in
theorem gX8_best_X8_noTick : GoodIn wsX8_best (va_wsS RX8 124 yX8_noTick wsX8_noTick) := goodIn_app (goodIn_of _ (by decide +kernel)) ggX8_best_X8_noTick
set_option maxRecDepth 20000 in
theorem ggX8_best_X8_priceOf : GoodIn wsX8_best wsX8_priceOf := goodIn_r _ [13, 14, 15, 16, 17, 18, 19, 4, 20, 21, 22, 23, 24, 25, 26, 27, 28, 29, 30, 31, 32, 33, 34, 35, 36, 37, 38, 39, 40, 41, 42, 43, 44, 45, 46, 47, 48, 49, 50, 51, 52, 53, 54, 55, 56, 57, 58, 59, 60, 61, 62, 63, 64, 65, 66, 67, 68, 69, 70, 71, 72, 73, 74, 75, 76] (by decide +kernel) (by decide +kernel)
set_option maxRecDepth 20000 in
theorem gX8_best_X8_priceOf : GoodIn wsX8_best (wsV RX8 217 RX8 yX8_priceOf wsX8_priceOf) := goodIn_app (goodIn_of _ (by decide +kernel)) ggX8_best_X8_priceOf
theorem dX8_best_0 : decode cX8_best 0 = .ok (.aload_n 0, 1) := by decide +kernel
theorem dX8_best_1 : decode cX8_best 1 = .ok (.iconst 0, 1) := by decide +kernel
theorem dX8_best_2 : decode cX8_best 2 = .ok (.putfield 100, 3) := by decide +kernel
theorem dX8_best_5 : decode cX8_best 5 = .ok (.iload_n 1, 1) := by decide +kernel
theorem dX8_best_6 : decode cX8_best 6 = .ok (.invokestatic 124, 3) := by decide +kernel
theorem dX8_best_9 : decode cX8_best 9 = .ok (.ifCond .eq 5, 3) := by decide +kernel
theorem dX8_best_12 : decode cX8_best 12 = .ok (.iconst (-1), 1) := by decide +kernel
theorem dX8_best_13 : decode cX8_best 13 = .ok (.ireturn, 1) := by decide +kernel
theorem dX8_best_14 : decode cX8_best 14 = .ok (.iconst 0, 1) := by decide +kernel
theorem dX8_best_15 : decode cX8_best 15 = .ok (.istore_n 2, 1) := by decide +kernel
theorem dX8_best_16 : decode cX8_best 16 = .ok (.aload_n 0, 1) := by decide +kernel
theorem dX8_best_17 : decode cX8_best 17 = .ok (.iconst 0, 1) := by decide +kernel
theorem dX8_best_18 : decode cX8_best 18 = .ok (.iload_n 1, 1) := by decide +kernel
theorem dX8_best_19 : decode cX8_best 19 = .ok (.invokevirtual 217, 3) := by decide +kernel
theorem dX8_best_22 : decode cX8_best 22 = .ok (.istore_n 3, 1) := by decide +kernel
theorem dX8_best_23 : decode cX8_best 23 = .ok (.iconst 1, 1) := by decide +kernel
theorem dX8_best_24 : decode cX8_best 24 = .ok (.istore 4, 2) := by decide +kernel
theorem dX8_best_26 : decode cX8_best 26 = .ok (.iload 4, 2) := by decide +kernel
theorem dX8_best_28 : decode cX8_best 28 = .ok (.bipush 10, 2) := by decide +kernel
theorem dX8_best_30 : decode cX8_best 30 = .ok (.if_icmp .ge 30, 3) := by decide +kernel
theorem dX8_best_33 : decode cX8_best 33 = .ok (.aload_n 0, 1) := by decide +kernel
theorem dX8_best_34 : decode cX8_best 34 = .ok (.iload 4, 2) := by decide +kernel
theorem dX8_best_36 : decode cX8_best 36 = .ok (.iload_n 1, 1) := by decide +kernel
theorem dX8_best_37 : decode cX8_best 37 = .ok (.invokevirtual 217, 3) := by decide +kernel
theorem dX8_best_40 : decode cX8_best 40 = .ok (.istore 5, 2) := by decide +kernel
theorem dX8_best_42 : decode cX8_best 42 = .ok (.iload 5, 2) := by decide +kernel
theorem dX8_best_44 : decode cX8_best 44 = .ok (.iload_n 3, 1) := by decide +kernel
theorem dX8_best_45 : decode cX8_best 45 = .ok (.if_icmp .ge 9, 3) := by decide +kernel
theorem dX8_best_48 : decode cX8_best 48 = .ok (.iload 5, 2) := by decide +kernel
theorem dX8_best_50 : decode cX8_best 50 = .ok (.istore_n 3, 1) := by decide +kernel
theorem dX8_best_51 : decode cX8_best 51 = .ok (.iload 4, 2) := by decide +kernel
theorem dX8_best_53 : decode cX8_best 53 = .ok (.istore_n 2, 1) := by decide +kernel
theorem dX8_best_54 : decode cX8_best 54 = .ok (.iinc 4 1, 3) := by decide +kernel
theorem dX8_best_57 : decode cX8_best 57 = .ok (.goto (-31), 3) := by decide +kernel
theorem dX8_best_60 : decode cX8_best 60 = .ok (.iload_n 2, 1) := by decide +kernel
theorem dX8_best_61 : decode cX8_best 61 = .ok (.ireturn, 1) := by decide +kernel
set_option maxRecDepth 20000 in
theorem ggX8_isSeen_X8_size : GoodIn wsX8_isSeen wsX8_size := goodIn_r _ [7] (by decide +kernel) (by decide +kernel)
set_option maxRecDepth 20000 in
theorem gX8_isSeen_X8_size : GoodIn wsX8_isSeen (va_wsS RX8 149 yX8_size wsX8_size) := goodIn_app (goodIn_of _ (by decide +kernel)) ggX8_isSeen_X8_size
theorem dX8_isSeen_0 : decode cX8_isSeen 0 = .ok (.aload_n 0, 1) := by decide +kernel
theorem dX8_isSeen_1 : decode cX8_isSeen 1 = .ok (.getfield 57, 3) := by decide +kernel
theorem dX8_isSeen_4 : decode cX8_isSeen 4 = .ok (.iload_n 1, 1) := by decide +kernel
theorem dX8_isSeen_5 : decode cX8_isSeen 5 = .ok (.iaload, 1) := by decide +kernel
theorem dX8_isSeen_6 : decode cX8_isSeen 6 = .ok (.aload_n 0, 1) := by decide +kernel
theorem dX8_isSeen_7 : decode cX8_isSeen 7 = .ok (.getfield 129, 3) := by decide +kernel
theorem dX8_isSeen_10 : decode cX8_isSeen 10 = .ok (.irem, 1) := by decide +kernel
theorem dX8_isSeen_11 : decode cX8_isSeen 11 = .ok (.iload_n 2, 1) := by decide +kernel
theorem dX8_isSeen_12 : decode cX8_isSeen 12 = .ok (.aload_n 0, 1) := by decide +kernel
theorem dX8_isSeen_13 : decode cX8_isSeen 13 = .ok (.getfield 129, 3) := by decide +kernel
theorem dX8_isSeen_16 : decode cX8_isSeen 16 = .ok (.irem, 1) := by decide +kernel
theorem dX8_isSeen_17 : decode cX8_isSeen 17 = .ok (.isub, 1) := by decide +kernel
theorem dX8_isSeen_18 : decode cX8_isSeen 18 = .ok (.invokestatic 149, 3) := by decide +kernel
theorem dX8_isSeen_21 : decode cX8_isSeen 21 = .ok (.aload_n 0, 1) := by decide +kernel
theorem dX8_isSeen_22 : decode cX8_isSeen 22 = .ok (.getfield 57, 3) := by decide +kernel
theorem dX8_isSeen_25 : decode cX8_isSeen 25 = .ok (.iload_n 1, 1) := by decide +kernel
theorem dX8_isSeen_26 : decode cX8_isSeen 26 = .ok (.iaload, 1) := by decide +kernel
theorem dX8_isSeen_27 : decode cX8_isSeen 27 = .ok (.aload_n 0, 1) := by decide +kernel
theorem dX8_isSeen_28 : decode cX8_isSeen 28 = .ok (.getfield 129, 3) := by decide +kernel
theorem dX8_isSeen_31 : decode cX8_isSeen 31 = .ok (.idiv, 1) := by decide +kernel
theorem dX8_isSeen_32 : decode cX8_isSeen 32 = .ok (.iload_n 2, 1) := by decide +kernel
theorem dX8_isSeen_33 : decode cX8_isSeen 33 = .ok (.aload_n 0, 1) := by decide +kernel
theorem dX8_isSeen_34 : decode cX8_isSeen 34 = .ok (.getfield 129, 3) := by decide +kernel
theorem dX8_isSeen_37 : decode cX8_isSeen 37 = .ok (.idiv, 1) := by decide +kernel
theorem dX8_isSeen_38 : decode cX8_isSeen 38 = .ok (.isub, 1) := by decide +kernel
theorem dX8_isSeen_39 : decode cX8_isSeen 39 = .ok (.invokestatic 149, 3) := by decide +kernel
theorem dX8_isSeen_42 : decode cX8_isSeen 42 = .ok (.iadd, 1) := by decide +kernel
theorem dX8_isSeen_43 : decode cX8_isSeen 43 = .ok (.aload_n 0, 1) := by decide +kernel
theorem dX8_isSeen_44 : decode cX8_isSeen 44 = .ok (.getfield 48, 3) := by decide +kernel
theorem dX8_isSeen_47 : decode cX8_isSeen 47 = .ok (.if_icmp .gt 7, 3) := by decide +kernel
theorem dX8_isSeen_50 : decode cX8_isSeen 50 = .ok (.iconst 1, 1) := by decide +kernel
theorem dX8_isSeen_51 : decode cX8_isSeen 51 = .ok (.goto 4, 3) := by decide +kernel
theorem dX8_isSeen_54 : decode cX8_isSeen 54 = .ok (.iconst 0, 1) := by decide +kernel
theorem dX8_isSeen_55 : decode cX8_isSeen 55 = .ok (.ireturn, 1) := by decide +kernel
set_option maxRecDepth 20000 in
theorem ggX8_sees_X8_noHand : GoodIn wsX8_sees wsX8_noHand := goodIn_r _ [7, 8, 9, 10, 6, 11, 79, 80, 81, 82, 83, 84, 85, 86, 87, 88, 89, 90, 91, 92, 93, 94, 95, 96, 97, 98, 99, 100, 101, 102, 103, 104, 105, 106, 107, 108, 109, 110, 111, 112, 113, 114] (by decide +kernel) (by decide +kernel)
set_option maxRecDepth 20000 in
theorem gX8_sees_X8_noHand : GoodIn wsX8_sees (wsV RX8 120 RX8 yX8_noHand wsX8_noHand) := goodIn_app (goodIn_of _ (by decide +kernel)) ggX8_sees_X8_noHand
set_option maxRecDepth 20000 in
theorem ggX8_sees_X8_noTick : GoodIn wsX8_sees wsX8_noTick := goodIn_r _ [14, 15, 9, 10, 6, 11] (by decide +kernel) (by decide +kernel)
set_option maxRecDepth 20000 in
theorem gX8_sees_X8_noTick : GoodIn wsX8_sees (va_wsS RX8 124 yX8_noTick wsX8_noTick) := goodIn_app (goodIn_of _ (by decide +kernel)) ggX8_sees_X8_noTick
set_option maxRecDepth 20000 in
theorem ggX8_sees_X8_liveNow : GoodIn wsX8_sees wsX8_liveNow := goodIn_r _ [19, 20, 21, 22, 23, 6, 24, 25, 26, 27, 28, 29, 30, 31, 32, 33, 8, 34, 2, 35, 36, 37, 38, 39, 40, 41, 42, 43, 44, 45, 46, 47, 48, 49, 50, 51, 52, 53, 54, 55, 56, 57, 58, 59, 60, 61, 9, 10, 11, 62, 63, 64, 65, 66, 67, 68, 69, 70, 71, 72, 73, 79, 80, 81, 82, 83, 84, 85, 86, 87, 88, 89, 90, 91, 92, 93, 94, 95, 96, 97, 98, 99, 100, 101, 102, 103, 104, 105, 106, 107, 108, 109, 110, 111, 112, 113, 114] (by decide +kernel) (by decide +kernel)
set_option maxRecDepth 20000 in
theorem gX8_sees_X8_liveNow : GoodIn wsX8_sees (wsV RX8 186 RX8 yX8_liveNow wsX8_liveNow) := goodIn_app (goodIn_of _ (by decide +kernel)) ggX8_sees_X8_liveNow
set_option maxRecDepth 20000 in
theorem ggX8_sees_X8_isSeen : GoodIn wsX8_sees wsX8_isSeen := goodIn_r _ [77, 2, 31, 78, 62, 63, 6, 64, 79, 80, 81, 82, 83, 84, 85, 86, 87, 88, 89, 90, 91, 92, 93, 94, 95, 96, 97, 98, 99, 100, 101, 102, 103, 104, 105, 106, 107, 108, 109, 110, 111, 112, 113, 114] (by decide +kernel) (by decide +kernel)
set_option maxRecDepth 20000 in
theorem gX8_sees_X8_isSeen : GoodIn wsX8_sees (wsV RX8 220 RX8 yX8_isSeen wsX8_isSeen) := goodIn_app (goodIn_of _ (by decide +kernel)) ggX8_sees_X8_isSeen
theorem dX8_sees_0 : decode cX8_sees 0 = .ok (.aload_n 0, 1) := by decide +kernel
theorem dX8_sees_1 : decode cX8_sees 1 = .ok (.iconst 0, 1) := by decide +kernel
theorem dX8_sees_2 : decode cX8_sees 2 = .ok (.putfield 100, 3) := by decide +kernel
theorem dX8_sees_5 : decode cX8_sees 5 = .ok (.aload_n 0, 1) := by decide +kernel
theorem dX8_sees_6 : decode cX8_sees 6 = .ok (.iload_n 1, 1) := by decide +kernel
theorem dX8_sees_7 : decode cX8_sees 7 = .ok (.invokevirtual 120, 3) := by decide +kernel
theorem dX8_sees_10 : decode cX8_sees 10 = .ok (.ifCond .ne 18, 3) := by decide +kernel
theorem dX8_sees_13 : decode cX8_sees 13 = .ok (.aload_n 0, 1) := by decide +kernel
theorem dX8_sees_14 : decode cX8_sees 14 = .ok (.iload_n 2, 1) := by decide +kernel
theorem dX8_sees_15 : decode cX8_sees 15 = .ok (.invokevirtual 120, 3) := by decide +kernel
theorem dX8_sees_18 : decode cX8_sees 18 = .ok (.ifCond .ne 10, 3) := by decide +kernel
theorem dX8_sees_21 : decode cX8_sees 21 = .ok (.iload_n 3, 1) := by decide +kernel
theorem dX8_sees_22 : decode cX8_sees 22 = .ok (.invokestatic 124, 3) := by decide +kernel
theorem dX8_sees_25 : decode cX8_sees 25 = .ok (.ifCond .eq 5, 3) := by decide +kernel
theorem dX8_sees_28 : decode cX8_sees 28 = .ok (.iconst (-1), 1) := by decide +kernel
theorem dX8_sees_29 : decode cX8_sees 29 = .ok (.ireturn, 1) := by decide +kernel
theorem dX8_sees_30 : decode cX8_sees 30 = .ok (.aload_n 0, 1) := by decide +kernel
theorem dX8_sees_31 : decode cX8_sees 31 = .ok (.iload_n 3, 1) := by decide +kernel
theorem dX8_sees_32 : decode cX8_sees 32 = .ok (.invokevirtual 186, 3) := by decide +kernel
theorem dX8_sees_35 : decode cX8_sees 35 = .ok (.aload_n 0, 1) := by decide +kernel
theorem dX8_sees_36 : decode cX8_sees 36 = .ok (.iload_n 1, 1) := by decide +kernel
theorem dX8_sees_37 : decode cX8_sees 37 = .ok (.aload_n 0, 1) := by decide +kernel
theorem dX8_sees_38 : decode cX8_sees 38 = .ok (.getfield 57, 3) := by decide +kernel
theorem dX8_sees_41 : decode cX8_sees 41 = .ok (.iload_n 2, 1) := by decide +kernel
theorem dX8_sees_42 : decode cX8_sees 42 = .ok (.iaload, 1) := by decide +kernel
theorem dX8_sees_43 : decode cX8_sees 43 = .ok (.invokevirtual 220, 3) := by decide +kernel
theorem dX8_sees_46 : decode cX8_sees 46 = .ok (.ifCond .eq 7, 3) := by decide +kernel
theorem dX8_sees_49 : decode cX8_sees 49 = .ok (.iconst 1, 1) := by decide +kernel
theorem dX8_sees_50 : decode cX8_sees 50 = .ok (.goto 4, 3) := by decide +kernel
theorem dX8_sees_53 : decode cX8_sees 53 = .ok (.iconst 0, 1) := by decide +kernel
theorem dX8_sees_54 : decode cX8_sees 54 = .ok (.ireturn, 1) := by decide +kernel
set_option maxRecDepth 20000 in
theorem ggX8_guess_X8_start : GoodIn wsX8_guess wsX8_start := goodIn_r _ [12, 13, 5, 14, 6, 15, 16, 2, 17, 18, 64, 65, 66, 67, 68, 69, 70, 71, 72, 73, 74, 75, 76, 77, 78, 79, 80, 81, 82, 83, 84, 85, 86, 87, 88, 89, 90, 91, 92, 93, 94, 95, 96, 97, 98, 99] (by decide +kernel) (by decide +kernel)
set_option maxRecDepth 20000 in
theorem gX8_guess_X8_start : GoodIn wsX8_guess (wsV RX8 169 RX8 yX8_start wsX8_start) := goodIn_app (goodIn_of _ (by decide +kernel)) ggX8_guess_X8_start
set_option maxRecDepth 20000 in
theorem ggX8_guess_X8_step : GoodIn wsX8_guess wsX8_step := goodIn_r _ [22, 16, 23, 18, 24, 25, 5, 2, 17, 26, 27, 28, 11, 29, 30, 31, 32, 33, 34, 35, 36, 37, 38, 39, 40, 41, 42, 43, 6, 44, 45, 46, 47, 48, 49, 50, 51, 52, 53, 54, 55, 56, 57, 58, 64, 65, 66, 67, 68, 69, 70, 71, 72, 73, 74, 75, 76, 77, 78, 79, 80, 81, 82, 83, 84, 85, 86, 87, 88, 89, 90, 91, 92, 93, 94, 95, 96, 97, 98, 99] (by decide +kernel) (by decide +kernel)
set_option maxRecDepth 20000 in
theorem gX8_guess_X8_step : GoodIn wsX8_guess (wsV RX8 173 RX8 yX8_step wsX8_step) := goodIn_app (goodIn_of _ (by decide +kernel)) ggX8_guess_X8_step
set_option maxRecDepth 20000 in
theorem ggX8_guess_X8_by : GoodIn wsX8_guess wsX8_by := goodIn_r _ [43, 5, 6, 44, 45, 11, 46, 64, 65, 66, 67, 68, 69, 70, 71, 72, 73, 74, 75, 76, 77, 78, 79, 80, 81, 82, 83, 84, 85, 86, 87, 88, 89, 90, 91, 92, 93, 94, 95, 96, 97, 98, 99] (by decide +kernel) (by decide +kernel)
set_option maxRecDepth 20000 in
theorem gX8_guess_X8_by : GoodIn wsX8_guess (wsV RX8 141 RX8 yX8_by wsX8_by) := goodIn_app (goodIn_of _ (by decide +kernel)) ggX8_guess_X8_by
set_option maxRecDepth 20000 in
theorem ggX8_guess_X8_isSeen : GoodIn wsX8_guess wsX8_isSeen := goodIn_r _ [62, 2, 5, 63, 47, 48, 11, 49, 64, 65, 66, 67, 68, 69, 70, 71, 72, 73, 74, 75, 76, 77, 78, 79, 80, 81, 82, 83, 84, 85, 86, 87, 88, 89, 90, 91, 92, 93, 94, 95, 96, 97, 98, 99] (by decide +kernel) (by decide +kernel)
set_option maxRecDepth 20000 in
theorem gX8_guess_X8_isSeen : GoodIn wsX8_guess (wsV RX8 220 RX8 yX8_isSeen wsX8_isSeen) := goodIn_app (goodIn_of _ (by decide +kernel)) ggX8_guess_X8_isSeen
theorem dX8_guess_0 : decode cX8_guess 0 = .ok (.aload_n 0, 1) := by decide +kernel
theorem dX8_guess_1 : decode cX8_guess 1 = .ok (.iconst 4, 1) := by decide +kernel
theorem dX8_guess_2 : decode cX8_guess 2 = .ok (.invokevirtual 169, 3) := by decide +kernel
theorem dX8_guess_5 : decode cX8_guess 5 = .ok (.iconst 0, 1) := by decide +kernel
theorem dX8_guess_6 : decode cX8_guess 6 = .ok (.istore 4, 2) := by decide +kernel
theorem dX8_guess_8 : decode cX8_guess 8 = .ok (.iload 4, 2) := by decide +kernel
theorem dX8_guess_10 : decode cX8_guess 10 = .ok (.bipush 81, 2) := by decide +kernel
theorem dX8_guess_12 : decode cX8_guess 12 = .ok (.if_icmp .ge 32, 3) := by decide +kernel
theorem dX8_guess_15 : decode cX8_guess 15 = .ok (.aload_n 0, 1) := by decide +kernel
theorem dX8_guess_16 : decode cX8_guess 16 = .ok (.getfield 75, 3) := by decide +kernel
theorem dX8_guess_19 : decode cX8_guess 19 = .ok (.iload 4, 2) := by decide +kernel
theorem dX8_guess_21 : decode cX8_guess 21 = .ok (.iload 4, 2) := by decide +kernel
theorem dX8_guess_23 : decode cX8_guess 23 = .ok (.aload_n 0, 1) := by decide +kernel
theorem dX8_guess_24 : decode cX8_guess 24 = .ok (.getfield 57, 3) := by decide +kernel
theorem dX8_guess_27 : decode cX8_guess 27 = .ok (.iload_n 2, 1) := by decide +kernel
theorem dX8_guess_28 : decode cX8_guess 28 = .ok (.iaload, 1) := by decide +kernel
theorem dX8_guess_29 : decode cX8_guess 29 = .ok (.if_icmp .ne 7, 3) := by decide +kernel
theorem dX8_guess_32 : decode cX8_guess 32 = .ok (.iconst 1, 1) := by decide +kernel
theorem dX8_guess_33 : decode cX8_guess 33 = .ok (.goto 4, 3) := by decide +kernel
theorem dX8_guess_36 : decode cX8_guess 36 = .ok (.iconst 0, 1) := by decide +kernel
theorem dX8_guess_37 : decode cX8_guess 37 = .ok (.bastore, 1) := by decide +kernel
theorem dX8_guess_38 : decode cX8_guess 38 = .ok (.iinc 4 1, 3) := by decide +kernel
theorem dX8_guess_41 : decode cX8_guess 41 = .ok (.goto (-33), 3) := by decide +kernel
theorem dX8_guess_44 : decode cX8_guess 44 = .ok (.iconst 0, 1) := by decide +kernel
theorem dX8_guess_45 : decode cX8_guess 45 = .ok (.istore 4, 2) := by decide +kernel
theorem dX8_guess_47 : decode cX8_guess 47 = .ok (.iload 4, 2) := by decide +kernel
theorem dX8_guess_49 : decode cX8_guess 49 = .ok (.iload_n 3, 1) := by decide +kernel
theorem dX8_guess_50 : decode cX8_guess 50 = .ok (.if_icmp .gt 216, 3) := by decide +kernel
theorem dX8_guess_53 : decode cX8_guess 53 = .ok (.aload_n 0, 1) := by decide +kernel
theorem dX8_guess_54 : decode cX8_guess 54 = .ok (.iconst 4, 1) := by decide +kernel
theorem dX8_guess_55 : decode cX8_guess 55 = .ok (.iload 4, 2) := by decide +kernel
theorem dX8_guess_57 : decode cX8_guess 57 = .ok (.aload_n 0, 1) := by decide +kernel
theorem dX8_guess_58 : decode cX8_guess 58 = .ok (.getfield 28, 3) := by decide +kernel
theorem dX8_guess_61 : decode cX8_guess 61 = .ok (.sipush 2400, 3) := by decide +kernel
theorem dX8_guess_64 : decode cX8_guess 64 = .ok (.aload_n 0, 1) := by decide +kernel
theorem dX8_guess_65 : decode cX8_guess 65 = .ok (.getfield 19, 3) := by decide +kernel
theorem dX8_guess_68 : decode cX8_guess 68 = .ok (.iconst 4, 1) := by decide +kernel
theorem dX8_guess_69 : decode cX8_guess 69 = .ok (.iaload, 1) := by decide +kernel
theorem dX8_guess_70 : decode cX8_guess 70 = .ok (.invokevirtual 173, 3) := by decide +kernel
theorem dX8_guess_73 : decode cX8_guess 73 = .ok (.iconst 0, 1) := by decide +kernel
theorem dX8_guess_74 : decode cX8_guess 74 = .ok (.istore 5, 2) := by decide +kernel
theorem dX8_guess_76 : decode cX8_guess 76 = .ok (.iload 5, 2) := by decide +kernel
theorem dX8_guess_78 : decode cX8_guess 78 = .ok (.aload_n 0, 1) := by decide +kernel
theorem dX8_guess_79 : decode cX8_guess 79 = .ok (.getfield 129, 3) := by decide +kernel
theorem dX8_guess_82 : decode cX8_guess 82 = .ok (.aload_n 0, 1) := by decide +kernel
theorem dX8_guess_83 : decode cX8_guess 83 = .ok (.getfield 132, 3) := by decide +kernel
theorem dX8_guess_86 : decode cX8_guess 86 = .ok (.imul, 1) := by decide +kernel
theorem dX8_guess_87 : decode cX8_guess 87 = .ok (.if_icmp .ge 81, 3) := by decide +kernel
theorem dX8_guess_90 : decode cX8_guess 90 = .ok (.aload_n 0, 1) := by decide +kernel
theorem dX8_guess_91 : decode cX8_guess 91 = .ok (.getfield 75, 3) := by decide +kernel
theorem dX8_guess_94 : decode cX8_guess 94 = .ok (.iload 5, 2) := by decide +kernel
theorem dX8_guess_96 : decode cX8_guess 96 = .ok (.baload, 1) := by decide +kernel
theorem dX8_guess_97 : decode cX8_guess 97 = .ok (.istore 6, 2) := by decide +kernel
theorem dX8_guess_99 : decode cX8_guess 99 = .ok (.iconst 1, 1) := by decide +kernel
theorem dX8_guess_100 : decode cX8_guess 100 = .ok (.istore 7, 2) := by decide +kernel
theorem dX8_guess_102 : decode cX8_guess 102 = .ok (.iload 7, 2) := by decide +kernel
theorem dX8_guess_104 : decode cX8_guess 104 = .ok (.iconst 5, 1) := by decide +kernel
theorem dX8_guess_105 : decode cX8_guess 105 = .ok (.if_icmp .ge 48, 3) := by decide +kernel
theorem dX8_guess_108 : decode cX8_guess 108 = .ok (.aload_n 0, 1) := by decide +kernel
theorem dX8_guess_109 : decode cX8_guess 109 = .ok (.iload 5, 2) := by decide +kernel
theorem dX8_guess_111 : decode cX8_guess 111 = .ok (.iload 7, 2) := by decide +kernel
theorem dX8_guess_113 : decode cX8_guess 113 = .ok (.invokevirtual 141, 3) := by decide +kernel
theorem dX8_guess_116 : decode cX8_guess 116 = .ok (.istore 8, 2) := by decide +kernel
theorem dX8_guess_118 : decode cX8_guess 118 = .ok (.iload 6, 2) := by decide +kernel
theorem dX8_guess_120 : decode cX8_guess 120 = .ok (.ifCond .ne 20, 3) := by decide +kernel
theorem dX8_guess_123 : decode cX8_guess 123 = .ok (.iload 8, 2) := by decide +kernel
theorem dX8_guess_125 : decode cX8_guess 125 = .ok (.bipush (-9), 2) := by decide +kernel
theorem dX8_guess_127 : decode cX8_guess 127 = .ok (.if_icmp .eq 17, 3) := by decide +kernel
theorem dX8_guess_130 : decode cX8_guess 130 = .ok (.aload_n 0, 1) := by decide +kernel
theorem dX8_guess_131 : decode cX8_guess 131 = .ok (.getfield 75, 3) := by decide +kernel
theorem dX8_guess_134 : decode cX8_guess 134 = .ok (.iload 8, 2) := by decide +kernel
theorem dX8_guess_136 : decode cX8_guess 136 = .ok (.baload, 1) := by decide +kernel
theorem dX8_guess_137 : decode cX8_guess 137 = .ok (.ifCond .eq 7, 3) := by decide +kernel
theorem dX8_guess_140 : decode cX8_guess 140 = .ok (.iconst 1, 1) := by decide +kernel
theorem dX8_guess_141 : decode cX8_guess 141 = .ok (.goto 4, 3) := by decide +kernel
theorem dX8_guess_144 : decode cX8_guess 144 = .ok (.iconst 0, 1) := by decide +kernel
theorem dX8_guess_145 : decode cX8_guess 145 = .ok (.istore 6, 2) := by decide +kernel
theorem dX8_guess_147 : decode cX8_guess 147 = .ok (.iinc 7 1, 3) := by decide +kernel
theorem dX8_guess_150 : decode cX8_guess 150 = .ok (.goto (-48), 3) := by decide +kernel
theorem dX8_guess_153 : decode cX8_guess 153 = .ok (.aload_n 0, 1) := by decide +kernel
theorem dX8_guess_154 : decode cX8_guess 154 = .ok (.getfield 78, 3) := by decide +kernel
theorem dX8_guess_157 : decode cX8_guess 157 = .ok (.iload 5, 2) := by decide +kernel
theorem dX8_guess_159 : decode cX8_guess 159 = .ok (.iload 6, 2) := by decide +kernel
theorem dX8_guess_161 : decode cX8_guess 161 = .ok (.bastore, 1) := by decide +kernel
theorem dX8_guess_162 : decode cX8_guess 162 = .ok (.iinc 5 1, 3) := by decide +kernel
theorem dX8_guess_165 : decode cX8_guess 165 = .ok (.goto (-89), 3) := by decide +kernel
theorem dX8_guess_168 : decode cX8_guess 168 = .ok (.aload_n 0, 1) := by decide +kernel
theorem dX8_guess_169 : decode cX8_guess 169 = .ok (.iload_n 1, 1) := by decide +kernel
theorem dX8_guess_170 : decode cX8_guess 170 = .ok (.aload_n 0, 1) := by decide +kernel
theorem dX8_guess_171 : decode cX8_guess 171 = .ok (.getfield 57, 3) := by decide +kernel
theorem dX8_guess_174 : decode cX8_guess 174 = .ok (.iload_n 2, 1) := by decide +kernel
theorem dX8_guess_175 : decode cX8_guess 175 = .ok (.iaload, 1) := by decide +kernel
theorem dX8_guess_176 : decode cX8_guess 176 = .ok (.invokevirtual 220, 3) := by decide +kernel
theorem dX8_guess_179 : decode cX8_guess 179 = .ok (.istore 5, 2) := by decide +kernel
theorem dX8_guess_181 : decode cX8_guess 181 = .ok (.iconst 0, 1) := by decide +kernel
theorem dX8_guess_182 : decode cX8_guess 182 = .ok (.istore 6, 2) := by decide +kernel
theorem dX8_guess_184 : decode cX8_guess 184 = .ok (.iload 6, 2) := by decide +kernel
theorem dX8_guess_186 : decode cX8_guess 186 = .ok (.aload_n 0, 1) := by decide +kernel
theorem dX8_guess_187 : decode cX8_guess 187 = .ok (.getfield 129, 3) := by decide +kernel
theorem dX8_guess_190 : decode cX8_guess 190 = .ok (.aload_n 0, 1) := by decide +kernel
theorem dX8_guess_191 : decode cX8_guess 191 = .ok (.getfield 132, 3) := by decide +kernel
theorem dX8_guess_194 : decode cX8_guess 194 = .ok (.imul, 1) := by decide +kernel
theorem dX8_guess_195 : decode cX8_guess 195 = .ok (.if_icmp .ge 65, 3) := by decide +kernel
theorem dX8_guess_198 : decode cX8_guess 198 = .ok (.aload_n 0, 1) := by decide +kernel
theorem dX8_guess_199 : decode cX8_guess 199 = .ok (.getfield 75, 3) := by decide +kernel
theorem dX8_guess_202 : decode cX8_guess 202 = .ok (.iload 6, 2) := by decide +kernel
theorem dX8_guess_204 : decode cX8_guess 204 = .ok (.iload 5, 2) := by decide +kernel
theorem dX8_guess_206 : decode cX8_guess 206 = .ok (.ifCond .eq 22, 3) := by decide +kernel
theorem dX8_guess_209 : decode cX8_guess 209 = .ok (.iload 6, 2) := by decide +kernel
theorem dX8_guess_211 : decode cX8_guess 211 = .ok (.aload_n 0, 1) := by decide +kernel
theorem dX8_guess_212 : decode cX8_guess 212 = .ok (.getfield 57, 3) := by decide +kernel
theorem dX8_guess_215 : decode cX8_guess 215 = .ok (.iload_n 2, 1) := by decide +kernel
theorem dX8_guess_216 : decode cX8_guess 216 = .ok (.iaload, 1) := by decide +kernel
theorem dX8_guess_217 : decode cX8_guess 217 = .ok (.if_icmp .ne 7, 3) := by decide +kernel
theorem dX8_guess_220 : decode cX8_guess 220 = .ok (.iconst 1, 1) := by decide +kernel
theorem dX8_guess_221 : decode cX8_guess 221 = .ok (.goto 32, 3) := by decide +kernel
theorem dX8_guess_224 : decode cX8_guess 224 = .ok (.iconst 0, 1) := by decide +kernel
theorem dX8_guess_225 : decode cX8_guess 225 = .ok (.goto 28, 3) := by decide +kernel
theorem dX8_guess_228 : decode cX8_guess 228 = .ok (.aload_n 0, 1) := by decide +kernel
theorem dX8_guess_229 : decode cX8_guess 229 = .ok (.getfield 78, 3) := by decide +kernel
theorem dX8_guess_232 : decode cX8_guess 232 = .ok (.iload 6, 2) := by decide +kernel
theorem dX8_guess_234 : decode cX8_guess 234 = .ok (.baload, 1) := by decide +kernel
theorem dX8_guess_235 : decode cX8_guess 235 = .ok (.ifCond .eq 17, 3) := by decide +kernel
theorem dX8_guess_238 : decode cX8_guess 238 = .ok (.aload_n 0, 1) := by decide +kernel
theorem dX8_guess_239 : decode cX8_guess 239 = .ok (.iload_n 1, 1) := by decide +kernel
theorem dX8_guess_240 : decode cX8_guess 240 = .ok (.iload 6, 2) := by decide +kernel
theorem dX8_guess_242 : decode cX8_guess 242 = .ok (.invokevirtual 220, 3) := by decide +kernel
theorem dX8_guess_245 : decode cX8_guess 245 = .ok (.ifCond .ne 7, 3) := by decide +kernel
theorem dX8_guess_248 : decode cX8_guess 248 = .ok (.iconst 1, 1) := by decide +kernel
theorem dX8_guess_249 : decode cX8_guess 249 = .ok (.goto 4, 3) := by decide +kernel
theorem dX8_guess_252 : decode cX8_guess 252 = .ok (.iconst 0, 1) := by decide +kernel
theorem dX8_guess_253 : decode cX8_guess 253 = .ok (.bastore, 1) := by decide +kernel
theorem dX8_guess_254 : decode cX8_guess 254 = .ok (.iinc 6 1, 3) := by decide +kernel
theorem dX8_guess_257 : decode cX8_guess 257 = .ok (.goto (-73), 3) := by decide +kernel
theorem dX8_guess_260 : decode cX8_guess 260 = .ok (.iinc 4 1, 3) := by decide +kernel
theorem dX8_guess_263 : decode cX8_guess 263 = .ok (.goto (-216), 3) := by decide +kernel
theorem dX8_guess_266 : decode cX8_guess 266 = .ok (.return_, 1) := by decide +kernel
set_option maxRecDepth 20000 in
theorem ggX8_could_X8_noHand : GoodIn wsX8_could wsX8_noHand := goodIn_r _ [9, 10, 11, 12, 8, 13, 77, 78, 79, 80, 81, 82, 83, 84, 85, 86, 87, 88, 89, 90, 91, 92, 93, 94, 95, 96, 97, 98, 99, 100, 101, 102, 103, 104, 105, 106, 107, 108, 109, 110, 111, 112] (by decide +kernel) (by decide +kernel)
set_option maxRecDepth 20000 in
theorem gX8_could_X8_noHand : GoodIn wsX8_could (wsV RX8 120 RX8 yX8_noHand wsX8_noHand) := goodIn_app (goodIn_of _ (by decide +kernel)) ggX8_could_X8_noHand
set_option maxRecDepth 20000 in
theorem ggX8_could_X8_noTick : GoodIn wsX8_could wsX8_noTick := goodIn_r _ [16, 17, 11, 12, 8, 13] (by decide +kernel) (by decide +kernel)
set_option maxRecDepth 20000 in
theorem gX8_could_X8_noTick : GoodIn wsX8_could (va_wsS RX8 124 yX8_noTick wsX8_noTick) := goodIn_app (goodIn_of _ (by decide +kernel)) ggX8_could_X8_noTick
set_option maxRecDepth 20000 in
theorem ggX8_could_X8_guess : GoodIn wsX8_could wsX8_guess := goodIn_r _ [21, 4, 22, 23, 24, 2, 3, 25, 26, 27, 28, 8, 29, 30, 31, 10, 32, 33, 34, 35, 36, 37, 38, 39, 40, 41, 42, 43, 44, 45, 46, 47, 48, 49, 50, 51, 52, 53, 54, 55, 56, 57, 58, 59, 11, 12, 13, 60, 61, 62, 63, 64, 65, 66, 67, 68, 69, 70, 71, 72, 73, 74, 75, 76, 77, 78, 79, 80, 81, 82, 83, 84, 85, 86, 87, 88, 89, 90, 91, 92, 93, 94, 95, 96, 97, 98, 99, 100, 101, 102, 103, 104, 105, 106, 107, 108, 109, 110, 111, 112] (by decide +kernel) (by decide +kernel)
set_option maxRecDepth 20000 in
theorem gX8_could_X8_guess : GoodIn wsX8_could (wsV RX8 223 RX8 yX8_guess wsX8_guess) := goodIn_app (goodIn_of _ (by decide +kernel)) ggX8_could_X8_guess
theorem dX8_could_0 : decode cX8_could 0 = .ok (.aload_n 0, 1) := by decide +kernel
theorem dX8_could_1 : decode cX8_could 1 = .ok (.iconst 0, 1) := by decide +kernel
theorem dX8_could_2 : decode cX8_could 2 = .ok (.putfield 100, 3) := by decide +kernel
theorem dX8_could_5 : decode cX8_could 5 = .ok (.aload_n 0, 1) := by decide +kernel
theorem dX8_could_6 : decode cX8_could 6 = .ok (.iload_n 1, 1) := by decide +kernel
theorem dX8_could_7 : decode cX8_could 7 = .ok (.invokevirtual 120, 3) := by decide +kernel
theorem dX8_could_10 : decode cX8_could 10 = .ok (.ifCond .ne 18, 3) := by decide +kernel
theorem dX8_could_13 : decode cX8_could 13 = .ok (.aload_n 0, 1) := by decide +kernel
theorem dX8_could_14 : decode cX8_could 14 = .ok (.iload_n 2, 1) := by decide +kernel
theorem dX8_could_15 : decode cX8_could 15 = .ok (.invokevirtual 120, 3) := by decide +kernel
theorem dX8_could_18 : decode cX8_could 18 = .ok (.ifCond .ne 10, 3) := by decide +kernel
theorem dX8_could_21 : decode cX8_could 21 = .ok (.iload_n 3, 1) := by decide +kernel
theorem dX8_could_22 : decode cX8_could 22 = .ok (.invokestatic 124, 3) := by decide +kernel
theorem dX8_could_25 : decode cX8_could 25 = .ok (.ifCond .eq 5, 3) := by decide +kernel
theorem dX8_could_28 : decode cX8_could 28 = .ok (.iconst (-1), 1) := by decide +kernel
theorem dX8_could_29 : decode cX8_could 29 = .ok (.ireturn, 1) := by decide +kernel
theorem dX8_could_30 : decode cX8_could 30 = .ok (.aload_n 0, 1) := by decide +kernel
theorem dX8_could_31 : decode cX8_could 31 = .ok (.iload_n 1, 1) := by decide +kernel
theorem dX8_could_32 : decode cX8_could 32 = .ok (.iload_n 2, 1) := by decide +kernel
theorem dX8_could_33 : decode cX8_could 33 = .ok (.iload_n 3, 1) := by decide +kernel
theorem dX8_could_34 : decode cX8_could 34 = .ok (.invokevirtual 223, 3) := by decide +kernel
theorem dX8_could_37 : decode cX8_could 37 = .ok (.iconst 0, 1) := by decide +kernel
theorem dX8_could_38 : decode cX8_could 38 = .ok (.istore 4, 2) := by decide +kernel
theorem dX8_could_40 : decode cX8_could 40 = .ok (.iconst 0, 1) := by decide +kernel
theorem dX8_could_41 : decode cX8_could 41 = .ok (.istore 5, 2) := by decide +kernel
theorem dX8_could_43 : decode cX8_could 43 = .ok (.iload 5, 2) := by decide +kernel
theorem dX8_could_45 : decode cX8_could 45 = .ok (.aload_n 0, 1) := by decide +kernel
theorem dX8_could_46 : decode cX8_could 46 = .ok (.getfield 129, 3) := by decide +kernel
theorem dX8_could_49 : decode cX8_could 49 = .ok (.aload_n 0, 1) := by decide +kernel
theorem dX8_could_50 : decode cX8_could 50 = .ok (.getfield 132, 3) := by decide +kernel
theorem dX8_could_53 : decode cX8_could 53 = .ok (.imul, 1) := by decide +kernel
theorem dX8_could_54 : decode cX8_could 54 = .ok (.if_icmp .ge 29, 3) := by decide +kernel
theorem dX8_could_57 : decode cX8_could 57 = .ok (.iload 4, 2) := by decide +kernel
theorem dX8_could_59 : decode cX8_could 59 = .ok (.aload_n 0, 1) := by decide +kernel
theorem dX8_could_60 : decode cX8_could 60 = .ok (.getfield 75, 3) := by decide +kernel
theorem dX8_could_63 : decode cX8_could 63 = .ok (.iload 5, 2) := by decide +kernel
theorem dX8_could_65 : decode cX8_could 65 = .ok (.baload, 1) := by decide +kernel
theorem dX8_could_66 : decode cX8_could 66 = .ok (.ifCond .eq 7, 3) := by decide +kernel
theorem dX8_could_69 : decode cX8_could 69 = .ok (.iconst 1, 1) := by decide +kernel
theorem dX8_could_70 : decode cX8_could 70 = .ok (.goto 4, 3) := by decide +kernel
theorem dX8_could_73 : decode cX8_could 73 = .ok (.iconst 0, 1) := by decide +kernel
theorem dX8_could_74 : decode cX8_could 74 = .ok (.iadd, 1) := by decide +kernel
theorem dX8_could_75 : decode cX8_could 75 = .ok (.istore 4, 2) := by decide +kernel
theorem dX8_could_77 : decode cX8_could 77 = .ok (.iinc 5 1, 3) := by decide +kernel
theorem dX8_could_80 : decode cX8_could 80 = .ok (.goto (-37), 3) := by decide +kernel
theorem dX8_could_83 : decode cX8_could 83 = .ok (.iload 4, 2) := by decide +kernel
theorem dX8_could_85 : decode cX8_could 85 = .ok (.ireturn, 1) := by decide +kernel
set_option maxRecDepth 20000 in
theorem ggX8_couldBe_X8_noHand : GoodIn wsX8_couldBe wsX8_noHand := goodIn_r _ [9, 10, 11, 12, 8, 13, 77, 78, 79, 80, 81, 82, 83, 84, 85, 86, 87, 88, 89, 90, 91, 92, 93, 94, 95, 96, 97, 98, 99, 100, 101, 102, 103, 104, 105, 106, 107, 108, 109, 110, 111, 112] (by decide +kernel) (by decide +kernel)
set_option maxRecDepth 20000 in
theorem gX8_couldBe_X8_noHand : GoodIn wsX8_couldBe (wsV RX8 120 RX8 yX8_noHand wsX8_noHand) := goodIn_app (goodIn_of _ (by decide +kernel)) ggX8_couldBe_X8_noHand
set_option maxRecDepth 20000 in
theorem ggX8_couldBe_X8_noTick : GoodIn wsX8_couldBe wsX8_noTick := goodIn_r _ [16, 17, 11, 12, 8, 13] (by decide +kernel) (by decide +kernel)
set_option maxRecDepth 20000 in
theorem gX8_couldBe_X8_noTick : GoodIn wsX8_couldBe (va_wsS RX8 124 yX8_noTick wsX8_noTick) := goodIn_app (goodIn_of _ (by decide +kernel)) ggX8_couldBe_X8_noTick
set_option maxRecDepth 20000 in
theorem ggX8_couldBe_X8_in : GoodIn wsX8_couldBe wsX8_in := goodIn_r _ [13] (by decide +kernel) (by decide +kernel)
set_option maxRecDepth 20000 in
theorem gX8_couldBe_X8_in : GoodIn wsX8_couldBe (va_wsS RX8 103 yX8_in wsX8_in) := goodIn_app (goodIn_of _ (by decide +kernel)) ggX8_couldBe_X8_in
set_option maxRecDepth 20000 in
theorem ggX8_couldBe_X8_guess : GoodIn wsX8_couldBe wsX8_guess := goodIn_r _ [21, 4, 22, 23, 24, 25, 26, 27, 28, 29, 30, 8, 31, 2, 3, 10, 32, 33, 34, 35, 36, 37, 38, 39, 40, 41, 42, 43, 44, 45, 46, 47, 48, 49, 50, 51, 52, 53, 54, 55, 56, 57, 58, 59, 11, 12, 13, 60, 61, 62, 63, 64, 65, 66, 67, 68, 69, 70, 71, 72, 73, 74, 75, 76, 77, 78, 79, 80, 81, 82, 83, 84, 85, 86, 87, 88, 89, 90, 91, 92, 93, 94, 95, 96, 97, 98, 99, 100, 101, 102, 103, 104, 105, 106, 107, 108, 109, 110, 111, 112] (by decide +kernel) (by decide +kernel)
set_option maxRecDepth 20000 in
theorem gX8_couldBe_X8_guess : GoodIn wsX8_couldBe (wsV RX8 223 RX8 yX8_guess wsX8_guess) := goodIn_app (goodIn_of _ (by decide +kernel)) ggX8_couldBe_X8_guess
theorem dX8_couldBe_0 : decode cX8_couldBe 0 = .ok (.aload_n 0, 1) := by decide +kernel
theorem dX8_couldBe_1 : decode cX8_couldBe 1 = .ok (.iconst 0, 1) := by decide +kernel
theorem dX8_couldBe_2 : decode cX8_couldBe 2 = .ok (.putfield 100, 3) := by decide +kernel
theorem dX8_couldBe_5 : decode cX8_couldBe 5 = .ok (.aload_n 0, 1) := by decide +kernel
theorem dX8_couldBe_6 : decode cX8_couldBe 6 = .ok (.iload_n 1, 1) := by decide +kernel
theorem dX8_couldBe_7 : decode cX8_couldBe 7 = .ok (.invokevirtual 120, 3) := by decide +kernel
theorem dX8_couldBe_10 : decode cX8_couldBe 10 = .ok (.ifCond .ne 44, 3) := by decide +kernel
theorem dX8_couldBe_13 : decode cX8_couldBe 13 = .ok (.aload_n 0, 1) := by decide +kernel
theorem dX8_couldBe_14 : decode cX8_couldBe 14 = .ok (.iload_n 2, 1) := by decide +kernel
theorem dX8_couldBe_15 : decode cX8_couldBe 15 = .ok (.invokevirtual 120, 3) := by decide +kernel
theorem dX8_couldBe_18 : decode cX8_couldBe 18 = .ok (.ifCond .ne 36, 3) := by decide +kernel
theorem dX8_couldBe_21 : decode cX8_couldBe 21 = .ok (.iload_n 3, 1) := by decide +kernel
theorem dX8_couldBe_22 : decode cX8_couldBe 22 = .ok (.invokestatic 124, 3) := by decide +kernel
theorem dX8_couldBe_25 : decode cX8_couldBe 25 = .ok (.ifCond .ne 29, 3) := by decide +kernel
theorem dX8_couldBe_28 : decode cX8_couldBe 28 = .ok (.iload 4, 2) := by decide +kernel
theorem dX8_couldBe_30 : decode cX8_couldBe 30 = .ok (.i2l, 1) := by decide +kernel
theorem dX8_couldBe_31 : decode cX8_couldBe 31 = .ok (.lconst 0, 1) := by decide +kernel
theorem dX8_couldBe_32 : decode cX8_couldBe 32 = .ok (.aload_n 0, 1) := by decide +kernel
theorem dX8_couldBe_33 : decode cX8_couldBe 33 = .ok (.getfield 7, 3) := by decide +kernel
theorem dX8_couldBe_36 : decode cX8_couldBe 36 = .ok (.iconst 4, 1) := by decide +kernel
theorem dX8_couldBe_37 : decode cX8_couldBe 37 = .ok (.iaload, 1) := by decide +kernel
theorem dX8_couldBe_38 : decode cX8_couldBe 38 = .ok (.aload_n 0, 1) := by decide +kernel
theorem dX8_couldBe_39 : decode cX8_couldBe 39 = .ok (.getfield 13, 3) := by decide +kernel
theorem dX8_couldBe_42 : decode cX8_couldBe 42 = .ok (.iconst 4, 1) := by decide +kernel
theorem dX8_couldBe_43 : decode cX8_couldBe 43 = .ok (.iaload, 1) := by decide +kernel
theorem dX8_couldBe_44 : decode cX8_couldBe 44 = .ok (.imul, 1) := by decide +kernel
theorem dX8_couldBe_45 : decode cX8_couldBe 45 = .ok (.iconst 1, 1) := by decide +kernel
theorem dX8_couldBe_46 : decode cX8_couldBe 46 = .ok (.isub, 1) := by decide +kernel
theorem dX8_couldBe_47 : decode cX8_couldBe 47 = .ok (.i2l, 1) := by decide +kernel
theorem dX8_couldBe_48 : decode cX8_couldBe 48 = .ok (.invokestatic 103, 3) := by decide +kernel
theorem dX8_couldBe_51 : decode cX8_couldBe 51 = .ok (.ifCond .ne 5, 3) := by decide +kernel
theorem dX8_couldBe_54 : decode cX8_couldBe 54 = .ok (.iconst (-1), 1) := by decide +kernel
theorem dX8_couldBe_55 : decode cX8_couldBe 55 = .ok (.ireturn, 1) := by decide +kernel
theorem dX8_couldBe_56 : decode cX8_couldBe 56 = .ok (.aload_n 0, 1) := by decide +kernel
theorem dX8_couldBe_57 : decode cX8_couldBe 57 = .ok (.iload_n 1, 1) := by decide +kernel
theorem dX8_couldBe_58 : decode cX8_couldBe 58 = .ok (.iload_n 2, 1) := by decide +kernel
theorem dX8_couldBe_59 : decode cX8_couldBe 59 = .ok (.iload_n 3, 1) := by decide +kernel
theorem dX8_couldBe_60 : decode cX8_couldBe 60 = .ok (.invokevirtual 223, 3) := by decide +kernel
theorem dX8_couldBe_63 : decode cX8_couldBe 63 = .ok (.aload_n 0, 1) := by decide +kernel
theorem dX8_couldBe_64 : decode cX8_couldBe 64 = .ok (.getfield 75, 3) := by decide +kernel
theorem dX8_couldBe_67 : decode cX8_couldBe 67 = .ok (.iload 4, 2) := by decide +kernel
theorem dX8_couldBe_69 : decode cX8_couldBe 69 = .ok (.baload, 1) := by decide +kernel
theorem dX8_couldBe_70 : decode cX8_couldBe 70 = .ok (.ifCond .eq 7, 3) := by decide +kernel
theorem dX8_couldBe_73 : decode cX8_couldBe 73 = .ok (.iconst 1, 1) := by decide +kernel
theorem dX8_couldBe_74 : decode cX8_couldBe 74 = .ok (.goto 4, 3) := by decide +kernel
theorem dX8_couldBe_77 : decode cX8_couldBe 77 = .ok (.iconst 0, 1) := by decide +kernel
theorem dX8_couldBe_78 : decode cX8_couldBe 78 = .ok (.ireturn, 1) := by decide +kernel
set_option maxRecDepth 20000 in
theorem ggX8_player_X8_in : GoodIn wsX8_player wsX8_in := goodIn_r _ [10] (by decide +kernel) (by decide +kernel)
set_option maxRecDepth 20000 in
theorem gX8_player_X8_in : GoodIn wsX8_player (va_wsS RX8 103 yX8_in wsX8_in) := goodIn_app (goodIn_of _ (by decide +kernel)) ggX8_player_X8_in
theorem dX8_player_0 : decode cX8_player 0 = .ok (.aload_n 0, 1) := by decide +kernel
theorem dX8_player_1 : decode cX8_player 1 = .ok (.iconst 0, 1) := by decide +kernel
theorem dX8_player_2 : decode cX8_player 2 = .ok (.putfield 100, 3) := by decide +kernel
theorem dX8_player_5 : decode cX8_player 5 = .ok (.iload_n 1, 1) := by decide +kernel
theorem dX8_player_6 : decode cX8_player 6 = .ok (.i2l, 1) := by decide +kernel
theorem dX8_player_7 : decode cX8_player 7 = .ok (.lconst 0, 1) := by decide +kernel
theorem dX8_player_8 : decode cX8_player 8 = .ok (.ldc2_w 226, 3) := by decide +kernel
theorem dX8_player_11 : decode cX8_player 11 = .ok (.invokestatic 103, 3) := by decide +kernel
theorem dX8_player_14 : decode cX8_player 14 = .ok (.ifCond .eq 15, 3) := by decide +kernel
theorem dX8_player_17 : decode cX8_player 17 = .ok (.iload_n 2, 1) := by decide +kernel
theorem dX8_player_18 : decode cX8_player 18 = .ok (.i2l, 1) := by decide +kernel
theorem dX8_player_19 : decode cX8_player 19 = .ok (.lconst 0, 1) := by decide +kernel
theorem dX8_player_20 : decode cX8_player 20 = .ok (.ldc2_w 109, 3) := by decide +kernel
theorem dX8_player_23 : decode cX8_player 23 = .ok (.invokestatic 103, 3) := by decide +kernel
theorem dX8_player_26 : decode cX8_player 26 = .ok (.ifCond .ne 6, 3) := by decide +kernel
theorem dX8_player_29 : decode cX8_player 29 = .ok (.bipush (-2), 2) := by decide +kernel
theorem dX8_player_31 : decode cX8_player 31 = .ok (.ireturn, 1) := by decide +kernel
theorem dX8_player_32 : decode cX8_player 32 = .ok (.aload_n 0, 1) := by decide +kernel
theorem dX8_player_33 : decode cX8_player 33 = .ok (.getfield 228, 3) := by decide +kernel
theorem dX8_player_36 : decode cX8_player 36 = .ok (.bipush 10, 2) := by decide +kernel
theorem dX8_player_38 : decode cX8_player 38 = .ok (.if_icmp .ne 6, 3) := by decide +kernel
theorem dX8_player_41 : decode cX8_player 41 = .ok (.bipush (-4), 2) := by decide +kernel
theorem dX8_player_43 : decode cX8_player 43 = .ok (.ireturn, 1) := by decide +kernel
theorem dX8_player_44 : decode cX8_player 44 = .ok (.aload_n 0, 1) := by decide +kernel
theorem dX8_player_45 : decode cX8_player 45 = .ok (.getfield 81, 3) := by decide +kernel
theorem dX8_player_48 : decode cX8_player 48 = .ok (.aload_n 0, 1) := by decide +kernel
theorem dX8_player_49 : decode cX8_player 49 = .ok (.getfield 228, 3) := by decide +kernel
theorem dX8_player_52 : decode cX8_player 52 = .ok (.iload_n 1, 1) := by decide +kernel
theorem dX8_player_53 : decode cX8_player 53 = .ok (.iastore, 1) := by decide +kernel
theorem dX8_player_54 : decode cX8_player 54 = .ok (.aload_n 0, 1) := by decide +kernel
theorem dX8_player_55 : decode cX8_player 55 = .ok (.getfield 84, 3) := by decide +kernel
theorem dX8_player_58 : decode cX8_player 58 = .ok (.aload_n 0, 1) := by decide +kernel
theorem dX8_player_59 : decode cX8_player 59 = .ok (.getfield 228, 3) := by decide +kernel
theorem dX8_player_62 : decode cX8_player 62 = .ok (.iload_n 2, 1) := by decide +kernel
theorem dX8_player_63 : decode cX8_player 63 = .ok (.iastore, 1) := by decide +kernel
theorem dX8_player_64 : decode cX8_player 64 = .ok (.aload_n 0, 1) := by decide +kernel
theorem dX8_player_65 : decode cX8_player 65 = .ok (.dup, 1) := by decide +kernel
theorem dX8_player_66 : decode cX8_player 66 = .ok (.getfield 228, 3) := by decide +kernel
theorem dX8_player_69 : decode cX8_player 69 = .ok (.iconst 1, 1) := by decide +kernel
theorem dX8_player_70 : decode cX8_player 70 = .ok (.iadd, 1) := by decide +kernel
theorem dX8_player_71 : decode cX8_player 71 = .ok (.putfield 228, 3) := by decide +kernel
theorem dX8_player_74 : decode cX8_player 74 = .ok (.aload_n 0, 1) := by decide +kernel
theorem dX8_player_75 : decode cX8_player 75 = .ok (.getfield 228, 3) := by decide +kernel
theorem dX8_player_78 : decode cX8_player 78 = .ok (.iconst 1, 1) := by decide +kernel
theorem dX8_player_79 : decode cX8_player 79 = .ok (.isub, 1) := by decide +kernel
theorem dX8_player_80 : decode cX8_player 80 = .ok (.ireturn, 1) := by decide +kernel
set_option maxRecDepth 20000 in
theorem ggX8_far_X8_in : GoodIn wsX8_far wsX8_in := goodIn_r _ [8] (by decide +kernel) (by decide +kernel)
set_option maxRecDepth 20000 in
theorem gX8_far_X8_in : GoodIn wsX8_far (va_wsS RX8 103 yX8_in wsX8_in) := goodIn_app (goodIn_of _ (by decide +kernel)) ggX8_far_X8_in
theorem dX8_far_0 : decode cX8_far 0 = .ok (.aload_n 0, 1) := by decide +kernel
theorem dX8_far_1 : decode cX8_far 1 = .ok (.iconst 0, 1) := by decide +kernel
theorem dX8_far_2 : decode cX8_far 2 = .ok (.putfield 100, 3) := by decide +kernel
theorem dX8_far_5 : decode cX8_far 5 = .ok (.iload_n 1, 1) := by decide +kernel
theorem dX8_far_6 : decode cX8_far 6 = .ok (.i2l, 1) := by decide +kernel
theorem dX8_far_7 : decode cX8_far 7 = .ok (.lconst 0, 1) := by decide +kernel
theorem dX8_far_8 : decode cX8_far 8 = .ok (.ldc2_w 109, 3) := by decide +kernel
theorem dX8_far_11 : decode cX8_far 11 = .ok (.invokestatic 103, 3) := by decide +kernel
theorem dX8_far_14 : decode cX8_far 14 = .ok (.ifCond .eq 15, 3) := by decide +kernel
theorem dX8_far_17 : decode cX8_far 17 = .ok (.iload_n 2, 1) := by decide +kernel
theorem dX8_far_18 : decode cX8_far 18 = .ok (.i2l, 1) := by decide +kernel
theorem dX8_far_19 : decode cX8_far 19 = .ok (.lconst 0, 1) := by decide +kernel
theorem dX8_far_20 : decode cX8_far 20 = .ok (.ldc2_w 109, 3) := by decide +kernel
theorem dX8_far_23 : decode cX8_far 23 = .ok (.invokestatic 103, 3) := by decide +kernel
theorem dX8_far_26 : decode cX8_far 26 = .ok (.ifCond .ne 5, 3) := by decide +kernel
theorem dX8_far_29 : decode cX8_far 29 = .ok (.iconst (-1), 1) := by decide +kernel
theorem dX8_far_30 : decode cX8_far 30 = .ok (.ireturn, 1) := by decide +kernel
theorem dX8_far_31 : decode cX8_far 31 = .ok (.iload_n 3, 1) := by decide +kernel
theorem dX8_far_32 : decode cX8_far 32 = .ok (.i2l, 1) := by decide +kernel
theorem dX8_far_33 : decode cX8_far 33 = .ok (.lconst 0, 1) := by decide +kernel
theorem dX8_far_34 : decode cX8_far 34 = .ok (.ldc2_w 226, 3) := by decide +kernel
theorem dX8_far_37 : decode cX8_far 37 = .ok (.invokestatic 103, 3) := by decide +kernel
theorem dX8_far_40 : decode cX8_far 40 = .ok (.ifCond .ne 6, 3) := by decide +kernel
theorem dX8_far_43 : decode cX8_far 43 = .ok (.bipush (-2), 2) := by decide +kernel
theorem dX8_far_45 : decode cX8_far 45 = .ok (.ireturn, 1) := by decide +kernel
theorem dX8_far_46 : decode cX8_far 46 = .ok (.aload_n 0, 1) := by decide +kernel
theorem dX8_far_47 : decode cX8_far 47 = .ok (.getfield 87, 3) := by decide +kernel
theorem dX8_far_50 : decode cX8_far 50 = .ok (.iconst 4, 1) := by decide +kernel
theorem dX8_far_51 : decode cX8_far 51 = .ok (.iload_n 1, 1) := by decide +kernel
theorem dX8_far_52 : decode cX8_far 52 = .ok (.imul, 1) := by decide +kernel
theorem dX8_far_53 : decode cX8_far 53 = .ok (.iload_n 2, 1) := by decide +kernel
theorem dX8_far_54 : decode cX8_far 54 = .ok (.iadd, 1) := by decide +kernel
theorem dX8_far_55 : decode cX8_far 55 = .ok (.iaload, 1) := by decide +kernel
theorem dX8_far_56 : decode cX8_far 56 = .ok (.istore 4, 2) := by decide +kernel
theorem dX8_far_58 : decode cX8_far 58 = .ok (.aload_n 0, 1) := by decide +kernel
theorem dX8_far_59 : decode cX8_far 59 = .ok (.getfield 87, 3) := by decide +kernel
theorem dX8_far_62 : decode cX8_far 62 = .ok (.iconst 4, 1) := by decide +kernel
theorem dX8_far_63 : decode cX8_far 63 = .ok (.iload_n 1, 1) := by decide +kernel
theorem dX8_far_64 : decode cX8_far 64 = .ok (.imul, 1) := by decide +kernel
theorem dX8_far_65 : decode cX8_far 65 = .ok (.iload_n 2, 1) := by decide +kernel
theorem dX8_far_66 : decode cX8_far 66 = .ok (.iadd, 1) := by decide +kernel
theorem dX8_far_67 : decode cX8_far 67 = .ok (.iload_n 3, 1) := by decide +kernel
theorem dX8_far_68 : decode cX8_far 68 = .ok (.iastore, 1) := by decide +kernel
theorem dX8_far_69 : decode cX8_far 69 = .ok (.aload_n 0, 1) := by decide +kernel
theorem dX8_far_70 : decode cX8_far 70 = .ok (.getfield 87, 3) := by decide +kernel
theorem dX8_far_73 : decode cX8_far 73 = .ok (.iconst 4, 1) := by decide +kernel
theorem dX8_far_74 : decode cX8_far 74 = .ok (.iload_n 2, 1) := by decide +kernel
theorem dX8_far_75 : decode cX8_far 75 = .ok (.imul, 1) := by decide +kernel
theorem dX8_far_76 : decode cX8_far 76 = .ok (.iload_n 1, 1) := by decide +kernel
theorem dX8_far_77 : decode cX8_far 77 = .ok (.iadd, 1) := by decide +kernel
theorem dX8_far_78 : decode cX8_far 78 = .ok (.iload_n 3, 1) := by decide +kernel
theorem dX8_far_79 : decode cX8_far 79 = .ok (.iastore, 1) := by decide +kernel
theorem dX8_far_80 : decode cX8_far 80 = .ok (.iload 4, 2) := by decide +kernel
theorem dX8_far_82 : decode cX8_far 82 = .ok (.ireturn, 1) := by decide +kernel
set_option maxRecDepth 20000 in
theorem ggX8_costs_X8_size : GoodIn wsX8_costs wsX8_size := goodIn_r _ [7] (by decide +kernel) (by decide +kernel)
set_option maxRecDepth 20000 in
theorem gX8_costs_X8_size : GoodIn wsX8_costs (va_wsS RX8 149 yX8_size wsX8_size) := goodIn_app (goodIn_of _ (by decide +kernel)) ggX8_costs_X8_size
theorem dX8_costs_0 : decode cX8_costs 0 = .ok (.aload_n 0, 1) := by decide +kernel
theorem dX8_costs_1 : decode cX8_costs 1 = .ok (.getfield 81, 3) := by decide +kernel
theorem dX8_costs_4 : decode cX8_costs 4 = .ok (.iload_n 1, 1) := by decide +kernel
theorem dX8_costs_5 : decode cX8_costs 5 = .ok (.iaload, 1) := by decide +kernel
theorem dX8_costs_6 : decode cX8_costs 6 = .ok (.aload_n 0, 1) := by decide +kernel
theorem dX8_costs_7 : decode cX8_costs 7 = .ok (.getfield 81, 3) := by decide +kernel
theorem dX8_costs_10 : decode cX8_costs 10 = .ok (.iload_n 2, 1) := by decide +kernel
theorem dX8_costs_11 : decode cX8_costs 11 = .ok (.iaload, 1) := by decide +kernel
theorem dX8_costs_12 : decode cX8_costs 12 = .ok (.isub, 1) := by decide +kernel
theorem dX8_costs_13 : decode cX8_costs 13 = .ok (.invokestatic 149, 3) := by decide +kernel
theorem dX8_costs_16 : decode cX8_costs 16 = .ok (.aload_n 0, 1) := by decide +kernel
theorem dX8_costs_17 : decode cX8_costs 17 = .ok (.getfield 87, 3) := by decide +kernel
theorem dX8_costs_20 : decode cX8_costs 20 = .ok (.iconst 4, 1) := by decide +kernel
theorem dX8_costs_21 : decode cX8_costs 21 = .ok (.aload_n 0, 1) := by decide +kernel
theorem dX8_costs_22 : decode cX8_costs 22 = .ok (.getfield 84, 3) := by decide +kernel
theorem dX8_costs_25 : decode cX8_costs 25 = .ok (.iload_n 1, 1) := by decide +kernel
theorem dX8_costs_26 : decode cX8_costs 26 = .ok (.iaload, 1) := by decide +kernel
theorem dX8_costs_27 : decode cX8_costs 27 = .ok (.imul, 1) := by decide +kernel
theorem dX8_costs_28 : decode cX8_costs 28 = .ok (.aload_n 0, 1) := by decide +kernel
theorem dX8_costs_29 : decode cX8_costs 29 = .ok (.getfield 84, 3) := by decide +kernel
theorem dX8_costs_32 : decode cX8_costs 32 = .ok (.iload_n 2, 1) := by decide +kernel
theorem dX8_costs_33 : decode cX8_costs 33 = .ok (.iaload, 1) := by decide +kernel
theorem dX8_costs_34 : decode cX8_costs 34 = .ok (.iadd, 1) := by decide +kernel
theorem dX8_costs_35 : decode cX8_costs 35 = .ok (.iaload, 1) := by decide +kernel
theorem dX8_costs_36 : decode cX8_costs 36 = .ok (.iadd, 1) := by decide +kernel
theorem dX8_costs_37 : decode cX8_costs 37 = .ok (.ireturn, 1) := by decide +kernel
theorem dX8_lowest_0 : decode cX8_lowest 0 = .ok (.iconst 0, 1) := by decide +kernel
theorem dX8_lowest_1 : decode cX8_lowest 1 = .ok (.istore_n 1, 1) := by decide +kernel
theorem dX8_lowest_2 : decode cX8_lowest 2 = .ok (.iload_n 0, 1) := by decide +kernel
theorem dX8_lowest_3 : decode cX8_lowest 3 = .ok (.iload_n 1, 1) := by decide +kernel
theorem dX8_lowest_4 : decode cX8_lowest 4 = .ok (.ishr, 1) := by decide +kernel
theorem dX8_lowest_5 : decode cX8_lowest 5 = .ok (.iconst 1, 1) := by decide +kernel
theorem dX8_lowest_6 : decode cX8_lowest 6 = .ok (.iand, 1) := by decide +kernel
theorem dX8_lowest_7 : decode cX8_lowest 7 = .ok (.ifCond .ne 9, 3) := by decide +kernel
theorem dX8_lowest_10 : decode cX8_lowest 10 = .ok (.iinc 1 1, 3) := by decide +kernel
theorem dX8_lowest_13 : decode cX8_lowest 13 = .ok (.goto (-11), 3) := by decide +kernel
theorem dX8_lowest_16 : decode cX8_lowest 16 = .ok (.iload_n 1, 1) := by decide +kernel
theorem dX8_lowest_17 : decode cX8_lowest 17 = .ok (.ireturn, 1) := by decide +kernel
theorem dX8_isOdd_0 : decode cX8_isOdd 0 = .ok (.iconst 0, 1) := by decide +kernel
theorem dX8_isOdd_1 : decode cX8_isOdd 1 = .ok (.istore_n 1, 1) := by decide +kernel
theorem dX8_isOdd_2 : decode cX8_isOdd 2 = .ok (.iconst 0, 1) := by decide +kernel
theorem dX8_isOdd_3 : decode cX8_isOdd 3 = .ok (.istore_n 2, 1) := by decide +kernel
theorem dX8_isOdd_4 : decode cX8_isOdd 4 = .ok (.iload_n 2, 1) := by decide +kernel
theorem dX8_isOdd_5 : decode cX8_isOdd 5 = .ok (.bipush 10, 2) := by decide +kernel
theorem dX8_isOdd_7 : decode cX8_isOdd 7 = .ok (.if_icmp .ge 33, 3) := by decide +kernel
theorem dX8_isOdd_10 : decode cX8_isOdd 10 = .ok (.iload_n 1, 1) := by decide +kernel
theorem dX8_isOdd_11 : decode cX8_isOdd 11 = .ok (.iload_n 0, 1) := by decide +kernel
theorem dX8_isOdd_12 : decode cX8_isOdd 12 = .ok (.iload_n 2, 1) := by decide +kernel
theorem dX8_isOdd_13 : decode cX8_isOdd 13 = .ok (.ishr, 1) := by decide +kernel
theorem dX8_isOdd_14 : decode cX8_isOdd 14 = .ok (.iconst 1, 1) := by decide +kernel
theorem dX8_isOdd_15 : decode cX8_isOdd 15 = .ok (.iand, 1) := by decide +kernel
theorem dX8_isOdd_16 : decode cX8_isOdd 16 = .ok (.iconst 1, 1) := by decide +kernel
theorem dX8_isOdd_17 : decode cX8_isOdd 17 = .ok (.if_icmp .ne 7, 3) := by decide +kernel
theorem dX8_isOdd_20 : decode cX8_isOdd 20 = .ok (.iconst 1, 1) := by decide +kernel
theorem dX8_isOdd_21 : decode cX8_isOdd 21 = .ok (.goto 4, 3) := by decide +kernel
theorem dX8_isOdd_24 : decode cX8_isOdd 24 = .ok (.iconst 0, 1) := by decide +kernel
theorem dX8_isOdd_25 : decode cX8_isOdd 25 = .ok (.if_icmp .eq 7, 3) := by decide +kernel
theorem dX8_isOdd_28 : decode cX8_isOdd 28 = .ok (.iconst 1, 1) := by decide +kernel
theorem dX8_isOdd_29 : decode cX8_isOdd 29 = .ok (.goto 4, 3) := by decide +kernel
theorem dX8_isOdd_32 : decode cX8_isOdd 32 = .ok (.iconst 0, 1) := by decide +kernel
theorem dX8_isOdd_33 : decode cX8_isOdd 33 = .ok (.istore_n 1, 1) := by decide +kernel
theorem dX8_isOdd_34 : decode cX8_isOdd 34 = .ok (.iinc 2 1, 3) := by decide +kernel
theorem dX8_isOdd_37 : decode cX8_isOdd 37 = .ok (.goto (-33), 3) := by decide +kernel
theorem dX8_isOdd_40 : decode cX8_isOdd 40 = .ok (.iload_n 1, 1) := by decide +kernel
theorem dX8_isOdd_41 : decode cX8_isOdd 41 = .ok (.ireturn, 1) := by decide +kernel
set_option maxRecDepth 20000 in
theorem ggX8_match_X8_lowest : GoodIn wsX8_match wsX8_lowest := goodIn_r _ [8] (by decide +kernel) (by decide +kernel)
set_option maxRecDepth 20000 in
theorem gX8_match_X8_lowest : GoodIn wsX8_match (va_wsS RX8 231 yX8_lowest wsX8_lowest) := goodIn_app (goodIn_of _ (by decide +kernel)) ggX8_match_X8_lowest
set_option maxRecDepth 20000 in
theorem ggX8_match_X8_costs : GoodIn wsX8_match wsX8_costs := goodIn_r _ [12, 13, 14, 15, 16, 17, 7, 18, 22, 23, 24, 25, 26, 27, 28, 29, 30, 31, 32, 33, 34, 35, 36, 37, 38, 39, 40, 41, 42, 43, 44, 45, 46, 47, 48, 49, 50, 51, 52, 53, 54, 55, 56, 57] (by decide +kernel) (by decide +kernel)
set_option maxRecDepth 20000 in
theorem gX8_match_X8_costs : GoodIn wsX8_match (wsV RX8 234 RX8 yX8_costs wsX8_costs) := goodIn_app (goodIn_of _ (by decide +kernel)) ggX8_match_X8_costs
set_option maxRecDepth 20000 in
theorem ggX8_match_X8_isOdd : GoodIn wsX8_match wsX8_isOdd := goodIn_r _ [21] (by decide +kernel) (by decide +kernel)
set_option maxRecDepth 20000 in
theorem gX8_match_X8_isOdd : GoodIn wsX8_match (va_wsS RX8 237 yX8_isOdd wsX8_isOdd) := goodIn_app (goodIn_of _ (by decide +kernel)) ggX8_match_X8_isOdd
theorem dX8_match_0 : decode cX8_match 0 = .ok (.iconst 1, 1) := by decide +kernel
theorem dX8_match_1 : decode cX8_match 1 = .ok (.aload_n 0, 1) := by decide +kernel
theorem dX8_match_2 : decode cX8_match 2 = .ok (.getfield 228, 3) := by decide +kernel
theorem dX8_match_5 : decode cX8_match 5 = .ok (.ishl, 1) := by decide +kernel
theorem dX8_match_6 : decode cX8_match 6 = .ok (.iconst 1, 1) := by decide +kernel
theorem dX8_match_7 : decode cX8_match 7 = .ok (.isub, 1) := by decide +kernel
theorem dX8_match_8 : decode cX8_match 8 = .ok (.istore_n 1, 1) := by decide +kernel
theorem dX8_match_9 : decode cX8_match 9 = .ok (.iconst 0, 1) := by decide +kernel
theorem dX8_match_10 : decode cX8_match 10 = .ok (.istore_n 2, 1) := by decide +kernel
theorem dX8_match_11 : decode cX8_match 11 = .ok (.iload_n 2, 1) := by decide +kernel
theorem dX8_match_12 : decode cX8_match 12 = .ok (.iload_n 1, 1) := by decide +kernel
theorem dX8_match_13 : decode cX8_match 13 = .ok (.if_icmp .gt 159, 3) := by decide +kernel
theorem dX8_match_16 : decode cX8_match 16 = .ok (.iload_n 2, 1) := by decide +kernel
theorem dX8_match_17 : decode cX8_match 17 = .ok (.ifCond .ne 7, 3) := by decide +kernel
theorem dX8_match_20 : decode cX8_match 20 = .ok (.iconst 0, 1) := by decide +kernel
theorem dX8_match_21 : decode cX8_match 21 = .ok (.goto 5, 3) := by decide +kernel
theorem dX8_match_24 : decode cX8_match 24 = .ok (.ldc 168, 2) := by decide +kernel
theorem dX8_match_26 : decode cX8_match 26 = .ok (.istore_n 3, 1) := by decide +kernel
theorem dX8_match_27 : decode cX8_match 27 = .ok (.iload_n 2, 1) := by decide +kernel
theorem dX8_match_28 : decode cX8_match 28 = .ok (.ifCond .ne 7, 3) := by decide +kernel
theorem dX8_match_31 : decode cX8_match 31 = .ok (.iconst 0, 1) := by decide +kernel
theorem dX8_match_32 : decode cX8_match 32 = .ok (.goto 7, 3) := by decide +kernel
theorem dX8_match_35 : decode cX8_match 35 = .ok (.iload_n 2, 1) := by decide +kernel
theorem dX8_match_36 : decode cX8_match 36 = .ok (.invokestatic 231, 3) := by decide +kernel
theorem dX8_match_39 : decode cX8_match 39 = .ok (.istore 4, 2) := by decide +kernel
theorem dX8_match_41 : decode cX8_match 41 = .ok (.iload 4, 2) := by decide +kernel
theorem dX8_match_43 : decode cX8_match 43 = .ok (.iconst 1, 1) := by decide +kernel
theorem dX8_match_44 : decode cX8_match 44 = .ok (.iadd, 1) := by decide +kernel
theorem dX8_match_45 : decode cX8_match 45 = .ok (.istore 5, 2) := by decide +kernel
theorem dX8_match_47 : decode cX8_match 47 = .ok (.iload 5, 2) := by decide +kernel
theorem dX8_match_49 : decode cX8_match 49 = .ok (.aload_n 0, 1) := by decide +kernel
theorem dX8_match_50 : decode cX8_match 50 = .ok (.getfield 228, 3) := by decide +kernel
theorem dX8_match_53 : decode cX8_match 53 = .ok (.if_icmp .ge 67, 3) := by decide +kernel
theorem dX8_match_56 : decode cX8_match 56 = .ok (.iload_n 2, 1) := by decide +kernel
theorem dX8_match_57 : decode cX8_match 57 = .ok (.ifCond .le 63, 3) := by decide +kernel
theorem dX8_match_60 : decode cX8_match 60 = .ok (.iload_n 2, 1) := by decide +kernel
theorem dX8_match_61 : decode cX8_match 61 = .ok (.iload 5, 2) := by decide +kernel
theorem dX8_match_63 : decode cX8_match 63 = .ok (.ishr, 1) := by decide +kernel
theorem dX8_match_64 : decode cX8_match 64 = .ok (.iconst 1, 1) := by decide +kernel
theorem dX8_match_65 : decode cX8_match 65 = .ok (.iand, 1) := by decide +kernel
theorem dX8_match_66 : decode cX8_match 66 = .ok (.iconst 1, 1) := by decide +kernel
theorem dX8_match_67 : decode cX8_match 67 = .ok (.if_icmp .ne 47, 3) := by decide +kernel
theorem dX8_match_70 : decode cX8_match 70 = .ok (.aload_n 0, 1) := by decide +kernel
theorem dX8_match_71 : decode cX8_match 71 = .ok (.iload 4, 2) := by decide +kernel
theorem dX8_match_73 : decode cX8_match 73 = .ok (.iload 5, 2) := by decide +kernel
theorem dX8_match_75 : decode cX8_match 75 = .ok (.invokevirtual 234, 3) := by decide +kernel
theorem dX8_match_78 : decode cX8_match 78 = .ok (.aload_n 0, 1) := by decide +kernel
theorem dX8_match_79 : decode cX8_match 79 = .ok (.getfield 90, 3) := by decide +kernel
theorem dX8_match_82 : decode cX8_match 82 = .ok (.iload_n 2, 1) := by decide +kernel
theorem dX8_match_83 : decode cX8_match 83 = .ok (.iconst 1, 1) := by decide +kernel
theorem dX8_match_84 : decode cX8_match 84 = .ok (.iload 4, 2) := by decide +kernel
theorem dX8_match_86 : decode cX8_match 86 = .ok (.ishl, 1) := by decide +kernel
theorem dX8_match_87 : decode cX8_match 87 = .ok (.iconst (-1), 1) := by decide +kernel
theorem dX8_match_88 : decode cX8_match 88 = .ok (.ixor, 1) := by decide +kernel
theorem dX8_match_89 : decode cX8_match 89 = .ok (.iand, 1) := by decide +kernel
theorem dX8_match_90 : decode cX8_match 90 = .ok (.iconst 1, 1) := by decide +kernel
theorem dX8_match_91 : decode cX8_match 91 = .ok (.iload 5, 2) := by decide +kernel
theorem dX8_match_93 : decode cX8_match 93 = .ok (.ishl, 1) := by decide +kernel
theorem dX8_match_94 : decode cX8_match 94 = .ok (.iconst (-1), 1) := by decide +kernel
theorem dX8_match_95 : decode cX8_match 95 = .ok (.ixor, 1) := by decide +kernel
theorem dX8_match_96 : decode cX8_match 96 = .ok (.iand, 1) := by decide +kernel
theorem dX8_match_97 : decode cX8_match 97 = .ok (.iaload, 1) := by decide +kernel
theorem dX8_match_98 : decode cX8_match 98 = .ok (.iadd, 1) := by decide +kernel
theorem dX8_match_99 : decode cX8_match 99 = .ok (.istore 6, 2) := by decide +kernel
theorem dX8_match_101 : decode cX8_match 101 = .ok (.iload 6, 2) := by decide +kernel
theorem dX8_match_103 : decode cX8_match 103 = .ok (.iload_n 3, 1) := by decide +kernel
theorem dX8_match_104 : decode cX8_match 104 = .ok (.if_icmp .ge 8, 3) := by decide +kernel
theorem dX8_match_107 : decode cX8_match 107 = .ok (.iload 6, 2) := by decide +kernel
theorem dX8_match_109 : decode cX8_match 109 = .ok (.goto 4, 3) := by decide +kernel
theorem dX8_match_112 : decode cX8_match 112 = .ok (.iload_n 3, 1) := by decide +kernel
theorem dX8_match_113 : decode cX8_match 113 = .ok (.istore_n 3, 1) := by decide +kernel
theorem dX8_match_114 : decode cX8_match 114 = .ok (.iinc 5 1, 3) := by decide +kernel
theorem dX8_match_117 : decode cX8_match 117 = .ok (.goto (-70), 3) := by decide +kernel
theorem dX8_match_120 : decode cX8_match 120 = .ok (.iload_n 2, 1) := by decide +kernel
theorem dX8_match_121 : decode cX8_match 121 = .ok (.ifCond .le 38, 3) := by decide +kernel
theorem dX8_match_124 : decode cX8_match 124 = .ok (.iload_n 2, 1) := by decide +kernel
theorem dX8_match_125 : decode cX8_match 125 = .ok (.invokestatic 237, 3) := by decide +kernel
theorem dX8_match_128 : decode cX8_match 128 = .ok (.ifCond .eq 31, 3) := by decide +kernel
theorem dX8_match_131 : decode cX8_match 131 = .ok (.aload_n 0, 1) := by decide +kernel
theorem dX8_match_132 : decode cX8_match 132 = .ok (.getfield 90, 3) := by decide +kernel
theorem dX8_match_135 : decode cX8_match 135 = .ok (.iload_n 2, 1) := by decide +kernel
theorem dX8_match_136 : decode cX8_match 136 = .ok (.iconst 1, 1) := by decide +kernel
theorem dX8_match_137 : decode cX8_match 137 = .ok (.iload 4, 2) := by decide +kernel
theorem dX8_match_139 : decode cX8_match 139 = .ok (.ishl, 1) := by decide +kernel
theorem dX8_match_140 : decode cX8_match 140 = .ok (.iconst (-1), 1) := by decide +kernel
theorem dX8_match_141 : decode cX8_match 141 = .ok (.ixor, 1) := by decide +kernel
theorem dX8_match_142 : decode cX8_match 142 = .ok (.iand, 1) := by decide +kernel
theorem dX8_match_143 : decode cX8_match 143 = .ok (.iaload, 1) := by decide +kernel
theorem dX8_match_144 : decode cX8_match 144 = .ok (.istore 5, 2) := by decide +kernel
theorem dX8_match_146 : decode cX8_match 146 = .ok (.iload 5, 2) := by decide +kernel
theorem dX8_match_148 : decode cX8_match 148 = .ok (.iload_n 3, 1) := by decide +kernel
theorem dX8_match_149 : decode cX8_match 149 = .ok (.if_icmp .ge 8, 3) := by decide +kernel
theorem dX8_match_152 : decode cX8_match 152 = .ok (.iload 5, 2) := by decide +kernel
theorem dX8_match_154 : decode cX8_match 154 = .ok (.goto 4, 3) := by decide +kernel
theorem dX8_match_157 : decode cX8_match 157 = .ok (.iload_n 3, 1) := by decide +kernel
theorem dX8_match_158 : decode cX8_match 158 = .ok (.istore_n 3, 1) := by decide +kernel
theorem dX8_match_159 : decode cX8_match 159 = .ok (.aload_n 0, 1) := by decide +kernel
theorem dX8_match_160 : decode cX8_match 160 = .ok (.getfield 90, 3) := by decide +kernel
theorem dX8_match_163 : decode cX8_match 163 = .ok (.iload_n 2, 1) := by decide +kernel
theorem dX8_match_164 : decode cX8_match 164 = .ok (.iload_n 3, 1) := by decide +kernel
theorem dX8_match_165 : decode cX8_match 165 = .ok (.iastore, 1) := by decide +kernel
theorem dX8_match_166 : decode cX8_match 166 = .ok (.iinc 2 1, 3) := by decide +kernel
theorem dX8_match_169 : decode cX8_match 169 = .ok (.goto (-158), 3) := by decide +kernel
theorem dX8_match_172 : decode cX8_match 172 = .ok (.iload_n 1, 1) := by decide +kernel
theorem dX8_match_173 : decode cX8_match 173 = .ok (.istore_n 2, 1) := by decide +kernel
theorem dX8_match_174 : decode cX8_match 174 = .ok (.iload_n 2, 1) := by decide +kernel
theorem dX8_match_175 : decode cX8_match 175 = .ok (.ifCond .le 134, 3) := by decide +kernel
theorem dX8_match_178 : decode cX8_match 178 = .ok (.iload_n 2, 1) := by decide +kernel
theorem dX8_match_179 : decode cX8_match 179 = .ok (.invokestatic 231, 3) := by decide +kernel
theorem dX8_match_182 : decode cX8_match 182 = .ok (.istore_n 3, 1) := by decide +kernel
theorem dX8_match_183 : decode cX8_match 183 = .ok (.bipush (-9), 2) := by decide +kernel
theorem dX8_match_185 : decode cX8_match 185 = .ok (.istore 4, 2) := by decide +kernel
theorem dX8_match_187 : decode cX8_match 187 = .ok (.aload_n 0, 1) := by decide +kernel
theorem dX8_match_188 : decode cX8_match 188 = .ok (.getfield 228, 3) := by decide +kernel
theorem dX8_match_191 : decode cX8_match 191 = .ok (.iconst 1, 1) := by decide +kernel
theorem dX8_match_192 : decode cX8_match 192 = .ok (.isub, 1) := by decide +kernel
theorem dX8_match_193 : decode cX8_match 193 = .ok (.istore 5, 2) := by decide +kernel
theorem dX8_match_195 : decode cX8_match 195 = .ok (.iload 5, 2) := by decide +kernel
theorem dX8_match_197 : decode cX8_match 197 = .ok (.iload_n 3, 1) := by decide +kernel
theorem dX8_match_198 : decode cX8_match 198 = .ok (.if_icmp .le 68, 3) := by decide +kernel
theorem dX8_match_201 : decode cX8_match 201 = .ok (.iload_n 2, 1) := by decide +kernel
theorem dX8_match_202 : decode cX8_match 202 = .ok (.iconst 1, 1) := by decide +kernel
theorem dX8_match_203 : decode cX8_match 203 = .ok (.iload_n 3, 1) := by decide +kernel
theorem dX8_match_204 : decode cX8_match 204 = .ok (.ishl, 1) := by decide +kernel
theorem dX8_match_205 : decode cX8_match 205 = .ok (.iconst (-1), 1) := by decide +kernel
theorem dX8_match_206 : decode cX8_match 206 = .ok (.ixor, 1) := by decide +kernel
theorem dX8_match_207 : decode cX8_match 207 = .ok (.iand, 1) := by decide +kernel
theorem dX8_match_208 : decode cX8_match 208 = .ok (.iconst 1, 1) := by decide +kernel
theorem dX8_match_209 : decode cX8_match 209 = .ok (.iload 5, 2) := by decide +kernel
theorem dX8_match_211 : decode cX8_match 211 = .ok (.ishl, 1) := by decide +kernel
theorem dX8_match_212 : decode cX8_match 212 = .ok (.iconst (-1), 1) := by decide +kernel
theorem dX8_match_213 : decode cX8_match 213 = .ok (.ixor, 1) := by decide +kernel
theorem dX8_match_214 : decode cX8_match 214 = .ok (.iand, 1) := by decide +kernel
theorem dX8_match_215 : decode cX8_match 215 = .ok (.istore 6, 2) := by decide +kernel
theorem dX8_match_217 : decode cX8_match 217 = .ok (.iload_n 2, 1) := by decide +kernel
theorem dX8_match_218 : decode cX8_match 218 = .ok (.iload 5, 2) := by decide +kernel
theorem dX8_match_220 : decode cX8_match 220 = .ok (.ishr, 1) := by decide +kernel
theorem dX8_match_221 : decode cX8_match 221 = .ok (.iconst 1, 1) := by decide +kernel
theorem dX8_match_222 : decode cX8_match 222 = .ok (.iand, 1) := by decide +kernel
theorem dX8_match_223 : decode cX8_match 223 = .ok (.iconst 1, 1) := by decide +kernel
theorem dX8_match_224 : decode cX8_match 224 = .ok (.if_icmp .ne 32, 3) := by decide +kernel
theorem dX8_match_227 : decode cX8_match 227 = .ok (.aload_n 0, 1) := by decide +kernel
theorem dX8_match_228 : decode cX8_match 228 = .ok (.iload_n 3, 1) := by decide +kernel
theorem dX8_match_229 : decode cX8_match 229 = .ok (.iload 5, 2) := by decide +kernel
theorem dX8_match_231 : decode cX8_match 231 = .ok (.invokevirtual 234, 3) := by decide +kernel
theorem dX8_match_234 : decode cX8_match 234 = .ok (.aload_n 0, 1) := by decide +kernel
theorem dX8_match_235 : decode cX8_match 235 = .ok (.getfield 90, 3) := by decide +kernel
theorem dX8_match_238 : decode cX8_match 238 = .ok (.iload 6, 2) := by decide +kernel
theorem dX8_match_240 : decode cX8_match 240 = .ok (.iaload, 1) := by decide +kernel
theorem dX8_match_241 : decode cX8_match 241 = .ok (.iadd, 1) := by decide +kernel
theorem dX8_match_242 : decode cX8_match 242 = .ok (.aload_n 0, 1) := by decide +kernel
theorem dX8_match_243 : decode cX8_match 243 = .ok (.getfield 90, 3) := by decide +kernel
theorem dX8_match_246 : decode cX8_match 246 = .ok (.iload_n 2, 1) := by decide +kernel
theorem dX8_match_247 : decode cX8_match 247 = .ok (.iaload, 1) := by decide +kernel
theorem dX8_match_248 : decode cX8_match 248 = .ok (.if_icmp .ne 8, 3) := by decide +kernel
theorem dX8_match_251 : decode cX8_match 251 = .ok (.iload 5, 2) := by decide +kernel
theorem dX8_match_253 : decode cX8_match 253 = .ok (.goto 5, 3) := by decide +kernel
theorem dX8_match_256 : decode cX8_match 256 = .ok (.iload 4, 2) := by decide +kernel
theorem dX8_match_258 : decode cX8_match 258 = .ok (.istore 4, 2) := by decide +kernel
theorem dX8_match_260 : decode cX8_match 260 = .ok (.iinc 5 (-1), 3) := by decide +kernel
theorem dX8_match_263 : decode cX8_match 263 = .ok (.goto (-68), 3) := by decide +kernel
theorem dX8_match_266 : decode cX8_match 266 = .ok (.aload_n 0, 1) := by decide +kernel
theorem dX8_match_267 : decode cX8_match 267 = .ok (.getfield 93, 3) := by decide +kernel
theorem dX8_match_270 : decode cX8_match 270 = .ok (.iload_n 3, 1) := by decide +kernel
theorem dX8_match_271 : decode cX8_match 271 = .ok (.iload 4, 2) := by decide +kernel
theorem dX8_match_273 : decode cX8_match 273 = .ok (.iastore, 1) := by decide +kernel
theorem dX8_match_274 : decode cX8_match 274 = .ok (.iload_n 2, 1) := by decide +kernel
theorem dX8_match_275 : decode cX8_match 275 = .ok (.iconst 1, 1) := by decide +kernel
theorem dX8_match_276 : decode cX8_match 276 = .ok (.iload_n 3, 1) := by decide +kernel
theorem dX8_match_277 : decode cX8_match 277 = .ok (.ishl, 1) := by decide +kernel
theorem dX8_match_278 : decode cX8_match 278 = .ok (.iconst (-1), 1) := by decide +kernel
theorem dX8_match_279 : decode cX8_match 279 = .ok (.ixor, 1) := by decide +kernel
theorem dX8_match_280 : decode cX8_match 280 = .ok (.iand, 1) := by decide +kernel
theorem dX8_match_281 : decode cX8_match 281 = .ok (.istore_n 2, 1) := by decide +kernel
theorem dX8_match_282 : decode cX8_match 282 = .ok (.iload 4, 2) := by decide +kernel
theorem dX8_match_284 : decode cX8_match 284 = .ok (.bipush (-9), 2) := by decide +kernel
theorem dX8_match_286 : decode cX8_match 286 = .ok (.if_icmp .eq 20, 3) := by decide +kernel
theorem dX8_match_289 : decode cX8_match 289 = .ok (.aload_n 0, 1) := by decide +kernel
theorem dX8_match_290 : decode cX8_match 290 = .ok (.getfield 93, 3) := by decide +kernel
theorem dX8_match_293 : decode cX8_match 293 = .ok (.iload 4, 2) := by decide +kernel
theorem dX8_match_295 : decode cX8_match 295 = .ok (.iload_n 3, 1) := by decide +kernel
theorem dX8_match_296 : decode cX8_match 296 = .ok (.iastore, 1) := by decide +kernel
theorem dX8_match_297 : decode cX8_match 297 = .ok (.iload_n 2, 1) := by decide +kernel
theorem dX8_match_298 : decode cX8_match 298 = .ok (.iconst 1, 1) := by decide +kernel
theorem dX8_match_299 : decode cX8_match 299 = .ok (.iload 4, 2) := by decide +kernel
theorem dX8_match_301 : decode cX8_match 301 = .ok (.ishl, 1) := by decide +kernel
theorem dX8_match_302 : decode cX8_match 302 = .ok (.iconst (-1), 1) := by decide +kernel
theorem dX8_match_303 : decode cX8_match 303 = .ok (.ixor, 1) := by decide +kernel
theorem dX8_match_304 : decode cX8_match 304 = .ok (.iand, 1) := by decide +kernel
theorem dX8_match_305 : decode cX8_match 305 = .ok (.istore_n 2, 1) := by decide +kernel
theorem dX8_match_306 : decode cX8_match 306 = .ok (.goto (-132), 3) := by decide +kernel
theorem dX8_match_309 : decode cX8_match 309 = .ok (.aload_n 0, 1) := by decide +kernel
theorem dX8_match_310 : decode cX8_match 310 = .ok (.getfield 90, 3) := by decide +kernel
theorem dX8_match_313 : decode cX8_match 313 = .ok (.iload_n 1, 1) := by decide +kernel
theorem dX8_match_314 : decode cX8_match 314 = .ok (.iaload, 1) := by decide +kernel
theorem dX8_match_315 : decode cX8_match 315 = .ok (.ireturn, 1) := by decide +kernel
set_option maxRecDepth 20000 in
theorem ggX8_pairs_X8_match : GoodIn wsX8_pairs wsX8_match := goodIn_r _ [6, 7, 8, 9, 10, 11, 12, 5, 13, 14, 15, 16, 17, 18, 19, 20, 21, 22, 23, 24, 25, 26, 27, 28, 29, 30, 31, 32, 33, 34, 35, 36, 37, 38, 39, 40, 41, 42, 43, 44, 45, 46, 47, 48, 49, 50, 51, 52, 53, 54, 55, 56, 57, 58, 59, 60, 61, 62] (by decide +kernel) (by decide +kernel)
set_option maxRecDepth 20000 in
theorem gX8_pairs_X8_match : GoodIn wsX8_pairs (wsV RX8 240 RX8 yX8_match wsX8_match) := goodIn_app (goodIn_of _ (by decide +kernel)) ggX8_pairs_X8_match
theorem dX8_pairs_0 : decode cX8_pairs 0 = .ok (.aload_n 0, 1) := by decide +kernel
theorem dX8_pairs_1 : decode cX8_pairs 1 = .ok (.iconst 0, 1) := by decide +kernel
theorem dX8_pairs_2 : decode cX8_pairs 2 = .ok (.putfield 100, 3) := by decide +kernel
theorem dX8_pairs_5 : decode cX8_pairs 5 = .ok (.aload_n 0, 1) := by decide +kernel
theorem dX8_pairs_6 : decode cX8_pairs 6 = .ok (.invokevirtual 240, 3) := by decide +kernel
theorem dX8_pairs_9 : decode cX8_pairs 9 = .ok (.ireturn, 1) := by decide +kernel
set_option maxRecDepth 20000 in
theorem ggX8_mate_X8_in : GoodIn wsX8_mate wsX8_in := goodIn_r _ [7] (by decide +kernel) (by decide +kernel)
set_option maxRecDepth 20000 in
theorem gX8_mate_X8_in : GoodIn wsX8_mate (va_wsS RX8 103 yX8_in wsX8_in) := goodIn_app (goodIn_of _ (by decide +kernel)) ggX8_mate_X8_in
set_option maxRecDepth 20000 in
theorem ggX8_mate_X8_match : GoodIn wsX8_mate wsX8_match := goodIn_r _ [11, 2, 12, 13, 3, 14, 15, 6, 16, 17, 18, 19, 20, 21, 22, 23, 24, 25, 26, 27, 28, 29, 30, 31, 32, 33, 34, 35, 36, 37, 38, 39, 40, 41, 42, 43, 44, 45, 46, 47, 48, 49, 50, 51, 52, 53, 54, 55, 56, 57, 58, 59, 60, 61, 62, 63, 64, 65] (by decide +kernel) (by decide +kernel)
set_option maxRecDepth 20000 in
theorem gX8_mate_X8_match : GoodIn wsX8_mate (wsV RX8 240 RX8 yX8_match wsX8_match) := goodIn_app (goodIn_of _ (by decide +kernel)) ggX8_mate_X8_match
theorem dX8_mate_0 : decode cX8_mate 0 = .ok (.aload_n 0, 1) := by decide +kernel
theorem dX8_mate_1 : decode cX8_mate 1 = .ok (.iconst 0, 1) := by decide +kernel
theorem dX8_mate_2 : decode cX8_mate 2 = .ok (.putfield 100, 3) := by decide +kernel
theorem dX8_mate_5 : decode cX8_mate 5 = .ok (.iload_n 1, 1) := by decide +kernel
theorem dX8_mate_6 : decode cX8_mate 6 = .ok (.i2l, 1) := by decide +kernel
theorem dX8_mate_7 : decode cX8_mate 7 = .ok (.lconst 0, 1) := by decide +kernel
theorem dX8_mate_8 : decode cX8_mate 8 = .ok (.aload_n 0, 1) := by decide +kernel
theorem dX8_mate_9 : decode cX8_mate 9 = .ok (.getfield 228, 3) := by decide +kernel
theorem dX8_mate_12 : decode cX8_mate 12 = .ok (.iconst 1, 1) := by decide +kernel
theorem dX8_mate_13 : decode cX8_mate 13 = .ok (.isub, 1) := by decide +kernel
theorem dX8_mate_14 : decode cX8_mate 14 = .ok (.i2l, 1) := by decide +kernel
theorem dX8_mate_15 : decode cX8_mate 15 = .ok (.invokestatic 103, 3) := by decide +kernel
theorem dX8_mate_18 : decode cX8_mate 18 = .ok (.ifCond .ne 5, 3) := by decide +kernel
theorem dX8_mate_21 : decode cX8_mate 21 = .ok (.iconst (-1), 1) := by decide +kernel
theorem dX8_mate_22 : decode cX8_mate 22 = .ok (.ireturn, 1) := by decide +kernel
theorem dX8_mate_23 : decode cX8_mate 23 = .ok (.aload_n 0, 1) := by decide +kernel
theorem dX8_mate_24 : decode cX8_mate 24 = .ok (.invokevirtual 240, 3) := by decide +kernel
theorem dX8_mate_27 : decode cX8_mate 27 = .ok (.pop, 1) := by decide +kernel
theorem dX8_mate_28 : decode cX8_mate 28 = .ok (.aload_n 0, 1) := by decide +kernel
theorem dX8_mate_29 : decode cX8_mate 29 = .ok (.getfield 93, 3) := by decide +kernel
theorem dX8_mate_32 : decode cX8_mate 32 = .ok (.iload_n 1, 1) := by decide +kernel
theorem dX8_mate_33 : decode cX8_mate 33 = .ok (.iaload, 1) := by decide +kernel
theorem dX8_mate_34 : decode cX8_mate 34 = .ok (.ireturn, 1) := by decide +kernel
set_option maxRecDepth 20000 in
theorem ggX8_odds_X8_in : GoodIn wsX8_odds wsX8_in := goodIn_r _ [8] (by decide +kernel) (by decide +kernel)
set_option maxRecDepth 20000 in
theorem gX8_odds_X8_in : GoodIn wsX8_odds (va_wsS RX8 103 yX8_in wsX8_in) := goodIn_app (goodIn_of _ (by decide +kernel)) ggX8_odds_X8_in
theorem dX8_odds_0 : decode cX8_odds 0 = .ok (.aload_n 0, 1) := by decide +kernel
theorem dX8_odds_1 : decode cX8_odds 1 = .ok (.iconst 0, 1) := by decide +kernel
theorem dX8_odds_2 : decode cX8_odds 2 = .ok (.putfield 100, 3) := by decide +kernel
theorem dX8_odds_5 : decode cX8_odds 5 = .ok (.iload_n 1, 1) := by decide +kernel
theorem dX8_odds_6 : decode cX8_odds 6 = .ok (.i2l, 1) := by decide +kernel
theorem dX8_odds_7 : decode cX8_odds 7 = .ok (.lconst 1, 1) := by decide +kernel
theorem dX8_odds_8 : decode cX8_odds 8 = .ok (.ldc2_w 244, 3) := by decide +kernel
theorem dX8_odds_11 : decode cX8_odds 11 = .ok (.invokestatic 103, 3) := by decide +kernel
theorem dX8_odds_14 : decode cX8_odds 14 = .ok (.ifCond .eq 47, 3) := by decide +kernel
theorem dX8_odds_17 : decode cX8_odds 17 = .ok (.iload_n 2, 1) := by decide +kernel
theorem dX8_odds_18 : decode cX8_odds 18 = .ok (.i2l, 1) := by decide +kernel
theorem dX8_odds_19 : decode cX8_odds 19 = .ok (.lconst 0, 1) := by decide +kernel
theorem dX8_odds_20 : decode cX8_odds 20 = .ok (.iload_n 1, 1) := by decide +kernel
theorem dX8_odds_21 : decode cX8_odds 21 = .ok (.i2l, 1) := by decide +kernel
theorem dX8_odds_22 : decode cX8_odds 22 = .ok (.invokestatic 103, 3) := by decide +kernel
theorem dX8_odds_25 : decode cX8_odds 25 = .ok (.ifCond .eq 36, 3) := by decide +kernel
theorem dX8_odds_28 : decode cX8_odds 28 = .ok (.iload_n 3, 1) := by decide +kernel
theorem dX8_odds_29 : decode cX8_odds 29 = .ok (.i2l, 1) := by decide +kernel
theorem dX8_odds_30 : decode cX8_odds 30 = .ok (.lconst 0, 1) := by decide +kernel
theorem dX8_odds_31 : decode cX8_odds 31 = .ok (.iload_n 1, 1) := by decide +kernel
theorem dX8_odds_32 : decode cX8_odds 32 = .ok (.i2l, 1) := by decide +kernel
theorem dX8_odds_33 : decode cX8_odds 33 = .ok (.invokestatic 103, 3) := by decide +kernel
theorem dX8_odds_36 : decode cX8_odds 36 = .ok (.ifCond .eq 25, 3) := by decide +kernel
theorem dX8_odds_39 : decode cX8_odds 39 = .ok (.iload 4, 2) := by decide +kernel
theorem dX8_odds_41 : decode cX8_odds 41 = .ok (.i2l, 1) := by decide +kernel
theorem dX8_odds_42 : decode cX8_odds 42 = .ok (.lconst 0, 1) := by decide +kernel
theorem dX8_odds_43 : decode cX8_odds 43 = .ok (.iload_n 2, 1) := by decide +kernel
theorem dX8_odds_44 : decode cX8_odds 44 = .ok (.iload_n 3, 1) := by decide +kernel
theorem dX8_odds_45 : decode cX8_odds 45 = .ok (.if_icmp .ge 8, 3) := by decide +kernel
theorem dX8_odds_48 : decode cX8_odds 48 = .ok (.iload_n 2, 1) := by decide +kernel
theorem dX8_odds_49 : decode cX8_odds 49 = .ok (.i2l, 1) := by decide +kernel
theorem dX8_odds_50 : decode cX8_odds 50 = .ok (.goto 5, 3) := by decide +kernel
theorem dX8_odds_53 : decode cX8_odds 53 = .ok (.iload_n 3, 1) := by decide +kernel
theorem dX8_odds_54 : decode cX8_odds 54 = .ok (.i2l, 1) := by decide +kernel
theorem dX8_odds_55 : decode cX8_odds 55 = .ok (.invokestatic 103, 3) := by decide +kernel
theorem dX8_odds_58 : decode cX8_odds 58 = .ok (.ifCond .ne 7, 3) := by decide +kernel
theorem dX8_odds_61 : decode cX8_odds 61 = .ok (.ldc2_w 246, 3) := by decide +kernel
theorem dX8_odds_64 : decode cX8_odds 64 = .ok (.lreturn, 1) := by decide +kernel
theorem dX8_odds_65 : decode cX8_odds 65 = .ok (.lconst 0, 1) := by decide +kernel
theorem dX8_odds_66 : decode cX8_odds 66 = .ok (.lstore 6, 2) := by decide +kernel
theorem dX8_odds_68 : decode cX8_odds 68 = .ok (.iload 4, 2) := by decide +kernel
theorem dX8_odds_70 : decode cX8_odds 70 = .ok (.istore 8, 2) := by decide +kernel
theorem dX8_odds_72 : decode cX8_odds 72 = .ok (.iload 8, 2) := by decide +kernel
theorem dX8_odds_74 : decode cX8_odds 74 = .ok (.iload_n 2, 1) := by decide +kernel
theorem dX8_odds_75 : decode cX8_odds 75 = .ok (.if_icmp .gt 75, 3) := by decide +kernel
theorem dX8_odds_78 : decode cX8_odds 78 = .ok (.iload 8, 2) := by decide +kernel
theorem dX8_odds_80 : decode cX8_odds 80 = .ok (.iload_n 3, 1) := by decide +kernel
theorem dX8_odds_81 : decode cX8_odds 81 = .ok (.if_icmp .gt 69, 3) := by decide +kernel
theorem dX8_odds_84 : decode cX8_odds 84 = .ok (.iload_n 2, 1) := by decide +kernel
theorem dX8_odds_85 : decode cX8_odds 85 = .ok (.iload 8, 2) := by decide +kernel
theorem dX8_odds_87 : decode cX8_odds 87 = .ok (.isub, 1) := by decide +kernel
theorem dX8_odds_88 : decode cX8_odds 88 = .ok (.iload_n 1, 1) := by decide +kernel
theorem dX8_odds_89 : decode cX8_odds 89 = .ok (.iload_n 3, 1) := by decide +kernel
theorem dX8_odds_90 : decode cX8_odds 90 = .ok (.isub, 1) := by decide +kernel
theorem dX8_odds_91 : decode cX8_odds 91 = .ok (.if_icmp .gt 7, 3) := by decide +kernel
theorem dX8_odds_94 : decode cX8_odds 94 = .ok (.iconst 1, 1) := by decide +kernel
theorem dX8_odds_95 : decode cX8_odds 95 = .ok (.goto 4, 3) := by decide +kernel
theorem dX8_odds_98 : decode cX8_odds 98 = .ok (.iconst 0, 1) := by decide +kernel
theorem dX8_odds_99 : decode cX8_odds 99 = .ok (.istore 9, 2) := by decide +kernel
theorem dX8_odds_101 : decode cX8_odds 101 = .ok (.lload 6, 2) := by decide +kernel
theorem dX8_odds_103 : decode cX8_odds 103 = .ok (.iload 9, 2) := by decide +kernel
theorem dX8_odds_105 : decode cX8_odds 105 = .ok (.ifCond .eq 35, 3) := by decide +kernel
theorem dX8_odds_108 : decode cX8_odds 108 = .ok (.aload_n 0, 1) := by decide +kernel
theorem dX8_odds_109 : decode cX8_odds 109 = .ok (.getfield 96, 3) := by decide +kernel
theorem dX8_odds_112 : decode cX8_odds 112 = .ok (.bipush 61, 2) := by decide +kernel
theorem dX8_odds_114 : decode cX8_odds 114 = .ok (.iload_n 3, 1) := by decide +kernel
theorem dX8_odds_115 : decode cX8_odds 115 = .ok (.imul, 1) := by decide +kernel
theorem dX8_odds_116 : decode cX8_odds 116 = .ok (.iload 8, 2) := by decide +kernel
theorem dX8_odds_118 : decode cX8_odds 118 = .ok (.iadd, 1) := by decide +kernel
theorem dX8_odds_119 : decode cX8_odds 119 = .ok (.laload, 1) := by decide +kernel
theorem dX8_odds_120 : decode cX8_odds 120 = .ok (.aload_n 0, 1) := by decide +kernel
theorem dX8_odds_121 : decode cX8_odds 121 = .ok (.getfield 96, 3) := by decide +kernel
theorem dX8_odds_124 : decode cX8_odds 124 = .ok (.bipush 61, 2) := by decide +kernel
theorem dX8_odds_126 : decode cX8_odds 126 = .ok (.iload_n 1, 1) := by decide +kernel
theorem dX8_odds_127 : decode cX8_odds 127 = .ok (.iload_n 3, 1) := by decide +kernel
theorem dX8_odds_128 : decode cX8_odds 128 = .ok (.isub, 1) := by decide +kernel
theorem dX8_odds_129 : decode cX8_odds 129 = .ok (.imul, 1) := by decide +kernel
theorem dX8_odds_130 : decode cX8_odds 130 = .ok (.iload_n 2, 1) := by decide +kernel
theorem dX8_odds_131 : decode cX8_odds 131 = .ok (.iadd, 1) := by decide +kernel
theorem dX8_odds_132 : decode cX8_odds 132 = .ok (.iload 8, 2) := by decide +kernel
theorem dX8_odds_134 : decode cX8_odds 134 = .ok (.isub, 1) := by decide +kernel
theorem dX8_odds_135 : decode cX8_odds 135 = .ok (.laload, 1) := by decide +kernel
theorem dX8_odds_136 : decode cX8_odds 136 = .ok (.lmul, 1) := by decide +kernel
theorem dX8_odds_137 : decode cX8_odds 137 = .ok (.goto 4, 3) := by decide +kernel
theorem dX8_odds_140 : decode cX8_odds 140 = .ok (.lconst 0, 1) := by decide +kernel
theorem dX8_odds_141 : decode cX8_odds 141 = .ok (.ladd, 1) := by decide +kernel
theorem dX8_odds_142 : decode cX8_odds 142 = .ok (.lstore 6, 2) := by decide +kernel
theorem dX8_odds_144 : decode cX8_odds 144 = .ok (.iinc 8 1, 3) := by decide +kernel
theorem dX8_odds_147 : decode cX8_odds 147 = .ok (.goto (-75), 3) := by decide +kernel
theorem dX8_odds_150 : decode cX8_odds 150 = .ok (.aload_n 0, 1) := by decide +kernel
theorem dX8_odds_151 : decode cX8_odds 151 = .ok (.getfield 96, 3) := by decide +kernel
theorem dX8_odds_154 : decode cX8_odds 154 = .ok (.bipush 61, 2) := by decide +kernel
theorem dX8_odds_156 : decode cX8_odds 156 = .ok (.iload_n 1, 1) := by decide +kernel
theorem dX8_odds_157 : decode cX8_odds 157 = .ok (.imul, 1) := by decide +kernel
theorem dX8_odds_158 : decode cX8_odds 158 = .ok (.iload_n 2, 1) := by decide +kernel
theorem dX8_odds_159 : decode cX8_odds 159 = .ok (.iadd, 1) := by decide +kernel
theorem dX8_odds_160 : decode cX8_odds 160 = .ok (.laload, 1) := by decide +kernel
theorem dX8_odds_161 : decode cX8_odds 161 = .ok (.lstore 8, 2) := by decide +kernel
theorem dX8_odds_163 : decode cX8_odds 163 = .ok (.lload 6, 2) := by decide +kernel
theorem dX8_odds_165 : decode cX8_odds 165 = .ok (.lstore 10, 2) := by decide +kernel
theorem dX8_odds_167 : decode cX8_odds 167 = .ok (.lload 8, 2) := by decide +kernel
theorem dX8_odds_169 : decode cX8_odds 169 = .ok (.lstore 12, 2) := by decide +kernel
theorem dX8_odds_171 : decode cX8_odds 171 = .ok (.lload 12, 2) := by decide +kernel
theorem dX8_odds_173 : decode cX8_odds 173 = .ok (.lconst 0, 1) := by decide +kernel
theorem dX8_odds_174 : decode cX8_odds 174 = .ok (.lcmp, 1) := by decide +kernel
theorem dX8_odds_175 : decode cX8_odds 175 = .ok (.ifCond .eq 21, 3) := by decide +kernel
theorem dX8_odds_178 : decode cX8_odds 178 = .ok (.lload 10, 2) := by decide +kernel
theorem dX8_odds_180 : decode cX8_odds 180 = .ok (.lload 12, 2) := by decide +kernel
theorem dX8_odds_182 : decode cX8_odds 182 = .ok (.lrem, 1) := by decide +kernel
theorem dX8_odds_183 : decode cX8_odds 183 = .ok (.lstore 14, 2) := by decide +kernel
theorem dX8_odds_185 : decode cX8_odds 185 = .ok (.lload 12, 2) := by decide +kernel
theorem dX8_odds_187 : decode cX8_odds 187 = .ok (.lstore 10, 2) := by decide +kernel
theorem dX8_odds_189 : decode cX8_odds 189 = .ok (.lload 14, 2) := by decide +kernel
theorem dX8_odds_191 : decode cX8_odds 191 = .ok (.lstore 12, 2) := by decide +kernel
theorem dX8_odds_193 : decode cX8_odds 193 = .ok (.goto (-22), 3) := by decide +kernel
theorem dX8_odds_196 : decode cX8_odds 196 = .ok (.iload 5, 2) := by decide +kernel
theorem dX8_odds_198 : decode cX8_odds 198 = .ok (.ifCond .eq 11, 3) := by decide +kernel
theorem dX8_odds_201 : decode cX8_odds 201 = .ok (.lload 6, 2) := by decide +kernel
theorem dX8_odds_203 : decode cX8_odds 203 = .ok (.lload 10, 2) := by decide +kernel
theorem dX8_odds_205 : decode cX8_odds 205 = .ok (.ldiv, 1) := by decide +kernel
theorem dX8_odds_206 : decode cX8_odds 206 = .ok (.goto 8, 3) := by decide +kernel
theorem dX8_odds_209 : decode cX8_odds 209 = .ok (.lload 8, 2) := by decide +kernel
theorem dX8_odds_211 : decode cX8_odds 211 = .ok (.lload 10, 2) := by decide +kernel
theorem dX8_odds_213 : decode cX8_odds 213 = .ok (.ldiv, 1) := by decide +kernel
theorem dX8_odds_214 : decode cX8_odds 214 = .ok (.lreturn, 1) := by decide +kernel
theorem dX8_copy_0 : decode cX8_copy 0 = .ok (.aload_n 0, 1) := by decide +kernel
theorem dX8_copy_1 : decode cX8_copy 1 = .ok (.getfield 7, 3) := by decide +kernel
theorem dX8_copy_4 : decode cX8_copy 4 = .ok (.iload_n 2, 1) := by decide +kernel
theorem dX8_copy_5 : decode cX8_copy 5 = .ok (.aload_n 0, 1) := by decide +kernel
theorem dX8_copy_6 : decode cX8_copy 6 = .ok (.getfield 7, 3) := by decide +kernel
theorem dX8_copy_9 : decode cX8_copy 9 = .ok (.iload_n 1, 1) := by decide +kernel
theorem dX8_copy_10 : decode cX8_copy 10 = .ok (.iaload, 1) := by decide +kernel
theorem dX8_copy_11 : decode cX8_copy 11 = .ok (.iastore, 1) := by decide +kernel
theorem dX8_copy_12 : decode cX8_copy 12 = .ok (.aload_n 0, 1) := by decide +kernel
theorem dX8_copy_13 : decode cX8_copy 13 = .ok (.getfield 13, 3) := by decide +kernel
theorem dX8_copy_16 : decode cX8_copy 16 = .ok (.iload_n 2, 1) := by decide +kernel
theorem dX8_copy_17 : decode cX8_copy 17 = .ok (.aload_n 0, 1) := by decide +kernel
theorem dX8_copy_18 : decode cX8_copy 18 = .ok (.getfield 13, 3) := by decide +kernel
theorem dX8_copy_21 : decode cX8_copy 21 = .ok (.iload_n 1, 1) := by decide +kernel
theorem dX8_copy_22 : decode cX8_copy 22 = .ok (.iaload, 1) := by decide +kernel
theorem dX8_copy_23 : decode cX8_copy 23 = .ok (.iastore, 1) := by decide +kernel
theorem dX8_copy_24 : decode cX8_copy 24 = .ok (.aload_n 0, 1) := by decide +kernel
theorem dX8_copy_25 : decode cX8_copy 25 = .ok (.getfield 16, 3) := by decide +kernel
theorem dX8_copy_28 : decode cX8_copy 28 = .ok (.iload_n 2, 1) := by decide +kernel
theorem dX8_copy_29 : decode cX8_copy 29 = .ok (.aload_n 0, 1) := by decide +kernel
theorem dX8_copy_30 : decode cX8_copy 30 = .ok (.getfield 16, 3) := by decide +kernel
theorem dX8_copy_33 : decode cX8_copy 33 = .ok (.iload_n 1, 1) := by decide +kernel
theorem dX8_copy_34 : decode cX8_copy 34 = .ok (.iaload, 1) := by decide +kernel
theorem dX8_copy_35 : decode cX8_copy 35 = .ok (.iastore, 1) := by decide +kernel
theorem dX8_copy_36 : decode cX8_copy 36 = .ok (.aload_n 0, 1) := by decide +kernel
theorem dX8_copy_37 : decode cX8_copy 37 = .ok (.getfield 19, 3) := by decide +kernel
theorem dX8_copy_40 : decode cX8_copy 40 = .ok (.iload_n 2, 1) := by decide +kernel
theorem dX8_copy_41 : decode cX8_copy 41 = .ok (.aload_n 0, 1) := by decide +kernel
theorem dX8_copy_42 : decode cX8_copy 42 = .ok (.getfield 19, 3) := by decide +kernel
theorem dX8_copy_45 : decode cX8_copy 45 = .ok (.iload_n 1, 1) := by decide +kernel
theorem dX8_copy_46 : decode cX8_copy 46 = .ok (.iaload, 1) := by decide +kernel
theorem dX8_copy_47 : decode cX8_copy 47 = .ok (.iastore, 1) := by decide +kernel
theorem dX8_copy_48 : decode cX8_copy 48 = .ok (.aload_n 0, 1) := by decide +kernel
theorem dX8_copy_49 : decode cX8_copy 49 = .ok (.getfield 22, 3) := by decide +kernel
theorem dX8_copy_52 : decode cX8_copy 52 = .ok (.iload_n 2, 1) := by decide +kernel
theorem dX8_copy_53 : decode cX8_copy 53 = .ok (.aload_n 0, 1) := by decide +kernel
theorem dX8_copy_54 : decode cX8_copy 54 = .ok (.getfield 22, 3) := by decide +kernel
theorem dX8_copy_57 : decode cX8_copy 57 = .ok (.iload_n 1, 1) := by decide +kernel
theorem dX8_copy_58 : decode cX8_copy 58 = .ok (.iaload, 1) := by decide +kernel
theorem dX8_copy_59 : decode cX8_copy 59 = .ok (.iastore, 1) := by decide +kernel
theorem dX8_copy_60 : decode cX8_copy 60 = .ok (.aload_n 0, 1) := by decide +kernel
theorem dX8_copy_61 : decode cX8_copy 61 = .ok (.getfield 25, 3) := by decide +kernel
theorem dX8_copy_64 : decode cX8_copy 64 = .ok (.iload_n 2, 1) := by decide +kernel
theorem dX8_copy_65 : decode cX8_copy 65 = .ok (.aload_n 0, 1) := by decide +kernel
theorem dX8_copy_66 : decode cX8_copy 66 = .ok (.getfield 25, 3) := by decide +kernel
theorem dX8_copy_69 : decode cX8_copy 69 = .ok (.iload_n 1, 1) := by decide +kernel
theorem dX8_copy_70 : decode cX8_copy 70 = .ok (.iaload, 1) := by decide +kernel
theorem dX8_copy_71 : decode cX8_copy 71 = .ok (.iastore, 1) := by decide +kernel
theorem dX8_copy_72 : decode cX8_copy 72 = .ok (.iconst 0, 1) := by decide +kernel
theorem dX8_copy_73 : decode cX8_copy 73 = .ok (.istore_n 3, 1) := by decide +kernel
theorem dX8_copy_74 : decode cX8_copy 74 = .ok (.iload_n 3, 1) := by decide +kernel
theorem dX8_copy_75 : decode cX8_copy 75 = .ok (.sipush 600, 3) := by decide +kernel
theorem dX8_copy_78 : decode cX8_copy 78 = .ok (.if_icmp .ge 33, 3) := by decide +kernel
theorem dX8_copy_81 : decode cX8_copy 81 = .ok (.aload_n 0, 1) := by decide +kernel
theorem dX8_copy_82 : decode cX8_copy 82 = .ok (.getfield 28, 3) := by decide +kernel
theorem dX8_copy_85 : decode cX8_copy 85 = .ok (.sipush 600, 3) := by decide +kernel
theorem dX8_copy_88 : decode cX8_copy 88 = .ok (.iload_n 2, 1) := by decide +kernel
theorem dX8_copy_89 : decode cX8_copy 89 = .ok (.imul, 1) := by decide +kernel
theorem dX8_copy_90 : decode cX8_copy 90 = .ok (.iload_n 3, 1) := by decide +kernel
theorem dX8_copy_91 : decode cX8_copy 91 = .ok (.iadd, 1) := by decide +kernel
theorem dX8_copy_92 : decode cX8_copy 92 = .ok (.aload_n 0, 1) := by decide +kernel
theorem dX8_copy_93 : decode cX8_copy 93 = .ok (.getfield 28, 3) := by decide +kernel
theorem dX8_copy_96 : decode cX8_copy 96 = .ok (.sipush 600, 3) := by decide +kernel
theorem dX8_copy_99 : decode cX8_copy 99 = .ok (.iload_n 1, 1) := by decide +kernel
theorem dX8_copy_100 : decode cX8_copy 100 = .ok (.imul, 1) := by decide +kernel
theorem dX8_copy_101 : decode cX8_copy 101 = .ok (.iload_n 3, 1) := by decide +kernel
theorem dX8_copy_102 : decode cX8_copy 102 = .ok (.iadd, 1) := by decide +kernel
theorem dX8_copy_103 : decode cX8_copy 103 = .ok (.iaload, 1) := by decide +kernel
theorem dX8_copy_104 : decode cX8_copy 104 = .ok (.iastore, 1) := by decide +kernel
theorem dX8_copy_105 : decode cX8_copy 105 = .ok (.iinc 3 1, 3) := by decide +kernel
theorem dX8_copy_108 : decode cX8_copy 108 = .ok (.goto (-34), 3) := by decide +kernel
theorem dX8_copy_111 : decode cX8_copy 111 = .ok (.iconst 0, 1) := by decide +kernel
theorem dX8_copy_112 : decode cX8_copy 112 = .ok (.istore_n 3, 1) := by decide +kernel
theorem dX8_copy_113 : decode cX8_copy 113 = .ok (.iload_n 3, 1) := by decide +kernel
theorem dX8_copy_114 : decode cX8_copy 114 = .ok (.bipush 6, 2) := by decide +kernel
theorem dX8_copy_116 : decode cX8_copy 116 = .ok (.if_icmp .ge 53, 3) := by decide +kernel
theorem dX8_copy_119 : decode cX8_copy 119 = .ok (.aload_n 0, 1) := by decide +kernel
theorem dX8_copy_120 : decode cX8_copy 120 = .ok (.getfield 31, 3) := by decide +kernel
theorem dX8_copy_123 : decode cX8_copy 123 = .ok (.bipush 6, 2) := by decide +kernel
theorem dX8_copy_125 : decode cX8_copy 125 = .ok (.iload_n 2, 1) := by decide +kernel
theorem dX8_copy_126 : decode cX8_copy 126 = .ok (.imul, 1) := by decide +kernel
theorem dX8_copy_127 : decode cX8_copy 127 = .ok (.iload_n 3, 1) := by decide +kernel
theorem dX8_copy_128 : decode cX8_copy 128 = .ok (.iadd, 1) := by decide +kernel
theorem dX8_copy_129 : decode cX8_copy 129 = .ok (.aload_n 0, 1) := by decide +kernel
theorem dX8_copy_130 : decode cX8_copy 130 = .ok (.getfield 31, 3) := by decide +kernel
theorem dX8_copy_133 : decode cX8_copy 133 = .ok (.bipush 6, 2) := by decide +kernel
theorem dX8_copy_135 : decode cX8_copy 135 = .ok (.iload_n 1, 1) := by decide +kernel
theorem dX8_copy_136 : decode cX8_copy 136 = .ok (.imul, 1) := by decide +kernel
theorem dX8_copy_137 : decode cX8_copy 137 = .ok (.iload_n 3, 1) := by decide +kernel
theorem dX8_copy_138 : decode cX8_copy 138 = .ok (.iadd, 1) := by decide +kernel
theorem dX8_copy_139 : decode cX8_copy 139 = .ok (.iaload, 1) := by decide +kernel
theorem dX8_copy_140 : decode cX8_copy 140 = .ok (.iastore, 1) := by decide +kernel
theorem dX8_copy_141 : decode cX8_copy 141 = .ok (.aload_n 0, 1) := by decide +kernel
theorem dX8_copy_142 : decode cX8_copy 142 = .ok (.getfield 34, 3) := by decide +kernel
theorem dX8_copy_145 : decode cX8_copy 145 = .ok (.bipush 6, 2) := by decide +kernel
theorem dX8_copy_147 : decode cX8_copy 147 = .ok (.iload_n 2, 1) := by decide +kernel
theorem dX8_copy_148 : decode cX8_copy 148 = .ok (.imul, 1) := by decide +kernel
theorem dX8_copy_149 : decode cX8_copy 149 = .ok (.iload_n 3, 1) := by decide +kernel
theorem dX8_copy_150 : decode cX8_copy 150 = .ok (.iadd, 1) := by decide +kernel
theorem dX8_copy_151 : decode cX8_copy 151 = .ok (.aload_n 0, 1) := by decide +kernel
theorem dX8_copy_152 : decode cX8_copy 152 = .ok (.getfield 34, 3) := by decide +kernel
theorem dX8_copy_155 : decode cX8_copy 155 = .ok (.bipush 6, 2) := by decide +kernel
theorem dX8_copy_157 : decode cX8_copy 157 = .ok (.iload_n 1, 1) := by decide +kernel
theorem dX8_copy_158 : decode cX8_copy 158 = .ok (.imul, 1) := by decide +kernel
theorem dX8_copy_159 : decode cX8_copy 159 = .ok (.iload_n 3, 1) := by decide +kernel
theorem dX8_copy_160 : decode cX8_copy 160 = .ok (.iadd, 1) := by decide +kernel
theorem dX8_copy_161 : decode cX8_copy 161 = .ok (.iaload, 1) := by decide +kernel
theorem dX8_copy_162 : decode cX8_copy 162 = .ok (.iastore, 1) := by decide +kernel
theorem dX8_copy_163 : decode cX8_copy 163 = .ok (.iinc 3 1, 3) := by decide +kernel
theorem dX8_copy_166 : decode cX8_copy 166 = .ok (.goto (-53), 3) := by decide +kernel
theorem dX8_copy_169 : decode cX8_copy 169 = .ok (.return_, 1) := by decide +kernel
theorem dX8_presses_0 : decode cX8_presses 0 = .ok (.iconst 0, 1) := by decide +kernel
theorem dX8_presses_1 : decode cX8_presses 1 = .ok (.istore_n 1, 1) := by decide +kernel
theorem dX8_presses_2 : decode cX8_presses 2 = .ok (.iconst 0, 1) := by decide +kernel
theorem dX8_presses_3 : decode cX8_presses 3 = .ok (.istore_n 2, 1) := by decide +kernel
theorem dX8_presses_4 : decode cX8_presses 4 = .ok (.iload_n 2, 1) := by decide +kernel
theorem dX8_presses_5 : decode cX8_presses 5 = .ok (.bipush 100, 2) := by decide +kernel
theorem dX8_presses_7 : decode cX8_presses 7 = .ok (.aload_n 0, 1) := by decide +kernel
theorem dX8_presses_8 : decode cX8_presses 8 = .ok (.getfield 16, 3) := by decide +kernel
theorem dX8_presses_11 : decode cX8_presses 11 = .ok (.iconst 4, 1) := by decide +kernel
theorem dX8_presses_12 : decode cX8_presses 12 = .ok (.iaload, 1) := by decide +kernel
theorem dX8_presses_13 : decode cX8_presses 13 = .ok (.imul, 1) := by decide +kernel
theorem dX8_presses_14 : decode cX8_presses 14 = .ok (.if_icmp .ge 30, 3) := by decide +kernel
theorem dX8_presses_17 : decode cX8_presses 17 = .ok (.iload_n 1, 1) := by decide +kernel
theorem dX8_presses_18 : decode cX8_presses 18 = .ok (.aload_n 0, 1) := by decide +kernel
theorem dX8_presses_19 : decode cX8_presses 19 = .ok (.getfield 28, 3) := by decide +kernel
theorem dX8_presses_22 : decode cX8_presses 22 = .ok (.sipush 2400, 3) := by decide +kernel
theorem dX8_presses_25 : decode cX8_presses 25 = .ok (.iload_n 2, 1) := by decide +kernel
theorem dX8_presses_26 : decode cX8_presses 26 = .ok (.iadd, 1) := by decide +kernel
theorem dX8_presses_27 : decode cX8_presses 27 = .ok (.iaload, 1) := by decide +kernel
theorem dX8_presses_28 : decode cX8_presses 28 = .ok (.ifCond .ne 7, 3) := by decide +kernel
theorem dX8_presses_31 : decode cX8_presses 31 = .ok (.iconst 0, 1) := by decide +kernel
theorem dX8_presses_32 : decode cX8_presses 32 = .ok (.goto 4, 3) := by decide +kernel
theorem dX8_presses_35 : decode cX8_presses 35 = .ok (.iconst 1, 1) := by decide +kernel
theorem dX8_presses_36 : decode cX8_presses 36 = .ok (.iadd, 1) := by decide +kernel
theorem dX8_presses_37 : decode cX8_presses 37 = .ok (.istore_n 1, 1) := by decide +kernel
theorem dX8_presses_38 : decode cX8_presses 38 = .ok (.iinc 2 1, 3) := by decide +kernel
theorem dX8_presses_41 : decode cX8_presses 41 = .ok (.goto (-37), 3) := by decide +kernel
theorem dX8_presses_44 : decode cX8_presses 44 = .ok (.iload_n 1, 1) := by decide +kernel
theorem dX8_presses_45 : decode cX8_presses 45 = .ok (.ireturn, 1) := by decide +kernel
set_option maxRecDepth 20000 in
theorem ggX8_noSlot_X8_in : GoodIn wsX8_noSlot wsX8_in := goodIn_r _ [5] (by decide +kernel) (by decide +kernel)
set_option maxRecDepth 20000 in
theorem gX8_noSlot_X8_in : GoodIn wsX8_noSlot (va_wsS RX8 103 yX8_in wsX8_in) := goodIn_app (goodIn_of _ (by decide +kernel)) ggX8_noSlot_X8_in
theorem dX8_noSlot_0 : decode cX8_noSlot 0 = .ok (.iload_n 0, 1) := by decide +kernel
theorem dX8_noSlot_1 : decode cX8_noSlot 1 = .ok (.i2l, 1) := by decide +kernel
theorem dX8_noSlot_2 : decode cX8_noSlot 2 = .ok (.lconst 0, 1) := by decide +kernel
theorem dX8_noSlot_3 : decode cX8_noSlot 3 = .ok (.ldc2_w 109, 3) := by decide +kernel
theorem dX8_noSlot_6 : decode cX8_noSlot 6 = .ok (.invokestatic 103, 3) := by decide +kernel
theorem dX8_noSlot_9 : decode cX8_noSlot 9 = .ok (.ifCond .ne 7, 3) := by decide +kernel
theorem dX8_noSlot_12 : decode cX8_noSlot 12 = .ok (.iconst 1, 1) := by decide +kernel
theorem dX8_noSlot_13 : decode cX8_noSlot 13 = .ok (.goto 4, 3) := by decide +kernel
theorem dX8_noSlot_16 : decode cX8_noSlot 16 = .ok (.iconst 0, 1) := by decide +kernel
theorem dX8_noSlot_17 : decode cX8_noSlot 17 = .ok (.ireturn, 1) := by decide +kernel
set_option maxRecDepth 20000 in
theorem ggX8_keep_X8_noSlot : GoodIn wsX8_keep wsX8_noSlot := goodIn_r _ [6, 7, 8, 9, 5, 10] (by decide +kernel) (by decide +kernel)
set_option maxRecDepth 20000 in
theorem gX8_keep_X8_noSlot : GoodIn wsX8_keep (va_wsS RX8 248 yX8_noSlot wsX8_noSlot) := goodIn_app (goodIn_of _ (by decide +kernel)) ggX8_keep_X8_noSlot
set_option maxRecDepth 20000 in
theorem ggX8_keep_X8_copy : GoodIn wsX8_keep wsX8_copy := goodIn_r _ [14, 15, 16, 17, 18, 19, 20, 21, 22, 23, 28, 29, 30, 31, 32, 33, 34, 35, 36, 37, 38, 39, 40, 41, 42, 43, 44, 45, 46, 47, 48, 49, 50, 51, 52, 53, 54, 55, 56, 57, 58, 59, 60, 61, 62, 63] (by decide +kernel) (by decide +kernel)
set_option maxRecDepth 20000 in
theorem gX8_keep_X8_copy : GoodIn wsX8_keep (wsV RX8 251 RX8 yX8_copy wsX8_copy) := goodIn_app (goodIn_of _ (by decide +kernel)) ggX8_keep_X8_copy
set_option maxRecDepth 20000 in
theorem ggX8_keep_X8_presses : GoodIn wsX8_keep wsX8_presses := goodIn_r _ [27, 17, 21, 28, 29, 30, 31, 32, 33, 34, 35, 36, 37, 38, 39, 40, 41, 42, 43, 44, 45, 46, 47, 48, 49, 50, 51, 52, 53, 54, 55, 56, 57, 58, 59, 60, 61, 62, 63] (by decide +kernel) (by decide +kernel)
set_option maxRecDepth 20000 in
theorem gX8_keep_X8_presses : GoodIn wsX8_keep (wsV RX8 254 RX8 yX8_presses wsX8_presses) := goodIn_app (goodIn_of _ (by decide +kernel)) ggX8_keep_X8_presses
theorem dX8_keep_0 : decode cX8_keep 0 = .ok (.aload_n 0, 1) := by decide +kernel
theorem dX8_keep_1 : decode cX8_keep 1 = .ok (.iconst 0, 1) := by decide +kernel
theorem dX8_keep_2 : decode cX8_keep 2 = .ok (.putfield 100, 3) := by decide +kernel
theorem dX8_keep_5 : decode cX8_keep 5 = .ok (.iload_n 1, 1) := by decide +kernel
theorem dX8_keep_6 : decode cX8_keep 6 = .ok (.invokestatic 248, 3) := by decide +kernel
theorem dX8_keep_9 : decode cX8_keep 9 = .ok (.ifCond .eq 5, 3) := by decide +kernel
theorem dX8_keep_12 : decode cX8_keep 12 = .ok (.iconst (-1), 1) := by decide +kernel
theorem dX8_keep_13 : decode cX8_keep 13 = .ok (.ireturn, 1) := by decide +kernel
theorem dX8_keep_14 : decode cX8_keep 14 = .ok (.aload_n 0, 1) := by decide +kernel
theorem dX8_keep_15 : decode cX8_keep 15 = .ok (.iconst 4, 1) := by decide +kernel
theorem dX8_keep_16 : decode cX8_keep 16 = .ok (.iload_n 1, 1) := by decide +kernel
theorem dX8_keep_17 : decode cX8_keep 17 = .ok (.invokevirtual 251, 3) := by decide +kernel
theorem dX8_keep_20 : decode cX8_keep 20 = .ok (.aload_n 0, 1) := by decide +kernel
theorem dX8_keep_21 : decode cX8_keep 21 = .ok (.getfield 37, 3) := by decide +kernel
theorem dX8_keep_24 : decode cX8_keep 24 = .ok (.iload_n 1, 1) := by decide +kernel
theorem dX8_keep_25 : decode cX8_keep 25 = .ok (.iconst 1, 1) := by decide +kernel
theorem dX8_keep_26 : decode cX8_keep 26 = .ok (.bastore, 1) := by decide +kernel
theorem dX8_keep_27 : decode cX8_keep 27 = .ok (.aload_n 0, 1) := by decide +kernel
theorem dX8_keep_28 : decode cX8_keep 28 = .ok (.invokevirtual 254, 3) := by decide +kernel
theorem dX8_keep_31 : decode cX8_keep 31 = .ok (.ireturn, 1) := by decide +kernel
set_option maxRecDepth 20000 in
theorem ggX8_again_X8_noSlot : GoodIn wsX8_again wsX8_noSlot := goodIn_r _ [7, 8, 9, 10, 6, 11] (by decide +kernel) (by decide +kernel)
set_option maxRecDepth 20000 in
theorem gX8_again_X8_noSlot : GoodIn wsX8_again (va_wsS RX8 248 yX8_noSlot wsX8_noSlot) := goodIn_app (goodIn_of _ (by decide +kernel)) ggX8_again_X8_noSlot
set_option maxRecDepth 20000 in
theorem ggX8_again_X8_copy : GoodIn wsX8_again wsX8_copy := goodIn_r _ [15, 16, 17, 3, 18, 19, 20, 21, 22, 23, 24, 25, 26, 27, 28, 29, 30, 31, 32, 33, 34, 35, 36, 37, 38, 39, 40, 41, 42, 43, 44, 45, 46, 47, 48, 49, 50, 51, 52, 53, 54, 55, 56, 57, 58, 59] (by decide +kernel) (by decide +kernel)
set_option maxRecDepth 20000 in
theorem gX8_again_X8_copy : GoodIn wsX8_again (wsV RX8 251 RX8 yX8_copy wsX8_copy) := goodIn_app (goodIn_of _ (by decide +kernel)) ggX8_again_X8_copy
theorem dX8_again_0 : decode cX8_again 0 = .ok (.aload_n 0, 1) := by decide +kernel
theorem dX8_again_1 : decode cX8_again 1 = .ok (.iconst 0, 1) := by decide +kernel
theorem dX8_again_2 : decode cX8_again 2 = .ok (.putfield 100, 3) := by decide +kernel
theorem dX8_again_5 : decode cX8_again 5 = .ok (.iload_n 1, 1) := by decide +kernel
theorem dX8_again_6 : decode cX8_again 6 = .ok (.invokestatic 248, 3) := by decide +kernel
theorem dX8_again_9 : decode cX8_again 9 = .ok (.ifCond .eq 5, 3) := by decide +kernel
theorem dX8_again_12 : decode cX8_again 12 = .ok (.iconst (-1), 1) := by decide +kernel
theorem dX8_again_13 : decode cX8_again 13 = .ok (.ireturn, 1) := by decide +kernel
theorem dX8_again_14 : decode cX8_again 14 = .ok (.aload_n 0, 1) := by decide +kernel
theorem dX8_again_15 : decode cX8_again 15 = .ok (.getfield 37, 3) := by decide +kernel
theorem dX8_again_18 : decode cX8_again 18 = .ok (.iload_n 1, 1) := by decide +kernel
theorem dX8_again_19 : decode cX8_again 19 = .ok (.baload, 1) := by decide +kernel
theorem dX8_again_20 : decode cX8_again 20 = .ok (.ifCond .ne 6, 3) := by decide +kernel
theorem dX8_again_23 : decode cX8_again 23 = .ok (.bipush (-3), 2) := by decide +kernel
theorem dX8_again_25 : decode cX8_again 25 = .ok (.ireturn, 1) := by decide +kernel
theorem dX8_again_26 : decode cX8_again 26 = .ok (.aload_n 0, 1) := by decide +kernel
theorem dX8_again_27 : decode cX8_again 27 = .ok (.iload_n 1, 1) := by decide +kernel
theorem dX8_again_28 : decode cX8_again 28 = .ok (.iconst 4, 1) := by decide +kernel
theorem dX8_again_29 : decode cX8_again 29 = .ok (.invokevirtual 251, 3) := by decide +kernel
theorem dX8_again_32 : decode cX8_again 32 = .ok (.aload_n 0, 1) := by decide +kernel
theorem dX8_again_33 : decode cX8_again 33 = .ok (.getfield 16, 3) := by decide +kernel
theorem dX8_again_36 : decode cX8_again 36 = .ok (.iconst 4, 1) := by decide +kernel
theorem dX8_again_37 : decode cX8_again 37 = .ok (.iaload, 1) := by decide +kernel
theorem dX8_again_38 : decode cX8_again 38 = .ok (.ireturn, 1) := by decide +kernel
set_option maxRecDepth 20000 in
theorem ggX8_tried_X8_noSlot : GoodIn wsX8_tried wsX8_noSlot := goodIn_r _ [8, 9, 10, 11, 7, 12] (by decide +kernel) (by decide +kernel)
set_option maxRecDepth 20000 in
theorem gX8_tried_X8_noSlot : GoodIn wsX8_tried (va_wsS RX8 248 yX8_noSlot wsX8_noSlot) := goodIn_app (goodIn_of _ (by decide +kernel)) ggX8_tried_X8_noSlot
set_option maxRecDepth 20000 in
theorem ggX8_tried_X8_noTick : GoodIn wsX8_tried wsX8_noTick := goodIn_r _ [15, 16, 10, 11, 7, 12] (by decide +kernel) (by decide +kernel)
set_option maxRecDepth 20000 in
theorem gX8_tried_X8_noTick : GoodIn wsX8_tried (va_wsS RX8 124 yX8_noTick wsX8_noTick) := goodIn_app (goodIn_of _ (by decide +kernel)) ggX8_tried_X8_noTick
set_option maxRecDepth 20000 in
theorem ggX8_tried_X8_in : GoodIn wsX8_tried wsX8_in := goodIn_r _ [12] (by decide +kernel) (by decide +kernel)
set_option maxRecDepth 20000 in
theorem gX8_tried_X8_in : GoodIn wsX8_tried (va_wsS RX8 103 yX8_in wsX8_in) := goodIn_app (goodIn_of _ (by decide +kernel)) ggX8_tried_X8_in
set_option maxRecDepth 20000 in
theorem ggX8_tried_X8_noWhat : GoodIn wsX8_tried wsX8_noWhat := goodIn_r _ [20, 21, 10, 11, 7, 12] (by decide +kernel) (by decide +kernel)
set_option maxRecDepth 20000 in
theorem gX8_tried_X8_noWhat : GoodIn wsX8_tried (wsV RX8 182 RX8 yX8_noWhat wsX8_noWhat) := goodIn_app (goodIn_of _ (by decide +kernel)) ggX8_tried_X8_noWhat
set_option maxRecDepth 20000 in
theorem ggX8_tried_X8_live : GoodIn wsX8_tried wsX8_live := goodIn_r _ [25, 26, 27, 28, 29, 7, 30, 31, 32, 33, 34, 4, 35, 36, 37, 38, 39, 40, 41, 42, 43, 44, 45, 46, 47, 48, 49, 50, 51, 52, 53, 54, 55, 56, 57, 58, 59, 60, 61, 62, 63, 10, 11, 12, 64, 65, 66, 67, 68, 69, 70, 71, 72, 73, 74, 75, 80, 81, 82, 83, 84, 85, 86, 87, 88, 89, 90, 91, 92, 93, 94, 95, 96, 97, 98, 99, 100, 101, 102, 103, 104, 105, 106, 107, 108, 109, 110, 111, 112, 113, 114, 115] (by decide +kernel) (by decide +kernel)
set_option maxRecDepth 20000 in
theorem gX8_tried_X8_live : GoodIn wsX8_tried (wsV RX8 177 RX8 yX8_live wsX8_live) := goodIn_app (goodIn_of _ (by decide +kernel)) ggX8_tried_X8_live
set_option maxRecDepth 20000 in
theorem ggX8_tried_X8_seen : GoodIn wsX8_tried wsX8_seen := goodIn_r _ [79, 36, 38, 37, 80, 81, 82, 83, 84, 85, 86, 87, 88, 89, 90, 91, 92, 93, 94, 95, 96, 97, 98, 99, 100, 101, 102, 103, 104, 105, 106, 107, 108, 109, 110, 111, 112, 113, 114, 115] (by decide +kernel) (by decide +kernel)
set_option maxRecDepth 20000 in
theorem gX8_tried_X8_seen : GoodIn wsX8_tried (wsV RX8 189 RX8 yX8_seen wsX8_seen) := goodIn_app (goodIn_of _ (by decide +kernel)) ggX8_tried_X8_seen
theorem dX8_tried_0 : decode cX8_tried 0 = .ok (.aload_n 0, 1) := by decide +kernel
theorem dX8_tried_1 : decode cX8_tried 1 = .ok (.iconst 0, 1) := by decide +kernel
theorem dX8_tried_2 : decode cX8_tried 2 = .ok (.putfield 100, 3) := by decide +kernel
theorem dX8_tried_5 : decode cX8_tried 5 = .ok (.iload_n 1, 1) := by decide +kernel
theorem dX8_tried_6 : decode cX8_tried 6 = .ok (.invokestatic 248, 3) := by decide +kernel
theorem dX8_tried_9 : decode cX8_tried 9 = .ok (.ifCond .ne 10, 3) := by decide +kernel
theorem dX8_tried_12 : decode cX8_tried 12 = .ok (.iload_n 3, 1) := by decide +kernel
theorem dX8_tried_13 : decode cX8_tried 13 = .ok (.invokestatic 124, 3) := by decide +kernel
theorem dX8_tried_16 : decode cX8_tried 16 = .ok (.ifCond .eq 5, 3) := by decide +kernel
theorem dX8_tried_19 : decode cX8_tried 19 = .ok (.iconst (-1), 1) := by decide +kernel
theorem dX8_tried_20 : decode cX8_tried 20 = .ok (.ireturn, 1) := by decide +kernel
theorem dX8_tried_21 : decode cX8_tried 21 = .ok (.aload_n 0, 1) := by decide +kernel
theorem dX8_tried_22 : decode cX8_tried 22 = .ok (.getfield 37, 3) := by decide +kernel
theorem dX8_tried_25 : decode cX8_tried 25 = .ok (.iload_n 1, 1) := by decide +kernel
theorem dX8_tried_26 : decode cX8_tried 26 = .ok (.baload, 1) := by decide +kernel
theorem dX8_tried_27 : decode cX8_tried 27 = .ok (.ifCond .ne 6, 3) := by decide +kernel
theorem dX8_tried_30 : decode cX8_tried 30 = .ok (.bipush (-3), 2) := by decide +kernel
theorem dX8_tried_32 : decode cX8_tried 32 = .ok (.ireturn, 1) := by decide +kernel
theorem dX8_tried_33 : decode cX8_tried 33 = .ok (.iload_n 2, 1) := by decide +kernel
theorem dX8_tried_34 : decode cX8_tried 34 = .ok (.i2l, 1) := by decide +kernel
theorem dX8_tried_35 : decode cX8_tried 35 = .ok (.lconst 1, 1) := by decide +kernel
theorem dX8_tried_36 : decode cX8_tried 36 = .ok (.ldc2_w 127, 3) := by decide +kernel
theorem dX8_tried_39 : decode cX8_tried 39 = .ok (.invokestatic 103, 3) := by decide +kernel
theorem dX8_tried_42 : decode cX8_tried 42 = .ok (.ifCond .eq 18, 3) := by decide +kernel
theorem dX8_tried_45 : decode cX8_tried 45 = .ok (.aload_n 0, 1) := by decide +kernel
theorem dX8_tried_46 : decode cX8_tried 46 = .ok (.iload 4, 2) := by decide +kernel
theorem dX8_tried_48 : decode cX8_tried 48 = .ok (.aload_n 0, 1) := by decide +kernel
theorem dX8_tried_49 : decode cX8_tried 49 = .ok (.getfield 16, 3) := by decide +kernel
theorem dX8_tried_52 : decode cX8_tried 52 = .ok (.iload_n 1, 1) := by decide +kernel
theorem dX8_tried_53 : decode cX8_tried 53 = .ok (.iaload, 1) := by decide +kernel
theorem dX8_tried_54 : decode cX8_tried 54 = .ok (.invokevirtual 182, 3) := by decide +kernel
theorem dX8_tried_57 : decode cX8_tried 57 = .ok (.ifCond .eq 6, 3) := by decide +kernel
theorem dX8_tried_60 : decode cX8_tried 60 = .ok (.bipush (-2), 2) := by decide +kernel
theorem dX8_tried_62 : decode cX8_tried 62 = .ok (.ireturn, 1) := by decide +kernel
theorem dX8_tried_63 : decode cX8_tried 63 = .ok (.aload_n 0, 1) := by decide +kernel
theorem dX8_tried_64 : decode cX8_tried 64 = .ok (.iload_n 1, 1) := by decide +kernel
theorem dX8_tried_65 : decode cX8_tried 65 = .ok (.iload_n 3, 1) := by decide +kernel
theorem dX8_tried_66 : decode cX8_tried 66 = .ok (.iload_n 2, 1) := by decide +kernel
theorem dX8_tried_67 : decode cX8_tried 67 = .ok (.invokevirtual 177, 3) := by decide +kernel
theorem dX8_tried_70 : decode cX8_tried 70 = .ok (.aload_n 0, 1) := by decide +kernel
theorem dX8_tried_71 : decode cX8_tried 71 = .ok (.iload 4, 2) := by decide +kernel
theorem dX8_tried_73 : decode cX8_tried 73 = .ok (.invokevirtual 189, 3) := by decide +kernel
theorem dX8_tried_76 : decode cX8_tried 76 = .ok (.ireturn, 1) := by decide +kernel
set_option maxRecDepth 20000 in
theorem ggX8_differs_X8_noSlot : GoodIn wsX8_differs wsX8_noSlot := goodIn_r _ [11, 12, 13, 14, 10, 15] (by decide +kernel) (by decide +kernel)
set_option maxRecDepth 20000 in
theorem gX8_differs_X8_noSlot : GoodIn wsX8_differs (va_wsS RX8 248 yX8_noSlot wsX8_noSlot) := goodIn_app (goodIn_of _ (by decide +kernel)) ggX8_differs_X8_noSlot
set_option maxRecDepth 20000 in
theorem ggX8_differs_X8_in : GoodIn wsX8_differs wsX8_in := goodIn_r _ [15] (by decide +kernel) (by decide +kernel)
set_option maxRecDepth 20000 in
theorem gX8_differs_X8_in : GoodIn wsX8_differs (va_wsS RX8 103 yX8_in wsX8_in) := goodIn_app (goodIn_of _ (by decide +kernel)) ggX8_differs_X8_in
set_option maxRecDepth 20000 in
theorem ggX8_differs_X8_start : GoodIn wsX8_differs wsX8_start := goodIn_r _ [19, 20, 21, 22, 23, 24, 25, 26, 27, 28, 73, 74, 75, 76, 77, 78, 79, 80, 81, 82, 83, 84, 85, 86, 87, 88, 89, 90, 91, 92, 93, 94, 95, 96, 97, 98, 99, 100, 101, 102, 103, 104, 105, 106, 107, 108] (by decide +kernel) (by decide +kernel)
set_option maxRecDepth 20000 in
theorem gX8_differs_X8_start : GoodIn wsX8_differs (wsV RX8 169 RX8 yX8_start wsX8_start) := goodIn_app (goodIn_of _ (by decide +kernel)) ggX8_differs_X8_start
set_option maxRecDepth 20000 in
theorem ggX8_differs_X8_step : GoodIn wsX8_differs wsX8_step := goodIn_r _ [32, 25, 33, 28, 34, 35, 21, 26, 27, 36, 37, 38, 10, 39, 40, 41, 42, 43, 44, 45, 46, 47, 48, 49, 50, 51, 52, 53, 23, 13, 14, 15, 54, 55, 56, 57, 58, 59, 60, 61, 62, 63, 64, 65, 73, 74, 75, 76, 77, 78, 79, 80, 81, 82, 83, 84, 85, 86, 87, 88, 89, 90, 91, 92, 93, 94, 95, 96, 97, 98, 99, 100, 101, 102, 103, 104, 105, 106, 107, 108] (by decide +kernel) (by decide +kernel)
set_option maxRecDepth 20000 in
theorem gX8_differs_X8_step : GoodIn wsX8_differs (wsV RX8 173 RX8 yX8_step wsX8_step) := goodIn_app (goodIn_of _ (by decide +kernel)) ggX8_differs_X8_step
set_option maxRecDepth 20000 in
theorem ggX8_differs_X8_write : GoodIn wsX8_differs wsX8_write := goodIn_r _ [69, 26, 27, 28, 73, 74, 75, 76, 77, 78, 79, 80, 81, 82, 83, 84, 85, 86, 87, 88, 89, 90, 91, 92, 93, 94, 95, 96, 97, 98, 99, 100, 101, 102, 103, 104, 105, 106, 107, 108] (by decide +kernel) (by decide +kernel)
set_option maxRecDepth 20000 in
theorem gX8_differs_X8_write : GoodIn wsX8_differs (wsV RX8 209 RX8 yX8_write wsX8_write) := goodIn_app (goodIn_of _ (by decide +kernel)) ggX8_differs_X8_write
set_option maxRecDepth 20000 in
theorem ggX8_differs_X8_isLike : GoodIn wsX8_differs wsX8_isLike := goodIn_r _ [72] (by decide +kernel) (by decide +kernel)
set_option maxRecDepth 20000 in
theorem gX8_differs_X8_isLike : GoodIn wsX8_differs (va_wsS RX8 213 yX8_isLike wsX8_isLike) := goodIn_app (goodIn_of _ (by decide +kernel)) ggX8_differs_X8_isLike
theorem dX8_differs_0 : decode cX8_differs 0 = .ok (.aload_n 0, 1) := by decide +kernel
theorem dX8_differs_1 : decode cX8_differs 1 = .ok (.iconst 0, 1) := by decide +kernel
theorem dX8_differs_2 : decode cX8_differs 2 = .ok (.putfield 100, 3) := by decide +kernel
theorem dX8_differs_5 : decode cX8_differs 5 = .ok (.iload_n 1, 1) := by decide +kernel
theorem dX8_differs_6 : decode cX8_differs 6 = .ok (.invokestatic 248, 3) := by decide +kernel
theorem dX8_differs_9 : decode cX8_differs 9 = .ok (.ifCond .eq 5, 3) := by decide +kernel
theorem dX8_differs_12 : decode cX8_differs 12 = .ok (.iconst (-1), 1) := by decide +kernel
theorem dX8_differs_13 : decode cX8_differs 13 = .ok (.ireturn, 1) := by decide +kernel
theorem dX8_differs_14 : decode cX8_differs 14 = .ok (.aload_n 0, 1) := by decide +kernel
theorem dX8_differs_15 : decode cX8_differs 15 = .ok (.getfield 37, 3) := by decide +kernel
theorem dX8_differs_18 : decode cX8_differs 18 = .ok (.iload_n 1, 1) := by decide +kernel
theorem dX8_differs_19 : decode cX8_differs 19 = .ok (.baload, 1) := by decide +kernel
theorem dX8_differs_20 : decode cX8_differs 20 = .ok (.ifCond .ne 6, 3) := by decide +kernel
theorem dX8_differs_23 : decode cX8_differs 23 = .ok (.bipush (-3), 2) := by decide +kernel
theorem dX8_differs_25 : decode cX8_differs 25 = .ok (.ireturn, 1) := by decide +kernel
theorem dX8_differs_26 : decode cX8_differs 26 = .ok (.iload_n 2, 1) := by decide +kernel
theorem dX8_differs_27 : decode cX8_differs 27 = .ok (.i2l, 1) := by decide +kernel
theorem dX8_differs_28 : decode cX8_differs 28 = .ok (.lconst 1, 1) := by decide +kernel
theorem dX8_differs_29 : decode cX8_differs 29 = .ok (.ldc2_w 127, 3) := by decide +kernel
theorem dX8_differs_32 : decode cX8_differs 32 = .ok (.invokestatic 103, 3) := by decide +kernel
theorem dX8_differs_35 : decode cX8_differs 35 = .ok (.ifCond .ne 6, 3) := by decide +kernel
theorem dX8_differs_38 : decode cX8_differs 38 = .ok (.bipush (-2), 2) := by decide +kernel
theorem dX8_differs_40 : decode cX8_differs 40 = .ok (.ireturn, 1) := by decide +kernel
theorem dX8_differs_41 : decode cX8_differs 41 = .ok (.aload_n 0, 1) := by decide +kernel
theorem dX8_differs_42 : decode cX8_differs 42 = .ok (.iload_n 1, 1) := by decide +kernel
theorem dX8_differs_43 : decode cX8_differs 43 = .ok (.invokevirtual 169, 3) := by decide +kernel
theorem dX8_differs_46 : decode cX8_differs 46 = .ok (.iconst 0, 1) := by decide +kernel
theorem dX8_differs_47 : decode cX8_differs 47 = .ok (.istore_n 3, 1) := by decide +kernel
theorem dX8_differs_48 : decode cX8_differs 48 = .ok (.iload_n 3, 1) := by decide +kernel
theorem dX8_differs_49 : decode cX8_differs 49 = .ok (.bipush 100, 2) := by decide +kernel
theorem dX8_differs_51 : decode cX8_differs 51 = .ok (.if_icmp .ge 42, 3) := by decide +kernel
theorem dX8_differs_54 : decode cX8_differs 54 = .ok (.aload_n 0, 1) := by decide +kernel
theorem dX8_differs_55 : decode cX8_differs 55 = .ok (.iload_n 1, 1) := by decide +kernel
theorem dX8_differs_56 : decode cX8_differs 56 = .ok (.iload_n 3, 1) := by decide +kernel
theorem dX8_differs_57 : decode cX8_differs 57 = .ok (.aload_n 0, 1) := by decide +kernel
theorem dX8_differs_58 : decode cX8_differs 58 = .ok (.getfield 28, 3) := by decide +kernel
theorem dX8_differs_61 : decode cX8_differs 61 = .ok (.sipush 600, 3) := by decide +kernel
theorem dX8_differs_64 : decode cX8_differs 64 = .ok (.iload_n 1, 1) := by decide +kernel
theorem dX8_differs_65 : decode cX8_differs 65 = .ok (.imul, 1) := by decide +kernel
theorem dX8_differs_66 : decode cX8_differs 66 = .ok (.aload_n 0, 1) := by decide +kernel
theorem dX8_differs_67 : decode cX8_differs 67 = .ok (.getfield 19, 3) := by decide +kernel
theorem dX8_differs_70 : decode cX8_differs 70 = .ok (.iload_n 1, 1) := by decide +kernel
theorem dX8_differs_71 : decode cX8_differs 71 = .ok (.iaload, 1) := by decide +kernel
theorem dX8_differs_72 : decode cX8_differs 72 = .ok (.invokevirtual 173, 3) := by decide +kernel
theorem dX8_differs_75 : decode cX8_differs 75 = .ok (.aload_n 0, 1) := by decide +kernel
theorem dX8_differs_76 : decode cX8_differs 76 = .ok (.aload_n 0, 1) := by decide +kernel
theorem dX8_differs_77 : decode cX8_differs 77 = .ok (.getfield 72, 3) := by decide +kernel
theorem dX8_differs_80 : decode cX8_differs 80 = .ok (.bipush 13, 2) := by decide +kernel
theorem dX8_differs_82 : decode cX8_differs 82 = .ok (.iload_n 3, 1) := by decide +kernel
theorem dX8_differs_83 : decode cX8_differs 83 = .ok (.imul, 1) := by decide +kernel
theorem dX8_differs_84 : decode cX8_differs 84 = .ok (.invokevirtual 209, 3) := by decide +kernel
theorem dX8_differs_87 : decode cX8_differs 87 = .ok (.iinc 3 1, 3) := by decide +kernel
theorem dX8_differs_90 : decode cX8_differs 90 = .ok (.goto (-42), 3) := by decide +kernel
theorem dX8_differs_93 : decode cX8_differs 93 = .ok (.aload_n 0, 1) := by decide +kernel
theorem dX8_differs_94 : decode cX8_differs 94 = .ok (.iload_n 1, 1) := by decide +kernel
theorem dX8_differs_95 : decode cX8_differs 95 = .ok (.invokevirtual 169, 3) := by decide +kernel
theorem dX8_differs_98 : decode cX8_differs 98 = .ok (.iconst 0, 1) := by decide +kernel
theorem dX8_differs_99 : decode cX8_differs 99 = .ok (.istore_n 3, 1) := by decide +kernel
theorem dX8_differs_100 : decode cX8_differs 100 = .ok (.iload_n 3, 1) := by decide +kernel
theorem dX8_differs_101 : decode cX8_differs 101 = .ok (.bipush 100, 2) := by decide +kernel
theorem dX8_differs_103 : decode cX8_differs 103 = .ok (.if_icmp .ge 55, 3) := by decide +kernel
theorem dX8_differs_106 : decode cX8_differs 106 = .ok (.aload_n 0, 1) := by decide +kernel
theorem dX8_differs_107 : decode cX8_differs 107 = .ok (.iload_n 1, 1) := by decide +kernel
theorem dX8_differs_108 : decode cX8_differs 108 = .ok (.iload_n 3, 1) := by decide +kernel
theorem dX8_differs_109 : decode cX8_differs 109 = .ok (.aload_n 0, 1) := by decide +kernel
theorem dX8_differs_110 : decode cX8_differs 110 = .ok (.getfield 28, 3) := by decide +kernel
theorem dX8_differs_113 : decode cX8_differs 113 = .ok (.sipush 600, 3) := by decide +kernel
theorem dX8_differs_116 : decode cX8_differs 116 = .ok (.iload_n 1, 1) := by decide +kernel
theorem dX8_differs_117 : decode cX8_differs 117 = .ok (.imul, 1) := by decide +kernel
theorem dX8_differs_118 : decode cX8_differs 118 = .ok (.iload_n 2, 1) := by decide +kernel
theorem dX8_differs_119 : decode cX8_differs 119 = .ok (.invokevirtual 173, 3) := by decide +kernel
theorem dX8_differs_122 : decode cX8_differs 122 = .ok (.aload_n 0, 1) := by decide +kernel
theorem dX8_differs_123 : decode cX8_differs 123 = .ok (.aload_n 0, 1) := by decide +kernel
theorem dX8_differs_124 : decode cX8_differs 124 = .ok (.getfield 63, 3) := by decide +kernel
theorem dX8_differs_127 : decode cX8_differs 127 = .ok (.iconst 0, 1) := by decide +kernel
theorem dX8_differs_128 : decode cX8_differs 128 = .ok (.invokevirtual 209, 3) := by decide +kernel
theorem dX8_differs_131 : decode cX8_differs 131 = .ok (.aload_n 0, 1) := by decide +kernel
theorem dX8_differs_132 : decode cX8_differs 132 = .ok (.getfield 63, 3) := by decide +kernel
theorem dX8_differs_135 : decode cX8_differs 135 = .ok (.iconst 0, 1) := by decide +kernel
theorem dX8_differs_136 : decode cX8_differs 136 = .ok (.aload_n 0, 1) := by decide +kernel
theorem dX8_differs_137 : decode cX8_differs 137 = .ok (.getfield 72, 3) := by decide +kernel
theorem dX8_differs_140 : decode cX8_differs 140 = .ok (.bipush 13, 2) := by decide +kernel
theorem dX8_differs_142 : decode cX8_differs 142 = .ok (.iload_n 3, 1) := by decide +kernel
theorem dX8_differs_143 : decode cX8_differs 143 = .ok (.imul, 1) := by decide +kernel
theorem dX8_differs_144 : decode cX8_differs 144 = .ok (.invokestatic 213, 3) := by decide +kernel
theorem dX8_differs_147 : decode cX8_differs 147 = .ok (.ifCond .ne 5, 3) := by decide +kernel
theorem dX8_differs_150 : decode cX8_differs 150 = .ok (.iload_n 3, 1) := by decide +kernel
theorem dX8_differs_151 : decode cX8_differs 151 = .ok (.ireturn, 1) := by decide +kernel
theorem dX8_differs_152 : decode cX8_differs 152 = .ok (.iinc 3 1, 3) := by decide +kernel
theorem dX8_differs_155 : decode cX8_differs 155 = .ok (.goto (-55), 3) := by decide +kernel
theorem dX8_differs_158 : decode cX8_differs 158 = .ok (.bipush (-9), 2) := by decide +kernel
theorem dX8_differs_160 : decode cX8_differs 160 = .ok (.ireturn, 1) := by decide +kernel
set_option maxRecDepth 20000 in
theorem ggX8_count_X8_presses : GoodIn wsX8_count wsX8_presses := goodIn_r _ [14, 2, 15, 16, 17, 18, 19, 20, 21, 22, 23, 24, 25, 26, 27, 28, 29, 30, 31, 32, 33, 34, 35, 36, 37, 38, 39, 40, 41, 42, 43, 44, 45, 46, 47, 48, 49, 50, 51] (by decide +kernel) (by decide +kernel)
set_option maxRecDepth 20000 in
theorem gX8_count_X8_presses : GoodIn wsX8_count (wsV RX8 254 RX8 yX8_presses wsX8_presses) := goodIn_app (goodIn_of _ (by decide +kernel)) ggX8_count_X8_presses
theorem dX8_count_0 : decode cX8_count 0 = .ok (.aload_n 0, 1) := by decide +kernel
theorem dX8_count_1 : decode cX8_count 1 = .ok (.iconst 0, 1) := by decide +kernel
theorem dX8_count_2 : decode cX8_count 2 = .ok (.putfield 100, 3) := by decide +kernel
theorem dX8_count_5 : decode cX8_count 5 = .ok (.iconst 0, 1) := by decide +kernel
theorem dX8_count_6 : decode cX8_count 6 = .ok (.istore_n 2, 1) := by decide +kernel
theorem dX8_count_7 : decode cX8_count 7 = .ok (.iconst 0, 1) := by decide +kernel
theorem dX8_count_8 : decode cX8_count 8 = .ok (.istore_n 3, 1) := by decide +kernel
theorem dX8_count_9 : decode cX8_count 9 = .ok (.iconst 0, 1) := by decide +kernel
theorem dX8_count_10 : decode cX8_count 10 = .ok (.istore 4, 2) := by decide +kernel
theorem dX8_count_12 : decode cX8_count 12 = .ok (.iconst 0, 1) := by decide +kernel
theorem dX8_count_13 : decode cX8_count 13 = .ok (.istore 5, 2) := by decide +kernel
theorem dX8_count_15 : decode cX8_count 15 = .ok (.iload 5, 2) := by decide +kernel
theorem dX8_count_17 : decode cX8_count 17 = .ok (.bipush 100, 2) := by decide +kernel
theorem dX8_count_19 : decode cX8_count 19 = .ok (.aload_n 0, 1) := by decide +kernel
theorem dX8_count_20 : decode cX8_count 20 = .ok (.getfield 16, 3) := by decide +kernel
theorem dX8_count_23 : decode cX8_count 23 = .ok (.iconst 4, 1) := by decide +kernel
theorem dX8_count_24 : decode cX8_count 24 = .ok (.iaload, 1) := by decide +kernel
theorem dX8_count_25 : decode cX8_count 25 = .ok (.imul, 1) := by decide +kernel
theorem dX8_count_26 : decode cX8_count 26 = .ok (.if_icmp .ge 27, 3) := by decide +kernel
theorem dX8_count_29 : decode cX8_count 29 = .ok (.iload_n 2, 1) := by decide +kernel
theorem dX8_count_30 : decode cX8_count 30 = .ok (.aload_n 0, 1) := by decide +kernel
theorem dX8_count_31 : decode cX8_count 31 = .ok (.getfield 54, 3) := by decide +kernel
theorem dX8_count_34 : decode cX8_count 34 = .ok (.iload 5, 2) := by decide +kernel
theorem dX8_count_36 : decode cX8_count 36 = .ok (.baload, 1) := by decide +kernel
theorem dX8_count_37 : decode cX8_count 37 = .ok (.ifCond .eq 7, 3) := by decide +kernel
theorem dX8_count_40 : decode cX8_count 40 = .ok (.iconst 1, 1) := by decide +kernel
theorem dX8_count_41 : decode cX8_count 41 = .ok (.goto 4, 3) := by decide +kernel
theorem dX8_count_44 : decode cX8_count 44 = .ok (.iconst 0, 1) := by decide +kernel
theorem dX8_count_45 : decode cX8_count 45 = .ok (.iadd, 1) := by decide +kernel
theorem dX8_count_46 : decode cX8_count 46 = .ok (.istore_n 2, 1) := by decide +kernel
theorem dX8_count_47 : decode cX8_count 47 = .ok (.iinc 5 1, 3) := by decide +kernel
theorem dX8_count_50 : decode cX8_count 50 = .ok (.goto (-35), 3) := by decide +kernel
theorem dX8_count_53 : decode cX8_count 53 = .ok (.iconst 0, 1) := by decide +kernel
theorem dX8_count_54 : decode cX8_count 54 = .ok (.istore 5, 2) := by decide +kernel
theorem dX8_count_56 : decode cX8_count 56 = .ok (.iload 5, 2) := by decide +kernel
theorem dX8_count_58 : decode cX8_count 58 = .ok (.aload_n 0, 1) := by decide +kernel
theorem dX8_count_59 : decode cX8_count 59 = .ok (.getfield 16, 3) := by decide +kernel
theorem dX8_count_62 : decode cX8_count 62 = .ok (.iconst 4, 1) := by decide +kernel
theorem dX8_count_63 : decode cX8_count 63 = .ok (.iaload, 1) := by decide +kernel
theorem dX8_count_64 : decode cX8_count 64 = .ok (.if_icmp .ge 33, 3) := by decide +kernel
theorem dX8_count_67 : decode cX8_count 67 = .ok (.iload_n 3, 1) := by decide +kernel
theorem dX8_count_68 : decode cX8_count 68 = .ok (.aload_n 0, 1) := by decide +kernel
theorem dX8_count_69 : decode cX8_count 69 = .ok (.getfield 34, 3) := by decide +kernel
theorem dX8_count_72 : decode cX8_count 72 = .ok (.bipush 24, 2) := by decide +kernel
theorem dX8_count_74 : decode cX8_count 74 = .ok (.iload 5, 2) := by decide +kernel
theorem dX8_count_76 : decode cX8_count 76 = .ok (.iadd, 1) := by decide +kernel
theorem dX8_count_77 : decode cX8_count 77 = .ok (.iaload, 1) := by decide +kernel
theorem dX8_count_78 : decode cX8_count 78 = .ok (.aload_n 0, 1) := by decide +kernel
theorem dX8_count_79 : decode cX8_count 79 = .ok (.getfield 31, 3) := by decide +kernel
theorem dX8_count_82 : decode cX8_count 82 = .ok (.bipush 24, 2) := by decide +kernel
theorem dX8_count_84 : decode cX8_count 84 = .ok (.iload 5, 2) := by decide +kernel
theorem dX8_count_86 : decode cX8_count 86 = .ok (.iadd, 1) := by decide +kernel
theorem dX8_count_87 : decode cX8_count 87 = .ok (.iaload, 1) := by decide +kernel
theorem dX8_count_88 : decode cX8_count 88 = .ok (.isub, 1) := by decide +kernel
theorem dX8_count_89 : decode cX8_count 89 = .ok (.iadd, 1) := by decide +kernel
theorem dX8_count_90 : decode cX8_count 90 = .ok (.istore_n 3, 1) := by decide +kernel
theorem dX8_count_91 : decode cX8_count 91 = .ok (.iinc 5 1, 3) := by decide +kernel
theorem dX8_count_94 : decode cX8_count 94 = .ok (.goto (-38), 3) := by decide +kernel
theorem dX8_count_97 : decode cX8_count 97 = .ok (.iconst 0, 1) := by decide +kernel
theorem dX8_count_98 : decode cX8_count 98 = .ok (.istore 5, 2) := by decide +kernel
theorem dX8_count_100 : decode cX8_count 100 = .ok (.iload 5, 2) := by decide +kernel
theorem dX8_count_102 : decode cX8_count 102 = .ok (.iconst 4, 1) := by decide +kernel
theorem dX8_count_103 : decode cX8_count 103 = .ok (.if_icmp .ge 29, 3) := by decide +kernel
theorem dX8_count_106 : decode cX8_count 106 = .ok (.iload 4, 2) := by decide +kernel
theorem dX8_count_108 : decode cX8_count 108 = .ok (.aload_n 0, 1) := by decide +kernel
theorem dX8_count_109 : decode cX8_count 109 = .ok (.getfield 37, 3) := by decide +kernel
theorem dX8_count_112 : decode cX8_count 112 = .ok (.iload 5, 2) := by decide +kernel
theorem dX8_count_114 : decode cX8_count 114 = .ok (.baload, 1) := by decide +kernel
theorem dX8_count_115 : decode cX8_count 115 = .ok (.ifCond .eq 7, 3) := by decide +kernel
theorem dX8_count_118 : decode cX8_count 118 = .ok (.iconst 1, 1) := by decide +kernel
theorem dX8_count_119 : decode cX8_count 119 = .ok (.goto 4, 3) := by decide +kernel
theorem dX8_count_122 : decode cX8_count 122 = .ok (.iconst 0, 1) := by decide +kernel
theorem dX8_count_123 : decode cX8_count 123 = .ok (.iadd, 1) := by decide +kernel
theorem dX8_count_124 : decode cX8_count 124 = .ok (.istore 4, 2) := by decide +kernel
theorem dX8_count_126 : decode cX8_count 126 = .ok (.iinc 5 1, 3) := by decide +kernel
theorem dX8_count_129 : decode cX8_count 129 = .ok (.goto (-29), 3) := by decide +kernel
theorem dX8_count_132 : decode cX8_count 132 = .ok (.iload_n 1, 1) := by decide +kernel
theorem dX8_count_133 : decode cX8_count 133 = .ok (.tableswitch 85 0 7 #[47, 54, 61, 68, 73, 75, 77, 82], 47) := by decide +kernel
theorem dX8_count_180 : decode cX8_count 180 = .ok (.aload_n 0, 1) := by decide +kernel
theorem dX8_count_181 : decode cX8_count 181 = .ok (.getfield 16, 3) := by decide +kernel
theorem dX8_count_184 : decode cX8_count 184 = .ok (.iconst 4, 1) := by decide +kernel
theorem dX8_count_185 : decode cX8_count 185 = .ok (.iaload, 1) := by decide +kernel
theorem dX8_count_186 : decode cX8_count 186 = .ok (.ireturn, 1) := by decide +kernel
theorem dX8_count_187 : decode cX8_count 187 = .ok (.aload_n 0, 1) := by decide +kernel
theorem dX8_count_188 : decode cX8_count 188 = .ok (.getfield 7, 3) := by decide +kernel
theorem dX8_count_191 : decode cX8_count 191 = .ok (.iconst 4, 1) := by decide +kernel
theorem dX8_count_192 : decode cX8_count 192 = .ok (.iaload, 1) := by decide +kernel
theorem dX8_count_193 : decode cX8_count 193 = .ok (.ireturn, 1) := by decide +kernel
theorem dX8_count_194 : decode cX8_count 194 = .ok (.aload_n 0, 1) := by decide +kernel
theorem dX8_count_195 : decode cX8_count 195 = .ok (.getfield 13, 3) := by decide +kernel
theorem dX8_count_198 : decode cX8_count 198 = .ok (.iconst 4, 1) := by decide +kernel
theorem dX8_count_199 : decode cX8_count 199 = .ok (.iaload, 1) := by decide +kernel
theorem dX8_count_200 : decode cX8_count 200 = .ok (.ireturn, 1) := by decide +kernel
theorem dX8_count_201 : decode cX8_count 201 = .ok (.aload_n 0, 1) := by decide +kernel
theorem dX8_count_202 : decode cX8_count 202 = .ok (.invokevirtual 254, 3) := by decide +kernel
theorem dX8_count_205 : decode cX8_count 205 = .ok (.ireturn, 1) := by decide +kernel
theorem dX8_count_206 : decode cX8_count 206 = .ok (.iload_n 2, 1) := by decide +kernel
theorem dX8_count_207 : decode cX8_count 207 = .ok (.ireturn, 1) := by decide +kernel
theorem dX8_count_208 : decode cX8_count 208 = .ok (.iload_n 3, 1) := by decide +kernel
theorem dX8_count_209 : decode cX8_count 209 = .ok (.ireturn, 1) := by decide +kernel
theorem dX8_count_210 : decode cX8_count 210 = .ok (.aload_n 0, 1) := by decide +kernel
theorem dX8_count_211 : decode cX8_count 211 = .ok (.getfield 228, 3) := by decide +kernel
theorem dX8_count_214 : decode cX8_count 214 = .ok (.ireturn, 1) := by decide +kernel
theorem dX8_count_215 : decode cX8_count 215 = .ok (.iload 4, 2) := by decide +kernel
theorem dX8_count_217 : decode cX8_count 217 = .ok (.ireturn, 1) := by decide +kernel
theorem dX8_count_218 : decode cX8_count 218 = .ok (.bipush (-2), 2) := by decide +kernel
theorem dX8_count_220 : decode cX8_count 220 = .ok (.ireturn, 1) := by decide +kernel
