/-! DECODED instructions (own program gendec.py) -/
theorem D10_init_0 : decode m10_init.2.1 0 = .ok (.aload_n 0, 1) := by decide +kernel
theorem D10_init_1 : decode m10_init.2.1 1 = .ok (.invokespecial 1, 3) := by decide +kernel
theorem D10_init_4 : decode m10_init.2.1 4 = .ok (.aload_n 0, 1) := by decide +kernel
theorem D10_init_5 : decode m10_init.2.1 5 = .ok (.sipush 700, 3) := by decide +kernel
theorem D10_init_8 : decode m10_init.2.1 8 = .ok (.newarray .int, 2) := by decide +kernel
theorem D10_init_10 : decode m10_init.2.1 10 = .ok (.putfield 7, 3) := by decide +kernel
theorem D10_init_13 : decode m10_init.2.1 13 = .ok (.aload_n 0, 1) := by decide +kernel
theorem D10_init_14 : decode m10_init.2.1 14 = .ok (.bipush 12, 2) := by decide +kernel
theorem D10_init_16 : decode m10_init.2.1 16 = .ok (.newarray .int, 2) := by decide +kernel
theorem D10_init_18 : decode m10_init.2.1 18 = .ok (.putfield 13, 3) := by decide +kernel
theorem D10_init_21 : decode m10_init.2.1 21 = .ok (.aload_n 0, 1) := by decide +kernel
theorem D10_init_22 : decode m10_init.2.1 22 = .ok (.bipush 10, 2) := by decide +kernel
theorem D10_init_24 : decode m10_init.2.1 24 = .ok (.newarray .int, 2) := by decide +kernel
theorem D10_init_26 : decode m10_init.2.1 26 = .ok (.putfield 16, 3) := by decide +kernel
theorem D10_init_29 : decode m10_init.2.1 29 = .ok (.aload_n 0, 1) := by decide +kernel
theorem D10_init_30 : decode m10_init.2.1 30 = .ok (.bipush 10, 2) := by decide +kernel
theorem D10_init_32 : decode m10_init.2.1 32 = .ok (.newarray .int, 2) := by decide +kernel
theorem D10_init_34 : decode m10_init.2.1 34 = .ok (.putfield 19, 3) := by decide +kernel
theorem D10_init_37 : decode m10_init.2.1 37 = .ok (.aload_n 0, 1) := by decide +kernel
theorem D10_init_38 : decode m10_init.2.1 38 = .ok (.bipush 20, 2) := by decide +kernel
theorem D10_init_40 : decode m10_init.2.1 40 = .ok (.newarray .int, 2) := by decide +kernel
theorem D10_init_42 : decode m10_init.2.1 42 = .ok (.putfield 22, 3) := by decide +kernel
theorem D10_init_45 : decode m10_init.2.1 45 = .ok (.aload_n 0, 1) := by decide +kernel
theorem D10_init_46 : decode m10_init.2.1 46 = .ok (.bipush 20, 2) := by decide +kernel
theorem D10_init_48 : decode m10_init.2.1 48 = .ok (.newarray .int, 2) := by decide +kernel
theorem D10_init_50 : decode m10_init.2.1 50 = .ok (.putfield 25, 3) := by decide +kernel
theorem D10_init_53 : decode m10_init.2.1 53 = .ok (.aload_n 0, 1) := by decide +kernel
theorem D10_init_54 : decode m10_init.2.1 54 = .ok (.bipush 20, 2) := by decide +kernel
theorem D10_init_56 : decode m10_init.2.1 56 = .ok (.newarray .int, 2) := by decide +kernel
theorem D10_init_58 : decode m10_init.2.1 58 = .ok (.putfield 28, 3) := by decide +kernel
theorem D10_init_61 : decode m10_init.2.1 61 = .ok (.aload_n 0, 1) := by decide +kernel
theorem D10_init_62 : decode m10_init.2.1 62 = .ok (.bipush 20, 2) := by decide +kernel
theorem D10_init_64 : decode m10_init.2.1 64 = .ok (.newarray .int, 2) := by decide +kernel
theorem D10_init_66 : decode m10_init.2.1 66 = .ok (.putfield 31, 3) := by decide +kernel
theorem D10_init_69 : decode m10_init.2.1 69 = .ok (.aload_n 0, 1) := by decide +kernel
theorem D10_init_70 : decode m10_init.2.1 70 = .ok (.bipush 20, 2) := by decide +kernel
theorem D10_init_72 : decode m10_init.2.1 72 = .ok (.newarray .int, 2) := by decide +kernel
theorem D10_init_74 : decode m10_init.2.1 74 = .ok (.putfield 34, 3) := by decide +kernel
theorem D10_init_77 : decode m10_init.2.1 77 = .ok (.aload_n 0, 1) := by decide +kernel
theorem D10_init_78 : decode m10_init.2.1 78 = .ok (.bipush 20, 2) := by decide +kernel
theorem D10_init_80 : decode m10_init.2.1 80 = .ok (.newarray .int, 2) := by decide +kernel
theorem D10_init_82 : decode m10_init.2.1 82 = .ok (.putfield 37, 3) := by decide +kernel
theorem D10_init_85 : decode m10_init.2.1 85 = .ok (.aload_n 0, 1) := by decide +kernel
theorem D10_init_86 : decode m10_init.2.1 86 = .ok (.bipush 16, 2) := by decide +kernel
theorem D10_init_88 : decode m10_init.2.1 88 = .ok (.newarray .int, 2) := by decide +kernel
theorem D10_init_90 : decode m10_init.2.1 90 = .ok (.putfield 40, 3) := by decide +kernel
theorem D10_init_93 : decode m10_init.2.1 93 = .ok (.aload_n 0, 1) := by decide +kernel
theorem D10_init_94 : decode m10_init.2.1 94 = .ok (.bipush 16, 2) := by decide +kernel
theorem D10_init_96 : decode m10_init.2.1 96 = .ok (.newarray .int, 2) := by decide +kernel
theorem D10_init_98 : decode m10_init.2.1 98 = .ok (.putfield 43, 3) := by decide +kernel
theorem D10_init_101 : decode m10_init.2.1 101 = .ok (.aload_n 0, 1) := by decide +kernel
theorem D10_init_102 : decode m10_init.2.1 102 = .ok (.bipush 16, 2) := by decide +kernel
theorem D10_init_104 : decode m10_init.2.1 104 = .ok (.newarray .int, 2) := by decide +kernel
theorem D10_init_106 : decode m10_init.2.1 106 = .ok (.putfield 46, 3) := by decide +kernel
theorem D10_init_109 : decode m10_init.2.1 109 = .ok (.aload_n 0, 1) := by decide +kernel
theorem D10_init_110 : decode m10_init.2.1 110 = .ok (.bipush 16, 2) := by decide +kernel
theorem D10_init_112 : decode m10_init.2.1 112 = .ok (.newarray .int, 2) := by decide +kernel
theorem D10_init_114 : decode m10_init.2.1 114 = .ok (.putfield 49, 3) := by decide +kernel
theorem D10_init_117 : decode m10_init.2.1 117 = .ok (.aload_n 0, 1) := by decide +kernel
theorem D10_init_118 : decode m10_init.2.1 118 = .ok (.bipush 6, 2) := by decide +kernel
theorem D10_init_120 : decode m10_init.2.1 120 = .ok (.newarray .int, 2) := by decide +kernel
theorem D10_init_122 : decode m10_init.2.1 122 = .ok (.putfield 52, 3) := by decide +kernel
theorem D10_init_125 : decode m10_init.2.1 125 = .ok (.aload_n 0, 1) := by decide +kernel
theorem D10_init_126 : decode m10_init.2.1 126 = .ok (.bipush 6, 2) := by decide +kernel
theorem D10_init_128 : decode m10_init.2.1 128 = .ok (.newarray .int, 2) := by decide +kernel
theorem D10_init_130 : decode m10_init.2.1 130 = .ok (.putfield 55, 3) := by decide +kernel
theorem D10_init_133 : decode m10_init.2.1 133 = .ok (.aload_n 0, 1) := by decide +kernel
theorem D10_init_134 : decode m10_init.2.1 134 = .ok (.sipush 128, 3) := by decide +kernel
theorem D10_init_137 : decode m10_init.2.1 137 = .ok (.newarray .int, 2) := by decide +kernel
theorem D10_init_139 : decode m10_init.2.1 139 = .ok (.putfield 58, 3) := by decide +kernel
theorem D10_init_142 : decode m10_init.2.1 142 = .ok (.aload_n 0, 1) := by decide +kernel
theorem D10_init_143 : decode m10_init.2.1 143 = .ok (.sipush 128, 3) := by decide +kernel
theorem D10_init_146 : decode m10_init.2.1 146 = .ok (.newarray .int, 2) := by decide +kernel
theorem D10_init_148 : decode m10_init.2.1 148 = .ok (.putfield 61, 3) := by decide +kernel
theorem D10_init_151 : decode m10_init.2.1 151 = .ok (.aload_n 0, 1) := by decide +kernel
theorem D10_init_152 : decode m10_init.2.1 152 = .ok (.iconst (-1), 1) := by decide +kernel
theorem D10_init_153 : decode m10_init.2.1 153 = .ok (.putfield 64, 3) := by decide +kernel
theorem D10_init_156 : decode m10_init.2.1 156 = .ok (.aload_n 0, 1) := by decide +kernel
theorem D10_init_157 : decode m10_init.2.1 157 = .ok (.bipush 7, 2) := by decide +kernel
theorem D10_init_159 : decode m10_init.2.1 159 = .ok (.newarray .long, 2) := by decide +kernel
theorem D10_init_161 : decode m10_init.2.1 161 = .ok (.putfield 68, 3) := by decide +kernel
theorem D10_init_164 : decode m10_init.2.1 164 = .ok (.aload_n 0, 1) := by decide +kernel
theorem D10_init_165 : decode m10_init.2.1 165 = .ok (.bipush 64, 2) := by decide +kernel
theorem D10_init_167 : decode m10_init.2.1 167 = .ok (.newarray .long, 2) := by decide +kernel
theorem D10_init_169 : decode m10_init.2.1 169 = .ok (.putfield 72, 3) := by decide +kernel
theorem D10_init_172 : decode m10_init.2.1 172 = .ok (.aload_n 0, 1) := by decide +kernel
theorem D10_init_173 : decode m10_init.2.1 173 = .ok (.bipush 23, 2) := by decide +kernel
theorem D10_init_175 : decode m10_init.2.1 175 = .ok (.newarray .int, 2) := by decide +kernel
theorem D10_init_177 : decode m10_init.2.1 177 = .ok (.putfield 75, 3) := by decide +kernel
theorem D10_init_180 : decode m10_init.2.1 180 = .ok (.aload_n 0, 1) := by decide +kernel
theorem D10_init_181 : decode m10_init.2.1 181 = .ok (.bipush 23, 2) := by decide +kernel
theorem D10_init_183 : decode m10_init.2.1 183 = .ok (.newarray .int, 2) := by decide +kernel
theorem D10_init_185 : decode m10_init.2.1 185 = .ok (.putfield 78, 3) := by decide +kernel
theorem D10_init_188 : decode m10_init.2.1 188 = .ok (.aload_n 0, 1) := by decide +kernel
theorem D10_init_189 : decode m10_init.2.1 189 = .ok (.bipush 23, 2) := by decide +kernel
theorem D10_init_191 : decode m10_init.2.1 191 = .ok (.newarray .int, 2) := by decide +kernel
theorem D10_init_193 : decode m10_init.2.1 193 = .ok (.putfield 81, 3) := by decide +kernel
theorem D10_init_196 : decode m10_init.2.1 196 = .ok (.aload_n 0, 1) := by decide +kernel
theorem D10_init_197 : decode m10_init.2.1 197 = .ok (.bipush 115, 2) := by decide +kernel
theorem D10_init_199 : decode m10_init.2.1 199 = .ok (.newarray .int, 2) := by decide +kernel
theorem D10_init_201 : decode m10_init.2.1 201 = .ok (.putfield 84, 3) := by decide +kernel
theorem D10_init_204 : decode m10_init.2.1 204 = .ok (.aload_n 0, 1) := by decide +kernel
theorem D10_init_205 : decode m10_init.2.1 205 = .ok (.sipush 230, 3) := by decide +kernel
theorem D10_init_208 : decode m10_init.2.1 208 = .ok (.newarray .int, 2) := by decide +kernel
theorem D10_init_210 : decode m10_init.2.1 210 = .ok (.putfield 87, 3) := by decide +kernel
theorem D10_init_213 : decode m10_init.2.1 213 = .ok (.aload_n 0, 1) := by decide +kernel
theorem D10_init_214 : decode m10_init.2.1 214 = .ok (.sipush 230, 3) := by decide +kernel
theorem D10_init_217 : decode m10_init.2.1 217 = .ok (.newarray .int, 2) := by decide +kernel
theorem D10_init_219 : decode m10_init.2.1 219 = .ok (.putfield 90, 3) := by decide +kernel
theorem D10_init_222 : decode m10_init.2.1 222 = .ok (.aload_n 0, 1) := by decide +kernel
theorem D10_init_223 : decode m10_init.2.1 223 = .ok (.sipush 230, 3) := by decide +kernel
theorem D10_init_226 : decode m10_init.2.1 226 = .ok (.newarray .int, 2) := by decide +kernel
theorem D10_init_228 : decode m10_init.2.1 228 = .ok (.putfield 93, 3) := by decide +kernel
theorem D10_init_231 : decode m10_init.2.1 231 = .ok (.aload_n 0, 1) := by decide +kernel
theorem D10_init_232 : decode m10_init.2.1 232 = .ok (.sipush 230, 3) := by decide +kernel
theorem D10_init_235 : decode m10_init.2.1 235 = .ok (.newarray .int, 2) := by decide +kernel
theorem D10_init_237 : decode m10_init.2.1 237 = .ok (.putfield 96, 3) := by decide +kernel
theorem D10_init_240 : decode m10_init.2.1 240 = .ok (.aload_n 0, 1) := by decide +kernel
theorem D10_init_241 : decode m10_init.2.1 241 = .ok (.sipush 230, 3) := by decide +kernel
theorem D10_init_244 : decode m10_init.2.1 244 = .ok (.newarray .int, 2) := by decide +kernel
theorem D10_init_246 : decode m10_init.2.1 246 = .ok (.putfield 99, 3) := by decide +kernel
theorem D10_init_249 : decode m10_init.2.1 249 = .ok (.aload_n 0, 1) := by decide +kernel
theorem D10_init_250 : decode m10_init.2.1 250 = .ok (.sipush 184, 3) := by decide +kernel
theorem D10_init_253 : decode m10_init.2.1 253 = .ok (.newarray .int, 2) := by decide +kernel
theorem D10_init_255 : decode m10_init.2.1 255 = .ok (.putfield 102, 3) := by decide +kernel
theorem D10_init_258 : decode m10_init.2.1 258 = .ok (.aload_n 0, 1) := by decide +kernel
theorem D10_init_259 : decode m10_init.2.1 259 = .ok (.bipush 10, 2) := by decide +kernel
theorem D10_init_261 : decode m10_init.2.1 261 = .ok (.newarray .int, 2) := by decide +kernel
theorem D10_init_263 : decode m10_init.2.1 263 = .ok (.putfield 105, 3) := by decide +kernel
theorem D10_init_266 : decode m10_init.2.1 266 = .ok (.aload_n 0, 1) := by decide +kernel
theorem D10_init_267 : decode m10_init.2.1 267 = .ok (.iconst 4, 1) := by decide +kernel
theorem D10_init_268 : decode m10_init.2.1 268 = .ok (.newarray .int, 2) := by decide +kernel
theorem D10_init_270 : decode m10_init.2.1 270 = .ok (.putfield 108, 3) := by decide +kernel
theorem D10_init_273 : decode m10_init.2.1 273 = .ok (.aload_n 0, 1) := by decide +kernel
theorem D10_init_274 : decode m10_init.2.1 274 = .ok (.bipush 8, 2) := by decide +kernel
theorem D10_init_276 : decode m10_init.2.1 276 = .ok (.newarray .int, 2) := by decide +kernel
theorem D10_init_278 : decode m10_init.2.1 278 = .ok (.putfield 111, 3) := by decide +kernel
theorem D10_init_281 : decode m10_init.2.1 281 = .ok (.aload_n 0, 1) := by decide +kernel
theorem D10_init_282 : decode m10_init.2.1 282 = .ok (.sipush 9216, 3) := by decide +kernel
theorem D10_init_285 : decode m10_init.2.1 285 = .ok (.newarray .int, 2) := by decide +kernel
theorem D10_init_287 : decode m10_init.2.1 287 = .ok (.putfield 114, 3) := by decide +kernel
theorem D10_init_290 : decode m10_init.2.1 290 = .ok (.aload_n 0, 1) := by decide +kernel
theorem D10_init_291 : decode m10_init.2.1 291 = .ok (.iconst (-1), 1) := by decide +kernel
theorem D10_init_292 : decode m10_init.2.1 292 = .ok (.putfield 117, 3) := by decide +kernel
theorem D10_init_295 : decode m10_init.2.1 295 = .ok (.aload_n 0, 1) := by decide +kernel
theorem D10_init_296 : decode m10_init.2.1 296 = .ok (.bipush 24, 2) := by decide +kernel
theorem D10_init_298 : decode m10_init.2.1 298 = .ok (.newarray .int, 2) := by decide +kernel
theorem D10_init_300 : decode m10_init.2.1 300 = .ok (.putfield 120, 3) := by decide +kernel
theorem D10_init_303 : decode m10_init.2.1 303 = .ok (.aload_n 0, 1) := by decide +kernel
theorem D10_init_304 : decode m10_init.2.1 304 = .ok (.bipush 24, 2) := by decide +kernel
theorem D10_init_306 : decode m10_init.2.1 306 = .ok (.newarray .int, 2) := by decide +kernel
theorem D10_init_308 : decode m10_init.2.1 308 = .ok (.putfield 123, 3) := by decide +kernel
theorem D10_init_311 : decode m10_init.2.1 311 = .ok (.aload_n 0, 1) := by decide +kernel
theorem D10_init_312 : decode m10_init.2.1 312 = .ok (.bipush 24, 2) := by decide +kernel
theorem D10_init_314 : decode m10_init.2.1 314 = .ok (.newarray .boolean, 2) := by decide +kernel
theorem D10_init_316 : decode m10_init.2.1 316 = .ok (.putfield 126, 3) := by decide +kernel
theorem D10_init_319 : decode m10_init.2.1 319 = .ok (.aload_n 0, 1) := by decide +kernel
theorem D10_init_320 : decode m10_init.2.1 320 = .ok (.bipush 24, 2) := by decide +kernel
theorem D10_init_322 : decode m10_init.2.1 322 = .ok (.newarray .int, 2) := by decide +kernel
theorem D10_init_324 : decode m10_init.2.1 324 = .ok (.putfield 130, 3) := by decide +kernel
theorem D10_init_327 : decode m10_init.2.1 327 = .ok (.aload_n 0, 1) := by decide +kernel
theorem D10_init_328 : decode m10_init.2.1 328 = .ok (.bipush 24, 2) := by decide +kernel
theorem D10_init_330 : decode m10_init.2.1 330 = .ok (.newarray .boolean, 2) := by decide +kernel
theorem D10_init_332 : decode m10_init.2.1 332 = .ok (.putfield 133, 3) := by decide +kernel
theorem D10_init_335 : decode m10_init.2.1 335 = .ok (.aload_n 0, 1) := by decide +kernel
theorem D10_init_336 : decode m10_init.2.1 336 = .ok (.invokevirtual 136, 3) := by decide +kernel
theorem D10_init_339 : decode m10_init.2.1 339 = .ok (.return_, 1) := by decide +kernel
theorem D10_thrown_0 : decode m10_thrown.2.1 0 = .ok (.aload_n 0, 1) := by decide +kernel
theorem D10_thrown_1 : decode m10_thrown.2.1 1 = .ok (.getfield 139, 3) := by decide +kernel
theorem D10_thrown_4 : decode m10_thrown.2.1 4 = .ok (.ireturn, 1) := by decide +kernel
theorem D10_feed_0 : decode m10_feed.2.1 0 = .ok (.aload_n 0, 1) := by decide +kernel
theorem D10_feed_1 : decode m10_feed.2.1 1 = .ok (.iconst 0, 1) := by decide +kernel
theorem D10_feed_2 : decode m10_feed.2.1 2 = .ok (.putfield 139, 3) := by decide +kernel
theorem D10_feed_5 : decode m10_feed.2.1 5 = .ok (.aload_n 0, 1) := by decide +kernel
theorem D10_feed_6 : decode m10_feed.2.1 6 = .ok (.getfield 142, 3) := by decide +kernel
theorem D10_feed_9 : decode m10_feed.2.1 9 = .ok (.sipush 680, 3) := by decide +kernel
theorem D10_feed_12 : decode m10_feed.2.1 12 = .ok (.if_icmp .le 5, 3) := by decide +kernel
theorem D10_feed_15 : decode m10_feed.2.1 15 = .ok (.iconst (-1), 1) := by decide +kernel
theorem D10_feed_16 : decode m10_feed.2.1 16 = .ok (.ireturn, 1) := by decide +kernel
theorem D10_feed_17 : decode m10_feed.2.1 17 = .ok (.iconst 0, 1) := by decide +kernel
theorem D10_feed_18 : decode m10_feed.2.1 18 = .ok (.istore 6, 2) := by decide +kernel
theorem D10_feed_20 : decode m10_feed.2.1 20 = .ok (.iload 6, 2) := by decide +kernel
theorem D10_feed_22 : decode m10_feed.2.1 22 = .ok (.bipush 20, 2) := by decide +kernel
theorem D10_feed_24 : decode m10_feed.2.1 24 = .ok (.if_icmp .ge 86, 3) := by decide +kernel
theorem D10_feed_27 : decode m10_feed.2.1 27 = .ok (.iload 6, 2) := by decide +kernel
theorem D10_feed_29 : decode m10_feed.2.1 29 = .ok (.iconst 4, 1) := by decide +kernel
theorem D10_feed_30 : decode m10_feed.2.1 30 = .ok (.if_icmp .ge 7, 3) := by decide +kernel
theorem D10_feed_33 : decode m10_feed.2.1 33 = .ok (.iload_n 1, 1) := by decide +kernel
theorem D10_feed_34 : decode m10_feed.2.1 34 = .ok (.goto 39, 3) := by decide +kernel
theorem D10_feed_37 : decode m10_feed.2.1 37 = .ok (.iload 6, 2) := by decide +kernel
theorem D10_feed_39 : decode m10_feed.2.1 39 = .ok (.bipush 8, 2) := by decide +kernel
theorem D10_feed_41 : decode m10_feed.2.1 41 = .ok (.if_icmp .ge 7, 3) := by decide +kernel
theorem D10_feed_44 : decode m10_feed.2.1 44 = .ok (.iload_n 2, 1) := by decide +kernel
theorem D10_feed_45 : decode m10_feed.2.1 45 = .ok (.goto 28, 3) := by decide +kernel
theorem D10_feed_48 : decode m10_feed.2.1 48 = .ok (.iload 6, 2) := by decide +kernel
theorem D10_feed_50 : decode m10_feed.2.1 50 = .ok (.bipush 12, 2) := by decide +kernel
theorem D10_feed_52 : decode m10_feed.2.1 52 = .ok (.if_icmp .ge 7, 3) := by decide +kernel
theorem D10_feed_55 : decode m10_feed.2.1 55 = .ok (.iload_n 3, 1) := by decide +kernel
theorem D10_feed_56 : decode m10_feed.2.1 56 = .ok (.goto 17, 3) := by decide +kernel
theorem D10_feed_59 : decode m10_feed.2.1 59 = .ok (.iload 6, 2) := by decide +kernel
theorem D10_feed_61 : decode m10_feed.2.1 61 = .ok (.bipush 16, 2) := by decide +kernel
theorem D10_feed_63 : decode m10_feed.2.1 63 = .ok (.if_icmp .ge 8, 3) := by decide +kernel
theorem D10_feed_66 : decode m10_feed.2.1 66 = .ok (.iload 4, 2) := by decide +kernel
theorem D10_feed_68 : decode m10_feed.2.1 68 = .ok (.goto 5, 3) := by decide +kernel
theorem D10_feed_71 : decode m10_feed.2.1 71 = .ok (.iload 5, 2) := by decide +kernel
theorem D10_feed_73 : decode m10_feed.2.1 73 = .ok (.istore 7, 2) := by decide +kernel
theorem D10_feed_75 : decode m10_feed.2.1 75 = .ok (.aload_n 0, 1) := by decide +kernel
theorem D10_feed_76 : decode m10_feed.2.1 76 = .ok (.getfield 7, 3) := by decide +kernel
theorem D10_feed_79 : decode m10_feed.2.1 79 = .ok (.aload_n 0, 1) := by decide +kernel
theorem D10_feed_80 : decode m10_feed.2.1 80 = .ok (.getfield 142, 3) := by decide +kernel
theorem D10_feed_83 : decode m10_feed.2.1 83 = .ok (.iload 6, 2) := by decide +kernel
theorem D10_feed_85 : decode m10_feed.2.1 85 = .ok (.iadd, 1) := by decide +kernel
theorem D10_feed_86 : decode m10_feed.2.1 86 = .ok (.iload 7, 2) := by decide +kernel
theorem D10_feed_88 : decode m10_feed.2.1 88 = .ok (.bipush 24, 2) := by decide +kernel
theorem D10_feed_90 : decode m10_feed.2.1 90 = .ok (.bipush 8, 2) := by decide +kernel
theorem D10_feed_92 : decode m10_feed.2.1 92 = .ok (.iload 6, 2) := by decide +kernel
theorem D10_feed_94 : decode m10_feed.2.1 94 = .ok (.iconst 4, 1) := by decide +kernel
theorem D10_feed_95 : decode m10_feed.2.1 95 = .ok (.irem, 1) := by decide +kernel
theorem D10_feed_96 : decode m10_feed.2.1 96 = .ok (.imul, 1) := by decide +kernel
theorem D10_feed_97 : decode m10_feed.2.1 97 = .ok (.isub, 1) := by decide +kernel
theorem D10_feed_98 : decode m10_feed.2.1 98 = .ok (.ishr, 1) := by decide +kernel
theorem D10_feed_99 : decode m10_feed.2.1 99 = .ok (.sipush 255, 3) := by decide +kernel
theorem D10_feed_102 : decode m10_feed.2.1 102 = .ok (.iand, 1) := by decide +kernel
theorem D10_feed_103 : decode m10_feed.2.1 103 = .ok (.iastore, 1) := by decide +kernel
theorem D10_feed_104 : decode m10_feed.2.1 104 = .ok (.iinc 6 1, 3) := by decide +kernel
theorem D10_feed_107 : decode m10_feed.2.1 107 = .ok (.goto (-87), 3) := by decide +kernel
theorem D10_feed_110 : decode m10_feed.2.1 110 = .ok (.aload_n 0, 1) := by decide +kernel
theorem D10_feed_111 : decode m10_feed.2.1 111 = .ok (.dup, 1) := by decide +kernel
theorem D10_feed_112 : decode m10_feed.2.1 112 = .ok (.getfield 142, 3) := by decide +kernel
theorem D10_feed_115 : decode m10_feed.2.1 115 = .ok (.bipush 20, 2) := by decide +kernel
theorem D10_feed_117 : decode m10_feed.2.1 117 = .ok (.iadd, 1) := by decide +kernel
theorem D10_feed_118 : decode m10_feed.2.1 118 = .ok (.putfield 142, 3) := by decide +kernel
theorem D10_feed_121 : decode m10_feed.2.1 121 = .ok (.aload_n 0, 1) := by decide +kernel
theorem D10_feed_122 : decode m10_feed.2.1 122 = .ok (.getfield 142, 3) := by decide +kernel
theorem D10_feed_125 : decode m10_feed.2.1 125 = .ok (.ireturn, 1) := by decide +kernel
theorem D10_here_0 : decode m10_here.2.1 0 = .ok (.aload_n 0, 1) := by decide +kernel
theorem D10_here_1 : decode m10_here.2.1 1 = .ok (.getfield 145, 3) := by decide +kernel
theorem D10_here_4 : decode m10_here.2.1 4 = .ok (.aload_n 0, 1) := by decide +kernel
theorem D10_here_5 : decode m10_here.2.1 5 = .ok (.getfield 148, 3) := by decide +kernel
theorem D10_here_8 : decode m10_here.2.1 8 = .ok (.if_icmp .ge 15, 3) := by decide +kernel
theorem D10_here_11 : decode m10_here.2.1 11 = .ok (.aload_n 0, 1) := by decide +kernel
theorem D10_here_12 : decode m10_here.2.1 12 = .ok (.getfield 7, 3) := by decide +kernel
theorem D10_here_15 : decode m10_here.2.1 15 = .ok (.aload_n 0, 1) := by decide +kernel
theorem D10_here_16 : decode m10_here.2.1 16 = .ok (.getfield 145, 3) := by decide +kernel
theorem D10_here_19 : decode m10_here.2.1 19 = .ok (.iaload, 1) := by decide +kernel
theorem D10_here_20 : decode m10_here.2.1 20 = .ok (.goto 4, 3) := by decide +kernel
theorem D10_here_23 : decode m10_here.2.1 23 = .ok (.iconst (-1), 1) := by decide +kernel
theorem D10_here_24 : decode m10_here.2.1 24 = .ok (.ireturn, 1) := by decide +kernel
theorem D10_isSmall_0 : decode m10_isSmall.2.1 0 = .ok (.iload_n 0, 1) := by decide +kernel
theorem D10_isSmall_1 : decode m10_isSmall.2.1 1 = .ok (.bipush 97, 2) := by decide +kernel
theorem D10_isSmall_3 : decode m10_isSmall.2.1 3 = .ok (.if_icmp .lt 13, 3) := by decide +kernel
theorem D10_isSmall_6 : decode m10_isSmall.2.1 6 = .ok (.iload_n 0, 1) := by decide +kernel
theorem D10_isSmall_7 : decode m10_isSmall.2.1 7 = .ok (.bipush 122, 2) := by decide +kernel
theorem D10_isSmall_9 : decode m10_isSmall.2.1 9 = .ok (.if_icmp .gt 7, 3) := by decide +kernel
theorem D10_isSmall_12 : decode m10_isSmall.2.1 12 = .ok (.iconst 1, 1) := by decide +kernel
theorem D10_isSmall_13 : decode m10_isSmall.2.1 13 = .ok (.goto 4, 3) := by decide +kernel
theorem D10_isSmall_16 : decode m10_isSmall.2.1 16 = .ok (.iconst 0, 1) := by decide +kernel
theorem D10_isSmall_17 : decode m10_isSmall.2.1 17 = .ok (.ireturn, 1) := by decide +kernel
theorem D10_isDigit_0 : decode m10_isDigit.2.1 0 = .ok (.iload_n 0, 1) := by decide +kernel
theorem D10_isDigit_1 : decode m10_isDigit.2.1 1 = .ok (.bipush 48, 2) := by decide +kernel
theorem D10_isDigit_3 : decode m10_isDigit.2.1 3 = .ok (.if_icmp .lt 13, 3) := by decide +kernel
theorem D10_isDigit_6 : decode m10_isDigit.2.1 6 = .ok (.iload_n 0, 1) := by decide +kernel
theorem D10_isDigit_7 : decode m10_isDigit.2.1 7 = .ok (.bipush 57, 2) := by decide +kernel
theorem D10_isDigit_9 : decode m10_isDigit.2.1 9 = .ok (.if_icmp .gt 7, 3) := by decide +kernel
theorem D10_isDigit_12 : decode m10_isDigit.2.1 12 = .ok (.iconst 1, 1) := by decide +kernel
theorem D10_isDigit_13 : decode m10_isDigit.2.1 13 = .ok (.goto 4, 3) := by decide +kernel
theorem D10_isDigit_16 : decode m10_isDigit.2.1 16 = .ok (.iconst 0, 1) := by decide +kernel
theorem D10_isDigit_17 : decode m10_isDigit.2.1 17 = .ok (.ireturn, 1) := by decide +kernel
theorem D10_token_0 : decode m10_token.2.1 0 = .ok (.aload_n 0, 1) := by decide +kernel
theorem D10_token_1 : decode m10_token.2.1 1 = .ok (.invokevirtual 151, 3) := by decide +kernel
theorem D10_token_4 : decode m10_token.2.1 4 = .ok (.bipush 10, 2) := by decide +kernel
theorem D10_token_6 : decode m10_token.2.1 6 = .ok (.if_icmp .eq 12, 3) := by decide +kernel
theorem D10_token_9 : decode m10_token.2.1 9 = .ok (.aload_n 0, 1) := by decide +kernel
theorem D10_token_10 : decode m10_token.2.1 10 = .ok (.invokevirtual 151, 3) := by decide +kernel
theorem D10_token_13 : decode m10_token.2.1 13 = .ok (.bipush 32, 2) := by decide +kernel
theorem D10_token_15 : decode m10_token.2.1 15 = .ok (.if_icmp .ne 16, 3) := by decide +kernel
theorem D10_token_18 : decode m10_token.2.1 18 = .ok (.aload_n 0, 1) := by decide +kernel
theorem D10_token_19 : decode m10_token.2.1 19 = .ok (.dup, 1) := by decide +kernel
theorem D10_token_20 : decode m10_token.2.1 20 = .ok (.getfield 145, 3) := by decide +kernel
theorem D10_token_23 : decode m10_token.2.1 23 = .ok (.iconst 1, 1) := by decide +kernel
theorem D10_token_24 : decode m10_token.2.1 24 = .ok (.iadd, 1) := by decide +kernel
theorem D10_token_25 : decode m10_token.2.1 25 = .ok (.putfield 145, 3) := by decide +kernel
theorem D10_token_28 : decode m10_token.2.1 28 = .ok (.goto (-28), 3) := by decide +kernel
theorem D10_token_31 : decode m10_token.2.1 31 = .ok (.aload_n 0, 1) := by decide +kernel
theorem D10_token_32 : decode m10_token.2.1 32 = .ok (.aload_n 0, 1) := by decide +kernel
theorem D10_token_33 : decode m10_token.2.1 33 = .ok (.getfield 145, 3) := by decide +kernel
theorem D10_token_36 : decode m10_token.2.1 36 = .ok (.putfield 155, 3) := by decide +kernel
theorem D10_token_39 : decode m10_token.2.1 39 = .ok (.aload_n 0, 1) := by decide +kernel
theorem D10_token_40 : decode m10_token.2.1 40 = .ok (.invokevirtual 151, 3) := by decide +kernel
theorem D10_token_43 : decode m10_token.2.1 43 = .ok (.istore_n 1, 1) := by decide +kernel
theorem D10_token_44 : decode m10_token.2.1 44 = .ok (.iload_n 1, 1) := by decide +kernel
theorem D10_token_45 : decode m10_token.2.1 45 = .ok (.iconst (-1), 1) := by decide +kernel
theorem D10_token_46 : decode m10_token.2.1 46 = .ok (.if_icmp .ne 11, 3) := by decide +kernel
theorem D10_token_49 : decode m10_token.2.1 49 = .ok (.aload_n 0, 1) := by decide +kernel
theorem D10_token_50 : decode m10_token.2.1 50 = .ok (.iconst 4, 1) := by decide +kernel
theorem D10_token_51 : decode m10_token.2.1 51 = .ok (.putfield 158, 3) := by decide +kernel
theorem D10_token_54 : decode m10_token.2.1 54 = .ok (.goto 171, 3) := by decide +kernel
theorem D10_token_57 : decode m10_token.2.1 57 = .ok (.iload_n 1, 1) := by decide +kernel
theorem D10_token_58 : decode m10_token.2.1 58 = .ok (.invokestatic 161, 3) := by decide +kernel
theorem D10_token_61 : decode m10_token.2.1 61 = .ok (.ifCond .eq 84, 3) := by decide +kernel
theorem D10_token_64 : decode m10_token.2.1 64 = .ok (.aload_n 0, 1) := by decide +kernel
theorem D10_token_65 : decode m10_token.2.1 65 = .ok (.invokevirtual 151, 3) := by decide +kernel
theorem D10_token_68 : decode m10_token.2.1 68 = .ok (.invokestatic 161, 3) := by decide +kernel
theorem D10_token_71 : decode m10_token.2.1 71 = .ok (.ifCond .eq 16, 3) := by decide +kernel
theorem D10_token_74 : decode m10_token.2.1 74 = .ok (.aload_n 0, 1) := by decide +kernel
theorem D10_token_75 : decode m10_token.2.1 75 = .ok (.dup, 1) := by decide +kernel
theorem D10_token_76 : decode m10_token.2.1 76 = .ok (.getfield 145, 3) := by decide +kernel
theorem D10_token_79 : decode m10_token.2.1 79 = .ok (.iconst 1, 1) := by decide +kernel
theorem D10_token_80 : decode m10_token.2.1 80 = .ok (.iadd, 1) := by decide +kernel
theorem D10_token_81 : decode m10_token.2.1 81 = .ok (.putfield 145, 3) := by decide +kernel
theorem D10_token_84 : decode m10_token.2.1 84 = .ok (.goto (-20), 3) := by decide +kernel
theorem D10_token_87 : decode m10_token.2.1 87 = .ok (.aload_n 0, 1) := by decide +kernel
theorem D10_token_88 : decode m10_token.2.1 88 = .ok (.aload_n 0, 1) := by decide +kernel
theorem D10_token_89 : decode m10_token.2.1 89 = .ok (.invokevirtual 165, 3) := by decide +kernel
theorem D10_token_92 : decode m10_token.2.1 92 = .ok (.putfield 168, 3) := by decide +kernel
theorem D10_token_95 : decode m10_token.2.1 95 = .ok (.aload_n 0, 1) := by decide +kernel
theorem D10_token_96 : decode m10_token.2.1 96 = .ok (.aload_n 0, 1) := by decide +kernel
theorem D10_token_97 : decode m10_token.2.1 97 = .ok (.getfield 168, 3) := by decide +kernel
theorem D10_token_100 : decode m10_token.2.1 100 = .ok (.iconst (-1), 1) := by decide +kernel
theorem D10_token_101 : decode m10_token.2.1 101 = .ok (.if_icmp .eq 7, 3) := by decide +kernel
theorem D10_token_104 : decode m10_token.2.1 104 = .ok (.iconst 0, 1) := by decide +kernel
theorem D10_token_105 : decode m10_token.2.1 105 = .ok (.goto 22, 3) := by decide +kernel
theorem D10_token_108 : decode m10_token.2.1 108 = .ok (.aload_n 0, 1) := by decide +kernel
theorem D10_token_109 : decode m10_token.2.1 109 = .ok (.getfield 145, 3) := by decide +kernel
theorem D10_token_112 : decode m10_token.2.1 112 = .ok (.aload_n 0, 1) := by decide +kernel
theorem D10_token_113 : decode m10_token.2.1 113 = .ok (.getfield 155, 3) := by decide +kernel
theorem D10_token_116 : decode m10_token.2.1 116 = .ok (.isub, 1) := by decide +kernel
theorem D10_token_117 : decode m10_token.2.1 117 = .ok (.bipush 6, 2) := by decide +kernel
theorem D10_token_119 : decode m10_token.2.1 119 = .ok (.if_icmp .le 7, 3) := by decide +kernel
theorem D10_token_122 : decode m10_token.2.1 122 = .ok (.iconst 5, 1) := by decide +kernel
theorem D10_token_123 : decode m10_token.2.1 123 = .ok (.goto 4, 3) := by decide +kernel
theorem D10_token_126 : decode m10_token.2.1 126 = .ok (.iconst 1, 1) := by decide +kernel
theorem D10_token_127 : decode m10_token.2.1 127 = .ok (.putfield 158, 3) := by decide +kernel
theorem D10_token_130 : decode m10_token.2.1 130 = .ok (.aload_n 0, 1) := by decide +kernel
theorem D10_token_131 : decode m10_token.2.1 131 = .ok (.getfield 158, 3) := by decide +kernel
theorem D10_token_134 : decode m10_token.2.1 134 = .ok (.iconst 1, 1) := by decide +kernel
theorem D10_token_135 : decode m10_token.2.1 135 = .ok (.if_icmp .ne 90, 3) := by decide +kernel
theorem D10_token_138 : decode m10_token.2.1 138 = .ok (.aload_n 0, 1) := by decide +kernel
theorem D10_token_139 : decode m10_token.2.1 139 = .ok (.invokevirtual 171, 3) := by decide +kernel
theorem D10_token_142 : decode m10_token.2.1 142 = .ok (.goto 83, 3) := by decide +kernel
theorem D10_token_145 : decode m10_token.2.1 145 = .ok (.iload_n 1, 1) := by decide +kernel
theorem D10_token_146 : decode m10_token.2.1 146 = .ok (.invokestatic 174, 3) := by decide +kernel
theorem D10_token_149 : decode m10_token.2.1 149 = .ok (.ifCond .eq 71, 3) := by decide +kernel
theorem D10_token_152 : decode m10_token.2.1 152 = .ok (.aload_n 0, 1) := by decide +kernel
theorem D10_token_153 : decode m10_token.2.1 153 = .ok (.iconst 2, 1) := by decide +kernel
theorem D10_token_154 : decode m10_token.2.1 154 = .ok (.putfield 158, 3) := by decide +kernel
theorem D10_token_157 : decode m10_token.2.1 157 = .ok (.aload_n 0, 1) := by decide +kernel
theorem D10_token_158 : decode m10_token.2.1 158 = .ok (.iconst 0, 1) := by decide +kernel
theorem D10_token_159 : decode m10_token.2.1 159 = .ok (.putfield 168, 3) := by decide +kernel
theorem D10_token_162 : decode m10_token.2.1 162 = .ok (.aload_n 0, 1) := by decide +kernel
theorem D10_token_163 : decode m10_token.2.1 163 = .ok (.invokevirtual 151, 3) := by decide +kernel
theorem D10_token_166 : decode m10_token.2.1 166 = .ok (.invokestatic 174, 3) := by decide +kernel
theorem D10_token_169 : decode m10_token.2.1 169 = .ok (.ifCond .eq 56, 3) := by decide +kernel
theorem D10_token_172 : decode m10_token.2.1 172 = .ok (.aload_n 0, 1) := by decide +kernel
theorem D10_token_173 : decode m10_token.2.1 173 = .ok (.aload_n 0, 1) := by decide +kernel
theorem D10_token_174 : decode m10_token.2.1 174 = .ok (.getfield 168, 3) := by decide +kernel
theorem D10_token_177 : decode m10_token.2.1 177 = .ok (.ldc 177, 2) := by decide +kernel
theorem D10_token_179 : decode m10_token.2.1 179 = .ok (.if_icmp .le 10, 3) := by decide +kernel
theorem D10_token_182 : decode m10_token.2.1 182 = .ok (.aload_n 0, 1) := by decide +kernel
theorem D10_token_183 : decode m10_token.2.1 183 = .ok (.getfield 168, 3) := by decide +kernel
theorem D10_token_186 : decode m10_token.2.1 186 = .ok (.goto 18, 3) := by decide +kernel
theorem D10_token_189 : decode m10_token.2.1 189 = .ok (.bipush 10, 2) := by decide +kernel
theorem D10_token_191 : decode m10_token.2.1 191 = .ok (.aload_n 0, 1) := by decide +kernel
theorem D10_token_192 : decode m10_token.2.1 192 = .ok (.getfield 168, 3) := by decide +kernel
theorem D10_token_195 : decode m10_token.2.1 195 = .ok (.imul, 1) := by decide +kernel
theorem D10_token_196 : decode m10_token.2.1 196 = .ok (.aload_n 0, 1) := by decide +kernel
theorem D10_token_197 : decode m10_token.2.1 197 = .ok (.invokevirtual 151, 3) := by decide +kernel
theorem D10_token_200 : decode m10_token.2.1 200 = .ok (.iadd, 1) := by decide +kernel
theorem D10_token_201 : decode m10_token.2.1 201 = .ok (.bipush 48, 2) := by decide +kernel
theorem D10_token_203 : decode m10_token.2.1 203 = .ok (.isub, 1) := by decide +kernel
theorem D10_token_204 : decode m10_token.2.1 204 = .ok (.putfield 168, 3) := by decide +kernel
theorem D10_token_207 : decode m10_token.2.1 207 = .ok (.aload_n 0, 1) := by decide +kernel
theorem D10_token_208 : decode m10_token.2.1 208 = .ok (.dup, 1) := by decide +kernel
theorem D10_token_209 : decode m10_token.2.1 209 = .ok (.getfield 145, 3) := by decide +kernel
theorem D10_token_212 : decode m10_token.2.1 212 = .ok (.iconst 1, 1) := by decide +kernel
theorem D10_token_213 : decode m10_token.2.1 213 = .ok (.iadd, 1) := by decide +kernel
theorem D10_token_214 : decode m10_token.2.1 214 = .ok (.putfield 145, 3) := by decide +kernel
theorem D10_token_217 : decode m10_token.2.1 217 = .ok (.goto (-55), 3) := by decide +kernel
theorem D10_token_220 : decode m10_token.2.1 220 = .ok (.aload_n 0, 1) := by decide +kernel
theorem D10_token_221 : decode m10_token.2.1 221 = .ok (.iload_n 1, 1) := by decide +kernel
theorem D10_token_222 : decode m10_token.2.1 222 = .ok (.invokevirtual 178, 3) := by decide +kernel
theorem D10_token_225 : decode m10_token.2.1 225 = .ok (.return_, 1) := by decide +kernel
theorem D10_sign_0 : decode m10_sign.2.1 0 = .ok (.aload_n 0, 1) := by decide +kernel
theorem D10_sign_1 : decode m10_sign.2.1 1 = .ok (.dup, 1) := by decide +kernel
theorem D10_sign_2 : decode m10_sign.2.1 2 = .ok (.getfield 145, 3) := by decide +kernel
theorem D10_sign_5 : decode m10_sign.2.1 5 = .ok (.iconst 1, 1) := by decide +kernel
theorem D10_sign_6 : decode m10_sign.2.1 6 = .ok (.iadd, 1) := by decide +kernel
theorem D10_sign_7 : decode m10_sign.2.1 7 = .ok (.putfield 145, 3) := by decide +kernel
theorem D10_sign_10 : decode m10_sign.2.1 10 = .ok (.aload_n 0, 1) := by decide +kernel
theorem D10_sign_11 : decode m10_sign.2.1 11 = .ok (.iload_n 1, 1) := by decide +kernel
theorem D10_sign_12 : decode m10_sign.2.1 12 = .ok (.bipush 59, 2) := by decide +kernel
theorem D10_sign_14 : decode m10_sign.2.1 14 = .ok (.if_icmp .eq 57, 3) := by decide +kernel
theorem D10_sign_17 : decode m10_sign.2.1 17 = .ok (.iload_n 1, 1) := by decide +kernel
theorem D10_sign_18 : decode m10_sign.2.1 18 = .ok (.bipush 40, 2) := by decide +kernel
theorem D10_sign_20 : decode m10_sign.2.1 20 = .ok (.if_icmp .eq 51, 3) := by decide +kernel
theorem D10_sign_23 : decode m10_sign.2.1 23 = .ok (.iload_n 1, 1) := by decide +kernel
theorem D10_sign_24 : decode m10_sign.2.1 24 = .ok (.bipush 41, 2) := by decide +kernel
theorem D10_sign_26 : decode m10_sign.2.1 26 = .ok (.if_icmp .eq 45, 3) := by decide +kernel
theorem D10_sign_29 : decode m10_sign.2.1 29 = .ok (.iload_n 1, 1) := by decide +kernel
theorem D10_sign_30 : decode m10_sign.2.1 30 = .ok (.bipush 43, 2) := by decide +kernel
theorem D10_sign_32 : decode m10_sign.2.1 32 = .ok (.if_icmp .eq 39, 3) := by decide +kernel
theorem D10_sign_35 : decode m10_sign.2.1 35 = .ok (.iload_n 1, 1) := by decide +kernel
theorem D10_sign_36 : decode m10_sign.2.1 36 = .ok (.bipush 45, 2) := by decide +kernel
theorem D10_sign_38 : decode m10_sign.2.1 38 = .ok (.if_icmp .eq 33, 3) := by decide +kernel
theorem D10_sign_41 : decode m10_sign.2.1 41 = .ok (.iload_n 1, 1) := by decide +kernel
theorem D10_sign_42 : decode m10_sign.2.1 42 = .ok (.bipush 42, 2) := by decide +kernel
theorem D10_sign_44 : decode m10_sign.2.1 44 = .ok (.if_icmp .eq 27, 3) := by decide +kernel
theorem D10_sign_47 : decode m10_sign.2.1 47 = .ok (.iload_n 1, 1) := by decide +kernel
theorem D10_sign_48 : decode m10_sign.2.1 48 = .ok (.bipush 47, 2) := by decide +kernel
theorem D10_sign_50 : decode m10_sign.2.1 50 = .ok (.if_icmp .eq 21, 3) := by decide +kernel
theorem D10_sign_53 : decode m10_sign.2.1 53 = .ok (.iload_n 1, 1) := by decide +kernel
theorem D10_sign_54 : decode m10_sign.2.1 54 = .ok (.bipush 60, 2) := by decide +kernel
theorem D10_sign_56 : decode m10_sign.2.1 56 = .ok (.if_icmp .eq 15, 3) := by decide +kernel
theorem D10_sign_59 : decode m10_sign.2.1 59 = .ok (.iload_n 1, 1) := by decide +kernel
theorem D10_sign_60 : decode m10_sign.2.1 60 = .ok (.bipush 61, 2) := by decide +kernel
theorem D10_sign_62 : decode m10_sign.2.1 62 = .ok (.if_icmp .eq 9, 3) := by decide +kernel
theorem D10_sign_65 : decode m10_sign.2.1 65 = .ok (.iload_n 1, 1) := by decide +kernel
theorem D10_sign_66 : decode m10_sign.2.1 66 = .ok (.bipush 62, 2) := by decide +kernel
theorem D10_sign_68 : decode m10_sign.2.1 68 = .ok (.if_icmp .ne 7, 3) := by decide +kernel
theorem D10_sign_71 : decode m10_sign.2.1 71 = .ok (.iconst 3, 1) := by decide +kernel
theorem D10_sign_72 : decode m10_sign.2.1 72 = .ok (.goto 4, 3) := by decide +kernel
theorem D10_sign_75 : decode m10_sign.2.1 75 = .ok (.iconst 5, 1) := by decide +kernel
theorem D10_sign_76 : decode m10_sign.2.1 76 = .ok (.putfield 158, 3) := by decide +kernel
theorem D10_sign_79 : decode m10_sign.2.1 79 = .ok (.aload_n 0, 1) := by decide +kernel
theorem D10_sign_80 : decode m10_sign.2.1 80 = .ok (.iload_n 1, 1) := by decide +kernel
theorem D10_sign_81 : decode m10_sign.2.1 81 = .ok (.putfield 168, 3) := by decide +kernel
theorem D10_sign_84 : decode m10_sign.2.1 84 = .ok (.iload_n 1, 1) := by decide +kernel
theorem D10_sign_85 : decode m10_sign.2.1 85 = .ok (.bipush 60, 2) := by decide +kernel
theorem D10_sign_87 : decode m10_sign.2.1 87 = .ok (.if_icmp .ne 19, 3) := by decide +kernel
theorem D10_sign_90 : decode m10_sign.2.1 90 = .ok (.aload_n 0, 1) := by decide +kernel
theorem D10_sign_91 : decode m10_sign.2.1 91 = .ok (.invokevirtual 151, 3) := by decide +kernel
theorem D10_sign_94 : decode m10_sign.2.1 94 = .ok (.bipush 61, 2) := by decide +kernel
theorem D10_sign_96 : decode m10_sign.2.1 96 = .ok (.if_icmp .ne 10, 3) := by decide +kernel
theorem D10_sign_99 : decode m10_sign.2.1 99 = .ok (.aload_n 0, 1) := by decide +kernel
theorem D10_sign_100 : decode m10_sign.2.1 100 = .ok (.sipush 256, 3) := by decide +kernel
theorem D10_sign_103 : decode m10_sign.2.1 103 = .ok (.putfield 168, 3) := by decide +kernel
theorem D10_sign_106 : decode m10_sign.2.1 106 = .ok (.iload_n 1, 1) := by decide +kernel
theorem D10_sign_107 : decode m10_sign.2.1 107 = .ok (.bipush 60, 2) := by decide +kernel
theorem D10_sign_109 : decode m10_sign.2.1 109 = .ok (.if_icmp .ne 19, 3) := by decide +kernel
theorem D10_sign_112 : decode m10_sign.2.1 112 = .ok (.aload_n 0, 1) := by decide +kernel
theorem D10_sign_113 : decode m10_sign.2.1 113 = .ok (.invokevirtual 151, 3) := by decide +kernel
theorem D10_sign_116 : decode m10_sign.2.1 116 = .ok (.bipush 62, 2) := by decide +kernel
theorem D10_sign_118 : decode m10_sign.2.1 118 = .ok (.if_icmp .ne 10, 3) := by decide +kernel
theorem D10_sign_121 : decode m10_sign.2.1 121 = .ok (.aload_n 0, 1) := by decide +kernel
theorem D10_sign_122 : decode m10_sign.2.1 122 = .ok (.sipush 257, 3) := by decide +kernel
theorem D10_sign_125 : decode m10_sign.2.1 125 = .ok (.putfield 168, 3) := by decide +kernel
theorem D10_sign_128 : decode m10_sign.2.1 128 = .ok (.iload_n 1, 1) := by decide +kernel
theorem D10_sign_129 : decode m10_sign.2.1 129 = .ok (.bipush 62, 2) := by decide +kernel
theorem D10_sign_131 : decode m10_sign.2.1 131 = .ok (.if_icmp .ne 19, 3) := by decide +kernel
theorem D10_sign_134 : decode m10_sign.2.1 134 = .ok (.aload_n 0, 1) := by decide +kernel
theorem D10_sign_135 : decode m10_sign.2.1 135 = .ok (.invokevirtual 151, 3) := by decide +kernel
theorem D10_sign_138 : decode m10_sign.2.1 138 = .ok (.bipush 61, 2) := by decide +kernel
theorem D10_sign_140 : decode m10_sign.2.1 140 = .ok (.if_icmp .ne 10, 3) := by decide +kernel
theorem D10_sign_143 : decode m10_sign.2.1 143 = .ok (.aload_n 0, 1) := by decide +kernel
theorem D10_sign_144 : decode m10_sign.2.1 144 = .ok (.sipush 258, 3) := by decide +kernel
theorem D10_sign_147 : decode m10_sign.2.1 147 = .ok (.putfield 168, 3) := by decide +kernel
theorem D10_sign_150 : decode m10_sign.2.1 150 = .ok (.aload_n 0, 1) := by decide +kernel
theorem D10_sign_151 : decode m10_sign.2.1 151 = .ok (.getfield 168, 3) := by decide +kernel
theorem D10_sign_154 : decode m10_sign.2.1 154 = .ok (.sipush 256, 3) := by decide +kernel
theorem D10_sign_157 : decode m10_sign.2.1 157 = .ok (.if_icmp .lt 13, 3) := by decide +kernel
theorem D10_sign_160 : decode m10_sign.2.1 160 = .ok (.aload_n 0, 1) := by decide +kernel
theorem D10_sign_161 : decode m10_sign.2.1 161 = .ok (.dup, 1) := by decide +kernel
theorem D10_sign_162 : decode m10_sign.2.1 162 = .ok (.getfield 145, 3) := by decide +kernel
theorem D10_sign_165 : decode m10_sign.2.1 165 = .ok (.iconst 1, 1) := by decide +kernel
theorem D10_sign_166 : decode m10_sign.2.1 166 = .ok (.iadd, 1) := by decide +kernel
theorem D10_sign_167 : decode m10_sign.2.1 167 = .ok (.putfield 145, 3) := by decide +kernel
theorem D10_sign_170 : decode m10_sign.2.1 170 = .ok (.return_, 1) := by decide +kernel
theorem D10_word_0 : decode m10_word.2.1 0 = .ok (.iconst 0, 1) := by decide +kernel
theorem D10_word_1 : decode m10_word.2.1 1 = .ok (.istore_n 1, 1) := by decide +kernel
theorem D10_word_2 : decode m10_word.2.1 2 = .ok (.iconst 0, 1) := by decide +kernel
theorem D10_word_3 : decode m10_word.2.1 3 = .ok (.istore_n 2, 1) := by decide +kernel
theorem D10_word_4 : decode m10_word.2.1 4 = .ok (.iload_n 2, 1) := by decide +kernel
theorem D10_word_5 : decode m10_word.2.1 5 = .ok (.ldc 182, 2) := by decide +kernel
theorem D10_word_7 : decode m10_word.2.1 7 = .ok (.invokevirtual 184, 3) := by decide +kernel
theorem D10_word_10 : decode m10_word.2.1 10 = .ok (.if_icmp .ge 113, 3) := by decide +kernel
theorem D10_word_13 : decode m10_word.2.1 13 = .ok (.iconst 0, 1) := by decide +kernel
theorem D10_word_14 : decode m10_word.2.1 14 = .ok (.istore_n 3, 1) := by decide +kernel
theorem D10_word_15 : decode m10_word.2.1 15 = .ok (.ldc 182, 2) := by decide +kernel
theorem D10_word_17 : decode m10_word.2.1 17 = .ok (.iload_n 2, 1) := by decide +kernel
theorem D10_word_18 : decode m10_word.2.1 18 = .ok (.iload_n 3, 1) := by decide +kernel
theorem D10_word_19 : decode m10_word.2.1 19 = .ok (.iadd, 1) := by decide +kernel
theorem D10_word_20 : decode m10_word.2.1 20 = .ok (.invokevirtual 189, 3) := by decide +kernel
theorem D10_word_23 : decode m10_word.2.1 23 = .ok (.bipush 32, 2) := by decide +kernel
theorem D10_word_25 : decode m10_word.2.1 25 = .ok (.if_icmp .eq 44, 3) := by decide +kernel
theorem D10_word_28 : decode m10_word.2.1 28 = .ok (.aload_n 0, 1) := by decide +kernel
theorem D10_word_29 : decode m10_word.2.1 29 = .ok (.getfield 155, 3) := by decide +kernel
theorem D10_word_32 : decode m10_word.2.1 32 = .ok (.iload_n 3, 1) := by decide +kernel
theorem D10_word_33 : decode m10_word.2.1 33 = .ok (.iadd, 1) := by decide +kernel
theorem D10_word_34 : decode m10_word.2.1 34 = .ok (.aload_n 0, 1) := by decide +kernel
theorem D10_word_35 : decode m10_word.2.1 35 = .ok (.getfield 145, 3) := by decide +kernel
theorem D10_word_38 : decode m10_word.2.1 38 = .ok (.if_icmp .ge 31, 3) := by decide +kernel
theorem D10_word_41 : decode m10_word.2.1 41 = .ok (.aload_n 0, 1) := by decide +kernel
theorem D10_word_42 : decode m10_word.2.1 42 = .ok (.getfield 7, 3) := by decide +kernel
theorem D10_word_45 : decode m10_word.2.1 45 = .ok (.aload_n 0, 1) := by decide +kernel
theorem D10_word_46 : decode m10_word.2.1 46 = .ok (.getfield 155, 3) := by decide +kernel
theorem D10_word_49 : decode m10_word.2.1 49 = .ok (.iload_n 3, 1) := by decide +kernel
theorem D10_word_50 : decode m10_word.2.1 50 = .ok (.iadd, 1) := by decide +kernel
theorem D10_word_51 : decode m10_word.2.1 51 = .ok (.iaload, 1) := by decide +kernel
theorem D10_word_52 : decode m10_word.2.1 52 = .ok (.ldc 182, 2) := by decide +kernel
theorem D10_word_54 : decode m10_word.2.1 54 = .ok (.iload_n 2, 1) := by decide +kernel
theorem D10_word_55 : decode m10_word.2.1 55 = .ok (.iload_n 3, 1) := by decide +kernel
theorem D10_word_56 : decode m10_word.2.1 56 = .ok (.iadd, 1) := by decide +kernel
theorem D10_word_57 : decode m10_word.2.1 57 = .ok (.invokevirtual 189, 3) := by decide +kernel
theorem D10_word_60 : decode m10_word.2.1 60 = .ok (.if_icmp .ne 9, 3) := by decide +kernel
theorem D10_word_63 : decode m10_word.2.1 63 = .ok (.iinc 3 1, 3) := by decide +kernel
theorem D10_word_66 : decode m10_word.2.1 66 = .ok (.goto (-51), 3) := by decide +kernel
theorem D10_word_69 : decode m10_word.2.1 69 = .ok (.ldc 182, 2) := by decide +kernel
theorem D10_word_71 : decode m10_word.2.1 71 = .ok (.iload_n 2, 1) := by decide +kernel
theorem D10_word_72 : decode m10_word.2.1 72 = .ok (.iload_n 3, 1) := by decide +kernel
theorem D10_word_73 : decode m10_word.2.1 73 = .ok (.iadd, 1) := by decide +kernel
theorem D10_word_74 : decode m10_word.2.1 74 = .ok (.invokevirtual 189, 3) := by decide +kernel
theorem D10_word_77 : decode m10_word.2.1 77 = .ok (.bipush 32, 2) := by decide +kernel
theorem D10_word_79 : decode m10_word.2.1 79 = .ok (.if_icmp .ne 18, 3) := by decide +kernel
theorem D10_word_82 : decode m10_word.2.1 82 = .ok (.aload_n 0, 1) := by decide +kernel
theorem D10_word_83 : decode m10_word.2.1 83 = .ok (.getfield 155, 3) := by decide +kernel
theorem D10_word_86 : decode m10_word.2.1 86 = .ok (.iload_n 3, 1) := by decide +kernel
theorem D10_word_87 : decode m10_word.2.1 87 = .ok (.iadd, 1) := by decide +kernel
theorem D10_word_88 : decode m10_word.2.1 88 = .ok (.aload_n 0, 1) := by decide +kernel
theorem D10_word_89 : decode m10_word.2.1 89 = .ok (.getfield 145, 3) := by decide +kernel
theorem D10_word_92 : decode m10_word.2.1 92 = .ok (.if_icmp .ne 5, 3) := by decide +kernel
theorem D10_word_95 : decode m10_word.2.1 95 = .ok (.iload_n 1, 1) := by decide +kernel
theorem D10_word_96 : decode m10_word.2.1 96 = .ok (.ireturn, 1) := by decide +kernel
theorem D10_word_97 : decode m10_word.2.1 97 = .ok (.ldc 182, 2) := by decide +kernel
theorem D10_word_99 : decode m10_word.2.1 99 = .ok (.iload_n 2, 1) := by decide +kernel
theorem D10_word_100 : decode m10_word.2.1 100 = .ok (.invokevirtual 189, 3) := by decide +kernel
theorem D10_word_103 : decode m10_word.2.1 103 = .ok (.bipush 32, 2) := by decide +kernel
theorem D10_word_105 : decode m10_word.2.1 105 = .ok (.if_icmp .eq 9, 3) := by decide +kernel
theorem D10_word_108 : decode m10_word.2.1 108 = .ok (.iinc 2 1, 3) := by decide +kernel
theorem D10_word_111 : decode m10_word.2.1 111 = .ok (.goto (-14), 3) := by decide +kernel
theorem D10_word_114 : decode m10_word.2.1 114 = .ok (.iinc 2 1, 3) := by decide +kernel
theorem D10_word_117 : decode m10_word.2.1 117 = .ok (.iinc 1 1, 3) := by decide +kernel
theorem D10_word_120 : decode m10_word.2.1 120 = .ok (.goto (-116), 3) := by decide +kernel
theorem D10_word_123 : decode m10_word.2.1 123 = .ok (.iconst (-1), 1) := by decide +kernel
theorem D10_word_124 : decode m10_word.2.1 124 = .ok (.ireturn, 1) := by decide +kernel
theorem D10_name_0 : decode m10_name.2.1 0 = .ok (.aload_n 0, 1) := by decide +kernel
theorem D10_name_1 : decode m10_name.2.1 1 = .ok (.iconst 0, 1) := by decide +kernel
theorem D10_name_2 : decode m10_name.2.1 2 = .ok (.putfield 168, 3) := by decide +kernel
theorem D10_name_5 : decode m10_name.2.1 5 = .ok (.iconst 0, 1) := by decide +kernel
theorem D10_name_6 : decode m10_name.2.1 6 = .ok (.istore_n 1, 1) := by decide +kernel
theorem D10_name_7 : decode m10_name.2.1 7 = .ok (.iload_n 1, 1) := by decide +kernel
theorem D10_name_8 : decode m10_name.2.1 8 = .ok (.bipush 6, 2) := by decide +kernel
theorem D10_name_10 : decode m10_name.2.1 10 = .ok (.if_icmp .ge 53, 3) := by decide +kernel
theorem D10_name_13 : decode m10_name.2.1 13 = .ok (.aload_n 0, 1) := by decide +kernel
theorem D10_name_14 : decode m10_name.2.1 14 = .ok (.aload_n 0, 1) := by decide +kernel
theorem D10_name_15 : decode m10_name.2.1 15 = .ok (.getfield 168, 3) := by decide +kernel
theorem D10_name_18 : decode m10_name.2.1 18 = .ok (.iconst 5, 1) := by decide +kernel
theorem D10_name_19 : decode m10_name.2.1 19 = .ok (.ishl, 1) := by decide +kernel
theorem D10_name_20 : decode m10_name.2.1 20 = .ok (.aload_n 0, 1) := by decide +kernel
theorem D10_name_21 : decode m10_name.2.1 21 = .ok (.getfield 155, 3) := by decide +kernel
theorem D10_name_24 : decode m10_name.2.1 24 = .ok (.iload_n 1, 1) := by decide +kernel
theorem D10_name_25 : decode m10_name.2.1 25 = .ok (.iadd, 1) := by decide +kernel
theorem D10_name_26 : decode m10_name.2.1 26 = .ok (.aload_n 0, 1) := by decide +kernel
theorem D10_name_27 : decode m10_name.2.1 27 = .ok (.getfield 145, 3) := by decide +kernel
theorem D10_name_30 : decode m10_name.2.1 30 = .ok (.if_icmp .ge 22, 3) := by decide +kernel
theorem D10_name_33 : decode m10_name.2.1 33 = .ok (.aload_n 0, 1) := by decide +kernel
theorem D10_name_34 : decode m10_name.2.1 34 = .ok (.getfield 7, 3) := by decide +kernel
theorem D10_name_37 : decode m10_name.2.1 37 = .ok (.aload_n 0, 1) := by decide +kernel
theorem D10_name_38 : decode m10_name.2.1 38 = .ok (.getfield 155, 3) := by decide +kernel
theorem D10_name_41 : decode m10_name.2.1 41 = .ok (.iload_n 1, 1) := by decide +kernel
theorem D10_name_42 : decode m10_name.2.1 42 = .ok (.iadd, 1) := by decide +kernel
theorem D10_name_43 : decode m10_name.2.1 43 = .ok (.iaload, 1) := by decide +kernel
theorem D10_name_44 : decode m10_name.2.1 44 = .ok (.bipush 97, 2) := by decide +kernel
theorem D10_name_46 : decode m10_name.2.1 46 = .ok (.isub, 1) := by decide +kernel
theorem D10_name_47 : decode m10_name.2.1 47 = .ok (.iconst 1, 1) := by decide +kernel
theorem D10_name_48 : decode m10_name.2.1 48 = .ok (.iadd, 1) := by decide +kernel
theorem D10_name_49 : decode m10_name.2.1 49 = .ok (.goto 4, 3) := by decide +kernel
theorem D10_name_52 : decode m10_name.2.1 52 = .ok (.iconst 0, 1) := by decide +kernel
theorem D10_name_53 : decode m10_name.2.1 53 = .ok (.ior, 1) := by decide +kernel
theorem D10_name_54 : decode m10_name.2.1 54 = .ok (.putfield 168, 3) := by decide +kernel
theorem D10_name_57 : decode m10_name.2.1 57 = .ok (.iinc 1 1, 3) := by decide +kernel
theorem D10_name_60 : decode m10_name.2.1 60 = .ok (.goto (-53), 3) := by decide +kernel
theorem D10_name_63 : decode m10_name.2.1 63 = .ok (.return_, 1) := by decide +kernel
theorem D10_wrong_0 : decode m10_wrong.2.1 0 = .ok (.aload_n 0, 1) := by decide +kernel
theorem D10_wrong_1 : decode m10_wrong.2.1 1 = .ok (.getfield 193, 3) := by decide +kernel
theorem D10_wrong_4 : decode m10_wrong.2.1 4 = .ok (.ifCond .eq 4, 3) := by decide +kernel
theorem D10_wrong_7 : decode m10_wrong.2.1 7 = .ok (.return_, 1) := by decide +kernel
theorem D10_wrong_8 : decode m10_wrong.2.1 8 = .ok (.aload_n 0, 1) := by decide +kernel
theorem D10_wrong_9 : decode m10_wrong.2.1 9 = .ok (.iload_n 1, 1) := by decide +kernel
theorem D10_wrong_10 : decode m10_wrong.2.1 10 = .ok (.putfield 193, 3) := by decide +kernel
theorem D10_wrong_13 : decode m10_wrong.2.1 13 = .ok (.aload_n 0, 1) := by decide +kernel
theorem D10_wrong_14 : decode m10_wrong.2.1 14 = .ok (.aload_n 0, 1) := by decide +kernel
theorem D10_wrong_15 : decode m10_wrong.2.1 15 = .ok (.getfield 155, 3) := by decide +kernel
theorem D10_wrong_18 : decode m10_wrong.2.1 18 = .ok (.putfield 196, 3) := by decide +kernel
theorem D10_wrong_21 : decode m10_wrong.2.1 21 = .ok (.return_, 1) := by decide +kernel
theorem D10_isWord_0 : decode m10_isWord.2.1 0 = .ok (.aload_n 0, 1) := by decide +kernel
theorem D10_isWord_1 : decode m10_isWord.2.1 1 = .ok (.getfield 193, 3) := by decide +kernel
theorem D10_isWord_4 : decode m10_isWord.2.1 4 = .ok (.ifCond .ne 22, 3) := by decide +kernel
theorem D10_isWord_7 : decode m10_isWord.2.1 7 = .ok (.aload_n 0, 1) := by decide +kernel
theorem D10_isWord_8 : decode m10_isWord.2.1 8 = .ok (.getfield 158, 3) := by decide +kernel
theorem D10_isWord_11 : decode m10_isWord.2.1 11 = .ok (.ifCond .ne 15, 3) := by decide +kernel
theorem D10_isWord_14 : decode m10_isWord.2.1 14 = .ok (.aload_n 0, 1) := by decide +kernel
theorem D10_isWord_15 : decode m10_isWord.2.1 15 = .ok (.getfield 168, 3) := by decide +kernel
theorem D10_isWord_18 : decode m10_isWord.2.1 18 = .ok (.iload_n 1, 1) := by decide +kernel
theorem D10_isWord_19 : decode m10_isWord.2.1 19 = .ok (.if_icmp .ne 7, 3) := by decide +kernel
theorem D10_isWord_22 : decode m10_isWord.2.1 22 = .ok (.iconst 1, 1) := by decide +kernel
theorem D10_isWord_23 : decode m10_isWord.2.1 23 = .ok (.goto 4, 3) := by decide +kernel
theorem D10_isWord_26 : decode m10_isWord.2.1 26 = .ok (.iconst 0, 1) := by decide +kernel
theorem D10_isWord_27 : decode m10_isWord.2.1 27 = .ok (.ireturn, 1) := by decide +kernel
theorem D10_isSign_0 : decode m10_isSign.2.1 0 = .ok (.aload_n 0, 1) := by decide +kernel
theorem D10_isSign_1 : decode m10_isSign.2.1 1 = .ok (.getfield 193, 3) := by decide +kernel
theorem D10_isSign_4 : decode m10_isSign.2.1 4 = .ok (.ifCond .ne 23, 3) := by decide +kernel
theorem D10_isSign_7 : decode m10_isSign.2.1 7 = .ok (.aload_n 0, 1) := by decide +kernel
theorem D10_isSign_8 : decode m10_isSign.2.1 8 = .ok (.getfield 158, 3) := by decide +kernel
theorem D10_isSign_11 : decode m10_isSign.2.1 11 = .ok (.iconst 3, 1) := by decide +kernel
theorem D10_isSign_12 : decode m10_isSign.2.1 12 = .ok (.if_icmp .ne 15, 3) := by decide +kernel
theorem D10_isSign_15 : decode m10_isSign.2.1 15 = .ok (.aload_n 0, 1) := by decide +kernel
theorem D10_isSign_16 : decode m10_isSign.2.1 16 = .ok (.getfield 168, 3) := by decide +kernel
theorem D10_isSign_19 : decode m10_isSign.2.1 19 = .ok (.iload_n 1, 1) := by decide +kernel
theorem D10_isSign_20 : decode m10_isSign.2.1 20 = .ok (.if_icmp .ne 7, 3) := by decide +kernel
theorem D10_isSign_23 : decode m10_isSign.2.1 23 = .ok (.iconst 1, 1) := by decide +kernel
theorem D10_isSign_24 : decode m10_isSign.2.1 24 = .ok (.goto 4, 3) := by decide +kernel
theorem D10_isSign_27 : decode m10_isSign.2.1 27 = .ok (.iconst 0, 1) := by decide +kernel
theorem D10_isSign_28 : decode m10_isSign.2.1 28 = .ok (.ireturn, 1) := by decide +kernel
theorem D10_goOn_0 : decode m10_goOn.2.1 0 = .ok (.aload_n 0, 1) := by decide +kernel
theorem D10_goOn_1 : decode m10_goOn.2.1 1 = .ok (.getfield 193, 3) := by decide +kernel
theorem D10_goOn_4 : decode m10_goOn.2.1 4 = .ok (.ifCond .ne 7, 3) := by decide +kernel
theorem D10_goOn_7 : decode m10_goOn.2.1 7 = .ok (.aload_n 0, 1) := by decide +kernel
theorem D10_goOn_8 : decode m10_goOn.2.1 8 = .ok (.invokevirtual 199, 3) := by decide +kernel
theorem D10_goOn_11 : decode m10_goOn.2.1 11 = .ok (.return_, 1) := by decide +kernel
theorem D10_numeral_0 : decode m10_numeral.2.1 0 = .ok (.aload_n 0, 1) := by decide +kernel
theorem D10_numeral_1 : decode m10_numeral.2.1 1 = .ok (.getfield 193, 3) := by decide +kernel
theorem D10_numeral_4 : decode m10_numeral.2.1 4 = .ok (.ifCond .eq 5, 3) := by decide +kernel
theorem D10_numeral_7 : decode m10_numeral.2.1 7 = .ok (.iload_n 1, 1) := by decide +kernel
theorem D10_numeral_8 : decode m10_numeral.2.1 8 = .ok (.ireturn, 1) := by decide +kernel
theorem D10_numeral_9 : decode m10_numeral.2.1 9 = .ok (.aload_n 0, 1) := by decide +kernel
theorem D10_numeral_10 : decode m10_numeral.2.1 10 = .ok (.getfield 158, 3) := by decide +kernel
theorem D10_numeral_13 : decode m10_numeral.2.1 13 = .ok (.iconst 2, 1) := by decide +kernel
theorem D10_numeral_14 : decode m10_numeral.2.1 14 = .ok (.if_icmp .eq 11, 3) := by decide +kernel
theorem D10_numeral_17 : decode m10_numeral.2.1 17 = .ok (.aload_n 0, 1) := by decide +kernel
theorem D10_numeral_18 : decode m10_numeral.2.1 18 = .ok (.iconst 1, 1) := by decide +kernel
theorem D10_numeral_19 : decode m10_numeral.2.1 19 = .ok (.invokevirtual 202, 3) := by decide +kernel
theorem D10_numeral_22 : decode m10_numeral.2.1 22 = .ok (.goto 24, 3) := by decide +kernel
theorem D10_numeral_25 : decode m10_numeral.2.1 25 = .ok (.aload_n 0, 1) := by decide +kernel
theorem D10_numeral_26 : decode m10_numeral.2.1 26 = .ok (.getfield 168, 3) := by decide +kernel
theorem D10_numeral_29 : decode m10_numeral.2.1 29 = .ok (.iload_n 1, 1) := by decide +kernel
theorem D10_numeral_30 : decode m10_numeral.2.1 30 = .ok (.if_icmp .lt 11, 3) := by decide +kernel
theorem D10_numeral_33 : decode m10_numeral.2.1 33 = .ok (.aload_n 0, 1) := by decide +kernel
theorem D10_numeral_34 : decode m10_numeral.2.1 34 = .ok (.getfield 168, 3) := by decide +kernel
theorem D10_numeral_37 : decode m10_numeral.2.1 37 = .ok (.iload_n 2, 1) := by decide +kernel
theorem D10_numeral_38 : decode m10_numeral.2.1 38 = .ok (.if_icmp .le 8, 3) := by decide +kernel
theorem D10_numeral_41 : decode m10_numeral.2.1 41 = .ok (.aload_n 0, 1) := by decide +kernel
theorem D10_numeral_42 : decode m10_numeral.2.1 42 = .ok (.iconst 2, 1) := by decide +kernel
theorem D10_numeral_43 : decode m10_numeral.2.1 43 = .ok (.invokevirtual 202, 3) := by decide +kernel
theorem D10_numeral_46 : decode m10_numeral.2.1 46 = .ok (.aload_n 0, 1) := by decide +kernel
theorem D10_numeral_47 : decode m10_numeral.2.1 47 = .ok (.getfield 193, 3) := by decide +kernel
theorem D10_numeral_50 : decode m10_numeral.2.1 50 = .ok (.ifCond .eq 5, 3) := by decide +kernel
theorem D10_numeral_53 : decode m10_numeral.2.1 53 = .ok (.iload_n 1, 1) := by decide +kernel
theorem D10_numeral_54 : decode m10_numeral.2.1 54 = .ok (.ireturn, 1) := by decide +kernel
theorem D10_numeral_55 : decode m10_numeral.2.1 55 = .ok (.aload_n 0, 1) := by decide +kernel
theorem D10_numeral_56 : decode m10_numeral.2.1 56 = .ok (.getfield 168, 3) := by decide +kernel
theorem D10_numeral_59 : decode m10_numeral.2.1 59 = .ok (.istore_n 3, 1) := by decide +kernel
theorem D10_numeral_60 : decode m10_numeral.2.1 60 = .ok (.aload_n 0, 1) := by decide +kernel
theorem D10_numeral_61 : decode m10_numeral.2.1 61 = .ok (.invokevirtual 199, 3) := by decide +kernel
theorem D10_numeral_64 : decode m10_numeral.2.1 64 = .ok (.iload_n 3, 1) := by decide +kernel
theorem D10_numeral_65 : decode m10_numeral.2.1 65 = .ok (.ireturn, 1) := by decide +kernel
theorem D10_found_0 : decode m10_found.2.1 0 = .ok (.iconst 0, 1) := by decide +kernel
theorem D10_found_1 : decode m10_found.2.1 1 = .ok (.istore 4, 2) := by decide +kernel
theorem D10_found_3 : decode m10_found.2.1 3 = .ok (.iload 4, 2) := by decide +kernel
theorem D10_found_5 : decode m10_found.2.1 5 = .ok (.iload_n 2, 1) := by decide +kernel
theorem D10_found_6 : decode m10_found.2.1 6 = .ok (.if_icmp .ge 22, 3) := by decide +kernel
theorem D10_found_9 : decode m10_found.2.1 9 = .ok (.aload_n 0, 1) := by decide +kernel
theorem D10_found_10 : decode m10_found.2.1 10 = .ok (.iload_n 1, 1) := by decide +kernel
theorem D10_found_11 : decode m10_found.2.1 11 = .ok (.iload 4, 2) := by decide +kernel
theorem D10_found_13 : decode m10_found.2.1 13 = .ok (.iadd, 1) := by decide +kernel
theorem D10_found_14 : decode m10_found.2.1 14 = .ok (.iaload, 1) := by decide +kernel
theorem D10_found_15 : decode m10_found.2.1 15 = .ok (.iload_n 3, 1) := by decide +kernel
theorem D10_found_16 : decode m10_found.2.1 16 = .ok (.if_icmp .ne 6, 3) := by decide +kernel
theorem D10_found_19 : decode m10_found.2.1 19 = .ok (.iload 4, 2) := by decide +kernel
theorem D10_found_21 : decode m10_found.2.1 21 = .ok (.ireturn, 1) := by decide +kernel
theorem D10_found_22 : decode m10_found.2.1 22 = .ok (.iinc 4 1, 3) := by decide +kernel
theorem D10_found_25 : decode m10_found.2.1 25 = .ok (.goto (-22), 3) := by decide +kernel
theorem D10_found_28 : decode m10_found.2.1 28 = .ok (.iconst (-1), 1) := by decide +kernel
theorem D10_found_29 : decode m10_found.2.1 29 = .ok (.ireturn, 1) := by decide +kernel
theorem D10_fresh_0 : decode m10_fresh.2.1 0 = .ok (.aload_n 0, 1) := by decide +kernel
theorem D10_fresh_1 : decode m10_fresh.2.1 1 = .ok (.getfield 193, 3) := by decide +kernel
theorem D10_fresh_4 : decode m10_fresh.2.1 4 = .ok (.ifCond .eq 5, 3) := by decide +kernel
theorem D10_fresh_7 : decode m10_fresh.2.1 7 = .ok (.iconst 0, 1) := by decide +kernel
theorem D10_fresh_8 : decode m10_fresh.2.1 8 = .ok (.ireturn, 1) := by decide +kernel
theorem D10_fresh_9 : decode m10_fresh.2.1 9 = .ok (.aload_n 0, 1) := by decide +kernel
theorem D10_fresh_10 : decode m10_fresh.2.1 10 = .ok (.getfield 158, 3) := by decide +kernel
theorem D10_fresh_13 : decode m10_fresh.2.1 13 = .ok (.iconst 1, 1) := by decide +kernel
theorem D10_fresh_14 : decode m10_fresh.2.1 14 = .ok (.if_icmp .eq 11, 3) := by decide +kernel
theorem D10_fresh_17 : decode m10_fresh.2.1 17 = .ok (.aload_n 0, 1) := by decide +kernel
theorem D10_fresh_18 : decode m10_fresh.2.1 18 = .ok (.iconst 1, 1) := by decide +kernel
theorem D10_fresh_19 : decode m10_fresh.2.1 19 = .ok (.invokevirtual 202, 3) := by decide +kernel
theorem D10_fresh_22 : decode m10_fresh.2.1 22 = .ok (.goto 22, 3) := by decide +kernel
theorem D10_fresh_25 : decode m10_fresh.2.1 25 = .ok (.aload_n 1, 1) := by decide +kernel
theorem D10_fresh_26 : decode m10_fresh.2.1 26 = .ok (.iload_n 2, 1) := by decide +kernel
theorem D10_fresh_27 : decode m10_fresh.2.1 27 = .ok (.iload_n 3, 1) := by decide +kernel
theorem D10_fresh_28 : decode m10_fresh.2.1 28 = .ok (.aload_n 0, 1) := by decide +kernel
theorem D10_fresh_29 : decode m10_fresh.2.1 29 = .ok (.getfield 168, 3) := by decide +kernel
theorem D10_fresh_32 : decode m10_fresh.2.1 32 = .ok (.invokestatic 205, 3) := by decide +kernel
theorem D10_fresh_35 : decode m10_fresh.2.1 35 = .ok (.iconst (-1), 1) := by decide +kernel
theorem D10_fresh_36 : decode m10_fresh.2.1 36 = .ok (.if_icmp .eq 8, 3) := by decide +kernel
theorem D10_fresh_39 : decode m10_fresh.2.1 39 = .ok (.aload_n 0, 1) := by decide +kernel
theorem D10_fresh_40 : decode m10_fresh.2.1 40 = .ok (.iconst 3, 1) := by decide +kernel
theorem D10_fresh_41 : decode m10_fresh.2.1 41 = .ok (.invokevirtual 202, 3) := by decide +kernel
theorem D10_fresh_44 : decode m10_fresh.2.1 44 = .ok (.aload_n 0, 1) := by decide +kernel
theorem D10_fresh_45 : decode m10_fresh.2.1 45 = .ok (.getfield 193, 3) := by decide +kernel
theorem D10_fresh_48 : decode m10_fresh.2.1 48 = .ok (.ifCond .eq 5, 3) := by decide +kernel
theorem D10_fresh_51 : decode m10_fresh.2.1 51 = .ok (.iconst 0, 1) := by decide +kernel
theorem D10_fresh_52 : decode m10_fresh.2.1 52 = .ok (.ireturn, 1) := by decide +kernel
theorem D10_fresh_53 : decode m10_fresh.2.1 53 = .ok (.aload_n 0, 1) := by decide +kernel
theorem D10_fresh_54 : decode m10_fresh.2.1 54 = .ok (.getfield 168, 3) := by decide +kernel
theorem D10_fresh_57 : decode m10_fresh.2.1 57 = .ok (.istore 4, 2) := by decide +kernel
theorem D10_fresh_59 : decode m10_fresh.2.1 59 = .ok (.aload_n 0, 1) := by decide +kernel
theorem D10_fresh_60 : decode m10_fresh.2.1 60 = .ok (.invokevirtual 199, 3) := by decide +kernel
theorem D10_fresh_63 : decode m10_fresh.2.1 63 = .ok (.iload 4, 2) := by decide +kernel
theorem D10_fresh_65 : decode m10_fresh.2.1 65 = .ok (.ireturn, 1) := by decide +kernel
theorem D10_fresher_0 : decode m10_fresher.2.1 0 = .ok (.aload_n 0, 1) := by decide +kernel
theorem D10_fresher_1 : decode m10_fresher.2.1 1 = .ok (.getfield 13, 3) := by decide +kernel
theorem D10_fresher_4 : decode m10_fresher.2.1 4 = .ok (.bipush 6, 2) := by decide +kernel
theorem D10_fresher_6 : decode m10_fresher.2.1 6 = .ok (.iload_n 1, 1) := by decide +kernel
theorem D10_fresher_7 : decode m10_fresher.2.1 7 = .ok (.iadd, 1) := by decide +kernel
theorem D10_fresher_8 : decode m10_fresher.2.1 8 = .ok (.iaload, 1) := by decide +kernel
theorem D10_fresher_9 : decode m10_fresher.2.1 9 = .ok (.ireturn, 1) := by decide +kernel
theorem D10_reads_0 : decode m10_reads.2.1 0 = .ok (.aload_n 0, 1) := by decide +kernel
theorem D10_reads_1 : decode m10_reads.2.1 1 = .ok (.getfield 13, 3) := by decide +kernel
theorem D10_reads_4 : decode m10_reads.2.1 4 = .ok (.bipush 6, 2) := by decide +kernel
theorem D10_reads_6 : decode m10_reads.2.1 6 = .ok (.iload_n 1, 1) := by decide +kernel
theorem D10_reads_7 : decode m10_reads.2.1 7 = .ok (.iadd, 1) := by decide +kernel
theorem D10_reads_8 : decode m10_reads.2.1 8 = .ok (.iload_n 2, 1) := by decide +kernel
theorem D10_reads_9 : decode m10_reads.2.1 9 = .ok (.iastore, 1) := by decide +kernel
theorem D10_reads_10 : decode m10_reads.2.1 10 = .ok (.return_, 1) := by decide +kernel
theorem D10_manAtHand_0 : decode m10_manAtHand.2.1 0 = .ok (.aload_n 0, 1) := by decide +kernel
theorem D10_manAtHand_1 : decode m10_manAtHand.2.1 1 = .ok (.getfield 193, 3) := by decide +kernel
theorem D10_manAtHand_4 : decode m10_manAtHand.2.1 4 = .ok (.ifCond .eq 5, 3) := by decide +kernel
theorem D10_manAtHand_7 : decode m10_manAtHand.2.1 7 = .ok (.iconst 0, 1) := by decide +kernel
theorem D10_manAtHand_8 : decode m10_manAtHand.2.1 8 = .ok (.ireturn, 1) := by decide +kernel
theorem D10_manAtHand_9 : decode m10_manAtHand.2.1 9 = .ok (.aload_n 0, 1) := by decide +kernel
theorem D10_manAtHand_10 : decode m10_manAtHand.2.1 10 = .ok (.getfield 158, 3) := by decide +kernel
theorem D10_manAtHand_13 : decode m10_manAtHand.2.1 13 = .ok (.iconst 1, 1) := by decide +kernel
theorem D10_manAtHand_14 : decode m10_manAtHand.2.1 14 = .ok (.if_icmp .eq 11, 3) := by decide +kernel
theorem D10_manAtHand_17 : decode m10_manAtHand.2.1 17 = .ok (.aload_n 0, 1) := by decide +kernel
theorem D10_manAtHand_18 : decode m10_manAtHand.2.1 18 = .ok (.iconst 1, 1) := by decide +kernel
theorem D10_manAtHand_19 : decode m10_manAtHand.2.1 19 = .ok (.invokevirtual 202, 3) := by decide +kernel
theorem D10_manAtHand_22 : decode m10_manAtHand.2.1 22 = .ok (.goto 29, 3) := by decide +kernel
theorem D10_manAtHand_25 : decode m10_manAtHand.2.1 25 = .ok (.aload_n 0, 1) := by decide +kernel
theorem D10_manAtHand_26 : decode m10_manAtHand.2.1 26 = .ok (.getfield 16, 3) := by decide +kernel
theorem D10_manAtHand_29 : decode m10_manAtHand.2.1 29 = .ok (.iconst 5, 1) := by decide +kernel
theorem D10_manAtHand_30 : decode m10_manAtHand.2.1 30 = .ok (.aload_n 0, 1) := by decide +kernel
theorem D10_manAtHand_31 : decode m10_manAtHand.2.1 31 = .ok (.iconst 0, 1) := by decide +kernel
theorem D10_manAtHand_32 : decode m10_manAtHand.2.1 32 = .ok (.invokevirtual 209, 3) := by decide +kernel
theorem D10_manAtHand_35 : decode m10_manAtHand.2.1 35 = .ok (.aload_n 0, 1) := by decide +kernel
theorem D10_manAtHand_36 : decode m10_manAtHand.2.1 36 = .ok (.getfield 168, 3) := by decide +kernel
theorem D10_manAtHand_39 : decode m10_manAtHand.2.1 39 = .ok (.invokestatic 205, 3) := by decide +kernel
theorem D10_manAtHand_42 : decode m10_manAtHand.2.1 42 = .ok (.iconst (-1), 1) := by decide +kernel
theorem D10_manAtHand_43 : decode m10_manAtHand.2.1 43 = .ok (.if_icmp .ne 8, 3) := by decide +kernel
theorem D10_manAtHand_46 : decode m10_manAtHand.2.1 46 = .ok (.aload_n 0, 1) := by decide +kernel
theorem D10_manAtHand_47 : decode m10_manAtHand.2.1 47 = .ok (.iconst 4, 1) := by decide +kernel
theorem D10_manAtHand_48 : decode m10_manAtHand.2.1 48 = .ok (.invokevirtual 202, 3) := by decide +kernel
theorem D10_manAtHand_51 : decode m10_manAtHand.2.1 51 = .ok (.aload_n 0, 1) := by decide +kernel
theorem D10_manAtHand_52 : decode m10_manAtHand.2.1 52 = .ok (.getfield 193, 3) := by decide +kernel
theorem D10_manAtHand_55 : decode m10_manAtHand.2.1 55 = .ok (.ifCond .eq 7, 3) := by decide +kernel
theorem D10_manAtHand_58 : decode m10_manAtHand.2.1 58 = .ok (.iconst 0, 1) := by decide +kernel
theorem D10_manAtHand_59 : decode m10_manAtHand.2.1 59 = .ok (.goto 20, 3) := by decide +kernel
theorem D10_manAtHand_62 : decode m10_manAtHand.2.1 62 = .ok (.aload_n 0, 1) := by decide +kernel
theorem D10_manAtHand_63 : decode m10_manAtHand.2.1 63 = .ok (.getfield 16, 3) := by decide +kernel
theorem D10_manAtHand_66 : decode m10_manAtHand.2.1 66 = .ok (.iconst 5, 1) := by decide +kernel
theorem D10_manAtHand_67 : decode m10_manAtHand.2.1 67 = .ok (.aload_n 0, 1) := by decide +kernel
theorem D10_manAtHand_68 : decode m10_manAtHand.2.1 68 = .ok (.iconst 0, 1) := by decide +kernel
theorem D10_manAtHand_69 : decode m10_manAtHand.2.1 69 = .ok (.invokevirtual 209, 3) := by decide +kernel
theorem D10_manAtHand_72 : decode m10_manAtHand.2.1 72 = .ok (.aload_n 0, 1) := by decide +kernel
theorem D10_manAtHand_73 : decode m10_manAtHand.2.1 73 = .ok (.getfield 168, 3) := by decide +kernel
theorem D10_manAtHand_76 : decode m10_manAtHand.2.1 76 = .ok (.invokestatic 205, 3) := by decide +kernel
theorem D10_manAtHand_79 : decode m10_manAtHand.2.1 79 = .ok (.ireturn, 1) := by decide +kernel
theorem D10_manAhead_0 : decode m10_manAhead.2.1 0 = .ok (.aload_n 0, 1) := by decide +kernel
theorem D10_manAhead_1 : decode m10_manAhead.2.1 1 = .ok (.invokevirtual 213, 3) := by decide +kernel
theorem D10_manAhead_4 : decode m10_manAhead.2.1 4 = .ok (.istore_n 1, 1) := by decide +kernel
theorem D10_manAhead_5 : decode m10_manAhead.2.1 5 = .ok (.aload_n 0, 1) := by decide +kernel
theorem D10_manAhead_6 : decode m10_manAhead.2.1 6 = .ok (.invokevirtual 216, 3) := by decide +kernel
theorem D10_manAhead_9 : decode m10_manAhead.2.1 9 = .ok (.iload_n 1, 1) := by decide +kernel
theorem D10_manAhead_10 : decode m10_manAhead.2.1 10 = .ok (.ireturn, 1) := by decide +kernel
theorem D10_isFull_0 : decode m10_isFull.2.1 0 = .ok (.iload_n 1, 1) := by decide +kernel
theorem D10_isFull_1 : decode m10_isFull.2.1 1 = .ok (.ifCond .ne 12, 3) := by decide +kernel
theorem D10_isFull_4 : decode m10_isFull.2.1 4 = .ok (.aload_n 0, 1) := by decide +kernel
theorem D10_isFull_5 : decode m10_isFull.2.1 5 = .ok (.iconst 0, 1) := by decide +kernel
theorem D10_isFull_6 : decode m10_isFull.2.1 6 = .ok (.invokevirtual 209, 3) := by decide +kernel
theorem D10_isFull_9 : decode m10_isFull.2.1 9 = .ok (.iconst 5, 1) := by decide +kernel
theorem D10_isFull_10 : decode m10_isFull.2.1 10 = .ok (.if_icmp .eq 33, 3) := by decide +kernel
theorem D10_isFull_13 : decode m10_isFull.2.1 13 = .ok (.iload_n 1, 1) := by decide +kernel
theorem D10_isFull_14 : decode m10_isFull.2.1 14 = .ok (.iconst 1, 1) := by decide +kernel
theorem D10_isFull_15 : decode m10_isFull.2.1 15 = .ok (.if_icmp .ne 13, 3) := by decide +kernel
theorem D10_isFull_18 : decode m10_isFull.2.1 18 = .ok (.aload_n 0, 1) := by decide +kernel
theorem D10_isFull_19 : decode m10_isFull.2.1 19 = .ok (.iconst 1, 1) := by decide +kernel
theorem D10_isFull_20 : decode m10_isFull.2.1 20 = .ok (.invokevirtual 209, 3) := by decide +kernel
theorem D10_isFull_23 : decode m10_isFull.2.1 23 = .ok (.bipush 10, 2) := by decide +kernel
theorem D10_isFull_25 : decode m10_isFull.2.1 25 = .ok (.if_icmp .eq 18, 3) := by decide +kernel
theorem D10_isFull_28 : decode m10_isFull.2.1 28 = .ok (.iload_n 1, 1) := by decide +kernel
theorem D10_isFull_29 : decode m10_isFull.2.1 29 = .ok (.iconst 2, 1) := by decide +kernel
theorem D10_isFull_30 : decode m10_isFull.2.1 30 = .ok (.if_icmp .ne 17, 3) := by decide +kernel
theorem D10_isFull_33 : decode m10_isFull.2.1 33 = .ok (.aload_n 0, 1) := by decide +kernel
theorem D10_isFull_34 : decode m10_isFull.2.1 34 = .ok (.iconst 2, 1) := by decide +kernel
theorem D10_isFull_35 : decode m10_isFull.2.1 35 = .ok (.invokevirtual 209, 3) := by decide +kernel
theorem D10_isFull_38 : decode m10_isFull.2.1 38 = .ok (.bipush 8, 2) := by decide +kernel
theorem D10_isFull_40 : decode m10_isFull.2.1 40 = .ok (.if_icmp .ne 7, 3) := by decide +kernel
theorem D10_isFull_43 : decode m10_isFull.2.1 43 = .ok (.iconst 1, 1) := by decide +kernel
theorem D10_isFull_44 : decode m10_isFull.2.1 44 = .ok (.goto 4, 3) := by decide +kernel
theorem D10_isFull_47 : decode m10_isFull.2.1 47 = .ok (.iconst 0, 1) := by decide +kernel
theorem D10_isFull_48 : decode m10_isFull.2.1 48 = .ok (.ireturn, 1) := by decide +kernel
theorem D10_line_0 : decode m10_line.2.1 0 = .ok (.aload_n 0, 1) := by decide +kernel
theorem D10_line_1 : decode m10_line.2.1 1 = .ok (.getfield 158, 3) := by decide +kernel
theorem D10_line_4 : decode m10_line.2.1 4 = .ok (.ifCond .ne 11, 3) := by decide +kernel
theorem D10_line_7 : decode m10_line.2.1 7 = .ok (.aload_n 0, 1) := by decide +kernel
theorem D10_line_8 : decode m10_line.2.1 8 = .ok (.getfield 168, 3) := by decide +kernel
theorem D10_line_11 : decode m10_line.2.1 11 = .ok (.iconst 5, 1) := by decide +kernel
theorem D10_line_12 : decode m10_line.2.1 12 = .ok (.if_icmp .le 9, 3) := by decide +kernel
theorem D10_line_15 : decode m10_line.2.1 15 = .ok (.aload_n 0, 1) := by decide +kernel
theorem D10_line_16 : decode m10_line.2.1 16 = .ok (.iconst 1, 1) := by decide +kernel
theorem D10_line_17 : decode m10_line.2.1 17 = .ok (.invokevirtual 202, 3) := by decide +kernel
theorem D10_line_20 : decode m10_line.2.1 20 = .ok (.return_, 1) := by decide +kernel
theorem D10_line_21 : decode m10_line.2.1 21 = .ok (.aload_n 0, 1) := by decide +kernel
theorem D10_line_22 : decode m10_line.2.1 22 = .ok (.getfield 168, 3) := by decide +kernel
theorem D10_line_25 : decode m10_line.2.1 25 = .ok (.istore_n 1, 1) := by decide +kernel
theorem D10_line_26 : decode m10_line.2.1 26 = .ok (.aload_n 0, 1) := by decide +kernel
theorem D10_line_27 : decode m10_line.2.1 27 = .ok (.iload_n 1, 1) := by decide +kernel
theorem D10_line_28 : decode m10_line.2.1 28 = .ok (.invokevirtual 219, 3) := by decide +kernel
theorem D10_line_31 : decode m10_line.2.1 31 = .ok (.ifCond .eq 11, 3) := by decide +kernel
theorem D10_line_34 : decode m10_line.2.1 34 = .ok (.aload_n 0, 1) := by decide +kernel
theorem D10_line_35 : decode m10_line.2.1 35 = .ok (.iconst 2, 1) := by decide +kernel
theorem D10_line_36 : decode m10_line.2.1 36 = .ok (.invokevirtual 202, 3) := by decide +kernel
theorem D10_line_39 : decode m10_line.2.1 39 = .ok (.goto 30, 3) := by decide +kernel
theorem D10_line_42 : decode m10_line.2.1 42 = .ok (.iload_n 1, 1) := by decide +kernel
theorem D10_line_43 : decode m10_line.2.1 43 = .ok (.iconst 3, 1) := by decide +kernel
theorem D10_line_44 : decode m10_line.2.1 44 = .ok (.if_icmp .eq 8, 3) := by decide +kernel
theorem D10_line_47 : decode m10_line.2.1 47 = .ok (.iload_n 1, 1) := by decide +kernel
theorem D10_line_48 : decode m10_line.2.1 48 = .ok (.iconst 4, 1) := by decide +kernel
theorem D10_line_49 : decode m10_line.2.1 49 = .ok (.if_icmp .ne 20, 3) := by decide +kernel
theorem D10_line_52 : decode m10_line.2.1 52 = .ok (.aload_n 0, 1) := by decide +kernel
theorem D10_line_53 : decode m10_line.2.1 53 = .ok (.getfield 222, 3) := by decide +kernel
theorem D10_line_56 : decode m10_line.2.1 56 = .ok (.iload_n 1, 1) := by decide +kernel
theorem D10_line_57 : decode m10_line.2.1 57 = .ok (.ishr, 1) := by decide +kernel
theorem D10_line_58 : decode m10_line.2.1 58 = .ok (.iconst 1, 1) := by decide +kernel
theorem D10_line_59 : decode m10_line.2.1 59 = .ok (.iand, 1) := by decide +kernel
theorem D10_line_60 : decode m10_line.2.1 60 = .ok (.iconst 1, 1) := by decide +kernel
theorem D10_line_61 : decode m10_line.2.1 61 = .ok (.if_icmp .ne 8, 3) := by decide +kernel
theorem D10_line_64 : decode m10_line.2.1 64 = .ok (.aload_n 0, 1) := by decide +kernel
theorem D10_line_65 : decode m10_line.2.1 65 = .ok (.iconst 3, 1) := by decide +kernel
theorem D10_line_66 : decode m10_line.2.1 66 = .ok (.invokevirtual 202, 3) := by decide +kernel
theorem D10_line_69 : decode m10_line.2.1 69 = .ok (.aload_n 0, 1) := by decide +kernel
theorem D10_line_70 : decode m10_line.2.1 70 = .ok (.getfield 193, 3) := by decide +kernel
theorem D10_line_73 : decode m10_line.2.1 73 = .ok (.ifCond .eq 4, 3) := by decide +kernel
theorem D10_line_76 : decode m10_line.2.1 76 = .ok (.return_, 1) := by decide +kernel
theorem D10_line_77 : decode m10_line.2.1 77 = .ok (.aload_n 0, 1) := by decide +kernel
theorem D10_line_78 : decode m10_line.2.1 78 = .ok (.dup, 1) := by decide +kernel
theorem D10_line_79 : decode m10_line.2.1 79 = .ok (.getfield 222, 3) := by decide +kernel
theorem D10_line_82 : decode m10_line.2.1 82 = .ok (.iconst 1, 1) := by decide +kernel
theorem D10_line_83 : decode m10_line.2.1 83 = .ok (.iload_n 1, 1) := by decide +kernel
theorem D10_line_84 : decode m10_line.2.1 84 = .ok (.ishl, 1) := by decide +kernel
theorem D10_line_85 : decode m10_line.2.1 85 = .ok (.ior, 1) := by decide +kernel
theorem D10_line_86 : decode m10_line.2.1 86 = .ok (.putfield 222, 3) := by decide +kernel
theorem D10_line_89 : decode m10_line.2.1 89 = .ok (.aload_n 0, 1) := by decide +kernel
theorem D10_line_90 : decode m10_line.2.1 90 = .ok (.invokevirtual 199, 3) := by decide +kernel
theorem D10_line_93 : decode m10_line.2.1 93 = .ok (.iload_n 1, 1) := by decide +kernel
theorem D10_line_94 : decode m10_line.2.1 94 = .ok (.tableswitch 226 0 4 #[34, 90, 105, 196, 211], 34) := by decide +kernel
theorem D10_line_128 : decode m10_line.2.1 128 = .ok (.iconst 5, 1) := by decide +kernel
theorem D10_line_129 : decode m10_line.2.1 129 = .ok (.aload_n 0, 1) := by decide +kernel
theorem D10_line_130 : decode m10_line.2.1 130 = .ok (.iconst 0, 1) := by decide +kernel
theorem D10_line_131 : decode m10_line.2.1 131 = .ok (.invokevirtual 209, 3) := by decide +kernel
theorem D10_line_134 : decode m10_line.2.1 134 = .ok (.iadd, 1) := by decide +kernel
theorem D10_line_135 : decode m10_line.2.1 135 = .ok (.istore_n 2, 1) := by decide +kernel
theorem D10_line_136 : decode m10_line.2.1 136 = .ok (.aload_n 0, 1) := by decide +kernel
theorem D10_line_137 : decode m10_line.2.1 137 = .ok (.getfield 16, 3) := by decide +kernel
theorem D10_line_140 : decode m10_line.2.1 140 = .ok (.iload_n 2, 1) := by decide +kernel
theorem D10_line_141 : decode m10_line.2.1 141 = .ok (.aload_n 0, 1) := by decide +kernel
theorem D10_line_142 : decode m10_line.2.1 142 = .ok (.aload_n 0, 1) := by decide +kernel
theorem D10_line_143 : decode m10_line.2.1 143 = .ok (.getfield 16, 3) := by decide +kernel
theorem D10_line_146 : decode m10_line.2.1 146 = .ok (.iconst 5, 1) := by decide +kernel
theorem D10_line_147 : decode m10_line.2.1 147 = .ok (.aload_n 0, 1) := by decide +kernel
theorem D10_line_148 : decode m10_line.2.1 148 = .ok (.iconst 0, 1) := by decide +kernel
theorem D10_line_149 : decode m10_line.2.1 149 = .ok (.invokevirtual 209, 3) := by decide +kernel
theorem D10_line_152 : decode m10_line.2.1 152 = .ok (.invokevirtual 225, 3) := by decide +kernel
theorem D10_line_155 : decode m10_line.2.1 155 = .ok (.iastore, 1) := by decide +kernel
theorem D10_line_156 : decode m10_line.2.1 156 = .ok (.aload_n 0, 1) := by decide +kernel
theorem D10_line_157 : decode m10_line.2.1 157 = .ok (.getfield 19, 3) := by decide +kernel
theorem D10_line_160 : decode m10_line.2.1 160 = .ok (.iload_n 2, 1) := by decide +kernel
theorem D10_line_161 : decode m10_line.2.1 161 = .ok (.aload_n 0, 1) := by decide +kernel
theorem D10_line_162 : decode m10_line.2.1 162 = .ok (.iconst 0, 1) := by decide +kernel
theorem D10_line_163 : decode m10_line.2.1 163 = .ok (.bipush 9, 2) := by decide +kernel
theorem D10_line_165 : decode m10_line.2.1 165 = .ok (.invokevirtual 229, 3) := by decide +kernel
theorem D10_line_168 : decode m10_line.2.1 168 = .ok (.iastore, 1) := by decide +kernel
theorem D10_line_169 : decode m10_line.2.1 169 = .ok (.aload_n 0, 1) := by decide +kernel
theorem D10_line_170 : decode m10_line.2.1 170 = .ok (.iconst 0, 1) := by decide +kernel
theorem D10_line_171 : decode m10_line.2.1 171 = .ok (.aload_n 0, 1) := by decide +kernel
theorem D10_line_172 : decode m10_line.2.1 172 = .ok (.iconst 0, 1) := by decide +kernel
theorem D10_line_173 : decode m10_line.2.1 173 = .ok (.invokevirtual 209, 3) := by decide +kernel
theorem D10_line_176 : decode m10_line.2.1 176 = .ok (.iconst 1, 1) := by decide +kernel
theorem D10_line_177 : decode m10_line.2.1 177 = .ok (.iadd, 1) := by decide +kernel
theorem D10_line_178 : decode m10_line.2.1 178 = .ok (.invokevirtual 233, 3) := by decide +kernel
theorem D10_line_181 : decode m10_line.2.1 181 = .ok (.goto 143, 3) := by decide +kernel
theorem D10_line_184 : decode m10_line.2.1 184 = .ok (.aload_n 0, 1) := by decide +kernel
theorem D10_line_185 : decode m10_line.2.1 185 = .ok (.bipush 10, 2) := by decide +kernel
theorem D10_line_187 : decode m10_line.2.1 187 = .ok (.aload_n 0, 1) := by decide +kernel
theorem D10_line_188 : decode m10_line.2.1 188 = .ok (.iconst 1, 1) := by decide +kernel
theorem D10_line_189 : decode m10_line.2.1 189 = .ok (.invokevirtual 209, 3) := by decide +kernel
theorem D10_line_192 : decode m10_line.2.1 192 = .ok (.iadd, 1) := by decide +kernel
theorem D10_line_193 : decode m10_line.2.1 193 = .ok (.invokevirtual 237, 3) := by decide +kernel
theorem D10_line_196 : decode m10_line.2.1 196 = .ok (.goto 128, 3) := by decide +kernel
theorem D10_line_199 : decode m10_line.2.1 199 = .ok (.bipush 8, 2) := by decide +kernel
theorem D10_line_201 : decode m10_line.2.1 201 = .ok (.aload_n 0, 1) := by decide +kernel
theorem D10_line_202 : decode m10_line.2.1 202 = .ok (.iconst 2, 1) := by decide +kernel
theorem D10_line_203 : decode m10_line.2.1 203 = .ok (.invokevirtual 209, 3) := by decide +kernel
theorem D10_line_206 : decode m10_line.2.1 206 = .ok (.iadd, 1) := by decide +kernel
theorem D10_line_207 : decode m10_line.2.1 207 = .ok (.istore_n 3, 1) := by decide +kernel
theorem D10_line_208 : decode m10_line.2.1 208 = .ok (.aload_n 0, 1) := by decide +kernel
theorem D10_line_209 : decode m10_line.2.1 209 = .ok (.getfield 40, 3) := by decide +kernel
theorem D10_line_212 : decode m10_line.2.1 212 = .ok (.iload_n 3, 1) := by decide +kernel
theorem D10_line_213 : decode m10_line.2.1 213 = .ok (.aload_n 0, 1) := by decide +kernel
theorem D10_line_214 : decode m10_line.2.1 214 = .ok (.invokevirtual 240, 3) := by decide +kernel
theorem D10_line_217 : decode m10_line.2.1 217 = .ok (.iastore, 1) := by decide +kernel
theorem D10_line_218 : decode m10_line.2.1 218 = .ok (.aload_n 0, 1) := by decide +kernel
theorem D10_line_219 : decode m10_line.2.1 219 = .ok (.getfield 43, 3) := by decide +kernel
theorem D10_line_222 : decode m10_line.2.1 222 = .ok (.iload_n 3, 1) := by decide +kernel
theorem D10_line_223 : decode m10_line.2.1 223 = .ok (.aload_n 0, 1) := by decide +kernel
theorem D10_line_224 : decode m10_line.2.1 224 = .ok (.iconst 0, 1) := by decide +kernel
theorem D10_line_225 : decode m10_line.2.1 225 = .ok (.bipush 99, 2) := by decide +kernel
theorem D10_line_227 : decode m10_line.2.1 227 = .ok (.invokevirtual 229, 3) := by decide +kernel
theorem D10_line_230 : decode m10_line.2.1 230 = .ok (.iastore, 1) := by decide +kernel
theorem D10_line_231 : decode m10_line.2.1 231 = .ok (.aload_n 0, 1) := by decide +kernel
theorem D10_line_232 : decode m10_line.2.1 232 = .ok (.getfield 46, 3) := by decide +kernel
theorem D10_line_235 : decode m10_line.2.1 235 = .ok (.iload_n 3, 1) := by decide +kernel
theorem D10_line_236 : decode m10_line.2.1 236 = .ok (.aload_n 0, 1) := by decide +kernel
theorem D10_line_237 : decode m10_line.2.1 237 = .ok (.iconst 0, 1) := by decide +kernel
theorem D10_line_238 : decode m10_line.2.1 238 = .ok (.sipush 199, 3) := by decide +kernel
theorem D10_line_241 : decode m10_line.2.1 241 = .ok (.invokevirtual 229, 3) := by decide +kernel
theorem D10_line_244 : decode m10_line.2.1 244 = .ok (.iastore, 1) := by decide +kernel
theorem D10_line_245 : decode m10_line.2.1 245 = .ok (.aload_n 0, 1) := by decide +kernel
theorem D10_line_246 : decode m10_line.2.1 246 = .ok (.getfield 49, 3) := by decide +kernel
theorem D10_line_249 : decode m10_line.2.1 249 = .ok (.iload_n 3, 1) := by decide +kernel
theorem D10_line_250 : decode m10_line.2.1 250 = .ok (.aload_n 0, 1) := by decide +kernel
theorem D10_line_251 : decode m10_line.2.1 251 = .ok (.aload_n 0, 1) := by decide +kernel
theorem D10_line_252 : decode m10_line.2.1 252 = .ok (.getfield 193, 3) := by decide +kernel
theorem D10_line_255 : decode m10_line.2.1 255 = .ok (.ifCond .ne 12, 3) := by decide +kernel
theorem D10_line_258 : decode m10_line.2.1 258 = .ok (.aload_n 0, 1) := by decide +kernel
theorem D10_line_259 : decode m10_line.2.1 259 = .ok (.getfield 46, 3) := by decide +kernel
theorem D10_line_262 : decode m10_line.2.1 262 = .ok (.iload_n 3, 1) := by decide +kernel
theorem D10_line_263 : decode m10_line.2.1 263 = .ok (.iaload, 1) := by decide +kernel
theorem D10_line_264 : decode m10_line.2.1 264 = .ok (.goto 4, 3) := by decide +kernel
theorem D10_line_267 : decode m10_line.2.1 267 = .ok (.iconst 0, 1) := by decide +kernel
theorem D10_line_268 : decode m10_line.2.1 268 = .ok (.sipush 199, 3) := by decide +kernel
theorem D10_line_271 : decode m10_line.2.1 271 = .ok (.invokevirtual 229, 3) := by decide +kernel
theorem D10_line_274 : decode m10_line.2.1 274 = .ok (.iastore, 1) := by decide +kernel
theorem D10_line_275 : decode m10_line.2.1 275 = .ok (.aload_n 0, 1) := by decide +kernel
theorem D10_line_276 : decode m10_line.2.1 276 = .ok (.iconst 2, 1) := by decide +kernel
theorem D10_line_277 : decode m10_line.2.1 277 = .ok (.aload_n 0, 1) := by decide +kernel
theorem D10_line_278 : decode m10_line.2.1 278 = .ok (.iconst 2, 1) := by decide +kernel
theorem D10_line_279 : decode m10_line.2.1 279 = .ok (.invokevirtual 209, 3) := by decide +kernel
theorem D10_line_282 : decode m10_line.2.1 282 = .ok (.iconst 1, 1) := by decide +kernel
theorem D10_line_283 : decode m10_line.2.1 283 = .ok (.iadd, 1) := by decide +kernel
theorem D10_line_284 : decode m10_line.2.1 284 = .ok (.invokevirtual 233, 3) := by decide +kernel
theorem D10_line_287 : decode m10_line.2.1 287 = .ok (.goto 37, 3) := by decide +kernel
theorem D10_line_290 : decode m10_line.2.1 290 = .ok (.aload_n 0, 1) := by decide +kernel
theorem D10_line_291 : decode m10_line.2.1 291 = .ok (.iconst 3, 1) := by decide +kernel
theorem D10_line_292 : decode m10_line.2.1 292 = .ok (.aload_n 0, 1) := by decide +kernel
theorem D10_line_293 : decode m10_line.2.1 293 = .ok (.iconst 0, 1) := by decide +kernel
theorem D10_line_294 : decode m10_line.2.1 294 = .ok (.bipush 100, 2) := by decide +kernel
theorem D10_line_296 : decode m10_line.2.1 296 = .ok (.invokevirtual 229, 3) := by decide +kernel
theorem D10_line_299 : decode m10_line.2.1 299 = .ok (.invokevirtual 233, 3) := by decide +kernel
theorem D10_line_302 : decode m10_line.2.1 302 = .ok (.goto 22, 3) := by decide +kernel
theorem D10_line_305 : decode m10_line.2.1 305 = .ok (.aload_n 0, 1) := by decide +kernel
theorem D10_line_306 : decode m10_line.2.1 306 = .ok (.iconst 4, 1) := by decide +kernel
theorem D10_line_307 : decode m10_line.2.1 307 = .ok (.aload_n 0, 1) := by decide +kernel
theorem D10_line_308 : decode m10_line.2.1 308 = .ok (.iconst 0, 1) := by decide +kernel
theorem D10_line_309 : decode m10_line.2.1 309 = .ok (.ldc 177, 2) := by decide +kernel
theorem D10_line_311 : decode m10_line.2.1 311 = .ok (.invokevirtual 229, 3) := by decide +kernel
theorem D10_line_314 : decode m10_line.2.1 314 = .ok (.invokevirtual 233, 3) := by decide +kernel
theorem D10_line_317 : decode m10_line.2.1 317 = .ok (.goto 7, 3) := by decide +kernel
theorem D10_line_320 : decode m10_line.2.1 320 = .ok (.aload_n 0, 1) := by decide +kernel
theorem D10_line_321 : decode m10_line.2.1 321 = .ok (.invokevirtual 243, 3) := by decide +kernel
theorem D10_line_324 : decode m10_line.2.1 324 = .ok (.aload_n 0, 1) := by decide +kernel
theorem D10_line_325 : decode m10_line.2.1 325 = .ok (.getfield 193, 3) := by decide +kernel
theorem D10_line_328 : decode m10_line.2.1 328 = .ok (.ifCond .eq 4, 3) := by decide +kernel
theorem D10_line_331 : decode m10_line.2.1 331 = .ok (.return_, 1) := by decide +kernel
theorem D10_line_332 : decode m10_line.2.1 332 = .ok (.aload_n 0, 1) := by decide +kernel
theorem D10_line_333 : decode m10_line.2.1 333 = .ok (.bipush 59, 2) := by decide +kernel
theorem D10_line_335 : decode m10_line.2.1 335 = .ok (.invokevirtual 246, 3) := by decide +kernel
theorem D10_line_338 : decode m10_line.2.1 338 = .ok (.ifCond .ne 11, 3) := by decide +kernel
theorem D10_line_341 : decode m10_line.2.1 341 = .ok (.aload_n 0, 1) := by decide +kernel
theorem D10_line_342 : decode m10_line.2.1 342 = .ok (.iconst 1, 1) := by decide +kernel
theorem D10_line_343 : decode m10_line.2.1 343 = .ok (.invokevirtual 202, 3) := by decide +kernel
theorem D10_line_346 : decode m10_line.2.1 346 = .ok (.goto 7, 3) := by decide +kernel
theorem D10_line_349 : decode m10_line.2.1 349 = .ok (.aload_n 0, 1) := by decide +kernel
theorem D10_line_350 : decode m10_line.2.1 350 = .ok (.invokevirtual 199, 3) := by decide +kernel
theorem D10_line_353 : decode m10_line.2.1 353 = .ok (.aload_n 0, 1) := by decide +kernel
theorem D10_line_354 : decode m10_line.2.1 354 = .ok (.dup, 1) := by decide +kernel
theorem D10_line_355 : decode m10_line.2.1 355 = .ok (.getfield 249, 3) := by decide +kernel
theorem D10_line_358 : decode m10_line.2.1 358 = .ok (.iconst 1, 1) := by decide +kernel
theorem D10_line_359 : decode m10_line.2.1 359 = .ok (.iadd, 1) := by decide +kernel
theorem D10_line_360 : decode m10_line.2.1 360 = .ok (.putfield 249, 3) := by decide +kernel
theorem D10_line_363 : decode m10_line.2.1 363 = .ok (.return_, 1) := by decide +kernel
theorem D10_bottleLine_0 : decode m10_bottleLine.2.1 0 = .ok (.aload_n 0, 1) := by decide +kernel
theorem D10_bottleLine_1 : decode m10_bottleLine.2.1 1 = .ok (.getfield 22, 3) := by decide +kernel
theorem D10_bottleLine_4 : decode m10_bottleLine.2.1 4 = .ok (.iload_n 1, 1) := by decide +kernel
theorem D10_bottleLine_5 : decode m10_bottleLine.2.1 5 = .ok (.aload_n 0, 1) := by decide +kernel
theorem D10_bottleLine_6 : decode m10_bottleLine.2.1 6 = .ok (.aload_n 0, 1) := by decide +kernel
theorem D10_bottleLine_7 : decode m10_bottleLine.2.1 7 = .ok (.getfield 22, 3) := by decide +kernel
theorem D10_bottleLine_10 : decode m10_bottleLine.2.1 10 = .ok (.bipush 10, 2) := by decide +kernel
theorem D10_bottleLine_12 : decode m10_bottleLine.2.1 12 = .ok (.aload_n 0, 1) := by decide +kernel
theorem D10_bottleLine_13 : decode m10_bottleLine.2.1 13 = .ok (.iconst 1, 1) := by decide +kernel
theorem D10_bottleLine_14 : decode m10_bottleLine.2.1 14 = .ok (.invokevirtual 209, 3) := by decide +kernel
theorem D10_bottleLine_17 : decode m10_bottleLine.2.1 17 = .ok (.invokevirtual 225, 3) := by decide +kernel
theorem D10_bottleLine_20 : decode m10_bottleLine.2.1 20 = .ok (.iastore, 1) := by decide +kernel
theorem D10_bottleLine_21 : decode m10_bottleLine.2.1 21 = .ok (.aload_n 0, 1) := by decide +kernel
theorem D10_bottleLine_22 : decode m10_bottleLine.2.1 22 = .ok (.getfield 25, 3) := by decide +kernel
theorem D10_bottleLine_25 : decode m10_bottleLine.2.1 25 = .ok (.iload_n 1, 1) := by decide +kernel
theorem D10_bottleLine_26 : decode m10_bottleLine.2.1 26 = .ok (.aload_n 0, 1) := by decide +kernel
theorem D10_bottleLine_27 : decode m10_bottleLine.2.1 27 = .ok (.invokevirtual 240, 3) := by decide +kernel
theorem D10_bottleLine_30 : decode m10_bottleLine.2.1 30 = .ok (.iastore, 1) := by decide +kernel
theorem D10_bottleLine_31 : decode m10_bottleLine.2.1 31 = .ok (.aload_n 0, 1) := by decide +kernel
theorem D10_bottleLine_32 : decode m10_bottleLine.2.1 32 = .ok (.getfield 28, 3) := by decide +kernel
theorem D10_bottleLine_35 : decode m10_bottleLine.2.1 35 = .ok (.iload_n 1, 1) := by decide +kernel
theorem D10_bottleLine_36 : decode m10_bottleLine.2.1 36 = .ok (.aload_n 0, 1) := by decide +kernel
theorem D10_bottleLine_37 : decode m10_bottleLine.2.1 37 = .ok (.invokevirtual 213, 3) := by decide +kernel
theorem D10_bottleLine_40 : decode m10_bottleLine.2.1 40 = .ok (.iastore, 1) := by decide +kernel
theorem D10_bottleLine_41 : decode m10_bottleLine.2.1 41 = .ok (.aload_n 0, 1) := by decide +kernel
theorem D10_bottleLine_42 : decode m10_bottleLine.2.1 42 = .ok (.getfield 193, 3) := by decide +kernel
theorem D10_bottleLine_45 : decode m10_bottleLine.2.1 45 = .ok (.ifCond .ne 23, 3) := by decide +kernel
theorem D10_bottleLine_48 : decode m10_bottleLine.2.1 48 = .ok (.aload_n 0, 1) := by decide +kernel
theorem D10_bottleLine_49 : decode m10_bottleLine.2.1 49 = .ok (.getfield 28, 3) := by decide +kernel
theorem D10_bottleLine_52 : decode m10_bottleLine.2.1 52 = .ok (.iload_n 1, 1) := by decide +kernel
theorem D10_bottleLine_53 : decode m10_bottleLine.2.1 53 = .ok (.iaload, 1) := by decide +kernel
theorem D10_bottleLine_54 : decode m10_bottleLine.2.1 54 = .ok (.aload_n 0, 1) := by decide +kernel
theorem D10_bottleLine_55 : decode m10_bottleLine.2.1 55 = .ok (.getfield 25, 3) := by decide +kernel
theorem D10_bottleLine_58 : decode m10_bottleLine.2.1 58 = .ok (.iload_n 1, 1) := by decide +kernel
theorem D10_bottleLine_59 : decode m10_bottleLine.2.1 59 = .ok (.iaload, 1) := by decide +kernel
theorem D10_bottleLine_60 : decode m10_bottleLine.2.1 60 = .ok (.if_icmp .ne 8, 3) := by decide +kernel
theorem D10_bottleLine_63 : decode m10_bottleLine.2.1 63 = .ok (.aload_n 0, 1) := by decide +kernel
theorem D10_bottleLine_64 : decode m10_bottleLine.2.1 64 = .ok (.iconst 5, 1) := by decide +kernel
theorem D10_bottleLine_65 : decode m10_bottleLine.2.1 65 = .ok (.invokevirtual 202, 3) := by decide +kernel
theorem D10_bottleLine_68 : decode m10_bottleLine.2.1 68 = .ok (.aload_n 0, 1) := by decide +kernel
theorem D10_bottleLine_69 : decode m10_bottleLine.2.1 69 = .ok (.invokevirtual 216, 3) := by decide +kernel
theorem D10_bottleLine_72 : decode m10_bottleLine.2.1 72 = .ok (.aload_n 0, 1) := by decide +kernel
theorem D10_bottleLine_73 : decode m10_bottleLine.2.1 73 = .ok (.getfield 31, 3) := by decide +kernel
theorem D10_bottleLine_76 : decode m10_bottleLine.2.1 76 = .ok (.iload_n 1, 1) := by decide +kernel
theorem D10_bottleLine_77 : decode m10_bottleLine.2.1 77 = .ok (.aload_n 0, 1) := by decide +kernel
theorem D10_bottleLine_78 : decode m10_bottleLine.2.1 78 = .ok (.iconst 0, 1) := by decide +kernel
theorem D10_bottleLine_79 : decode m10_bottleLine.2.1 79 = .ok (.iconst 5, 1) := by decide +kernel
theorem D10_bottleLine_80 : decode m10_bottleLine.2.1 80 = .ok (.invokevirtual 229, 3) := by decide +kernel
theorem D10_bottleLine_83 : decode m10_bottleLine.2.1 83 = .ok (.iastore, 1) := by decide +kernel
theorem D10_bottleLine_84 : decode m10_bottleLine.2.1 84 = .ok (.aload_n 0, 1) := by decide +kernel
theorem D10_bottleLine_85 : decode m10_bottleLine.2.1 85 = .ok (.getfield 34, 3) := by decide +kernel
theorem D10_bottleLine_88 : decode m10_bottleLine.2.1 88 = .ok (.iload_n 1, 1) := by decide +kernel
theorem D10_bottleLine_89 : decode m10_bottleLine.2.1 89 = .ok (.aload_n 0, 1) := by decide +kernel
theorem D10_bottleLine_90 : decode m10_bottleLine.2.1 90 = .ok (.iconst 1, 1) := by decide +kernel
theorem D10_bottleLine_91 : decode m10_bottleLine.2.1 91 = .ok (.bipush 99, 2) := by decide +kernel
theorem D10_bottleLine_93 : decode m10_bottleLine.2.1 93 = .ok (.invokevirtual 229, 3) := by decide +kernel
theorem D10_bottleLine_96 : decode m10_bottleLine.2.1 96 = .ok (.iastore, 1) := by decide +kernel
theorem D10_bottleLine_97 : decode m10_bottleLine.2.1 97 = .ok (.aload_n 0, 1) := by decide +kernel
theorem D10_bottleLine_98 : decode m10_bottleLine.2.1 98 = .ok (.getfield 37, 3) := by decide +kernel
theorem D10_bottleLine_101 : decode m10_bottleLine.2.1 101 = .ok (.iload_n 1, 1) := by decide +kernel
theorem D10_bottleLine_102 : decode m10_bottleLine.2.1 102 = .ok (.aload_n 0, 1) := by decide +kernel
theorem D10_bottleLine_103 : decode m10_bottleLine.2.1 103 = .ok (.iconst 1, 1) := by decide +kernel
theorem D10_bottleLine_104 : decode m10_bottleLine.2.1 104 = .ok (.bipush 9, 2) := by decide +kernel
theorem D10_bottleLine_106 : decode m10_bottleLine.2.1 106 = .ok (.invokevirtual 229, 3) := by decide +kernel
theorem D10_bottleLine_109 : decode m10_bottleLine.2.1 109 = .ok (.iastore, 1) := by decide +kernel
theorem D10_bottleLine_110 : decode m10_bottleLine.2.1 110 = .ok (.aload_n 0, 1) := by decide +kernel
theorem D10_bottleLine_111 : decode m10_bottleLine.2.1 111 = .ok (.iconst 1, 1) := by decide +kernel
theorem D10_bottleLine_112 : decode m10_bottleLine.2.1 112 = .ok (.aload_n 0, 1) := by decide +kernel
theorem D10_bottleLine_113 : decode m10_bottleLine.2.1 113 = .ok (.iconst 1, 1) := by decide +kernel
theorem D10_bottleLine_114 : decode m10_bottleLine.2.1 114 = .ok (.invokevirtual 209, 3) := by decide +kernel
theorem D10_bottleLine_117 : decode m10_bottleLine.2.1 117 = .ok (.iconst 1, 1) := by decide +kernel
theorem D10_bottleLine_118 : decode m10_bottleLine.2.1 118 = .ok (.iadd, 1) := by decide +kernel
theorem D10_bottleLine_119 : decode m10_bottleLine.2.1 119 = .ok (.invokevirtual 233, 3) := by decide +kernel
theorem D10_bottleLine_122 : decode m10_bottleLine.2.1 122 = .ok (.return_, 1) := by decide +kernel
theorem D10_lawLine_0 : decode m10_lawLine.2.1 0 = .ok (.aload_n 0, 1) := by decide +kernel
theorem D10_lawLine_1 : decode m10_lawLine.2.1 1 = .ok (.getfield 158, 3) := by decide +kernel
theorem D10_lawLine_4 : decode m10_lawLine.2.1 4 = .ok (.ifCond .ne 21, 3) := by decide +kernel
theorem D10_lawLine_7 : decode m10_lawLine.2.1 7 = .ok (.aload_n 0, 1) := by decide +kernel
theorem D10_lawLine_8 : decode m10_lawLine.2.1 8 = .ok (.getfield 168, 3) := by decide +kernel
theorem D10_lawLine_11 : decode m10_lawLine.2.1 11 = .ok (.bipush 6, 2) := by decide +kernel
theorem D10_lawLine_13 : decode m10_lawLine.2.1 13 = .ok (.if_icmp .lt 12, 3) := by decide +kernel
theorem D10_lawLine_16 : decode m10_lawLine.2.1 16 = .ok (.aload_n 0, 1) := by decide +kernel
theorem D10_lawLine_17 : decode m10_lawLine.2.1 17 = .ok (.getfield 168, 3) := by decide +kernel
theorem D10_lawLine_20 : decode m10_lawLine.2.1 20 = .ok (.bipush 8, 2) := by decide +kernel
theorem D10_lawLine_22 : decode m10_lawLine.2.1 22 = .ok (.if_icmp .le 8, 3) := by decide +kernel
theorem D10_lawLine_25 : decode m10_lawLine.2.1 25 = .ok (.aload_n 0, 1) := by decide +kernel
theorem D10_lawLine_26 : decode m10_lawLine.2.1 26 = .ok (.iconst 1, 1) := by decide +kernel
theorem D10_lawLine_27 : decode m10_lawLine.2.1 27 = .ok (.invokevirtual 202, 3) := by decide +kernel
theorem D10_lawLine_30 : decode m10_lawLine.2.1 30 = .ok (.aload_n 0, 1) := by decide +kernel
theorem D10_lawLine_31 : decode m10_lawLine.2.1 31 = .ok (.getfield 168, 3) := by decide +kernel
theorem D10_lawLine_34 : decode m10_lawLine.2.1 34 = .ok (.bipush 6, 2) := by decide +kernel
theorem D10_lawLine_36 : decode m10_lawLine.2.1 36 = .ok (.isub, 1) := by decide +kernel
theorem D10_lawLine_37 : decode m10_lawLine.2.1 37 = .ok (.istore_n 1, 1) := by decide +kernel
theorem D10_lawLine_38 : decode m10_lawLine.2.1 38 = .ok (.aload_n 0, 1) := by decide +kernel
theorem D10_lawLine_39 : decode m10_lawLine.2.1 39 = .ok (.getfield 193, 3) := by decide +kernel
theorem D10_lawLine_42 : decode m10_lawLine.2.1 42 = .ok (.ifCond .ne 23, 3) := by decide +kernel
theorem D10_lawLine_45 : decode m10_lawLine.2.1 45 = .ok (.aload_n 0, 1) := by decide +kernel
theorem D10_lawLine_46 : decode m10_lawLine.2.1 46 = .ok (.getfield 222, 3) := by decide +kernel
theorem D10_lawLine_49 : decode m10_lawLine.2.1 49 = .ok (.bipush 16, 2) := by decide +kernel
theorem D10_lawLine_51 : decode m10_lawLine.2.1 51 = .ok (.iload_n 1, 1) := by decide +kernel
theorem D10_lawLine_52 : decode m10_lawLine.2.1 52 = .ok (.iadd, 1) := by decide +kernel
theorem D10_lawLine_53 : decode m10_lawLine.2.1 53 = .ok (.ishr, 1) := by decide +kernel
theorem D10_lawLine_54 : decode m10_lawLine.2.1 54 = .ok (.iconst 1, 1) := by decide +kernel
theorem D10_lawLine_55 : decode m10_lawLine.2.1 55 = .ok (.iand, 1) := by decide +kernel
theorem D10_lawLine_56 : decode m10_lawLine.2.1 56 = .ok (.iconst 1, 1) := by decide +kernel
theorem D10_lawLine_57 : decode m10_lawLine.2.1 57 = .ok (.if_icmp .ne 8, 3) := by decide +kernel
theorem D10_lawLine_60 : decode m10_lawLine.2.1 60 = .ok (.aload_n 0, 1) := by decide +kernel
theorem D10_lawLine_61 : decode m10_lawLine.2.1 61 = .ok (.iconst 3, 1) := by decide +kernel
theorem D10_lawLine_62 : decode m10_lawLine.2.1 62 = .ok (.invokevirtual 202, 3) := by decide +kernel
theorem D10_lawLine_65 : decode m10_lawLine.2.1 65 = .ok (.aload_n 0, 1) := by decide +kernel
theorem D10_lawLine_66 : decode m10_lawLine.2.1 66 = .ok (.getfield 193, 3) := by decide +kernel
theorem D10_lawLine_69 : decode m10_lawLine.2.1 69 = .ok (.ifCond .eq 4, 3) := by decide +kernel
theorem D10_lawLine_72 : decode m10_lawLine.2.1 72 = .ok (.return_, 1) := by decide +kernel
theorem D10_lawLine_73 : decode m10_lawLine.2.1 73 = .ok (.aload_n 0, 1) := by decide +kernel
theorem D10_lawLine_74 : decode m10_lawLine.2.1 74 = .ok (.dup, 1) := by decide +kernel
theorem D10_lawLine_75 : decode m10_lawLine.2.1 75 = .ok (.getfield 222, 3) := by decide +kernel
theorem D10_lawLine_78 : decode m10_lawLine.2.1 78 = .ok (.iconst 1, 1) := by decide +kernel
theorem D10_lawLine_79 : decode m10_lawLine.2.1 79 = .ok (.bipush 16, 2) := by decide +kernel
theorem D10_lawLine_81 : decode m10_lawLine.2.1 81 = .ok (.iload_n 1, 1) := by decide +kernel
theorem D10_lawLine_82 : decode m10_lawLine.2.1 82 = .ok (.iadd, 1) := by decide +kernel
theorem D10_lawLine_83 : decode m10_lawLine.2.1 83 = .ok (.ishl, 1) := by decide +kernel
theorem D10_lawLine_84 : decode m10_lawLine.2.1 84 = .ok (.ior, 1) := by decide +kernel
theorem D10_lawLine_85 : decode m10_lawLine.2.1 85 = .ok (.putfield 222, 3) := by decide +kernel
theorem D10_lawLine_88 : decode m10_lawLine.2.1 88 = .ok (.aload_n 0, 1) := by decide +kernel
theorem D10_lawLine_89 : decode m10_lawLine.2.1 89 = .ok (.invokevirtual 199, 3) := by decide +kernel
theorem D10_lawLine_92 : decode m10_lawLine.2.1 92 = .ok (.aload_n 0, 1) := by decide +kernel
theorem D10_lawLine_93 : decode m10_lawLine.2.1 93 = .ok (.getfield 52, 3) := by decide +kernel
theorem D10_lawLine_96 : decode m10_lawLine.2.1 96 = .ok (.iconst 3, 1) := by decide +kernel
theorem D10_lawLine_97 : decode m10_lawLine.2.1 97 = .ok (.iload_n 1, 1) := by decide +kernel
theorem D10_lawLine_98 : decode m10_lawLine.2.1 98 = .ok (.iadd, 1) := by decide +kernel
theorem D10_lawLine_99 : decode m10_lawLine.2.1 99 = .ok (.aload_n 0, 1) := by decide +kernel
theorem D10_lawLine_100 : decode m10_lawLine.2.1 100 = .ok (.iconst 5, 1) := by decide +kernel
theorem D10_lawLine_101 : decode m10_lawLine.2.1 101 = .ok (.invokevirtual 209, 3) := by decide +kernel
theorem D10_lawLine_104 : decode m10_lawLine.2.1 104 = .ok (.iastore, 1) := by decide +kernel
theorem D10_lawLine_105 : decode m10_lawLine.2.1 105 = .ok (.aload_n 0, 1) := by decide +kernel
theorem D10_lawLine_106 : decode m10_lawLine.2.1 106 = .ok (.invokevirtual 252, 3) := by decide +kernel
theorem D10_lawLine_109 : decode m10_lawLine.2.1 109 = .ok (.aload_n 0, 1) := by decide +kernel
theorem D10_lawLine_110 : decode m10_lawLine.2.1 110 = .ok (.getfield 55, 3) := by decide +kernel
theorem D10_lawLine_113 : decode m10_lawLine.2.1 113 = .ok (.iconst 3, 1) := by decide +kernel
theorem D10_lawLine_114 : decode m10_lawLine.2.1 114 = .ok (.iload_n 1, 1) := by decide +kernel
theorem D10_lawLine_115 : decode m10_lawLine.2.1 115 = .ok (.iadd, 1) := by decide +kernel
theorem D10_lawLine_116 : decode m10_lawLine.2.1 116 = .ok (.aload_n 0, 1) := by decide +kernel
theorem D10_lawLine_117 : decode m10_lawLine.2.1 117 = .ok (.iconst 5, 1) := by decide +kernel
theorem D10_lawLine_118 : decode m10_lawLine.2.1 118 = .ok (.invokevirtual 209, 3) := by decide +kernel
theorem D10_lawLine_121 : decode m10_lawLine.2.1 121 = .ok (.iastore, 1) := by decide +kernel
theorem D10_lawLine_122 : decode m10_lawLine.2.1 122 = .ok (.return_, 1) := by decide +kernel
theorem D10_puts_0 : decode m10_puts.2.1 0 = .ok (.aload_n 0, 1) := by decide +kernel
theorem D10_puts_1 : decode m10_puts.2.1 1 = .ok (.getfield 193, 3) := by decide +kernel
theorem D10_puts_4 : decode m10_puts.2.1 4 = .ok (.ifCond .eq 4, 3) := by decide +kernel
theorem D10_puts_7 : decode m10_puts.2.1 7 = .ok (.return_, 1) := by decide +kernel
theorem D10_puts_8 : decode m10_puts.2.1 8 = .ok (.aload_n 0, 1) := by decide +kernel
theorem D10_puts_9 : decode m10_puts.2.1 9 = .ok (.getfield 58, 3) := by decide +kernel
theorem D10_puts_12 : decode m10_puts.2.1 12 = .ok (.bipush 64, 2) := by decide +kernel
theorem D10_puts_14 : decode m10_puts.2.1 14 = .ok (.aload_n 0, 1) := by decide +kernel
theorem D10_puts_15 : decode m10_puts.2.1 15 = .ok (.iconst 5, 1) := by decide +kernel
theorem D10_puts_16 : decode m10_puts.2.1 16 = .ok (.invokevirtual 209, 3) := by decide +kernel
theorem D10_puts_19 : decode m10_puts.2.1 19 = .ok (.iadd, 1) := by decide +kernel
theorem D10_puts_20 : decode m10_puts.2.1 20 = .ok (.iload_n 1, 1) := by decide +kernel
theorem D10_puts_21 : decode m10_puts.2.1 21 = .ok (.iastore, 1) := by decide +kernel
theorem D10_puts_22 : decode m10_puts.2.1 22 = .ok (.aload_n 0, 1) := by decide +kernel
theorem D10_puts_23 : decode m10_puts.2.1 23 = .ok (.getfield 61, 3) := by decide +kernel
theorem D10_puts_26 : decode m10_puts.2.1 26 = .ok (.bipush 64, 2) := by decide +kernel
theorem D10_puts_28 : decode m10_puts.2.1 28 = .ok (.aload_n 0, 1) := by decide +kernel
theorem D10_puts_29 : decode m10_puts.2.1 29 = .ok (.iconst 5, 1) := by decide +kernel
theorem D10_puts_30 : decode m10_puts.2.1 30 = .ok (.invokevirtual 209, 3) := by decide +kernel
theorem D10_puts_33 : decode m10_puts.2.1 33 = .ok (.iadd, 1) := by decide +kernel
theorem D10_puts_34 : decode m10_puts.2.1 34 = .ok (.iload_n 2, 1) := by decide +kernel
theorem D10_puts_35 : decode m10_puts.2.1 35 = .ok (.iastore, 1) := by decide +kernel
theorem D10_puts_36 : decode m10_puts.2.1 36 = .ok (.aload_n 0, 1) := by decide +kernel
theorem D10_puts_37 : decode m10_puts.2.1 37 = .ok (.iconst 5, 1) := by decide +kernel
theorem D10_puts_38 : decode m10_puts.2.1 38 = .ok (.aload_n 0, 1) := by decide +kernel
theorem D10_puts_39 : decode m10_puts.2.1 39 = .ok (.iconst 5, 1) := by decide +kernel
theorem D10_puts_40 : decode m10_puts.2.1 40 = .ok (.invokevirtual 209, 3) := by decide +kernel
theorem D10_puts_43 : decode m10_puts.2.1 43 = .ok (.iconst 1, 1) := by decide +kernel
theorem D10_puts_44 : decode m10_puts.2.1 44 = .ok (.iadd, 1) := by decide +kernel
theorem D10_puts_45 : decode m10_puts.2.1 45 = .ok (.invokevirtual 233, 3) := by decide +kernel
theorem D10_puts_48 : decode m10_puts.2.1 48 = .ok (.return_, 1) := by decide +kernel
theorem D10_knot_0 : decode m10_knot.2.1 0 = .ok (.aload_n 0, 1) := by decide +kernel
theorem D10_knot_1 : decode m10_knot.2.1 1 = .ok (.getfield 193, 3) := by decide +kernel
theorem D10_knot_4 : decode m10_knot.2.1 4 = .ok (.ifCond .eq 4, 3) := by decide +kernel
theorem D10_knot_7 : decode m10_knot.2.1 7 = .ok (.return_, 1) := by decide +kernel
theorem D10_knot_8 : decode m10_knot.2.1 8 = .ok (.aload_n 0, 1) := by decide +kernel
theorem D10_knot_9 : decode m10_knot.2.1 9 = .ok (.getfield 255, 3) := by decide +kernel
theorem D10_knot_12 : decode m10_knot.2.1 12 = .ok (.bipush 64, 2) := by decide +kernel
theorem D10_knot_14 : decode m10_knot.2.1 14 = .ok (.if_icmp .ne 11, 3) := by decide +kernel
theorem D10_knot_17 : decode m10_knot.2.1 17 = .ok (.aload_n 0, 1) := by decide +kernel
theorem D10_knot_18 : decode m10_knot.2.1 18 = .ok (.iconst 2, 1) := by decide +kernel
theorem D10_knot_19 : decode m10_knot.2.1 19 = .ok (.invokevirtual 202, 3) := by decide +kernel
theorem D10_knot_22 : decode m10_knot.2.1 22 = .ok (.goto 13, 3) := by decide +kernel
theorem D10_knot_25 : decode m10_knot.2.1 25 = .ok (.aload_n 0, 1) := by decide +kernel
theorem D10_knot_26 : decode m10_knot.2.1 26 = .ok (.dup, 1) := by decide +kernel
theorem D10_knot_27 : decode m10_knot.2.1 27 = .ok (.getfield 255, 3) := by decide +kernel
theorem D10_knot_30 : decode m10_knot.2.1 30 = .ok (.iconst 1, 1) := by decide +kernel
theorem D10_knot_31 : decode m10_knot.2.1 31 = .ok (.iadd, 1) := by decide +kernel
theorem D10_knot_32 : decode m10_knot.2.1 32 = .ok (.putfield 255, 3) := by decide +kernel
theorem D10_knot_35 : decode m10_knot.2.1 35 = .ok (.return_, 1) := by decide +kernel
theorem D10_expression_0 : decode m10_expression.2.1 0 = .ok (.aload_n 0, 1) := by decide +kernel
theorem D10_expression_1 : decode m10_expression.2.1 1 = .ok (.invokevirtual 258, 3) := by decide +kernel
theorem D10_expression_4 : decode m10_expression.2.1 4 = .ok (.aload_n 0, 1) := by decide +kernel
theorem D10_expression_5 : decode m10_expression.2.1 5 = .ok (.bipush 9, 2) := by decide +kernel
theorem D10_expression_7 : decode m10_expression.2.1 7 = .ok (.invokevirtual 261, 3) := by decide +kernel
theorem D10_expression_10 : decode m10_expression.2.1 10 = .ok (.ifCond .eq 26, 3) := by decide +kernel
theorem D10_expression_13 : decode m10_expression.2.1 13 = .ok (.aload_n 0, 1) := by decide +kernel
theorem D10_expression_14 : decode m10_expression.2.1 14 = .ok (.invokevirtual 264, 3) := by decide +kernel
theorem D10_expression_17 : decode m10_expression.2.1 17 = .ok (.aload_n 0, 1) := by decide +kernel
theorem D10_expression_18 : decode m10_expression.2.1 18 = .ok (.invokevirtual 216, 3) := by decide +kernel
theorem D10_expression_21 : decode m10_expression.2.1 21 = .ok (.aload_n 0, 1) := by decide +kernel
theorem D10_expression_22 : decode m10_expression.2.1 22 = .ok (.invokevirtual 258, 3) := by decide +kernel
theorem D10_expression_25 : decode m10_expression.2.1 25 = .ok (.aload_n 0, 1) := by decide +kernel
theorem D10_expression_26 : decode m10_expression.2.1 26 = .ok (.iconst 2, 1) := by decide +kernel
theorem D10_expression_27 : decode m10_expression.2.1 27 = .ok (.sipush 262, 3) := by decide +kernel
theorem D10_expression_30 : decode m10_expression.2.1 30 = .ok (.invokevirtual 267, 3) := by decide +kernel
theorem D10_expression_33 : decode m10_expression.2.1 33 = .ok (.goto (-29), 3) := by decide +kernel
theorem D10_expression_36 : decode m10_expression.2.1 36 = .ok (.return_, 1) := by decide +kernel
theorem D10_conjunction_0 : decode m10_conjunction.2.1 0 = .ok (.aload_n 0, 1) := by decide +kernel
theorem D10_conjunction_1 : decode m10_conjunction.2.1 1 = .ok (.invokevirtual 270, 3) := by decide +kernel
theorem D10_conjunction_4 : decode m10_conjunction.2.1 4 = .ok (.aload_n 0, 1) := by decide +kernel
theorem D10_conjunction_5 : decode m10_conjunction.2.1 5 = .ok (.bipush 10, 2) := by decide +kernel
theorem D10_conjunction_7 : decode m10_conjunction.2.1 7 = .ok (.invokevirtual 261, 3) := by decide +kernel
theorem D10_conjunction_10 : decode m10_conjunction.2.1 10 = .ok (.ifCond .eq 26, 3) := by decide +kernel
theorem D10_conjunction_13 : decode m10_conjunction.2.1 13 = .ok (.aload_n 0, 1) := by decide +kernel
theorem D10_conjunction_14 : decode m10_conjunction.2.1 14 = .ok (.invokevirtual 264, 3) := by decide +kernel
theorem D10_conjunction_17 : decode m10_conjunction.2.1 17 = .ok (.aload_n 0, 1) := by decide +kernel
theorem D10_conjunction_18 : decode m10_conjunction.2.1 18 = .ok (.invokevirtual 216, 3) := by decide +kernel
theorem D10_conjunction_21 : decode m10_conjunction.2.1 21 = .ok (.aload_n 0, 1) := by decide +kernel
theorem D10_conjunction_22 : decode m10_conjunction.2.1 22 = .ok (.invokevirtual 270, 3) := by decide +kernel
theorem D10_conjunction_25 : decode m10_conjunction.2.1 25 = .ok (.aload_n 0, 1) := by decide +kernel
theorem D10_conjunction_26 : decode m10_conjunction.2.1 26 = .ok (.iconst 2, 1) := by decide +kernel
theorem D10_conjunction_27 : decode m10_conjunction.2.1 27 = .ok (.sipush 261, 3) := by decide +kernel
theorem D10_conjunction_30 : decode m10_conjunction.2.1 30 = .ok (.invokevirtual 267, 3) := by decide +kernel
theorem D10_conjunction_33 : decode m10_conjunction.2.1 33 = .ok (.goto (-29), 3) := by decide +kernel
theorem D10_conjunction_36 : decode m10_conjunction.2.1 36 = .ok (.return_, 1) := by decide +kernel
theorem D10_negation_0 : decode m10_negation.2.1 0 = .ok (.aload_n 0, 1) := by decide +kernel
theorem D10_negation_1 : decode m10_negation.2.1 1 = .ok (.bipush 11, 2) := by decide +kernel
theorem D10_negation_3 : decode m10_negation.2.1 3 = .ok (.invokevirtual 261, 3) := by decide +kernel
theorem D10_negation_6 : decode m10_negation.2.1 6 = .ok (.ifCond .eq 24, 3) := by decide +kernel
theorem D10_negation_9 : decode m10_negation.2.1 9 = .ok (.aload_n 0, 1) := by decide +kernel
theorem D10_negation_10 : decode m10_negation.2.1 10 = .ok (.invokevirtual 264, 3) := by decide +kernel
theorem D10_negation_13 : decode m10_negation.2.1 13 = .ok (.aload_n 0, 1) := by decide +kernel
theorem D10_negation_14 : decode m10_negation.2.1 14 = .ok (.invokevirtual 216, 3) := by decide +kernel
theorem D10_negation_17 : decode m10_negation.2.1 17 = .ok (.aload_n 0, 1) := by decide +kernel
theorem D10_negation_18 : decode m10_negation.2.1 18 = .ok (.invokevirtual 270, 3) := by decide +kernel
theorem D10_negation_21 : decode m10_negation.2.1 21 = .ok (.aload_n 0, 1) := by decide +kernel
theorem D10_negation_22 : decode m10_negation.2.1 22 = .ok (.iconst 2, 1) := by decide +kernel
theorem D10_negation_23 : decode m10_negation.2.1 23 = .ok (.sipush 260, 3) := by decide +kernel
theorem D10_negation_26 : decode m10_negation.2.1 26 = .ok (.invokevirtual 267, 3) := by decide +kernel
theorem D10_negation_29 : decode m10_negation.2.1 29 = .ok (.return_, 1) := by decide +kernel
theorem D10_negation_30 : decode m10_negation.2.1 30 = .ok (.aload_n 0, 1) := by decide +kernel
theorem D10_negation_31 : decode m10_negation.2.1 31 = .ok (.invokevirtual 273, 3) := by decide +kernel
theorem D10_negation_34 : decode m10_negation.2.1 34 = .ok (.aload_n 0, 1) := by decide +kernel
theorem D10_negation_35 : decode m10_negation.2.1 35 = .ok (.getfield 193, 3) := by decide +kernel
theorem D10_negation_38 : decode m10_negation.2.1 38 = .ok (.ifCond .ne 48, 3) := by decide +kernel
theorem D10_negation_41 : decode m10_negation.2.1 41 = .ok (.aload_n 0, 1) := by decide +kernel
theorem D10_negation_42 : decode m10_negation.2.1 42 = .ok (.getfield 158, 3) := by decide +kernel
theorem D10_negation_45 : decode m10_negation.2.1 45 = .ok (.iconst 3, 1) := by decide +kernel
theorem D10_negation_46 : decode m10_negation.2.1 46 = .ok (.if_icmp .ne 40, 3) := by decide +kernel
theorem D10_negation_49 : decode m10_negation.2.1 49 = .ok (.aload_n 0, 1) := by decide +kernel
theorem D10_negation_50 : decode m10_negation.2.1 50 = .ok (.getfield 168, 3) := by decide +kernel
theorem D10_negation_53 : decode m10_negation.2.1 53 = .ok (.bipush 60, 2) := by decide +kernel
theorem D10_negation_55 : decode m10_negation.2.1 55 = .ok (.if_icmp .eq 32, 3) := by decide +kernel
theorem D10_negation_58 : decode m10_negation.2.1 58 = .ok (.aload_n 0, 1) := by decide +kernel
theorem D10_negation_59 : decode m10_negation.2.1 59 = .ok (.getfield 168, 3) := by decide +kernel
theorem D10_negation_62 : decode m10_negation.2.1 62 = .ok (.bipush 62, 2) := by decide +kernel
theorem D10_negation_64 : decode m10_negation.2.1 64 = .ok (.if_icmp .eq 23, 3) := by decide +kernel
theorem D10_negation_67 : decode m10_negation.2.1 67 = .ok (.aload_n 0, 1) := by decide +kernel
theorem D10_negation_68 : decode m10_negation.2.1 68 = .ok (.getfield 168, 3) := by decide +kernel
theorem D10_negation_71 : decode m10_negation.2.1 71 = .ok (.bipush 61, 2) := by decide +kernel
theorem D10_negation_73 : decode m10_negation.2.1 73 = .ok (.if_icmp .eq 14, 3) := by decide +kernel
theorem D10_negation_76 : decode m10_negation.2.1 76 = .ok (.aload_n 0, 1) := by decide +kernel
theorem D10_negation_77 : decode m10_negation.2.1 77 = .ok (.getfield 168, 3) := by decide +kernel
theorem D10_negation_80 : decode m10_negation.2.1 80 = .ok (.sipush 256, 3) := by decide +kernel
theorem D10_negation_83 : decode m10_negation.2.1 83 = .ok (.if_icmp .ge 4, 3) := by decide +kernel
theorem D10_negation_86 : decode m10_negation.2.1 86 = .ok (.return_, 1) := by decide +kernel
theorem D10_negation_87 : decode m10_negation.2.1 87 = .ok (.aload_n 0, 1) := by decide +kernel
theorem D10_negation_88 : decode m10_negation.2.1 88 = .ok (.getfield 168, 3) := by decide +kernel
theorem D10_negation_91 : decode m10_negation.2.1 91 = .ok (.istore_n 1, 1) := by decide +kernel
theorem D10_negation_92 : decode m10_negation.2.1 92 = .ok (.aload_n 0, 1) := by decide +kernel
theorem D10_negation_93 : decode m10_negation.2.1 93 = .ok (.invokevirtual 264, 3) := by decide +kernel
theorem D10_negation_96 : decode m10_negation.2.1 96 = .ok (.aload_n 0, 1) := by decide +kernel
theorem D10_negation_97 : decode m10_negation.2.1 97 = .ok (.invokevirtual 216, 3) := by decide +kernel
theorem D10_negation_100 : decode m10_negation.2.1 100 = .ok (.aload_n 0, 1) := by decide +kernel
theorem D10_negation_101 : decode m10_negation.2.1 101 = .ok (.invokevirtual 273, 3) := by decide +kernel
theorem D10_negation_104 : decode m10_negation.2.1 104 = .ok (.aload_n 0, 1) := by decide +kernel
theorem D10_negation_105 : decode m10_negation.2.1 105 = .ok (.iconst 2, 1) := by decide +kernel
theorem D10_negation_106 : decode m10_negation.2.1 106 = .ok (.iload_n 1, 1) := by decide +kernel
theorem D10_negation_107 : decode m10_negation.2.1 107 = .ok (.invokevirtual 267, 3) := by decide +kernel
theorem D10_negation_110 : decode m10_negation.2.1 110 = .ok (.return_, 1) := by decide +kernel
theorem D10_sum_0 : decode m10_sum.2.1 0 = .ok (.aload_n 0, 1) := by decide +kernel
theorem D10_sum_1 : decode m10_sum.2.1 1 = .ok (.invokevirtual 276, 3) := by decide +kernel
theorem D10_sum_4 : decode m10_sum.2.1 4 = .ok (.aload_n 0, 1) := by decide +kernel
theorem D10_sum_5 : decode m10_sum.2.1 5 = .ok (.bipush 43, 2) := by decide +kernel
theorem D10_sum_7 : decode m10_sum.2.1 7 = .ok (.invokevirtual 246, 3) := by decide +kernel
theorem D10_sum_10 : decode m10_sum.2.1 10 = .ok (.ifCond .ne 12, 3) := by decide +kernel
theorem D10_sum_13 : decode m10_sum.2.1 13 = .ok (.aload_n 0, 1) := by decide +kernel
theorem D10_sum_14 : decode m10_sum.2.1 14 = .ok (.bipush 45, 2) := by decide +kernel
theorem D10_sum_16 : decode m10_sum.2.1 16 = .ok (.invokevirtual 246, 3) := by decide +kernel
theorem D10_sum_19 : decode m10_sum.2.1 19 = .ok (.ifCond .eq 29, 3) := by decide +kernel
theorem D10_sum_22 : decode m10_sum.2.1 22 = .ok (.aload_n 0, 1) := by decide +kernel
theorem D10_sum_23 : decode m10_sum.2.1 23 = .ok (.getfield 168, 3) := by decide +kernel
theorem D10_sum_26 : decode m10_sum.2.1 26 = .ok (.istore_n 1, 1) := by decide +kernel
theorem D10_sum_27 : decode m10_sum.2.1 27 = .ok (.aload_n 0, 1) := by decide +kernel
theorem D10_sum_28 : decode m10_sum.2.1 28 = .ok (.invokevirtual 264, 3) := by decide +kernel
theorem D10_sum_31 : decode m10_sum.2.1 31 = .ok (.aload_n 0, 1) := by decide +kernel
theorem D10_sum_32 : decode m10_sum.2.1 32 = .ok (.invokevirtual 216, 3) := by decide +kernel
theorem D10_sum_35 : decode m10_sum.2.1 35 = .ok (.aload_n 0, 1) := by decide +kernel
theorem D10_sum_36 : decode m10_sum.2.1 36 = .ok (.invokevirtual 276, 3) := by decide +kernel
theorem D10_sum_39 : decode m10_sum.2.1 39 = .ok (.aload_n 0, 1) := by decide +kernel
theorem D10_sum_40 : decode m10_sum.2.1 40 = .ok (.iconst 2, 1) := by decide +kernel
theorem D10_sum_41 : decode m10_sum.2.1 41 = .ok (.iload_n 1, 1) := by decide +kernel
theorem D10_sum_42 : decode m10_sum.2.1 42 = .ok (.invokevirtual 267, 3) := by decide +kernel
theorem D10_sum_45 : decode m10_sum.2.1 45 = .ok (.goto (-41), 3) := by decide +kernel
theorem D10_sum_48 : decode m10_sum.2.1 48 = .ok (.return_, 1) := by decide +kernel
theorem D10_product_0 : decode m10_product.2.1 0 = .ok (.aload_n 0, 1) := by decide +kernel
theorem D10_product_1 : decode m10_product.2.1 1 = .ok (.invokevirtual 279, 3) := by decide +kernel
theorem D10_product_4 : decode m10_product.2.1 4 = .ok (.aload_n 0, 1) := by decide +kernel
theorem D10_product_5 : decode m10_product.2.1 5 = .ok (.bipush 42, 2) := by decide +kernel
theorem D10_product_7 : decode m10_product.2.1 7 = .ok (.invokevirtual 246, 3) := by decide +kernel
theorem D10_product_10 : decode m10_product.2.1 10 = .ok (.ifCond .ne 12, 3) := by decide +kernel
theorem D10_product_13 : decode m10_product.2.1 13 = .ok (.aload_n 0, 1) := by decide +kernel
theorem D10_product_14 : decode m10_product.2.1 14 = .ok (.bipush 47, 2) := by decide +kernel
theorem D10_product_16 : decode m10_product.2.1 16 = .ok (.invokevirtual 246, 3) := by decide +kernel
theorem D10_product_19 : decode m10_product.2.1 19 = .ok (.ifCond .eq 29, 3) := by decide +kernel
theorem D10_product_22 : decode m10_product.2.1 22 = .ok (.aload_n 0, 1) := by decide +kernel
theorem D10_product_23 : decode m10_product.2.1 23 = .ok (.getfield 168, 3) := by decide +kernel
theorem D10_product_26 : decode m10_product.2.1 26 = .ok (.istore_n 1, 1) := by decide +kernel
theorem D10_product_27 : decode m10_product.2.1 27 = .ok (.aload_n 0, 1) := by decide +kernel
theorem D10_product_28 : decode m10_product.2.1 28 = .ok (.invokevirtual 264, 3) := by decide +kernel
theorem D10_product_31 : decode m10_product.2.1 31 = .ok (.aload_n 0, 1) := by decide +kernel
theorem D10_product_32 : decode m10_product.2.1 32 = .ok (.invokevirtual 216, 3) := by decide +kernel
theorem D10_product_35 : decode m10_product.2.1 35 = .ok (.aload_n 0, 1) := by decide +kernel
theorem D10_product_36 : decode m10_product.2.1 36 = .ok (.invokevirtual 279, 3) := by decide +kernel
theorem D10_product_39 : decode m10_product.2.1 39 = .ok (.aload_n 0, 1) := by decide +kernel
theorem D10_product_40 : decode m10_product.2.1 40 = .ok (.iconst 2, 1) := by decide +kernel
theorem D10_product_41 : decode m10_product.2.1 41 = .ok (.iload_n 1, 1) := by decide +kernel
theorem D10_product_42 : decode m10_product.2.1 42 = .ok (.invokevirtual 267, 3) := by decide +kernel
theorem D10_product_45 : decode m10_product.2.1 45 = .ok (.goto (-41), 3) := by decide +kernel
theorem D10_product_48 : decode m10_product.2.1 48 = .ok (.return_, 1) := by decide +kernel
theorem D10_primary_0 : decode m10_primary.2.1 0 = .ok (.aload_n 0, 1) := by decide +kernel
theorem D10_primary_1 : decode m10_primary.2.1 1 = .ok (.getfield 193, 3) := by decide +kernel
theorem D10_primary_4 : decode m10_primary.2.1 4 = .ok (.ifCond .eq 4, 3) := by decide +kernel
theorem D10_primary_7 : decode m10_primary.2.1 7 = .ok (.return_, 1) := by decide +kernel
theorem D10_primary_8 : decode m10_primary.2.1 8 = .ok (.aload_n 0, 1) := by decide +kernel
theorem D10_primary_9 : decode m10_primary.2.1 9 = .ok (.bipush 40, 2) := by decide +kernel
theorem D10_primary_11 : decode m10_primary.2.1 11 = .ok (.invokevirtual 246, 3) := by decide +kernel
theorem D10_primary_14 : decode m10_primary.2.1 14 = .ok (.ifCond .eq 87, 3) := by decide +kernel
theorem D10_primary_17 : decode m10_primary.2.1 17 = .ok (.aload_n 0, 1) := by decide +kernel
theorem D10_primary_18 : decode m10_primary.2.1 18 = .ok (.getfield 282, 3) := by decide +kernel
theorem D10_primary_21 : decode m10_primary.2.1 21 = .ok (.bipush 8, 2) := by decide +kernel
theorem D10_primary_23 : decode m10_primary.2.1 23 = .ok (.if_icmp .ne 8, 3) := by decide +kernel
theorem D10_primary_26 : decode m10_primary.2.1 26 = .ok (.aload_n 0, 1) := by decide +kernel
theorem D10_primary_27 : decode m10_primary.2.1 27 = .ok (.iconst 2, 1) := by decide +kernel
theorem D10_primary_28 : decode m10_primary.2.1 28 = .ok (.invokevirtual 202, 3) := by decide +kernel
theorem D10_primary_31 : decode m10_primary.2.1 31 = .ok (.aload_n 0, 1) := by decide +kernel
theorem D10_primary_32 : decode m10_primary.2.1 32 = .ok (.getfield 193, 3) := by decide +kernel
theorem D10_primary_35 : decode m10_primary.2.1 35 = .ok (.ifCond .eq 4, 3) := by decide +kernel
theorem D10_primary_38 : decode m10_primary.2.1 38 = .ok (.return_, 1) := by decide +kernel
theorem D10_primary_39 : decode m10_primary.2.1 39 = .ok (.aload_n 0, 1) := by decide +kernel
theorem D10_primary_40 : decode m10_primary.2.1 40 = .ok (.dup, 1) := by decide +kernel
theorem D10_primary_41 : decode m10_primary.2.1 41 = .ok (.getfield 282, 3) := by decide +kernel
theorem D10_primary_44 : decode m10_primary.2.1 44 = .ok (.iconst 1, 1) := by decide +kernel
theorem D10_primary_45 : decode m10_primary.2.1 45 = .ok (.iadd, 1) := by decide +kernel
theorem D10_primary_46 : decode m10_primary.2.1 46 = .ok (.putfield 282, 3) := by decide +kernel
theorem D10_primary_49 : decode m10_primary.2.1 49 = .ok (.aload_n 0, 1) := by decide +kernel
theorem D10_primary_50 : decode m10_primary.2.1 50 = .ok (.invokevirtual 199, 3) := by decide +kernel
theorem D10_primary_53 : decode m10_primary.2.1 53 = .ok (.aload_n 0, 1) := by decide +kernel
theorem D10_primary_54 : decode m10_primary.2.1 54 = .ok (.invokevirtual 252, 3) := by decide +kernel
theorem D10_primary_57 : decode m10_primary.2.1 57 = .ok (.aload_n 0, 1) := by decide +kernel
theorem D10_primary_58 : decode m10_primary.2.1 58 = .ok (.getfield 193, 3) := by decide +kernel
theorem D10_primary_61 : decode m10_primary.2.1 61 = .ok (.ifCond .ne 17, 3) := by decide +kernel
theorem D10_primary_64 : decode m10_primary.2.1 64 = .ok (.aload_n 0, 1) := by decide +kernel
theorem D10_primary_65 : decode m10_primary.2.1 65 = .ok (.bipush 41, 2) := by decide +kernel
theorem D10_primary_67 : decode m10_primary.2.1 67 = .ok (.invokevirtual 246, 3) := by decide +kernel
theorem D10_primary_70 : decode m10_primary.2.1 70 = .ok (.ifCond .ne 8, 3) := by decide +kernel
theorem D10_primary_73 : decode m10_primary.2.1 73 = .ok (.aload_n 0, 1) := by decide +kernel
theorem D10_primary_74 : decode m10_primary.2.1 74 = .ok (.iconst 1, 1) := by decide +kernel
theorem D10_primary_75 : decode m10_primary.2.1 75 = .ok (.invokevirtual 202, 3) := by decide +kernel
theorem D10_primary_78 : decode m10_primary.2.1 78 = .ok (.aload_n 0, 1) := by decide +kernel
theorem D10_primary_79 : decode m10_primary.2.1 79 = .ok (.getfield 193, 3) := by decide +kernel
theorem D10_primary_82 : decode m10_primary.2.1 82 = .ok (.ifCond .eq 4, 3) := by decide +kernel
theorem D10_primary_85 : decode m10_primary.2.1 85 = .ok (.return_, 1) := by decide +kernel
theorem D10_primary_86 : decode m10_primary.2.1 86 = .ok (.aload_n 0, 1) := by decide +kernel
theorem D10_primary_87 : decode m10_primary.2.1 87 = .ok (.dup, 1) := by decide +kernel
theorem D10_primary_88 : decode m10_primary.2.1 88 = .ok (.getfield 282, 3) := by decide +kernel
theorem D10_primary_91 : decode m10_primary.2.1 91 = .ok (.iconst 1, 1) := by decide +kernel
theorem D10_primary_92 : decode m10_primary.2.1 92 = .ok (.isub, 1) := by decide +kernel
theorem D10_primary_93 : decode m10_primary.2.1 93 = .ok (.putfield 282, 3) := by decide +kernel
theorem D10_primary_96 : decode m10_primary.2.1 96 = .ok (.aload_n 0, 1) := by decide +kernel
theorem D10_primary_97 : decode m10_primary.2.1 97 = .ok (.invokevirtual 199, 3) := by decide +kernel
theorem D10_primary_100 : decode m10_primary.2.1 100 = .ok (.return_, 1) := by decide +kernel
theorem D10_primary_101 : decode m10_primary.2.1 101 = .ok (.aload_n 0, 1) := by decide +kernel
theorem D10_primary_102 : decode m10_primary.2.1 102 = .ok (.getfield 158, 3) := by decide +kernel
theorem D10_primary_105 : decode m10_primary.2.1 105 = .ok (.iconst 2, 1) := by decide +kernel
theorem D10_primary_106 : decode m10_primary.2.1 106 = .ok (.if_icmp .ne 7, 3) := by decide +kernel
theorem D10_primary_109 : decode m10_primary.2.1 109 = .ok (.iconst 1, 1) := by decide +kernel
theorem D10_primary_110 : decode m10_primary.2.1 110 = .ok (.goto 4, 3) := by decide +kernel
theorem D10_primary_113 : decode m10_primary.2.1 113 = .ok (.iconst 0, 1) := by decide +kernel
theorem D10_primary_114 : decode m10_primary.2.1 114 = .ok (.istore_n 1, 1) := by decide +kernel
theorem D10_primary_115 : decode m10_primary.2.1 115 = .ok (.iload_n 1, 1) := by decide +kernel
theorem D10_primary_116 : decode m10_primary.2.1 116 = .ok (.ifCond .eq 21, 3) := by decide +kernel
theorem D10_primary_119 : decode m10_primary.2.1 119 = .ok (.aload_n 0, 1) := by decide +kernel
theorem D10_primary_120 : decode m10_primary.2.1 120 = .ok (.getfield 168, 3) := by decide +kernel
theorem D10_primary_123 : decode m10_primary.2.1 123 = .ok (.sipush 9999, 3) := by decide +kernel
theorem D10_primary_126 : decode m10_primary.2.1 126 = .ok (.if_icmp .le 11, 3) := by decide +kernel
theorem D10_primary_129 : decode m10_primary.2.1 129 = .ok (.aload_n 0, 1) := by decide +kernel
theorem D10_primary_130 : decode m10_primary.2.1 130 = .ok (.iconst 2, 1) := by decide +kernel
theorem D10_primary_131 : decode m10_primary.2.1 131 = .ok (.invokevirtual 202, 3) := by decide +kernel
theorem D10_primary_134 : decode m10_primary.2.1 134 = .ok (.goto 28, 3) := by decide +kernel
theorem D10_primary_137 : decode m10_primary.2.1 137 = .ok (.iload_n 1, 1) := by decide +kernel
theorem D10_primary_138 : decode m10_primary.2.1 138 = .ok (.ifCond .ne 24, 3) := by decide +kernel
theorem D10_primary_141 : decode m10_primary.2.1 141 = .ok (.aload_n 0, 1) := by decide +kernel
theorem D10_primary_142 : decode m10_primary.2.1 142 = .ok (.getfield 158, 3) := by decide +kernel
theorem D10_primary_145 : decode m10_primary.2.1 145 = .ok (.ifCond .ne 12, 3) := by decide +kernel
theorem D10_primary_148 : decode m10_primary.2.1 148 = .ok (.aload_n 0, 1) := by decide +kernel
theorem D10_primary_149 : decode m10_primary.2.1 149 = .ok (.getfield 168, 3) := by decide +kernel
theorem D10_primary_152 : decode m10_primary.2.1 152 = .ok (.bipush 12, 2) := by decide +kernel
theorem D10_primary_154 : decode m10_primary.2.1 154 = .ok (.if_icmp .ge 8, 3) := by decide +kernel
theorem D10_primary_157 : decode m10_primary.2.1 157 = .ok (.aload_n 0, 1) := by decide +kernel
theorem D10_primary_158 : decode m10_primary.2.1 158 = .ok (.iconst 1, 1) := by decide +kernel
theorem D10_primary_159 : decode m10_primary.2.1 159 = .ok (.invokevirtual 202, 3) := by decide +kernel
theorem D10_primary_162 : decode m10_primary.2.1 162 = .ok (.aload_n 0, 1) := by decide +kernel
theorem D10_primary_163 : decode m10_primary.2.1 163 = .ok (.invokevirtual 264, 3) := by decide +kernel
theorem D10_primary_166 : decode m10_primary.2.1 166 = .ok (.aload_n 0, 1) := by decide +kernel
theorem D10_primary_167 : decode m10_primary.2.1 167 = .ok (.iload_n 1, 1) := by decide +kernel
theorem D10_primary_168 : decode m10_primary.2.1 168 = .ok (.ifCond .eq 7, 3) := by decide +kernel
theorem D10_primary_171 : decode m10_primary.2.1 171 = .ok (.iconst 0, 1) := by decide +kernel
theorem D10_primary_172 : decode m10_primary.2.1 172 = .ok (.goto 4, 3) := by decide +kernel
theorem D10_primary_175 : decode m10_primary.2.1 175 = .ok (.iconst 1, 1) := by decide +kernel
theorem D10_primary_176 : decode m10_primary.2.1 176 = .ok (.iload_n 1, 1) := by decide +kernel
theorem D10_primary_177 : decode m10_primary.2.1 177 = .ok (.ifCond .eq 10, 3) := by decide +kernel
theorem D10_primary_180 : decode m10_primary.2.1 180 = .ok (.aload_n 0, 1) := by decide +kernel
theorem D10_primary_181 : decode m10_primary.2.1 181 = .ok (.getfield 168, 3) := by decide +kernel
theorem D10_primary_184 : decode m10_primary.2.1 184 = .ok (.goto 10, 3) := by decide +kernel
theorem D10_primary_187 : decode m10_primary.2.1 187 = .ok (.aload_n 0, 1) := by decide +kernel
theorem D10_primary_188 : decode m10_primary.2.1 188 = .ok (.getfield 168, 3) := by decide +kernel
theorem D10_primary_191 : decode m10_primary.2.1 191 = .ok (.bipush 12, 2) := by decide +kernel
theorem D10_primary_193 : decode m10_primary.2.1 193 = .ok (.isub, 1) := by decide +kernel
theorem D10_primary_194 : decode m10_primary.2.1 194 = .ok (.invokevirtual 267, 3) := by decide +kernel
theorem D10_primary_197 : decode m10_primary.2.1 197 = .ok (.aload_n 0, 1) := by decide +kernel
theorem D10_primary_198 : decode m10_primary.2.1 198 = .ok (.invokevirtual 216, 3) := by decide +kernel
theorem D10_primary_201 : decode m10_primary.2.1 201 = .ok (.return_, 1) := by decide +kernel
theorem D10_half_0 : decode m10_half.2.1 0 = .ok (.aload_n 0, 1) := by decide +kernel
theorem D10_half_1 : decode m10_half.2.1 1 = .ok (.arraylength, 1) := by decide +kernel
theorem D10_half_2 : decode m10_half.2.1 2 = .ok (.iconst 2, 1) := by decide +kernel
theorem D10_half_3 : decode m10_half.2.1 3 = .ok (.idiv, 1) := by decide +kernel
theorem D10_half_4 : decode m10_half.2.1 4 = .ok (.istore_n 1, 1) := by decide +kernel
theorem D10_half_5 : decode m10_half.2.1 5 = .ok (.iconst 0, 1) := by decide +kernel
theorem D10_half_6 : decode m10_half.2.1 6 = .ok (.istore_n 2, 1) := by decide +kernel
theorem D10_half_7 : decode m10_half.2.1 7 = .ok (.iload_n 2, 1) := by decide +kernel
theorem D10_half_8 : decode m10_half.2.1 8 = .ok (.iload_n 1, 1) := by decide +kernel
theorem D10_half_9 : decode m10_half.2.1 9 = .ok (.if_icmp .ge 17, 3) := by decide +kernel
theorem D10_half_12 : decode m10_half.2.1 12 = .ok (.aload_n 0, 1) := by decide +kernel
theorem D10_half_13 : decode m10_half.2.1 13 = .ok (.iload_n 2, 1) := by decide +kernel
theorem D10_half_14 : decode m10_half.2.1 14 = .ok (.aload_n 0, 1) := by decide +kernel
theorem D10_half_15 : decode m10_half.2.1 15 = .ok (.iload_n 1, 1) := by decide +kernel
theorem D10_half_16 : decode m10_half.2.1 16 = .ok (.iload_n 2, 1) := by decide +kernel
theorem D10_half_17 : decode m10_half.2.1 17 = .ok (.iadd, 1) := by decide +kernel
theorem D10_half_18 : decode m10_half.2.1 18 = .ok (.iaload, 1) := by decide +kernel
theorem D10_half_19 : decode m10_half.2.1 19 = .ok (.iastore, 1) := by decide +kernel
theorem D10_half_20 : decode m10_half.2.1 20 = .ok (.iinc 2 1, 3) := by decide +kernel
theorem D10_half_23 : decode m10_half.2.1 23 = .ok (.goto (-16), 3) := by decide +kernel
theorem D10_half_26 : decode m10_half.2.1 26 = .ok (.return_, 1) := by decide +kernel
theorem D10_text_0 : decode m10_text.2.1 0 = .ok (.aload_n 0, 1) := by decide +kernel
theorem D10_text_1 : decode m10_text.2.1 1 = .ok (.iconst 0, 1) := by decide +kernel
theorem D10_text_2 : decode m10_text.2.1 2 = .ok (.putfield 139, 3) := by decide +kernel
theorem D10_text_5 : decode m10_text.2.1 5 = .ok (.iload_n 1, 1) := by decide +kernel
theorem D10_text_6 : decode m10_text.2.1 6 = .ok (.ifCond .lt 11, 3) := by decide +kernel
theorem D10_text_9 : decode m10_text.2.1 9 = .ok (.iload_n 1, 1) := by decide +kernel
theorem D10_text_10 : decode m10_text.2.1 10 = .ok (.aload_n 0, 1) := by decide +kernel
theorem D10_text_11 : decode m10_text.2.1 11 = .ok (.getfield 142, 3) := by decide +kernel
theorem D10_text_14 : decode m10_text.2.1 14 = .ok (.if_icmp .le 6, 3) := by decide +kernel
theorem D10_text_17 : decode m10_text.2.1 17 = .ok (.bipush (-2), 2) := by decide +kernel
theorem D10_text_19 : decode m10_text.2.1 19 = .ok (.ireturn, 1) := by decide +kernel
theorem D10_text_20 : decode m10_text.2.1 20 = .ok (.aload_n 0, 1) := by decide +kernel
theorem D10_text_21 : decode m10_text.2.1 21 = .ok (.iload_n 1, 1) := by decide +kernel
theorem D10_text_22 : decode m10_text.2.1 22 = .ok (.putfield 148, 3) := by decide +kernel
theorem D10_text_25 : decode m10_text.2.1 25 = .ok (.aload_n 0, 1) := by decide +kernel
theorem D10_text_26 : decode m10_text.2.1 26 = .ok (.iconst 0, 1) := by decide +kernel
theorem D10_text_27 : decode m10_text.2.1 27 = .ok (.putfield 142, 3) := by decide +kernel
theorem D10_text_30 : decode m10_text.2.1 30 = .ok (.aload_n 0, 1) := by decide +kernel
theorem D10_text_31 : decode m10_text.2.1 31 = .ok (.iconst 0, 1) := by decide +kernel
theorem D10_text_32 : decode m10_text.2.1 32 = .ok (.putfield 145, 3) := by decide +kernel
theorem D10_text_35 : decode m10_text.2.1 35 = .ok (.aload_n 0, 1) := by decide +kernel
theorem D10_text_36 : decode m10_text.2.1 36 = .ok (.iconst 0, 1) := by decide +kernel
theorem D10_text_37 : decode m10_text.2.1 37 = .ok (.putfield 193, 3) := by decide +kernel
theorem D10_text_40 : decode m10_text.2.1 40 = .ok (.aload_n 0, 1) := by decide +kernel
theorem D10_text_41 : decode m10_text.2.1 41 = .ok (.iconst (-1), 1) := by decide +kernel
theorem D10_text_42 : decode m10_text.2.1 42 = .ok (.putfield 196, 3) := by decide +kernel
theorem D10_text_45 : decode m10_text.2.1 45 = .ok (.iconst 0, 1) := by decide +kernel
theorem D10_text_46 : decode m10_text.2.1 46 = .ok (.istore_n 2, 1) := by decide +kernel
theorem D10_text_47 : decode m10_text.2.1 47 = .ok (.iload_n 2, 1) := by decide +kernel
theorem D10_text_48 : decode m10_text.2.1 48 = .ok (.bipush 6, 2) := by decide +kernel
theorem D10_text_50 : decode m10_text.2.1 50 = .ok (.if_icmp .ge 15, 3) := by decide +kernel
theorem D10_text_53 : decode m10_text.2.1 53 = .ok (.aload_n 0, 1) := by decide +kernel
theorem D10_text_54 : decode m10_text.2.1 54 = .ok (.iload_n 2, 1) := by decide +kernel
theorem D10_text_55 : decode m10_text.2.1 55 = .ok (.iconst 0, 1) := by decide +kernel
theorem D10_text_56 : decode m10_text.2.1 56 = .ok (.invokevirtual 233, 3) := by decide +kernel
theorem D10_text_59 : decode m10_text.2.1 59 = .ok (.iinc 2 1, 3) := by decide +kernel
theorem D10_text_62 : decode m10_text.2.1 62 = .ok (.goto (-15), 3) := by decide +kernel
theorem D10_text_65 : decode m10_text.2.1 65 = .ok (.iconst 3, 1) := by decide +kernel
theorem D10_text_66 : decode m10_text.2.1 66 = .ok (.istore_n 2, 1) := by decide +kernel
theorem D10_text_67 : decode m10_text.2.1 67 = .ok (.iload_n 2, 1) := by decide +kernel
theorem D10_text_68 : decode m10_text.2.1 68 = .ok (.bipush 6, 2) := by decide +kernel
theorem D10_text_70 : decode m10_text.2.1 70 = .ok (.if_icmp .ge 23, 3) := by decide +kernel
theorem D10_text_73 : decode m10_text.2.1 73 = .ok (.aload_n 0, 1) := by decide +kernel
theorem D10_text_74 : decode m10_text.2.1 74 = .ok (.getfield 52, 3) := by decide +kernel
theorem D10_text_77 : decode m10_text.2.1 77 = .ok (.iload_n 2, 1) := by decide +kernel
theorem D10_text_78 : decode m10_text.2.1 78 = .ok (.iconst 0, 1) := by decide +kernel
theorem D10_text_79 : decode m10_text.2.1 79 = .ok (.iastore, 1) := by decide +kernel
theorem D10_text_80 : decode m10_text.2.1 80 = .ok (.aload_n 0, 1) := by decide +kernel
theorem D10_text_81 : decode m10_text.2.1 81 = .ok (.getfield 55, 3) := by decide +kernel
theorem D10_text_84 : decode m10_text.2.1 84 = .ok (.iload_n 2, 1) := by decide +kernel
theorem D10_text_85 : decode m10_text.2.1 85 = .ok (.iconst 0, 1) := by decide +kernel
theorem D10_text_86 : decode m10_text.2.1 86 = .ok (.iastore, 1) := by decide +kernel
theorem D10_text_87 : decode m10_text.2.1 87 = .ok (.iinc 2 1, 3) := by decide +kernel
theorem D10_text_90 : decode m10_text.2.1 90 = .ok (.goto (-23), 3) := by decide +kernel
theorem D10_text_93 : decode m10_text.2.1 93 = .ok (.aload_n 0, 1) := by decide +kernel
theorem D10_text_94 : decode m10_text.2.1 94 = .ok (.iconst 0, 1) := by decide +kernel
theorem D10_text_95 : decode m10_text.2.1 95 = .ok (.putfield 222, 3) := by decide +kernel
theorem D10_text_98 : decode m10_text.2.1 98 = .ok (.aload_n 0, 1) := by decide +kernel
theorem D10_text_99 : decode m10_text.2.1 99 = .ok (.iconst 0, 1) := by decide +kernel
theorem D10_text_100 : decode m10_text.2.1 100 = .ok (.putfield 249, 3) := by decide +kernel
theorem D10_text_103 : decode m10_text.2.1 103 = .ok (.aload_n 0, 1) := by decide +kernel
theorem D10_text_104 : decode m10_text.2.1 104 = .ok (.iconst 0, 1) := by decide +kernel
theorem D10_text_105 : decode m10_text.2.1 105 = .ok (.putfield 282, 3) := by decide +kernel
theorem D10_text_108 : decode m10_text.2.1 108 = .ok (.aload_n 0, 1) := by decide +kernel
theorem D10_text_109 : decode m10_text.2.1 109 = .ok (.iconst 0, 1) := by decide +kernel
theorem D10_text_110 : decode m10_text.2.1 110 = .ok (.putfield 255, 3) := by decide +kernel
theorem D10_text_113 : decode m10_text.2.1 113 = .ok (.aload_n 0, 1) := by decide +kernel
theorem D10_text_114 : decode m10_text.2.1 114 = .ok (.invokevirtual 199, 3) := by decide +kernel
theorem D10_text_117 : decode m10_text.2.1 117 = .ok (.aload_n 0, 1) := by decide +kernel
theorem D10_text_118 : decode m10_text.2.1 118 = .ok (.getfield 193, 3) := by decide +kernel
theorem D10_text_121 : decode m10_text.2.1 121 = .ok (.ifCond .ne 18, 3) := by decide +kernel
theorem D10_text_124 : decode m10_text.2.1 124 = .ok (.aload_n 0, 1) := by decide +kernel
theorem D10_text_125 : decode m10_text.2.1 125 = .ok (.getfield 158, 3) := by decide +kernel
theorem D10_text_128 : decode m10_text.2.1 128 = .ok (.iconst 4, 1) := by decide +kernel
theorem D10_text_129 : decode m10_text.2.1 129 = .ok (.if_icmp .eq 10, 3) := by decide +kernel
theorem D10_text_132 : decode m10_text.2.1 132 = .ok (.aload_n 0, 1) := by decide +kernel
theorem D10_text_133 : decode m10_text.2.1 133 = .ok (.invokevirtual 285, 3) := by decide +kernel
theorem D10_text_136 : decode m10_text.2.1 136 = .ok (.goto (-19), 3) := by decide +kernel
theorem D10_text_139 : decode m10_text.2.1 139 = .ok (.aload_n 0, 1) := by decide +kernel
theorem D10_text_140 : decode m10_text.2.1 140 = .ok (.aload_n 0, 1) := by decide +kernel
theorem D10_text_141 : decode m10_text.2.1 141 = .ok (.getfield 193, 3) := by decide +kernel
theorem D10_text_144 : decode m10_text.2.1 144 = .ok (.putfield 288, 3) := by decide +kernel
theorem D10_text_147 : decode m10_text.2.1 147 = .ok (.aload_n 0, 1) := by decide +kernel
theorem D10_text_148 : decode m10_text.2.1 148 = .ok (.aload_n 0, 1) := by decide +kernel
theorem D10_text_149 : decode m10_text.2.1 149 = .ok (.getfield 196, 3) := by decide +kernel
theorem D10_text_152 : decode m10_text.2.1 152 = .ok (.putfield 64, 3) := by decide +kernel
theorem D10_text_155 : decode m10_text.2.1 155 = .ok (.aload_n 0, 1) := by decide +kernel
theorem D10_text_156 : decode m10_text.2.1 156 = .ok (.getfield 193, 3) := by decide +kernel
theorem D10_text_159 : decode m10_text.2.1 159 = .ok (.ifCond .eq 5, 3) := by decide +kernel
theorem D10_text_162 : decode m10_text.2.1 162 = .ok (.iconst (-1), 1) := by decide +kernel
theorem D10_text_163 : decode m10_text.2.1 163 = .ok (.ireturn, 1) := by decide +kernel
theorem D10_text_164 : decode m10_text.2.1 164 = .ok (.aload_n 0, 1) := by decide +kernel
theorem D10_text_165 : decode m10_text.2.1 165 = .ok (.getfield 13, 3) := by decide +kernel
theorem D10_text_168 : decode m10_text.2.1 168 = .ok (.invokestatic 291, 3) := by decide +kernel
theorem D10_text_171 : decode m10_text.2.1 171 = .ok (.aload_n 0, 1) := by decide +kernel
theorem D10_text_172 : decode m10_text.2.1 172 = .ok (.getfield 16, 3) := by decide +kernel
theorem D10_text_175 : decode m10_text.2.1 175 = .ok (.invokestatic 291, 3) := by decide +kernel
theorem D10_text_178 : decode m10_text.2.1 178 = .ok (.aload_n 0, 1) := by decide +kernel
theorem D10_text_179 : decode m10_text.2.1 179 = .ok (.getfield 19, 3) := by decide +kernel
theorem D10_text_182 : decode m10_text.2.1 182 = .ok (.invokestatic 291, 3) := by decide +kernel
theorem D10_text_185 : decode m10_text.2.1 185 = .ok (.aload_n 0, 1) := by decide +kernel
theorem D10_text_186 : decode m10_text.2.1 186 = .ok (.getfield 22, 3) := by decide +kernel
theorem D10_text_189 : decode m10_text.2.1 189 = .ok (.invokestatic 291, 3) := by decide +kernel
theorem D10_text_192 : decode m10_text.2.1 192 = .ok (.aload_n 0, 1) := by decide +kernel
theorem D10_text_193 : decode m10_text.2.1 193 = .ok (.getfield 25, 3) := by decide +kernel
theorem D10_text_196 : decode m10_text.2.1 196 = .ok (.invokestatic 291, 3) := by decide +kernel
theorem D10_text_199 : decode m10_text.2.1 199 = .ok (.aload_n 0, 1) := by decide +kernel
theorem D10_text_200 : decode m10_text.2.1 200 = .ok (.getfield 28, 3) := by decide +kernel
theorem D10_text_203 : decode m10_text.2.1 203 = .ok (.invokestatic 291, 3) := by decide +kernel
theorem D10_text_206 : decode m10_text.2.1 206 = .ok (.aload_n 0, 1) := by decide +kernel
theorem D10_text_207 : decode m10_text.2.1 207 = .ok (.getfield 31, 3) := by decide +kernel
theorem D10_text_210 : decode m10_text.2.1 210 = .ok (.invokestatic 291, 3) := by decide +kernel
theorem D10_text_213 : decode m10_text.2.1 213 = .ok (.aload_n 0, 1) := by decide +kernel
theorem D10_text_214 : decode m10_text.2.1 214 = .ok (.getfield 34, 3) := by decide +kernel
theorem D10_text_217 : decode m10_text.2.1 217 = .ok (.invokestatic 291, 3) := by decide +kernel
theorem D10_text_220 : decode m10_text.2.1 220 = .ok (.aload_n 0, 1) := by decide +kernel
theorem D10_text_221 : decode m10_text.2.1 221 = .ok (.getfield 37, 3) := by decide +kernel
theorem D10_text_224 : decode m10_text.2.1 224 = .ok (.invokestatic 291, 3) := by decide +kernel
theorem D10_text_227 : decode m10_text.2.1 227 = .ok (.aload_n 0, 1) := by decide +kernel
theorem D10_text_228 : decode m10_text.2.1 228 = .ok (.getfield 40, 3) := by decide +kernel
theorem D10_text_231 : decode m10_text.2.1 231 = .ok (.invokestatic 291, 3) := by decide +kernel
theorem D10_text_234 : decode m10_text.2.1 234 = .ok (.aload_n 0, 1) := by decide +kernel
theorem D10_text_235 : decode m10_text.2.1 235 = .ok (.getfield 43, 3) := by decide +kernel
theorem D10_text_238 : decode m10_text.2.1 238 = .ok (.invokestatic 291, 3) := by decide +kernel
theorem D10_text_241 : decode m10_text.2.1 241 = .ok (.aload_n 0, 1) := by decide +kernel
theorem D10_text_242 : decode m10_text.2.1 242 = .ok (.getfield 46, 3) := by decide +kernel
theorem D10_text_245 : decode m10_text.2.1 245 = .ok (.invokestatic 291, 3) := by decide +kernel
theorem D10_text_248 : decode m10_text.2.1 248 = .ok (.aload_n 0, 1) := by decide +kernel
theorem D10_text_249 : decode m10_text.2.1 249 = .ok (.getfield 49, 3) := by decide +kernel
theorem D10_text_252 : decode m10_text.2.1 252 = .ok (.invokestatic 291, 3) := by decide +kernel
theorem D10_text_255 : decode m10_text.2.1 255 = .ok (.aload_n 0, 1) := by decide +kernel
theorem D10_text_256 : decode m10_text.2.1 256 = .ok (.getfield 52, 3) := by decide +kernel
theorem D10_text_259 : decode m10_text.2.1 259 = .ok (.invokestatic 291, 3) := by decide +kernel
theorem D10_text_262 : decode m10_text.2.1 262 = .ok (.aload_n 0, 1) := by decide +kernel
theorem D10_text_263 : decode m10_text.2.1 263 = .ok (.getfield 55, 3) := by decide +kernel
theorem D10_text_266 : decode m10_text.2.1 266 = .ok (.invokestatic 291, 3) := by decide +kernel
theorem D10_text_269 : decode m10_text.2.1 269 = .ok (.aload_n 0, 1) := by decide +kernel
theorem D10_text_270 : decode m10_text.2.1 270 = .ok (.getfield 58, 3) := by decide +kernel
theorem D10_text_273 : decode m10_text.2.1 273 = .ok (.invokestatic 291, 3) := by decide +kernel
theorem D10_text_276 : decode m10_text.2.1 276 = .ok (.aload_n 0, 1) := by decide +kernel
theorem D10_text_277 : decode m10_text.2.1 277 = .ok (.getfield 61, 3) := by decide +kernel
theorem D10_text_280 : decode m10_text.2.1 280 = .ok (.invokestatic 291, 3) := by decide +kernel
theorem D10_text_283 : decode m10_text.2.1 283 = .ok (.aload_n 0, 1) := by decide +kernel
theorem D10_text_284 : decode m10_text.2.1 284 = .ok (.iconst 0, 1) := by decide +kernel
theorem D10_text_285 : decode m10_text.2.1 285 = .ok (.putfield 295, 3) := by decide +kernel
theorem D10_text_288 : decode m10_text.2.1 288 = .ok (.aload_n 0, 1) := by decide +kernel
theorem D10_text_289 : decode m10_text.2.1 289 = .ok (.iconst (-1), 1) := by decide +kernel
theorem D10_text_290 : decode m10_text.2.1 290 = .ok (.putfield 117, 3) := by decide +kernel
theorem D10_text_293 : decode m10_text.2.1 293 = .ok (.aload_n 0, 1) := by decide +kernel
theorem D10_text_294 : decode m10_text.2.1 294 = .ok (.iconst 0, 1) := by decide +kernel
theorem D10_text_295 : decode m10_text.2.1 295 = .ok (.putfield 298, 3) := by decide +kernel
theorem D10_text_298 : decode m10_text.2.1 298 = .ok (.aload_n 0, 1) := by decide +kernel
theorem D10_text_299 : decode m10_text.2.1 299 = .ok (.iconst 0, 1) := by decide +kernel
theorem D10_text_300 : decode m10_text.2.1 300 = .ok (.putfield 302, 3) := by decide +kernel
theorem D10_text_303 : decode m10_text.2.1 303 = .ok (.aload_n 0, 1) := by decide +kernel
theorem D10_text_304 : decode m10_text.2.1 304 = .ok (.invokevirtual 136, 3) := by decide +kernel
theorem D10_text_307 : decode m10_text.2.1 307 = .ok (.aload_n 0, 1) := by decide +kernel
theorem D10_text_308 : decode m10_text.2.1 308 = .ok (.getfield 249, 3) := by decide +kernel
theorem D10_text_311 : decode m10_text.2.1 311 = .ok (.ireturn, 1) := by decide +kernel
theorem D10_fault_0 : decode m10_fault.2.1 0 = .ok (.aload_n 0, 1) := by decide +kernel
theorem D10_fault_1 : decode m10_fault.2.1 1 = .ok (.iconst 0, 1) := by decide +kernel
theorem D10_fault_2 : decode m10_fault.2.1 2 = .ok (.putfield 139, 3) := by decide +kernel
theorem D10_fault_5 : decode m10_fault.2.1 5 = .ok (.iload_n 1, 1) := by decide +kernel
theorem D10_fault_6 : decode m10_fault.2.1 6 = .ok (.ifCond .ne 10, 3) := by decide +kernel
theorem D10_fault_9 : decode m10_fault.2.1 9 = .ok (.aload_n 0, 1) := by decide +kernel
theorem D10_fault_10 : decode m10_fault.2.1 10 = .ok (.getfield 288, 3) := by decide +kernel
theorem D10_fault_13 : decode m10_fault.2.1 13 = .ok (.goto 16, 3) := by decide +kernel
theorem D10_fault_16 : decode m10_fault.2.1 16 = .ok (.iload_n 1, 1) := by decide +kernel
theorem D10_fault_17 : decode m10_fault.2.1 17 = .ok (.iconst 1, 1) := by decide +kernel
theorem D10_fault_18 : decode m10_fault.2.1 18 = .ok (.if_icmp .ne 10, 3) := by decide +kernel
theorem D10_fault_21 : decode m10_fault.2.1 21 = .ok (.aload_n 0, 1) := by decide +kernel
theorem D10_fault_22 : decode m10_fault.2.1 22 = .ok (.getfield 64, 3) := by decide +kernel
theorem D10_fault_25 : decode m10_fault.2.1 25 = .ok (.goto 4, 3) := by decide +kernel
theorem D10_fault_28 : decode m10_fault.2.1 28 = .ok (.iconst (-1), 1) := by decide +kernel
theorem D10_fault_29 : decode m10_fault.2.1 29 = .ok (.ireturn, 1) := by decide +kernel
theorem D10_named_0 : decode m10_named.2.1 0 = .ok (.aload_n 0, 1) := by decide +kernel
theorem D10_named_1 : decode m10_named.2.1 1 = .ok (.iconst 0, 1) := by decide +kernel
theorem D10_named_2 : decode m10_named.2.1 2 = .ok (.putfield 139, 3) := by decide +kernel
theorem D10_named_5 : decode m10_named.2.1 5 = .ok (.iload_n 1, 1) := by decide +kernel
theorem D10_named_6 : decode m10_named.2.1 6 = .ok (.lookupswitch 58 #[(0, 26), (1, 42)], 26) := by decide +kernel
theorem D10_named_32 : decode m10_named.2.1 32 = .ok (.aload_n 0, 1) := by decide +kernel
theorem D10_named_33 : decode m10_named.2.1 33 = .ok (.getfield 16, 3) := by decide +kernel
theorem D10_named_36 : decode m10_named.2.1 36 = .ok (.iconst 0, 1) := by decide +kernel
theorem D10_named_37 : decode m10_named.2.1 37 = .ok (.aload_n 0, 1) := by decide +kernel
theorem D10_named_38 : decode m10_named.2.1 38 = .ok (.getfield 13, 3) := by decide +kernel
theorem D10_named_41 : decode m10_named.2.1 41 = .ok (.iconst 0, 1) := by decide +kernel
theorem D10_named_42 : decode m10_named.2.1 42 = .ok (.iaload, 1) := by decide +kernel
theorem D10_named_43 : decode m10_named.2.1 43 = .ok (.iload_n 2, 1) := by decide +kernel
theorem D10_named_44 : decode m10_named.2.1 44 = .ok (.invokestatic 205, 3) := by decide +kernel
theorem D10_named_47 : decode m10_named.2.1 47 = .ok (.ireturn, 1) := by decide +kernel
theorem D10_named_48 : decode m10_named.2.1 48 = .ok (.aload_n 0, 1) := by decide +kernel
theorem D10_named_49 : decode m10_named.2.1 49 = .ok (.getfield 22, 3) := by decide +kernel
theorem D10_named_52 : decode m10_named.2.1 52 = .ok (.iconst 0, 1) := by decide +kernel
theorem D10_named_53 : decode m10_named.2.1 53 = .ok (.aload_n 0, 1) := by decide +kernel
theorem D10_named_54 : decode m10_named.2.1 54 = .ok (.getfield 13, 3) := by decide +kernel
theorem D10_named_57 : decode m10_named.2.1 57 = .ok (.iconst 1, 1) := by decide +kernel
theorem D10_named_58 : decode m10_named.2.1 58 = .ok (.iaload, 1) := by decide +kernel
theorem D10_named_59 : decode m10_named.2.1 59 = .ok (.iload_n 2, 1) := by decide +kernel
theorem D10_named_60 : decode m10_named.2.1 60 = .ok (.invokestatic 205, 3) := by decide +kernel
theorem D10_named_63 : decode m10_named.2.1 63 = .ok (.ireturn, 1) := by decide +kernel
theorem D10_named_64 : decode m10_named.2.1 64 = .ok (.iconst (-1), 1) := by decide +kernel
theorem D10_named_65 : decode m10_named.2.1 65 = .ok (.ireturn, 1) := by decide +kernel
theorem D10_is_0 : decode m10_is.2.1 0 = .ok (.iload_n 0, 1) := by decide +kernel
theorem D10_is_1 : decode m10_is.2.1 1 = .ok (.ifCond .eq 7, 3) := by decide +kernel
theorem D10_is_4 : decode m10_is.2.1 4 = .ok (.lconst 1, 1) := by decide +kernel
theorem D10_is_5 : decode m10_is.2.1 5 = .ok (.goto 4, 3) := by decide +kernel
theorem D10_is_8 : decode m10_is.2.1 8 = .ok (.lconst 0, 1) := by decide +kernel
theorem D10_is_9 : decode m10_is.2.1 9 = .ok (.lreturn, 1) := by decide +kernel
theorem D10_works_0 : decode m10_works.2.1 0 = .ok (.aload_n 0, 1) := by decide +kernel
theorem D10_works_1 : decode m10_works.2.1 1 = .ok (.getfield 72, 3) := by decide +kernel
theorem D10_works_4 : decode m10_works.2.1 4 = .ok (.aload_n 0, 1) := by decide +kernel
theorem D10_works_5 : decode m10_works.2.1 5 = .ok (.getfield 305, 3) := by decide +kernel
theorem D10_works_8 : decode m10_works.2.1 8 = .ok (.iconst 1, 1) := by decide +kernel
theorem D10_works_9 : decode m10_works.2.1 9 = .ok (.isub, 1) := by decide +kernel
theorem D10_works_10 : decode m10_works.2.1 10 = .ok (.laload, 1) := by decide +kernel
theorem D10_works_11 : decode m10_works.2.1 11 = .ok (.lstore_n 2, 1) := by decide +kernel
theorem D10_works_12 : decode m10_works.2.1 12 = .ok (.iload_n 1, 1) := by decide +kernel
theorem D10_works_13 : decode m10_works.2.1 13 = .ok (.sipush 260, 3) := by decide +kernel
theorem D10_works_16 : decode m10_works.2.1 16 = .ok (.if_icmp .ne 30, 3) := by decide +kernel
theorem D10_works_19 : decode m10_works.2.1 19 = .ok (.aload_n 0, 1) := by decide +kernel
theorem D10_works_20 : decode m10_works.2.1 20 = .ok (.getfield 72, 3) := by decide +kernel
theorem D10_works_23 : decode m10_works.2.1 23 = .ok (.aload_n 0, 1) := by decide +kernel
theorem D10_works_24 : decode m10_works.2.1 24 = .ok (.getfield 305, 3) := by decide +kernel
theorem D10_works_27 : decode m10_works.2.1 27 = .ok (.iconst 1, 1) := by decide +kernel
theorem D10_works_28 : decode m10_works.2.1 28 = .ok (.isub, 1) := by decide +kernel
theorem D10_works_29 : decode m10_works.2.1 29 = .ok (.lload_n 2, 1) := by decide +kernel
theorem D10_works_30 : decode m10_works.2.1 30 = .ok (.lconst 0, 1) := by decide +kernel
theorem D10_works_31 : decode m10_works.2.1 31 = .ok (.lcmp, 1) := by decide +kernel
theorem D10_works_32 : decode m10_works.2.1 32 = .ok (.ifCond .ne 7, 3) := by decide +kernel
theorem D10_works_35 : decode m10_works.2.1 35 = .ok (.iconst 1, 1) := by decide +kernel
theorem D10_works_36 : decode m10_works.2.1 36 = .ok (.goto 4, 3) := by decide +kernel
theorem D10_works_39 : decode m10_works.2.1 39 = .ok (.iconst 0, 1) := by decide +kernel
theorem D10_works_40 : decode m10_works.2.1 40 = .ok (.invokestatic 308, 3) := by decide +kernel
theorem D10_works_43 : decode m10_works.2.1 43 = .ok (.lastore, 1) := by decide +kernel
theorem D10_works_44 : decode m10_works.2.1 44 = .ok (.iconst 1, 1) := by decide +kernel
theorem D10_works_45 : decode m10_works.2.1 45 = .ok (.ireturn, 1) := by decide +kernel
theorem D10_works_46 : decode m10_works.2.1 46 = .ok (.aload_n 0, 1) := by decide +kernel
theorem D10_works_47 : decode m10_works.2.1 47 = .ok (.getfield 72, 3) := by decide +kernel
theorem D10_works_50 : decode m10_works.2.1 50 = .ok (.aload_n 0, 1) := by decide +kernel
theorem D10_works_51 : decode m10_works.2.1 51 = .ok (.getfield 305, 3) := by decide +kernel
theorem D10_works_54 : decode m10_works.2.1 54 = .ok (.iconst 2, 1) := by decide +kernel
theorem D10_works_55 : decode m10_works.2.1 55 = .ok (.isub, 1) := by decide +kernel
theorem D10_works_56 : decode m10_works.2.1 56 = .ok (.laload, 1) := by decide +kernel
theorem D10_works_57 : decode m10_works.2.1 57 = .ok (.lstore 4, 2) := by decide +kernel
theorem D10_works_59 : decode m10_works.2.1 59 = .ok (.aload_n 0, 1) := by decide +kernel
theorem D10_works_60 : decode m10_works.2.1 60 = .ok (.dup, 1) := by decide +kernel
theorem D10_works_61 : decode m10_works.2.1 61 = .ok (.getfield 305, 3) := by decide +kernel
theorem D10_works_64 : decode m10_works.2.1 64 = .ok (.iconst 1, 1) := by decide +kernel
theorem D10_works_65 : decode m10_works.2.1 65 = .ok (.isub, 1) := by decide +kernel
theorem D10_works_66 : decode m10_works.2.1 66 = .ok (.putfield 305, 3) := by decide +kernel
theorem D10_works_69 : decode m10_works.2.1 69 = .ok (.iload_n 1, 1) := by decide +kernel
theorem D10_works_70 : decode m10_works.2.1 70 = .ok (.lookupswitch 314 #[(42, 116), (43, 98), (45, 107), (47, 151), (60, 168), (61, 208), (62, 188), (256, 228), (257, 268), (258, 248), (261, 288)], 98) := by decide +kernel
theorem D10_works_168 : decode m10_works.2.1 168 = .ok (.lload 4, 2) := by decide +kernel
theorem D10_works_170 : decode m10_works.2.1 170 = .ok (.lload_n 2, 1) := by decide +kernel
theorem D10_works_171 : decode m10_works.2.1 171 = .ok (.ladd, 1) := by decide +kernel
theorem D10_works_172 : decode m10_works.2.1 172 = .ok (.lstore 6, 2) := by decide +kernel
theorem D10_works_174 : decode m10_works.2.1 174 = .ok (.goto 233, 3) := by decide +kernel
theorem D10_works_177 : decode m10_works.2.1 177 = .ok (.lload 4, 2) := by decide +kernel
theorem D10_works_179 : decode m10_works.2.1 179 = .ok (.lload_n 2, 1) := by decide +kernel
theorem D10_works_180 : decode m10_works.2.1 180 = .ok (.lsub, 1) := by decide +kernel
theorem D10_works_181 : decode m10_works.2.1 181 = .ok (.lstore 6, 2) := by decide +kernel
theorem D10_works_183 : decode m10_works.2.1 183 = .ok (.goto 224, 3) := by decide +kernel
theorem D10_works_186 : decode m10_works.2.1 186 = .ok (.lload 4, 2) := by decide +kernel
theorem D10_works_188 : decode m10_works.2.1 188 = .ok (.lconst 0, 1) := by decide +kernel
theorem D10_works_189 : decode m10_works.2.1 189 = .ok (.lcmp, 1) := by decide +kernel
theorem D10_works_190 : decode m10_works.2.1 190 = .ok (.ifCond .eq 22, 3) := by decide +kernel
theorem D10_works_193 : decode m10_works.2.1 193 = .ok (.lload_n 2, 1) := by decide +kernel
theorem D10_works_194 : decode m10_works.2.1 194 = .ok (.invokestatic 312, 3) := by decide +kernel
theorem D10_works_197 : decode m10_works.2.1 197 = .ok (.ldc2_w 318, 3) := by decide +kernel
theorem D10_works_200 : decode m10_works.2.1 200 = .ok (.lload 4, 2) := by decide +kernel
theorem D10_works_202 : decode m10_works.2.1 202 = .ok (.invokestatic 312, 3) := by decide +kernel
theorem D10_works_205 : decode m10_works.2.1 205 = .ok (.ldiv, 1) := by decide +kernel
theorem D10_works_206 : decode m10_works.2.1 206 = .ok (.lcmp, 1) := by decide +kernel
theorem D10_works_207 : decode m10_works.2.1 207 = .ok (.ifCond .le 5, 3) := by decide +kernel
theorem D10_works_210 : decode m10_works.2.1 210 = .ok (.iconst 0, 1) := by decide +kernel
theorem D10_works_211 : decode m10_works.2.1 211 = .ok (.ireturn, 1) := by decide +kernel
theorem D10_works_212 : decode m10_works.2.1 212 = .ok (.lload 4, 2) := by decide +kernel
theorem D10_works_214 : decode m10_works.2.1 214 = .ok (.lload_n 2, 1) := by decide +kernel
theorem D10_works_215 : decode m10_works.2.1 215 = .ok (.lmul, 1) := by decide +kernel
theorem D10_works_216 : decode m10_works.2.1 216 = .ok (.lstore 6, 2) := by decide +kernel
theorem D10_works_218 : decode m10_works.2.1 218 = .ok (.goto 189, 3) := by decide +kernel
theorem D10_works_221 : decode m10_works.2.1 221 = .ok (.lload_n 2, 1) := by decide +kernel
theorem D10_works_222 : decode m10_works.2.1 222 = .ok (.lconst 0, 1) := by decide +kernel
theorem D10_works_223 : decode m10_works.2.1 223 = .ok (.lcmp, 1) := by decide +kernel
theorem D10_works_224 : decode m10_works.2.1 224 = .ok (.ifCond .ne 5, 3) := by decide +kernel
theorem D10_works_227 : decode m10_works.2.1 227 = .ok (.iconst 0, 1) := by decide +kernel
theorem D10_works_228 : decode m10_works.2.1 228 = .ok (.ireturn, 1) := by decide +kernel
theorem D10_works_229 : decode m10_works.2.1 229 = .ok (.lload 4, 2) := by decide +kernel
theorem D10_works_231 : decode m10_works.2.1 231 = .ok (.lload_n 2, 1) := by decide +kernel
theorem D10_works_232 : decode m10_works.2.1 232 = .ok (.ldiv, 1) := by decide +kernel
theorem D10_works_233 : decode m10_works.2.1 233 = .ok (.lstore 6, 2) := by decide +kernel
theorem D10_works_235 : decode m10_works.2.1 235 = .ok (.goto 172, 3) := by decide +kernel
theorem D10_works_238 : decode m10_works.2.1 238 = .ok (.lload 4, 2) := by decide +kernel
theorem D10_works_240 : decode m10_works.2.1 240 = .ok (.lload_n 2, 1) := by decide +kernel
theorem D10_works_241 : decode m10_works.2.1 241 = .ok (.lcmp, 1) := by decide +kernel
theorem D10_works_242 : decode m10_works.2.1 242 = .ok (.ifCond .ge 7, 3) := by decide +kernel
theorem D10_works_245 : decode m10_works.2.1 245 = .ok (.iconst 1, 1) := by decide +kernel
theorem D10_works_246 : decode m10_works.2.1 246 = .ok (.goto 4, 3) := by decide +kernel
theorem D10_works_249 : decode m10_works.2.1 249 = .ok (.iconst 0, 1) := by decide +kernel
theorem D10_works_250 : decode m10_works.2.1 250 = .ok (.invokestatic 308, 3) := by decide +kernel
theorem D10_works_253 : decode m10_works.2.1 253 = .ok (.lstore 6, 2) := by decide +kernel
theorem D10_works_255 : decode m10_works.2.1 255 = .ok (.goto 152, 3) := by decide +kernel
theorem D10_works_258 : decode m10_works.2.1 258 = .ok (.lload 4, 2) := by decide +kernel
theorem D10_works_260 : decode m10_works.2.1 260 = .ok (.lload_n 2, 1) := by decide +kernel
theorem D10_works_261 : decode m10_works.2.1 261 = .ok (.lcmp, 1) := by decide +kernel
theorem D10_works_262 : decode m10_works.2.1 262 = .ok (.ifCond .le 7, 3) := by decide +kernel
theorem D10_works_265 : decode m10_works.2.1 265 = .ok (.iconst 1, 1) := by decide +kernel
theorem D10_works_266 : decode m10_works.2.1 266 = .ok (.goto 4, 3) := by decide +kernel
theorem D10_works_269 : decode m10_works.2.1 269 = .ok (.iconst 0, 1) := by decide +kernel
theorem D10_works_270 : decode m10_works.2.1 270 = .ok (.invokestatic 308, 3) := by decide +kernel
theorem D10_works_273 : decode m10_works.2.1 273 = .ok (.lstore 6, 2) := by decide +kernel
theorem D10_works_275 : decode m10_works.2.1 275 = .ok (.goto 132, 3) := by decide +kernel
theorem D10_works_278 : decode m10_works.2.1 278 = .ok (.lload 4, 2) := by decide +kernel
theorem D10_works_280 : decode m10_works.2.1 280 = .ok (.lload_n 2, 1) := by decide +kernel
theorem D10_works_281 : decode m10_works.2.1 281 = .ok (.lcmp, 1) := by decide +kernel
theorem D10_works_282 : decode m10_works.2.1 282 = .ok (.ifCond .ne 7, 3) := by decide +kernel
theorem D10_works_285 : decode m10_works.2.1 285 = .ok (.iconst 1, 1) := by decide +kernel
theorem D10_works_286 : decode m10_works.2.1 286 = .ok (.goto 4, 3) := by decide +kernel
theorem D10_works_289 : decode m10_works.2.1 289 = .ok (.iconst 0, 1) := by decide +kernel
theorem D10_works_290 : decode m10_works.2.1 290 = .ok (.invokestatic 308, 3) := by decide +kernel
theorem D10_works_293 : decode m10_works.2.1 293 = .ok (.lstore 6, 2) := by decide +kernel
theorem D10_works_295 : decode m10_works.2.1 295 = .ok (.goto 112, 3) := by decide +kernel
theorem D10_works_298 : decode m10_works.2.1 298 = .ok (.lload 4, 2) := by decide +kernel
theorem D10_works_300 : decode m10_works.2.1 300 = .ok (.lload_n 2, 1) := by decide +kernel
theorem D10_works_301 : decode m10_works.2.1 301 = .ok (.lcmp, 1) := by decide +kernel
theorem D10_works_302 : decode m10_works.2.1 302 = .ok (.ifCond .gt 7, 3) := by decide +kernel
theorem D10_works_305 : decode m10_works.2.1 305 = .ok (.iconst 1, 1) := by decide +kernel
theorem D10_works_306 : decode m10_works.2.1 306 = .ok (.goto 4, 3) := by decide +kernel
theorem D10_works_309 : decode m10_works.2.1 309 = .ok (.iconst 0, 1) := by decide +kernel
theorem D10_works_310 : decode m10_works.2.1 310 = .ok (.invokestatic 308, 3) := by decide +kernel
theorem D10_works_313 : decode m10_works.2.1 313 = .ok (.lstore 6, 2) := by decide +kernel
theorem D10_works_315 : decode m10_works.2.1 315 = .ok (.goto 92, 3) := by decide +kernel
theorem D10_works_318 : decode m10_works.2.1 318 = .ok (.lload 4, 2) := by decide +kernel
theorem D10_works_320 : decode m10_works.2.1 320 = .ok (.lload_n 2, 1) := by decide +kernel
theorem D10_works_321 : decode m10_works.2.1 321 = .ok (.lcmp, 1) := by decide +kernel
theorem D10_works_322 : decode m10_works.2.1 322 = .ok (.ifCond .lt 7, 3) := by decide +kernel
theorem D10_works_325 : decode m10_works.2.1 325 = .ok (.iconst 1, 1) := by decide +kernel
theorem D10_works_326 : decode m10_works.2.1 326 = .ok (.goto 4, 3) := by decide +kernel
theorem D10_works_329 : decode m10_works.2.1 329 = .ok (.iconst 0, 1) := by decide +kernel
theorem D10_works_330 : decode m10_works.2.1 330 = .ok (.invokestatic 308, 3) := by decide +kernel
theorem D10_works_333 : decode m10_works.2.1 333 = .ok (.lstore 6, 2) := by decide +kernel
theorem D10_works_335 : decode m10_works.2.1 335 = .ok (.goto 72, 3) := by decide +kernel
theorem D10_works_338 : decode m10_works.2.1 338 = .ok (.lload 4, 2) := by decide +kernel
theorem D10_works_340 : decode m10_works.2.1 340 = .ok (.lload_n 2, 1) := by decide +kernel
theorem D10_works_341 : decode m10_works.2.1 341 = .ok (.lcmp, 1) := by decide +kernel
theorem D10_works_342 : decode m10_works.2.1 342 = .ok (.ifCond .eq 7, 3) := by decide +kernel
theorem D10_works_345 : decode m10_works.2.1 345 = .ok (.iconst 1, 1) := by decide +kernel
theorem D10_works_346 : decode m10_works.2.1 346 = .ok (.goto 4, 3) := by decide +kernel
