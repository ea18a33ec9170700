theorem dX6_init_0 : decode cX6_init 0 = .ok (.aload_n 0, 1) := by decide +kernel
theorem dX6_init_1 : decode cX6_init 1 = .ok (.invokespecial 1, 3) := by decide +kernel
theorem dX6_init_4 : decode cX6_init 4 = .ok (.aload_n 0, 1) := by decide +kernel
theorem dX6_init_5 : decode cX6_init 5 = .ok (.bipush 10, 2) := by decide +kernel
theorem dX6_init_7 : decode cX6_init 7 = .ok (.newarray .int, 2) := by decide +kernel
theorem dX6_init_9 : decode cX6_init 9 = .ok (.putfield 7, 3) := by decide +kernel
theorem dX6_init_12 : decode cX6_init 12 = .ok (.aload_n 0, 1) := by decide +kernel
theorem dX6_init_13 : decode cX6_init 13 = .ok (.bipush 60, 2) := by decide +kernel
theorem dX6_init_15 : decode cX6_init 15 = .ok (.newarray .int, 2) := by decide +kernel
theorem dX6_init_17 : decode cX6_init 17 = .ok (.putfield 13, 3) := by decide +kernel
theorem dX6_init_20 : decode cX6_init 20 = .ok (.aload_n 0, 1) := by decide +kernel
theorem dX6_init_21 : decode cX6_init 21 = .ok (.bipush 60, 2) := by decide +kernel
theorem dX6_init_23 : decode cX6_init 23 = .ok (.newarray .int, 2) := by decide +kernel
theorem dX6_init_25 : decode cX6_init 25 = .ok (.putfield 16, 3) := by decide +kernel
theorem dX6_init_28 : decode cX6_init 28 = .ok (.aload_n 0, 1) := by decide +kernel
theorem dX6_init_29 : decode cX6_init 29 = .ok (.bipush 60, 2) := by decide +kernel
theorem dX6_init_31 : decode cX6_init 31 = .ok (.newarray .int, 2) := by decide +kernel
theorem dX6_init_33 : decode cX6_init 33 = .ok (.putfield 19, 3) := by decide +kernel
theorem dX6_init_36 : decode cX6_init 36 = .ok (.aload_n 0, 1) := by decide +kernel
theorem dX6_init_37 : decode cX6_init 37 = .ok (.bipush 8, 2) := by decide +kernel
theorem dX6_init_39 : decode cX6_init 39 = .ok (.newarray .int, 2) := by decide +kernel
theorem dX6_init_41 : decode cX6_init 41 = .ok (.putfield 22, 3) := by decide +kernel
theorem dX6_init_44 : decode cX6_init 44 = .ok (.aload_n 0, 1) := by decide +kernel
theorem dX6_init_45 : decode cX6_init 45 = .ok (.bipush 40, 2) := by decide +kernel
theorem dX6_init_47 : decode cX6_init 47 = .ok (.newarray .int, 2) := by decide +kernel
theorem dX6_init_49 : decode cX6_init 49 = .ok (.putfield 25, 3) := by decide +kernel
theorem dX6_init_52 : decode cX6_init 52 = .ok (.aload_n 0, 1) := by decide +kernel
theorem dX6_init_53 : decode cX6_init 53 = .ok (.bipush 40, 2) := by decide +kernel
theorem dX6_init_55 : decode cX6_init 55 = .ok (.newarray .int, 2) := by decide +kernel
theorem dX6_init_57 : decode cX6_init 57 = .ok (.putfield 28, 3) := by decide +kernel
theorem dX6_init_60 : decode cX6_init 60 = .ok (.aload_n 0, 1) := by decide +kernel
theorem dX6_init_61 : decode cX6_init 61 = .ok (.bipush 40, 2) := by decide +kernel
theorem dX6_init_63 : decode cX6_init 63 = .ok (.newarray .boolean, 2) := by decide +kernel
theorem dX6_init_65 : decode cX6_init 65 = .ok (.putfield 31, 3) := by decide +kernel
theorem dX6_init_68 : decode cX6_init 68 = .ok (.aload_n 0, 1) := by decide +kernel
theorem dX6_init_69 : decode cX6_init 69 = .ok (.bipush 40, 2) := by decide +kernel
theorem dX6_init_71 : decode cX6_init 71 = .ok (.newarray .boolean, 2) := by decide +kernel
theorem dX6_init_73 : decode cX6_init 73 = .ok (.putfield 35, 3) := by decide +kernel
theorem dX6_init_76 : decode cX6_init 76 = .ok (.aload_n 0, 1) := by decide +kernel
theorem dX6_init_77 : decode cX6_init 77 = .ok (.bipush 40, 2) := by decide +kernel
theorem dX6_init_79 : decode cX6_init 79 = .ok (.newarray .boolean, 2) := by decide +kernel
theorem dX6_init_81 : decode cX6_init 81 = .ok (.putfield 38, 3) := by decide +kernel
theorem dX6_init_84 : decode cX6_init 84 = .ok (.aload_n 0, 1) := by decide +kernel
theorem dX6_init_85 : decode cX6_init 85 = .ok (.bipush 40, 2) := by decide +kernel
theorem dX6_init_87 : decode cX6_init 87 = .ok (.newarray .int, 2) := by decide +kernel
theorem dX6_init_89 : decode cX6_init 89 = .ok (.putfield 41, 3) := by decide +kernel
theorem dX6_init_92 : decode cX6_init 92 = .ok (.aload_n 0, 1) := by decide +kernel
theorem dX6_init_93 : decode cX6_init 93 = .ok (.bipush 100, 2) := by decide +kernel
theorem dX6_init_95 : decode cX6_init 95 = .ok (.newarray .int, 2) := by decide +kernel
theorem dX6_init_97 : decode cX6_init 97 = .ok (.putfield 44, 3) := by decide +kernel
theorem dX6_init_100 : decode cX6_init 100 = .ok (.aload_n 0, 1) := by decide +kernel
theorem dX6_init_101 : decode cX6_init 101 = .ok (.bipush 100, 2) := by decide +kernel
theorem dX6_init_103 : decode cX6_init 103 = .ok (.newarray .int, 2) := by decide +kernel
theorem dX6_init_105 : decode cX6_init 105 = .ok (.putfield 47, 3) := by decide +kernel
theorem dX6_init_108 : decode cX6_init 108 = .ok (.aload_n 0, 1) := by decide +kernel
theorem dX6_init_109 : decode cX6_init 109 = .ok (.bipush 100, 2) := by decide +kernel
theorem dX6_init_111 : decode cX6_init 111 = .ok (.newarray .int, 2) := by decide +kernel
theorem dX6_init_113 : decode cX6_init 113 = .ok (.putfield 50, 3) := by decide +kernel
theorem dX6_init_116 : decode cX6_init 116 = .ok (.aload_n 0, 1) := by decide +kernel
theorem dX6_init_117 : decode cX6_init 117 = .ok (.bipush 100, 2) := by decide +kernel
theorem dX6_init_119 : decode cX6_init 119 = .ok (.newarray .int, 2) := by decide +kernel
theorem dX6_init_121 : decode cX6_init 121 = .ok (.putfield 53, 3) := by decide +kernel
theorem dX6_init_124 : decode cX6_init 124 = .ok (.aload_n 0, 1) := by decide +kernel
theorem dX6_init_125 : decode cX6_init 125 = .ok (.bipush 100, 2) := by decide +kernel
theorem dX6_init_127 : decode cX6_init 127 = .ok (.newarray .boolean, 2) := by decide +kernel
theorem dX6_init_129 : decode cX6_init 129 = .ok (.putfield 56, 3) := by decide +kernel
theorem dX6_init_132 : decode cX6_init 132 = .ok (.aload_n 0, 1) := by decide +kernel
theorem dX6_init_133 : decode cX6_init 133 = .ok (.sipush 512, 3) := by decide +kernel
theorem dX6_init_136 : decode cX6_init 136 = .ok (.newarray .int, 2) := by decide +kernel
theorem dX6_init_138 : decode cX6_init 138 = .ok (.putfield 59, 3) := by decide +kernel
theorem dX6_init_141 : decode cX6_init 141 = .ok (.aload_n 0, 1) := by decide +kernel
theorem dX6_init_142 : decode cX6_init 142 = .ok (.sipush 512, 3) := by decide +kernel
theorem dX6_init_145 : decode cX6_init 145 = .ok (.newarray .int, 2) := by decide +kernel
theorem dX6_init_147 : decode cX6_init 147 = .ok (.putfield 62, 3) := by decide +kernel
theorem dX6_init_150 : decode cX6_init 150 = .ok (.aload_n 0, 1) := by decide +kernel
theorem dX6_init_151 : decode cX6_init 151 = .ok (.sipush 512, 3) := by decide +kernel
theorem dX6_init_154 : decode cX6_init 154 = .ok (.newarray .int, 2) := by decide +kernel
theorem dX6_init_156 : decode cX6_init 156 = .ok (.putfield 65, 3) := by decide +kernel
theorem dX6_init_159 : decode cX6_init 159 = .ok (.aload_n 0, 1) := by decide +kernel
theorem dX6_init_160 : decode cX6_init 160 = .ok (.sipush 4096, 3) := by decide +kernel
theorem dX6_init_163 : decode cX6_init 163 = .ok (.newarray .int, 2) := by decide +kernel
theorem dX6_init_165 : decode cX6_init 165 = .ok (.putfield 68, 3) := by decide +kernel
theorem dX6_init_168 : decode cX6_init 168 = .ok (.aload_n 0, 1) := by decide +kernel
theorem dX6_init_169 : decode cX6_init 169 = .ok (.sipush 4096, 3) := by decide +kernel
theorem dX6_init_172 : decode cX6_init 172 = .ok (.newarray .int, 2) := by decide +kernel
theorem dX6_init_174 : decode cX6_init 174 = .ok (.putfield 71, 3) := by decide +kernel
theorem dX6_init_177 : decode cX6_init 177 = .ok (.aload_n 0, 1) := by decide +kernel
theorem dX6_init_178 : decode cX6_init 178 = .ok (.sipush 4096, 3) := by decide +kernel
theorem dX6_init_181 : decode cX6_init 181 = .ok (.newarray .int, 2) := by decide +kernel
theorem dX6_init_183 : decode cX6_init 183 = .ok (.putfield 74, 3) := by decide +kernel
theorem dX6_init_186 : decode cX6_init 186 = .ok (.aload_n 0, 1) := by decide +kernel
theorem dX6_init_187 : decode cX6_init 187 = .ok (.sipush 4096, 3) := by decide +kernel
theorem dX6_init_190 : decode cX6_init 190 = .ok (.newarray .int, 2) := by decide +kernel
theorem dX6_init_192 : decode cX6_init 192 = .ok (.putfield 77, 3) := by decide +kernel
theorem dX6_init_195 : decode cX6_init 195 = .ok (.aload_n 0, 1) := by decide +kernel
theorem dX6_init_196 : decode cX6_init 196 = .ok (.bipush 12, 2) := by decide +kernel
theorem dX6_init_198 : decode cX6_init 198 = .ok (.newarray .int, 2) := by decide +kernel
theorem dX6_init_200 : decode cX6_init 200 = .ok (.putfield 80, 3) := by decide +kernel
theorem dX6_init_203 : decode cX6_init 203 = .ok (.aload_n 0, 1) := by decide +kernel
theorem dX6_init_204 : decode cX6_init 204 = .ok (.bipush 12, 2) := by decide +kernel
theorem dX6_init_206 : decode cX6_init 206 = .ok (.newarray .int, 2) := by decide +kernel
theorem dX6_init_208 : decode cX6_init 208 = .ok (.putfield 83, 3) := by decide +kernel
theorem dX6_init_211 : decode cX6_init 211 = .ok (.aload_n 0, 1) := by decide +kernel
theorem dX6_init_212 : decode cX6_init 212 = .ok (.bipush 12, 2) := by decide +kernel
theorem dX6_init_214 : decode cX6_init 214 = .ok (.newarray .int, 2) := by decide +kernel
theorem dX6_init_216 : decode cX6_init 216 = .ok (.putfield 86, 3) := by decide +kernel
theorem dX6_init_219 : decode cX6_init 219 = .ok (.aload_n 0, 1) := by decide +kernel
theorem dX6_init_220 : decode cX6_init 220 = .ok (.bipush 12, 2) := by decide +kernel
theorem dX6_init_222 : decode cX6_init 222 = .ok (.newarray .int, 2) := by decide +kernel
theorem dX6_init_224 : decode cX6_init 224 = .ok (.putfield 89, 3) := by decide +kernel
theorem dX6_init_227 : decode cX6_init 227 = .ok (.aload_n 0, 1) := by decide +kernel
theorem dX6_init_228 : decode cX6_init 228 = .ok (.bipush 12, 2) := by decide +kernel
theorem dX6_init_230 : decode cX6_init 230 = .ok (.newarray .int, 2) := by decide +kernel
theorem dX6_init_232 : decode cX6_init 232 = .ok (.putfield 92, 3) := by decide +kernel
theorem dX6_init_235 : decode cX6_init 235 = .ok (.aload_n 0, 1) := by decide +kernel
theorem dX6_init_236 : decode cX6_init 236 = .ok (.bipush 12, 2) := by decide +kernel
theorem dX6_init_238 : decode cX6_init 238 = .ok (.newarray .int, 2) := by decide +kernel
theorem dX6_init_240 : decode cX6_init 240 = .ok (.putfield 95, 3) := by decide +kernel
theorem dX6_init_243 : decode cX6_init 243 = .ok (.aload_n 0, 1) := by decide +kernel
theorem dX6_init_244 : decode cX6_init 244 = .ok (.bipush 12, 2) := by decide +kernel
theorem dX6_init_246 : decode cX6_init 246 = .ok (.newarray .boolean, 2) := by decide +kernel
theorem dX6_init_248 : decode cX6_init 248 = .ok (.putfield 98, 3) := by decide +kernel
theorem dX6_init_251 : decode cX6_init 251 = .ok (.aload_n 0, 1) := by decide +kernel
theorem dX6_init_252 : decode cX6_init 252 = .ok (.bipush 12, 2) := by decide +kernel
theorem dX6_init_254 : decode cX6_init 254 = .ok (.newarray .boolean, 2) := by decide +kernel
theorem dX6_init_256 : decode cX6_init 256 = .ok (.putfield 101, 3) := by decide +kernel
theorem dX6_init_259 : decode cX6_init 259 = .ok (.aload_n 0, 1) := by decide +kernel
theorem dX6_init_260 : decode cX6_init 260 = .ok (.bipush 24, 2) := by decide +kernel
theorem dX6_init_262 : decode cX6_init 262 = .ok (.newarray .int, 2) := by decide +kernel
theorem dX6_init_264 : decode cX6_init 264 = .ok (.putfield 104, 3) := by decide +kernel
theorem dX6_init_267 : decode cX6_init 267 = .ok (.aload_n 0, 1) := by decide +kernel
theorem dX6_init_268 : decode cX6_init 268 = .ok (.bipush 24, 2) := by decide +kernel
theorem dX6_init_270 : decode cX6_init 270 = .ok (.newarray .int, 2) := by decide +kernel
theorem dX6_init_272 : decode cX6_init 272 = .ok (.putfield 107, 3) := by decide +kernel
theorem dX6_init_275 : decode cX6_init 275 = .ok (.aload_n 0, 1) := by decide +kernel
theorem dX6_init_276 : decode cX6_init 276 = .ok (.sipush 200, 3) := by decide +kernel
theorem dX6_init_279 : decode cX6_init 279 = .ok (.newarray .int, 2) := by decide +kernel
theorem dX6_init_281 : decode cX6_init 281 = .ok (.putfield 110, 3) := by decide +kernel
theorem dX6_init_284 : decode cX6_init 284 = .ok (.aload_n 0, 1) := by decide +kernel
theorem dX6_init_285 : decode cX6_init 285 = .ok (.sipush 200, 3) := by decide +kernel
theorem dX6_init_288 : decode cX6_init 288 = .ok (.newarray .int, 2) := by decide +kernel
theorem dX6_init_290 : decode cX6_init 290 = .ok (.putfield 113, 3) := by decide +kernel
theorem dX6_init_293 : decode cX6_init 293 = .ok (.aload_n 0, 1) := by decide +kernel
theorem dX6_init_294 : decode cX6_init 294 = .ok (.bipush 8, 2) := by decide +kernel
theorem dX6_init_296 : decode cX6_init 296 = .ok (.newarray .int, 2) := by decide +kernel
theorem dX6_init_298 : decode cX6_init 298 = .ok (.putfield 116, 3) := by decide +kernel
theorem dX6_init_301 : decode cX6_init 301 = .ok (.aload_n 0, 1) := by decide +kernel
theorem dX6_init_302 : decode cX6_init 302 = .ok (.bipush 8, 2) := by decide +kernel
theorem dX6_init_304 : decode cX6_init 304 = .ok (.newarray .int, 2) := by decide +kernel
theorem dX6_init_306 : decode cX6_init 306 = .ok (.putfield 119, 3) := by decide +kernel
theorem dX6_init_309 : decode cX6_init 309 = .ok (.aload_n 0, 1) := by decide +kernel
theorem dX6_init_310 : decode cX6_init 310 = .ok (.bipush 8, 2) := by decide +kernel
theorem dX6_init_312 : decode cX6_init 312 = .ok (.newarray .int, 2) := by decide +kernel
theorem dX6_init_314 : decode cX6_init 314 = .ok (.putfield 122, 3) := by decide +kernel
theorem dX6_init_317 : decode cX6_init 317 = .ok (.aload_n 0, 1) := by decide +kernel
theorem dX6_init_318 : decode cX6_init 318 = .ok (.bipush 8, 2) := by decide +kernel
theorem dX6_init_320 : decode cX6_init 320 = .ok (.newarray .boolean, 2) := by decide +kernel
theorem dX6_init_322 : decode cX6_init 322 = .ok (.putfield 125, 3) := by decide +kernel
theorem dX6_init_325 : decode cX6_init 325 = .ok (.aload_n 0, 1) := by decide +kernel
theorem dX6_init_326 : decode cX6_init 326 = .ok (.bipush 8, 2) := by decide +kernel
theorem dX6_init_328 : decode cX6_init 328 = .ok (.newarray .int, 2) := by decide +kernel
theorem dX6_init_330 : decode cX6_init 330 = .ok (.putfield 128, 3) := by decide +kernel
theorem dX6_init_333 : decode cX6_init 333 = .ok (.aload_n 0, 1) := by decide +kernel
theorem dX6_init_334 : decode cX6_init 334 = .ok (.bipush 8, 2) := by decide +kernel
theorem dX6_init_336 : decode cX6_init 336 = .ok (.newarray .int, 2) := by decide +kernel
theorem dX6_init_338 : decode cX6_init 338 = .ok (.putfield 131, 3) := by decide +kernel
theorem dX6_init_341 : decode cX6_init 341 = .ok (.aload_n 0, 1) := by decide +kernel
theorem dX6_init_342 : decode cX6_init 342 = .ok (.bipush 8, 2) := by decide +kernel
theorem dX6_init_344 : decode cX6_init 344 = .ok (.newarray .int, 2) := by decide +kernel
theorem dX6_init_346 : decode cX6_init 346 = .ok (.putfield 134, 3) := by decide +kernel
theorem dX6_init_349 : decode cX6_init 349 = .ok (.return_, 1) := by decide +kernel
theorem dX6_thrown_0 : decode cX6_thrown 0 = .ok (.aload_n 0, 1) := by decide +kernel
theorem dX6_thrown_1 : decode cX6_thrown 1 = .ok (.getfield 137, 3) := by decide +kernel
theorem dX6_thrown_4 : decode cX6_thrown 4 = .ok (.ireturn, 1) := by decide +kernel
theorem dX6_outside_0 : decode cX6_outside 0 = .ok (.iload_n 1, 1) := by decide +kernel
theorem dX6_outside_1 : decode cX6_outside 1 = .ok (.iload_n 2, 1) := by decide +kernel
theorem dX6_outside_2 : decode cX6_outside 2 = .ok (.if_icmp .lt 8, 3) := by decide +kernel
theorem dX6_outside_5 : decode cX6_outside 5 = .ok (.iload_n 1, 1) := by decide +kernel
theorem dX6_outside_6 : decode cX6_outside 6 = .ok (.iload_n 3, 1) := by decide +kernel
theorem dX6_outside_7 : decode cX6_outside 7 = .ok (.if_icmp .le 7, 3) := by decide +kernel
theorem dX6_outside_10 : decode cX6_outside 10 = .ok (.iconst 1, 1) := by decide +kernel
theorem dX6_outside_11 : decode cX6_outside 11 = .ok (.goto 4, 3) := by decide +kernel
theorem dX6_outside_14 : decode cX6_outside 14 = .ok (.iconst 0, 1) := by decide +kernel
theorem dX6_outside_15 : decode cX6_outside 15 = .ok (.ireturn, 1) := by decide +kernel
theorem dX6_fits_0 : decode cX6_fits 0 = .ok (.aload_n 0, 1) := by decide +kernel
theorem dX6_fits_1 : decode cX6_fits 1 = .ok (.iload_n 2, 1) := by decide +kernel
theorem dX6_fits_2 : decode cX6_fits 2 = .ok (.iconst 0, 1) := by decide +kernel
theorem dX6_fits_3 : decode cX6_fits 3 = .ok (.bipush 9, 2) := by decide +kernel
theorem dX6_fits_5 : decode cX6_fits 5 = .ok (.invokevirtual 141, 3) := by decide +kernel
theorem dX6_fits_8 : decode cX6_fits 8 = .ok (.ifCond .ne 7, 3) := by decide +kernel
theorem dX6_fits_11 : decode cX6_fits 11 = .ok (.iconst 1, 1) := by decide +kernel
theorem dX6_fits_12 : decode cX6_fits 12 = .ok (.goto 4, 3) := by decide +kernel
theorem dX6_fits_15 : decode cX6_fits 15 = .ok (.iconst 0, 1) := by decide +kernel
theorem dX6_fits_16 : decode cX6_fits 16 = .ok (.istore 4, 2) := by decide +kernel
theorem dX6_fits_18 : decode cX6_fits 18 = .ok (.aload_n 0, 1) := by decide +kernel
theorem dX6_fits_19 : decode cX6_fits 19 = .ok (.iload_n 2, 1) := by decide +kernel
theorem dX6_fits_20 : decode cX6_fits 20 = .ok (.iconst 0, 1) := by decide +kernel
theorem dX6_fits_21 : decode cX6_fits 21 = .ok (.bipush 7, 2) := by decide +kernel
theorem dX6_fits_23 : decode cX6_fits 23 = .ok (.invokevirtual 141, 3) := by decide +kernel
theorem dX6_fits_26 : decode cX6_fits 26 = .ok (.ifCond .ne 7, 3) := by decide +kernel
theorem dX6_fits_29 : decode cX6_fits 29 = .ok (.iconst 1, 1) := by decide +kernel
theorem dX6_fits_30 : decode cX6_fits 30 = .ok (.goto 4, 3) := by decide +kernel
theorem dX6_fits_33 : decode cX6_fits 33 = .ok (.iconst 0, 1) := by decide +kernel
theorem dX6_fits_34 : decode cX6_fits 34 = .ok (.istore 5, 2) := by decide +kernel
theorem dX6_fits_36 : decode cX6_fits 36 = .ok (.aload_n 0, 1) := by decide +kernel
theorem dX6_fits_37 : decode cX6_fits 37 = .ok (.iload_n 2, 1) := by decide +kernel
theorem dX6_fits_38 : decode cX6_fits 38 = .ok (.sipush (-999), 3) := by decide +kernel
theorem dX6_fits_41 : decode cX6_fits 41 = .ok (.sipush 999, 3) := by decide +kernel
theorem dX6_fits_44 : decode cX6_fits 44 = .ok (.invokevirtual 141, 3) := by decide +kernel
theorem dX6_fits_47 : decode cX6_fits 47 = .ok (.ifCond .ne 7, 3) := by decide +kernel
theorem dX6_fits_50 : decode cX6_fits 50 = .ok (.iconst 1, 1) := by decide +kernel
theorem dX6_fits_51 : decode cX6_fits 51 = .ok (.goto 4, 3) := by decide +kernel
theorem dX6_fits_54 : decode cX6_fits 54 = .ok (.iconst 0, 1) := by decide +kernel
theorem dX6_fits_55 : decode cX6_fits 55 = .ok (.istore 6, 2) := by decide +kernel
theorem dX6_fits_57 : decode cX6_fits 57 = .ok (.aload_n 0, 1) := by decide +kernel
theorem dX6_fits_58 : decode cX6_fits 58 = .ok (.iload_n 3, 1) := by decide +kernel
theorem dX6_fits_59 : decode cX6_fits 59 = .ok (.iconst 0, 1) := by decide +kernel
theorem dX6_fits_60 : decode cX6_fits 60 = .ok (.iconst 1, 1) := by decide +kernel
theorem dX6_fits_61 : decode cX6_fits 61 = .ok (.invokevirtual 141, 3) := by decide +kernel
theorem dX6_fits_64 : decode cX6_fits 64 = .ok (.ifCond .ne 7, 3) := by decide +kernel
theorem dX6_fits_67 : decode cX6_fits 67 = .ok (.iconst 1, 1) := by decide +kernel
theorem dX6_fits_68 : decode cX6_fits 68 = .ok (.goto 4, 3) := by decide +kernel
theorem dX6_fits_71 : decode cX6_fits 71 = .ok (.iconst 0, 1) := by decide +kernel
theorem dX6_fits_72 : decode cX6_fits 72 = .ok (.istore 7, 2) := by decide +kernel
theorem dX6_fits_74 : decode cX6_fits 74 = .ok (.iload_n 1, 1) := by decide +kernel
theorem dX6_fits_75 : decode cX6_fits 75 = .ok (.tableswitch 237 0 14 #[73, 89, 110, 113, 113, 136, 73, 110, 139, 161, 195, 198, 237, 214, 110], 73) := by decide +kernel
theorem dX6_fits_148 : decode cX6_fits 148 = .ok (.iload 6, 2) := by decide +kernel
theorem dX6_fits_150 : decode cX6_fits 150 = .ok (.ifCond .eq 12, 3) := by decide +kernel
theorem dX6_fits_153 : decode cX6_fits 153 = .ok (.iload 7, 2) := by decide +kernel
theorem dX6_fits_155 : decode cX6_fits 155 = .ok (.ifCond .eq 7, 3) := by decide +kernel
theorem dX6_fits_158 : decode cX6_fits 158 = .ok (.iconst 1, 1) := by decide +kernel
theorem dX6_fits_159 : decode cX6_fits 159 = .ok (.goto 4, 3) := by decide +kernel
theorem dX6_fits_162 : decode cX6_fits 162 = .ok (.iconst 0, 1) := by decide +kernel
theorem dX6_fits_163 : decode cX6_fits 163 = .ok (.ireturn, 1) := by decide +kernel
theorem dX6_fits_164 : decode cX6_fits 164 = .ok (.iload 4, 2) := by decide +kernel
theorem dX6_fits_166 : decode cX6_fits 166 = .ok (.ifCond .eq 17, 3) := by decide +kernel
theorem dX6_fits_169 : decode cX6_fits 169 = .ok (.aload_n 0, 1) := by decide +kernel
theorem dX6_fits_170 : decode cX6_fits 170 = .ok (.iload_n 3, 1) := by decide +kernel
theorem dX6_fits_171 : decode cX6_fits 171 = .ok (.iconst 0, 1) := by decide +kernel
theorem dX6_fits_172 : decode cX6_fits 172 = .ok (.iconst 2, 1) := by decide +kernel
theorem dX6_fits_173 : decode cX6_fits 173 = .ok (.invokevirtual 141, 3) := by decide +kernel
theorem dX6_fits_176 : decode cX6_fits 176 = .ok (.ifCond .ne 7, 3) := by decide +kernel
theorem dX6_fits_179 : decode cX6_fits 179 = .ok (.iconst 1, 1) := by decide +kernel
theorem dX6_fits_180 : decode cX6_fits 180 = .ok (.goto 4, 3) := by decide +kernel
theorem dX6_fits_183 : decode cX6_fits 183 = .ok (.iconst 0, 1) := by decide +kernel
theorem dX6_fits_184 : decode cX6_fits 184 = .ok (.ireturn, 1) := by decide +kernel
theorem dX6_fits_185 : decode cX6_fits 185 = .ok (.iload 4, 2) := by decide +kernel
theorem dX6_fits_187 : decode cX6_fits 187 = .ok (.ireturn, 1) := by decide +kernel
theorem dX6_fits_188 : decode cX6_fits 188 = .ok (.iload 4, 2) := by decide +kernel
theorem dX6_fits_190 : decode cX6_fits 190 = .ok (.ifCond .eq 19, 3) := by decide +kernel
theorem dX6_fits_193 : decode cX6_fits 193 = .ok (.aload_n 0, 1) := by decide +kernel
theorem dX6_fits_194 : decode cX6_fits 194 = .ok (.iload_n 3, 1) := by decide +kernel
theorem dX6_fits_195 : decode cX6_fits 195 = .ok (.iconst 0, 1) := by decide +kernel
theorem dX6_fits_196 : decode cX6_fits 196 = .ok (.sipush 200, 3) := by decide +kernel
theorem dX6_fits_199 : decode cX6_fits 199 = .ok (.invokevirtual 141, 3) := by decide +kernel
theorem dX6_fits_202 : decode cX6_fits 202 = .ok (.ifCond .ne 7, 3) := by decide +kernel
theorem dX6_fits_205 : decode cX6_fits 205 = .ok (.iconst 1, 1) := by decide +kernel
theorem dX6_fits_206 : decode cX6_fits 206 = .ok (.goto 4, 3) := by decide +kernel
theorem dX6_fits_209 : decode cX6_fits 209 = .ok (.iconst 0, 1) := by decide +kernel
theorem dX6_fits_210 : decode cX6_fits 210 = .ok (.ireturn, 1) := by decide +kernel
theorem dX6_fits_211 : decode cX6_fits 211 = .ok (.iload 6, 2) := by decide +kernel
theorem dX6_fits_213 : decode cX6_fits 213 = .ok (.ireturn, 1) := by decide +kernel
theorem dX6_fits_214 : decode cX6_fits 214 = .ok (.iload 4, 2) := by decide +kernel
theorem dX6_fits_216 : decode cX6_fits 216 = .ok (.ifCond .eq 18, 3) := by decide +kernel
theorem dX6_fits_219 : decode cX6_fits 219 = .ok (.aload_n 0, 1) := by decide +kernel
theorem dX6_fits_220 : decode cX6_fits 220 = .ok (.iload_n 3, 1) := by decide +kernel
theorem dX6_fits_221 : decode cX6_fits 221 = .ok (.iconst 0, 1) := by decide +kernel
theorem dX6_fits_222 : decode cX6_fits 222 = .ok (.bipush 9, 2) := by decide +kernel
theorem dX6_fits_224 : decode cX6_fits 224 = .ok (.invokevirtual 141, 3) := by decide +kernel
theorem dX6_fits_227 : decode cX6_fits 227 = .ok (.ifCond .ne 7, 3) := by decide +kernel
theorem dX6_fits_230 : decode cX6_fits 230 = .ok (.iconst 1, 1) := by decide +kernel
theorem dX6_fits_231 : decode cX6_fits 231 = .ok (.goto 4, 3) := by decide +kernel
theorem dX6_fits_234 : decode cX6_fits 234 = .ok (.iconst 0, 1) := by decide +kernel
theorem dX6_fits_235 : decode cX6_fits 235 = .ok (.ireturn, 1) := by decide +kernel
theorem dX6_fits_236 : decode cX6_fits 236 = .ok (.aload_n 0, 1) := by decide +kernel
theorem dX6_fits_237 : decode cX6_fits 237 = .ok (.iload_n 3, 1) := by decide +kernel
theorem dX6_fits_238 : decode cX6_fits 238 = .ok (.iconst 0, 1) := by decide +kernel
theorem dX6_fits_239 : decode cX6_fits 239 = .ok (.iconst 2, 1) := by decide +kernel
theorem dX6_fits_240 : decode cX6_fits 240 = .ok (.invokevirtual 141, 3) := by decide +kernel
theorem dX6_fits_243 : decode cX6_fits 243 = .ok (.ifCond .ne 25, 3) := by decide +kernel
theorem dX6_fits_246 : decode cX6_fits 246 = .ok (.iload_n 3, 1) := by decide +kernel
theorem dX6_fits_247 : decode cX6_fits 247 = .ok (.iconst 2, 1) := by decide +kernel
theorem dX6_fits_248 : decode cX6_fits 248 = .ok (.if_icmp .ne 11, 3) := by decide +kernel
theorem dX6_fits_251 : decode cX6_fits 251 = .ok (.iload 5, 2) := by decide +kernel
theorem dX6_fits_253 : decode cX6_fits 253 = .ok (.ifCond .eq 15, 3) := by decide +kernel
theorem dX6_fits_256 : decode cX6_fits 256 = .ok (.goto 8, 3) := by decide +kernel
theorem dX6_fits_259 : decode cX6_fits 259 = .ok (.iload 6, 2) := by decide +kernel
theorem dX6_fits_261 : decode cX6_fits 261 = .ok (.ifCond .eq 7, 3) := by decide +kernel
theorem dX6_fits_264 : decode cX6_fits 264 = .ok (.iconst 1, 1) := by decide +kernel
theorem dX6_fits_265 : decode cX6_fits 265 = .ok (.goto 4, 3) := by decide +kernel
theorem dX6_fits_268 : decode cX6_fits 268 = .ok (.iconst 0, 1) := by decide +kernel
theorem dX6_fits_269 : decode cX6_fits 269 = .ok (.ireturn, 1) := by decide +kernel
theorem dX6_fits_270 : decode cX6_fits 270 = .ok (.iload 5, 2) := by decide +kernel
theorem dX6_fits_272 : decode cX6_fits 272 = .ok (.ireturn, 1) := by decide +kernel
theorem dX6_fits_273 : decode cX6_fits 273 = .ok (.iload 5, 2) := by decide +kernel
theorem dX6_fits_275 : decode cX6_fits 275 = .ok (.ifCond .eq 12, 3) := by decide +kernel
theorem dX6_fits_278 : decode cX6_fits 278 = .ok (.iload 7, 2) := by decide +kernel
theorem dX6_fits_280 : decode cX6_fits 280 = .ok (.ifCond .eq 7, 3) := by decide +kernel
theorem dX6_fits_283 : decode cX6_fits 283 = .ok (.iconst 1, 1) := by decide +kernel
theorem dX6_fits_284 : decode cX6_fits 284 = .ok (.goto 4, 3) := by decide +kernel
theorem dX6_fits_287 : decode cX6_fits 287 = .ok (.iconst 0, 1) := by decide +kernel
theorem dX6_fits_288 : decode cX6_fits 288 = .ok (.ireturn, 1) := by decide +kernel
theorem dX6_fits_289 : decode cX6_fits 289 = .ok (.iload 5, 2) := by decide +kernel
theorem dX6_fits_291 : decode cX6_fits 291 = .ok (.ifCond .eq 19, 3) := by decide +kernel
theorem dX6_fits_294 : decode cX6_fits 294 = .ok (.aload_n 0, 1) := by decide +kernel
theorem dX6_fits_295 : decode cX6_fits 295 = .ok (.iload_n 3, 1) := by decide +kernel
theorem dX6_fits_296 : decode cX6_fits 296 = .ok (.iconst 0, 1) := by decide +kernel
theorem dX6_fits_297 : decode cX6_fits 297 = .ok (.sipush 255, 3) := by decide +kernel
theorem dX6_fits_300 : decode cX6_fits 300 = .ok (.invokevirtual 141, 3) := by decide +kernel
theorem dX6_fits_303 : decode cX6_fits 303 = .ok (.ifCond .ne 7, 3) := by decide +kernel
theorem dX6_fits_306 : decode cX6_fits 306 = .ok (.iconst 1, 1) := by decide +kernel
theorem dX6_fits_307 : decode cX6_fits 307 = .ok (.goto 4, 3) := by decide +kernel
theorem dX6_fits_310 : decode cX6_fits 310 = .ok (.iconst 0, 1) := by decide +kernel
theorem dX6_fits_311 : decode cX6_fits 311 = .ok (.ireturn, 1) := by decide +kernel
theorem dX6_fits_312 : decode cX6_fits 312 = .ok (.iload 5, 2) := by decide +kernel
theorem dX6_fits_314 : decode cX6_fits 314 = .ok (.ifCond .eq 18, 3) := by decide +kernel
theorem dX6_fits_317 : decode cX6_fits 317 = .ok (.aload_n 0, 1) := by decide +kernel
theorem dX6_fits_318 : decode cX6_fits 318 = .ok (.iload_n 3, 1) := by decide +kernel
theorem dX6_fits_319 : decode cX6_fits 319 = .ok (.iconst 0, 1) := by decide +kernel
theorem dX6_fits_320 : decode cX6_fits 320 = .ok (.bipush 7, 2) := by decide +kernel
theorem dX6_fits_322 : decode cX6_fits 322 = .ok (.invokevirtual 141, 3) := by decide +kernel
theorem dX6_fits_325 : decode cX6_fits 325 = .ok (.ifCond .ne 7, 3) := by decide +kernel
theorem dX6_fits_328 : decode cX6_fits 328 = .ok (.iconst 1, 1) := by decide +kernel
theorem dX6_fits_329 : decode cX6_fits 329 = .ok (.goto 4, 3) := by decide +kernel
theorem dX6_fits_332 : decode cX6_fits 332 = .ok (.iconst 0, 1) := by decide +kernel
theorem dX6_fits_333 : decode cX6_fits 333 = .ok (.ireturn, 1) := by decide +kernel
theorem dX6_step_0 : decode cX6_step 0 = .ok (.aload_n 0, 1) := by decide +kernel
theorem dX6_step_1 : decode cX6_step 1 = .ok (.aload_n 0, 1) := by decide +kernel
theorem dX6_step_2 : decode cX6_step 2 = .ok (.iload_n 1, 1) := by decide +kernel
theorem dX6_step_3 : decode cX6_step 3 = .ok (.iconst 0, 1) := by decide +kernel
theorem dX6_step_4 : decode cX6_step 4 = .ok (.bipush 9, 2) := by decide +kernel
theorem dX6_step_6 : decode cX6_step 6 = .ok (.invokevirtual 141, 3) := by decide +kernel
theorem dX6_step_9 : decode cX6_step 9 = .ok (.ifCond .ne 25, 3) := by decide +kernel
theorem dX6_step_12 : decode cX6_step 12 = .ok (.aload_n 0, 1) := by decide +kernel
theorem dX6_step_13 : decode cX6_step 13 = .ok (.iload_n 2, 1) := by decide +kernel
theorem dX6_step_14 : decode cX6_step 14 = .ok (.iconst 0, 1) := by decide +kernel
theorem dX6_step_15 : decode cX6_step 15 = .ok (.bipush 15, 2) := by decide +kernel
theorem dX6_step_17 : decode cX6_step 17 = .ok (.invokevirtual 141, 3) := by decide +kernel
theorem dX6_step_20 : decode cX6_step 20 = .ok (.ifCond .ne 14, 3) := by decide +kernel
theorem dX6_step_23 : decode cX6_step 23 = .ok (.aload_n 0, 1) := by decide +kernel
theorem dX6_step_24 : decode cX6_step 24 = .ok (.iload_n 2, 1) := by decide +kernel
theorem dX6_step_25 : decode cX6_step 25 = .ok (.iload_n 3, 1) := by decide +kernel
theorem dX6_step_26 : decode cX6_step 26 = .ok (.iload 4, 2) := by decide +kernel
theorem dX6_step_28 : decode cX6_step 28 = .ok (.invokevirtual 145, 3) := by decide +kernel
theorem dX6_step_31 : decode cX6_step 31 = .ok (.ifCond .ne 7, 3) := by decide +kernel
theorem dX6_step_34 : decode cX6_step 34 = .ok (.iconst 1, 1) := by decide +kernel
theorem dX6_step_35 : decode cX6_step 35 = .ok (.goto 4, 3) := by decide +kernel
theorem dX6_step_38 : decode cX6_step 38 = .ok (.iconst 0, 1) := by decide +kernel
theorem dX6_step_39 : decode cX6_step 39 = .ok (.putfield 137, 3) := by decide +kernel
theorem dX6_step_42 : decode cX6_step 42 = .ok (.aload_n 0, 1) := by decide +kernel
theorem dX6_step_43 : decode cX6_step 43 = .ok (.getfield 137, 3) := by decide +kernel
theorem dX6_step_46 : decode cX6_step 46 = .ok (.ifCond .eq 5, 3) := by decide +kernel
theorem dX6_step_49 : decode cX6_step 49 = .ok (.iconst 0, 1) := by decide +kernel
theorem dX6_step_50 : decode cX6_step 50 = .ok (.ireturn, 1) := by decide +kernel
theorem dX6_step_51 : decode cX6_step 51 = .ok (.aload_n 0, 1) := by decide +kernel
theorem dX6_step_52 : decode cX6_step 52 = .ok (.aload_n 0, 1) := by decide +kernel
theorem dX6_step_53 : decode cX6_step 53 = .ok (.getfield 7, 3) := by decide +kernel
theorem dX6_step_56 : decode cX6_step 56 = .ok (.iload_n 1, 1) := by decide +kernel
theorem dX6_step_57 : decode cX6_step 57 = .ok (.iaload, 1) := by decide +kernel
theorem dX6_step_58 : decode cX6_step 58 = .ok (.bipush 6, 2) := by decide +kernel
theorem dX6_step_60 : decode cX6_step 60 = .ok (.if_icmp .ne 7, 3) := by decide +kernel
theorem dX6_step_63 : decode cX6_step 63 = .ok (.iconst 2, 1) := by decide +kernel
theorem dX6_step_64 : decode cX6_step 64 = .ok (.goto 4, 3) := by decide +kernel
theorem dX6_step_67 : decode cX6_step 67 = .ok (.iconst 0, 1) := by decide +kernel
theorem dX6_step_68 : decode cX6_step 68 = .ok (.putfield 137, 3) := by decide +kernel
theorem dX6_step_71 : decode cX6_step 71 = .ok (.aload_n 0, 1) := by decide +kernel
theorem dX6_step_72 : decode cX6_step 72 = .ok (.getfield 137, 3) := by decide +kernel
theorem dX6_step_75 : decode cX6_step 75 = .ok (.ifCond .eq 5, 3) := by decide +kernel
theorem dX6_step_78 : decode cX6_step 78 = .ok (.iconst 0, 1) := by decide +kernel
theorem dX6_step_79 : decode cX6_step 79 = .ok (.ireturn, 1) := by decide +kernel
theorem dX6_step_80 : decode cX6_step 80 = .ok (.bipush 6, 2) := by decide +kernel
theorem dX6_step_82 : decode cX6_step 82 = .ok (.iload_n 1, 1) := by decide +kernel
theorem dX6_step_83 : decode cX6_step 83 = .ok (.imul, 1) := by decide +kernel
theorem dX6_step_84 : decode cX6_step 84 = .ok (.aload_n 0, 1) := by decide +kernel
theorem dX6_step_85 : decode cX6_step 85 = .ok (.getfield 7, 3) := by decide +kernel
theorem dX6_step_88 : decode cX6_step 88 = .ok (.iload_n 1, 1) := by decide +kernel
theorem dX6_step_89 : decode cX6_step 89 = .ok (.iaload, 1) := by decide +kernel
theorem dX6_step_90 : decode cX6_step 90 = .ok (.iadd, 1) := by decide +kernel
theorem dX6_step_91 : decode cX6_step 91 = .ok (.istore 5, 2) := by decide +kernel
theorem dX6_step_93 : decode cX6_step 93 = .ok (.aload_n 0, 1) := by decide +kernel
theorem dX6_step_94 : decode cX6_step 94 = .ok (.getfield 13, 3) := by decide +kernel
theorem dX6_step_97 : decode cX6_step 97 = .ok (.iload 5, 2) := by decide +kernel
theorem dX6_step_99 : decode cX6_step 99 = .ok (.iload_n 2, 1) := by decide +kernel
theorem dX6_step_100 : decode cX6_step 100 = .ok (.iastore, 1) := by decide +kernel
theorem dX6_step_101 : decode cX6_step 101 = .ok (.aload_n 0, 1) := by decide +kernel
theorem dX6_step_102 : decode cX6_step 102 = .ok (.getfield 16, 3) := by decide +kernel
theorem dX6_step_105 : decode cX6_step 105 = .ok (.iload 5, 2) := by decide +kernel
theorem dX6_step_107 : decode cX6_step 107 = .ok (.iload_n 3, 1) := by decide +kernel
theorem dX6_step_108 : decode cX6_step 108 = .ok (.iastore, 1) := by decide +kernel
theorem dX6_step_109 : decode cX6_step 109 = .ok (.aload_n 0, 1) := by decide +kernel
theorem dX6_step_110 : decode cX6_step 110 = .ok (.getfield 19, 3) := by decide +kernel
theorem dX6_step_113 : decode cX6_step 113 = .ok (.iload 5, 2) := by decide +kernel
theorem dX6_step_115 : decode cX6_step 115 = .ok (.iload 4, 2) := by decide +kernel
theorem dX6_step_117 : decode cX6_step 117 = .ok (.iastore, 1) := by decide +kernel
theorem dX6_step_118 : decode cX6_step 118 = .ok (.aload_n 0, 1) := by decide +kernel
theorem dX6_step_119 : decode cX6_step 119 = .ok (.getfield 7, 3) := by decide +kernel
theorem dX6_step_122 : decode cX6_step 122 = .ok (.iload_n 1, 1) := by decide +kernel
theorem dX6_step_123 : decode cX6_step 123 = .ok (.dup2, 1) := by decide +kernel
theorem dX6_step_124 : decode cX6_step 124 = .ok (.iaload, 1) := by decide +kernel
theorem dX6_step_125 : decode cX6_step 125 = .ok (.iconst 1, 1) := by decide +kernel
theorem dX6_step_126 : decode cX6_step 126 = .ok (.iadd, 1) := by decide +kernel
theorem dX6_step_127 : decode cX6_step 127 = .ok (.iastore, 1) := by decide +kernel
theorem dX6_step_128 : decode cX6_step 128 = .ok (.aload_n 0, 1) := by decide +kernel
theorem dX6_step_129 : decode cX6_step 129 = .ok (.getfield 7, 3) := by decide +kernel
theorem dX6_step_132 : decode cX6_step 132 = .ok (.iload_n 1, 1) := by decide +kernel
theorem dX6_step_133 : decode cX6_step 133 = .ok (.iaload, 1) := by decide +kernel
theorem dX6_step_134 : decode cX6_step 134 = .ok (.ireturn, 1) := by decide +kernel
theorem dX6_clear_0 : decode cX6_clear 0 = .ok (.aload_n 0, 1) := by decide +kernel
theorem dX6_clear_1 : decode cX6_clear 1 = .ok (.aload_n 0, 1) := by decide +kernel
theorem dX6_clear_2 : decode cX6_clear 2 = .ok (.iload_n 1, 1) := by decide +kernel
theorem dX6_clear_3 : decode cX6_clear 3 = .ok (.iconst 0, 1) := by decide +kernel
theorem dX6_clear_4 : decode cX6_clear 4 = .ok (.bipush 9, 2) := by decide +kernel
theorem dX6_clear_6 : decode cX6_clear 6 = .ok (.invokevirtual 141, 3) := by decide +kernel
theorem dX6_clear_9 : decode cX6_clear 9 = .ok (.ifCond .eq 7, 3) := by decide +kernel
theorem dX6_clear_12 : decode cX6_clear 12 = .ok (.iconst 1, 1) := by decide +kernel
theorem dX6_clear_13 : decode cX6_clear 13 = .ok (.goto 4, 3) := by decide +kernel
theorem dX6_clear_16 : decode cX6_clear 16 = .ok (.iconst 0, 1) := by decide +kernel
theorem dX6_clear_17 : decode cX6_clear 17 = .ok (.putfield 137, 3) := by decide +kernel
theorem dX6_clear_20 : decode cX6_clear 20 = .ok (.aload_n 0, 1) := by decide +kernel
theorem dX6_clear_21 : decode cX6_clear 21 = .ok (.getfield 137, 3) := by decide +kernel
theorem dX6_clear_24 : decode cX6_clear 24 = .ok (.ifCond .ne 10, 3) := by decide +kernel
theorem dX6_clear_27 : decode cX6_clear 27 = .ok (.aload_n 0, 1) := by decide +kernel
theorem dX6_clear_28 : decode cX6_clear 28 = .ok (.getfield 7, 3) := by decide +kernel
theorem dX6_clear_31 : decode cX6_clear 31 = .ok (.iload_n 1, 1) := by decide +kernel
theorem dX6_clear_32 : decode cX6_clear 32 = .ok (.iconst 0, 1) := by decide +kernel
theorem dX6_clear_33 : decode cX6_clear 33 = .ok (.iastore, 1) := by decide +kernel
theorem dX6_clear_34 : decode cX6_clear 34 = .ok (.return_, 1) := by decide +kernel
theorem dX6_addTask_0 : decode cX6_addTask 0 = .ok (.aload_n 0, 1) := by decide +kernel
theorem dX6_addTask_1 : decode cX6_addTask 1 = .ok (.getfield 68, 3) := by decide +kernel
theorem dX6_addTask_4 : decode cX6_addTask 4 = .ok (.aload_n 0, 1) := by decide +kernel
theorem dX6_addTask_5 : decode cX6_addTask 5 = .ok (.getfield 148, 3) := by decide +kernel
theorem dX6_addTask_8 : decode cX6_addTask 8 = .ok (.iload_n 1, 1) := by decide +kernel
theorem dX6_addTask_9 : decode cX6_addTask 9 = .ok (.iastore, 1) := by decide +kernel
theorem dX6_addTask_10 : decode cX6_addTask 10 = .ok (.aload_n 0, 1) := by decide +kernel
theorem dX6_addTask_11 : decode cX6_addTask 11 = .ok (.getfield 71, 3) := by decide +kernel
theorem dX6_addTask_14 : decode cX6_addTask 14 = .ok (.aload_n 0, 1) := by decide +kernel
theorem dX6_addTask_15 : decode cX6_addTask 15 = .ok (.getfield 148, 3) := by decide +kernel
theorem dX6_addTask_18 : decode cX6_addTask 18 = .ok (.iload_n 2, 1) := by decide +kernel
theorem dX6_addTask_19 : decode cX6_addTask 19 = .ok (.iastore, 1) := by decide +kernel
theorem dX6_addTask_20 : decode cX6_addTask 20 = .ok (.aload_n 0, 1) := by decide +kernel
theorem dX6_addTask_21 : decode cX6_addTask 21 = .ok (.getfield 74, 3) := by decide +kernel
theorem dX6_addTask_24 : decode cX6_addTask 24 = .ok (.aload_n 0, 1) := by decide +kernel
theorem dX6_addTask_25 : decode cX6_addTask 25 = .ok (.getfield 148, 3) := by decide +kernel
theorem dX6_addTask_28 : decode cX6_addTask 28 = .ok (.iload_n 3, 1) := by decide +kernel
theorem dX6_addTask_29 : decode cX6_addTask 29 = .ok (.iastore, 1) := by decide +kernel
theorem dX6_addTask_30 : decode cX6_addTask 30 = .ok (.aload_n 0, 1) := by decide +kernel
theorem dX6_addTask_31 : decode cX6_addTask 31 = .ok (.getfield 77, 3) := by decide +kernel
theorem dX6_addTask_34 : decode cX6_addTask 34 = .ok (.aload_n 0, 1) := by decide +kernel
theorem dX6_addTask_35 : decode cX6_addTask 35 = .ok (.getfield 148, 3) := by decide +kernel
theorem dX6_addTask_38 : decode cX6_addTask 38 = .ok (.iload 4, 2) := by decide +kernel
theorem dX6_addTask_40 : decode cX6_addTask 40 = .ok (.iastore, 1) := by decide +kernel
theorem dX6_addTask_41 : decode cX6_addTask 41 = .ok (.aload_n 0, 1) := by decide +kernel
theorem dX6_addTask_42 : decode cX6_addTask 42 = .ok (.dup, 1) := by decide +kernel
theorem dX6_addTask_43 : decode cX6_addTask 43 = .ok (.getfield 148, 3) := by decide +kernel
theorem dX6_addTask_46 : decode cX6_addTask 46 = .ok (.iconst 1, 1) := by decide +kernel
theorem dX6_addTask_47 : decode cX6_addTask 47 = .ok (.iadd, 1) := by decide +kernel
theorem dX6_addTask_48 : decode cX6_addTask 48 = .ok (.putfield 148, 3) := by decide +kernel
theorem dX6_addTask_51 : decode cX6_addTask 51 = .ok (.return_, 1) := by decide +kernel
theorem dX6_addMicro_0 : decode cX6_addMicro 0 = .ok (.aload_n 0, 1) := by decide +kernel
theorem dX6_addMicro_1 : decode cX6_addMicro 1 = .ok (.getfield 151, 3) := by decide +kernel
theorem dX6_addMicro_4 : decode cX6_addMicro 4 = .ok (.aload_n 0, 1) := by decide +kernel
theorem dX6_addMicro_5 : decode cX6_addMicro 5 = .ok (.getfield 154, 3) := by decide +kernel
theorem dX6_addMicro_8 : decode cX6_addMicro 8 = .ok (.iadd, 1) := by decide +kernel
theorem dX6_addMicro_9 : decode cX6_addMicro 9 = .ok (.sipush 512, 3) := by decide +kernel
theorem dX6_addMicro_12 : decode cX6_addMicro 12 = .ok (.irem, 1) := by decide +kernel
theorem dX6_addMicro_13 : decode cX6_addMicro 13 = .ok (.istore 4, 2) := by decide +kernel
theorem dX6_addMicro_15 : decode cX6_addMicro 15 = .ok (.aload_n 0, 1) := by decide +kernel
theorem dX6_addMicro_16 : decode cX6_addMicro 16 = .ok (.getfield 59, 3) := by decide +kernel
theorem dX6_addMicro_19 : decode cX6_addMicro 19 = .ok (.iload 4, 2) := by decide +kernel
theorem dX6_addMicro_21 : decode cX6_addMicro 21 = .ok (.iload_n 1, 1) := by decide +kernel
theorem dX6_addMicro_22 : decode cX6_addMicro 22 = .ok (.iastore, 1) := by decide +kernel
theorem dX6_addMicro_23 : decode cX6_addMicro 23 = .ok (.aload_n 0, 1) := by decide +kernel
theorem dX6_addMicro_24 : decode cX6_addMicro 24 = .ok (.getfield 62, 3) := by decide +kernel
theorem dX6_addMicro_27 : decode cX6_addMicro 27 = .ok (.iload 4, 2) := by decide +kernel
theorem dX6_addMicro_29 : decode cX6_addMicro 29 = .ok (.iload_n 2, 1) := by decide +kernel
theorem dX6_addMicro_30 : decode cX6_addMicro 30 = .ok (.iastore, 1) := by decide +kernel
theorem dX6_addMicro_31 : decode cX6_addMicro 31 = .ok (.aload_n 0, 1) := by decide +kernel
theorem dX6_addMicro_32 : decode cX6_addMicro 32 = .ok (.getfield 65, 3) := by decide +kernel
theorem dX6_addMicro_35 : decode cX6_addMicro 35 = .ok (.iload 4, 2) := by decide +kernel
theorem dX6_addMicro_37 : decode cX6_addMicro 37 = .ok (.iload_n 3, 1) := by decide +kernel
theorem dX6_addMicro_38 : decode cX6_addMicro 38 = .ok (.iastore, 1) := by decide +kernel
theorem dX6_addMicro_39 : decode cX6_addMicro 39 = .ok (.aload_n 0, 1) := by decide +kernel
theorem dX6_addMicro_40 : decode cX6_addMicro 40 = .ok (.dup, 1) := by decide +kernel
theorem dX6_addMicro_41 : decode cX6_addMicro 41 = .ok (.getfield 154, 3) := by decide +kernel
theorem dX6_addMicro_44 : decode cX6_addMicro 44 = .ok (.iconst 1, 1) := by decide +kernel
theorem dX6_addMicro_45 : decode cX6_addMicro 45 = .ok (.iadd, 1) := by decide +kernel
theorem dX6_addMicro_46 : decode cX6_addMicro 46 = .ok (.putfield 154, 3) := by decide +kernel
theorem dX6_addMicro_49 : decode cX6_addMicro 49 = .ok (.return_, 1) := by decide +kernel
theorem dX6_tell_0 : decode cX6_tell 0 = .ok (.aload_n 0, 1) := by decide +kernel
theorem dX6_tell_1 : decode cX6_tell 1 = .ok (.getfield 157, 3) := by decide +kernel
theorem dX6_tell_4 : decode cX6_tell 4 = .ok (.sipush 200, 3) := by decide +kernel
theorem dX6_tell_7 : decode cX6_tell 7 = .ok (.if_icmp .ge 29, 3) := by decide +kernel
theorem dX6_tell_10 : decode cX6_tell 10 = .ok (.aload_n 0, 1) := by decide +kernel
theorem dX6_tell_11 : decode cX6_tell 11 = .ok (.getfield 113, 3) := by decide +kernel
theorem dX6_tell_14 : decode cX6_tell 14 = .ok (.aload_n 0, 1) := by decide +kernel
theorem dX6_tell_15 : decode cX6_tell 15 = .ok (.getfield 157, 3) := by decide +kernel
theorem dX6_tell_18 : decode cX6_tell 18 = .ok (.iload_n 2, 1) := by decide +kernel
theorem dX6_tell_19 : decode cX6_tell 19 = .ok (.sipush 10000, 3) := by decide +kernel
theorem dX6_tell_22 : decode cX6_tell 22 = .ok (.iload_n 1, 1) := by decide +kernel
theorem dX6_tell_23 : decode cX6_tell 23 = .ok (.imul, 1) := by decide +kernel
theorem dX6_tell_24 : decode cX6_tell 24 = .ok (.iadd, 1) := by decide +kernel
theorem dX6_tell_25 : decode cX6_tell 25 = .ok (.iastore, 1) := by decide +kernel
theorem dX6_tell_26 : decode cX6_tell 26 = .ok (.aload_n 0, 1) := by decide +kernel
theorem dX6_tell_27 : decode cX6_tell 27 = .ok (.dup, 1) := by decide +kernel
theorem dX6_tell_28 : decode cX6_tell 28 = .ok (.getfield 157, 3) := by decide +kernel
theorem dX6_tell_31 : decode cX6_tell 31 = .ok (.iconst 1, 1) := by decide +kernel
theorem dX6_tell_32 : decode cX6_tell 32 = .ok (.iadd, 1) := by decide +kernel
theorem dX6_tell_33 : decode cX6_tell 33 = .ok (.putfield 157, 3) := by decide +kernel
theorem dX6_tell_36 : decode cX6_tell 36 = .ok (.return_, 1) := by decide +kernel
theorem dX6_post_0 : decode cX6_post 0 = .ok (.aload_n 0, 1) := by decide +kernel
theorem dX6_post_1 : decode cX6_post 1 = .ok (.aload_n 0, 1) := by decide +kernel
theorem dX6_post_2 : decode cX6_post 2 = .ok (.iload_n 1, 1) := by decide +kernel
theorem dX6_post_3 : decode cX6_post 3 = .ok (.iconst 0, 1) := by decide +kernel
theorem dX6_post_4 : decode cX6_post 4 = .ok (.iconst 2, 1) := by decide +kernel
theorem dX6_post_5 : decode cX6_post 5 = .ok (.invokevirtual 141, 3) := by decide +kernel
theorem dX6_post_8 : decode cX6_post 8 = .ok (.ifCond .ne 14, 3) := by decide +kernel
theorem dX6_post_11 : decode cX6_post 11 = .ok (.aload_n 0, 1) := by decide +kernel
theorem dX6_post_12 : decode cX6_post 12 = .ok (.iload_n 2, 1) := by decide +kernel
theorem dX6_post_13 : decode cX6_post 13 = .ok (.iconst 0, 1) := by decide +kernel
theorem dX6_post_14 : decode cX6_post 14 = .ok (.bipush 9, 2) := by decide +kernel
theorem dX6_post_16 : decode cX6_post 16 = .ok (.invokevirtual 141, 3) := by decide +kernel
theorem dX6_post_19 : decode cX6_post 19 = .ok (.ifCond .eq 7, 3) := by decide +kernel
theorem dX6_post_22 : decode cX6_post 22 = .ok (.iconst 1, 1) := by decide +kernel
theorem dX6_post_23 : decode cX6_post 23 = .ok (.goto 17, 3) := by decide +kernel
theorem dX6_post_26 : decode cX6_post 26 = .ok (.aload_n 0, 1) := by decide +kernel
theorem dX6_post_27 : decode cX6_post 27 = .ok (.getfield 148, 3) := by decide +kernel
theorem dX6_post_30 : decode cX6_post 30 = .ok (.bipush 40, 2) := by decide +kernel
theorem dX6_post_32 : decode cX6_post 32 = .ok (.if_icmp .lt 7, 3) := by decide +kernel
theorem dX6_post_35 : decode cX6_post 35 = .ok (.iconst 2, 1) := by decide +kernel
theorem dX6_post_36 : decode cX6_post 36 = .ok (.goto 4, 3) := by decide +kernel
theorem dX6_post_39 : decode cX6_post 39 = .ok (.iconst 0, 1) := by decide +kernel
theorem dX6_post_40 : decode cX6_post 40 = .ok (.putfield 137, 3) := by decide +kernel
theorem dX6_post_43 : decode cX6_post 43 = .ok (.aload_n 0, 1) := by decide +kernel
theorem dX6_post_44 : decode cX6_post 44 = .ok (.getfield 137, 3) := by decide +kernel
theorem dX6_post_47 : decode cX6_post 47 = .ok (.ifCond .eq 5, 3) := by decide +kernel
theorem dX6_post_50 : decode cX6_post 50 = .ok (.iconst 0, 1) := by decide +kernel
theorem dX6_post_51 : decode cX6_post 51 = .ok (.ireturn, 1) := by decide +kernel
theorem dX6_post_52 : decode cX6_post 52 = .ok (.aload_n 0, 1) := by decide +kernel
theorem dX6_post_53 : decode cX6_post 53 = .ok (.iload_n 1, 1) := by decide +kernel
theorem dX6_post_54 : decode cX6_post 54 = .ok (.iload_n 2, 1) := by decide +kernel
theorem dX6_post_55 : decode cX6_post 55 = .ok (.iload_n 3, 1) := by decide +kernel
theorem dX6_post_56 : decode cX6_post 56 = .ok (.iconst 0, 1) := by decide +kernel
theorem dX6_post_57 : decode cX6_post 57 = .ok (.invokevirtual 160, 3) := by decide +kernel
theorem dX6_post_60 : decode cX6_post 60 = .ok (.aload_n 0, 1) := by decide +kernel
theorem dX6_post_61 : decode cX6_post 61 = .ok (.getfield 148, 3) := by decide +kernel
theorem dX6_post_64 : decode cX6_post 64 = .ok (.ireturn, 1) := by decide +kernel
theorem dX6_prefer_0 : decode cX6_prefer 0 = .ok (.aload_n 0, 1) := by decide +kernel
theorem dX6_prefer_1 : decode cX6_prefer 1 = .ok (.aload_n 0, 1) := by decide +kernel
theorem dX6_prefer_2 : decode cX6_prefer 2 = .ok (.iload_n 1, 1) := by decide +kernel
theorem dX6_prefer_3 : decode cX6_prefer 3 = .ok (.iconst 0, 1) := by decide +kernel
theorem dX6_prefer_4 : decode cX6_prefer 4 = .ok (.iconst 2, 1) := by decide +kernel
theorem dX6_prefer_5 : decode cX6_prefer 5 = .ok (.invokevirtual 141, 3) := by decide +kernel
theorem dX6_prefer_8 : decode cX6_prefer 8 = .ok (.ifCond .eq 7, 3) := by decide +kernel
theorem dX6_prefer_11 : decode cX6_prefer 11 = .ok (.iconst 1, 1) := by decide +kernel
theorem dX6_prefer_12 : decode cX6_prefer 12 = .ok (.goto 4, 3) := by decide +kernel
theorem dX6_prefer_15 : decode cX6_prefer 15 = .ok (.iconst 0, 1) := by decide +kernel
theorem dX6_prefer_16 : decode cX6_prefer 16 = .ok (.putfield 137, 3) := by decide +kernel
theorem dX6_prefer_19 : decode cX6_prefer 19 = .ok (.aload_n 0, 1) := by decide +kernel
theorem dX6_prefer_20 : decode cX6_prefer 20 = .ok (.aload_n 0, 1) := by decide +kernel
theorem dX6_prefer_21 : decode cX6_prefer 21 = .ok (.getfield 137, 3) := by decide +kernel
theorem dX6_prefer_24 : decode cX6_prefer 24 = .ok (.ifCond .ne 7, 3) := by decide +kernel
theorem dX6_prefer_27 : decode cX6_prefer 27 = .ok (.iload_n 1, 1) := by decide +kernel
theorem dX6_prefer_28 : decode cX6_prefer 28 = .ok (.goto 7, 3) := by decide +kernel
theorem dX6_prefer_31 : decode cX6_prefer 31 = .ok (.aload_n 0, 1) := by decide +kernel
theorem dX6_prefer_32 : decode cX6_prefer 32 = .ok (.getfield 164, 3) := by decide +kernel
theorem dX6_prefer_35 : decode cX6_prefer 35 = .ok (.putfield 164, 3) := by decide +kernel
theorem dX6_prefer_38 : decode cX6_prefer 38 = .ok (.return_, 1) := by decide +kernel
theorem dX6_makePromise_0 : decode cX6_makePromise 0 = .ok (.aload_n 0, 1) := by decide +kernel
theorem dX6_makePromise_1 : decode cX6_makePromise 1 = .ok (.getfield 167, 3) := by decide +kernel
theorem dX6_makePromise_4 : decode cX6_makePromise 4 = .ok (.istore_n 1, 1) := by decide +kernel
theorem dX6_makePromise_5 : decode cX6_makePromise 5 = .ok (.aload_n 0, 1) := by decide +kernel
theorem dX6_makePromise_6 : decode cX6_makePromise 6 = .ok (.dup, 1) := by decide +kernel
theorem dX6_makePromise_7 : decode cX6_makePromise 7 = .ok (.getfield 167, 3) := by decide +kernel
theorem dX6_makePromise_10 : decode cX6_makePromise 10 = .ok (.iconst 1, 1) := by decide +kernel
theorem dX6_makePromise_11 : decode cX6_makePromise 11 = .ok (.iadd, 1) := by decide +kernel
theorem dX6_makePromise_12 : decode cX6_makePromise 12 = .ok (.putfield 167, 3) := by decide +kernel
theorem dX6_makePromise_15 : decode cX6_makePromise 15 = .ok (.iload_n 1, 1) := by decide +kernel
theorem dX6_makePromise_16 : decode cX6_makePromise 16 = .ok (.ireturn, 1) := by decide +kernel
theorem dX6_settle_0 : decode cX6_settle 0 = .ok (.aload_n 0, 1) := by decide +kernel
theorem dX6_settle_1 : decode cX6_settle 1 = .ok (.getfield 25, 3) := by decide +kernel
theorem dX6_settle_4 : decode cX6_settle 4 = .ok (.iload_n 1, 1) := by decide +kernel
theorem dX6_settle_5 : decode cX6_settle 5 = .ok (.iload_n 2, 1) := by decide +kernel
theorem dX6_settle_6 : decode cX6_settle 6 = .ok (.iastore, 1) := by decide +kernel
theorem dX6_settle_7 : decode cX6_settle 7 = .ok (.aload_n 0, 1) := by decide +kernel
theorem dX6_settle_8 : decode cX6_settle 8 = .ok (.getfield 28, 3) := by decide +kernel
theorem dX6_settle_11 : decode cX6_settle 11 = .ok (.iload_n 1, 1) := by decide +kernel
theorem dX6_settle_12 : decode cX6_settle 12 = .ok (.iload_n 3, 1) := by decide +kernel
theorem dX6_settle_13 : decode cX6_settle 13 = .ok (.iastore, 1) := by decide +kernel
theorem dX6_settle_14 : decode cX6_settle 14 = .ok (.iload_n 2, 1) := by decide +kernel
theorem dX6_settle_15 : decode cX6_settle 15 = .ok (.iconst 2, 1) := by decide +kernel
theorem dX6_settle_16 : decode cX6_settle 16 = .ok (.if_icmp .ne 32, 3) := by decide +kernel
theorem dX6_settle_19 : decode cX6_settle 19 = .ok (.aload_n 0, 1) := by decide +kernel
theorem dX6_settle_20 : decode cX6_settle 20 = .ok (.getfield 35, 3) := by decide +kernel
theorem dX6_settle_23 : decode cX6_settle 23 = .ok (.iload_n 1, 1) := by decide +kernel
theorem dX6_settle_24 : decode cX6_settle 24 = .ok (.baload, 1) := by decide +kernel
theorem dX6_settle_25 : decode cX6_settle 25 = .ok (.ifCond .ne 23, 3) := by decide +kernel
theorem dX6_settle_28 : decode cX6_settle 28 = .ok (.aload_n 0, 1) := by decide +kernel
theorem dX6_settle_29 : decode cX6_settle 29 = .ok (.getfield 41, 3) := by decide +kernel
theorem dX6_settle_32 : decode cX6_settle 32 = .ok (.aload_n 0, 1) := by decide +kernel
theorem dX6_settle_33 : decode cX6_settle 33 = .ok (.getfield 170, 3) := by decide +kernel
theorem dX6_settle_36 : decode cX6_settle 36 = .ok (.iload_n 1, 1) := by decide +kernel
theorem dX6_settle_37 : decode cX6_settle 37 = .ok (.iastore, 1) := by decide +kernel
theorem dX6_settle_38 : decode cX6_settle 38 = .ok (.aload_n 0, 1) := by decide +kernel
theorem dX6_settle_39 : decode cX6_settle 39 = .ok (.dup, 1) := by decide +kernel
theorem dX6_settle_40 : decode cX6_settle 40 = .ok (.getfield 170, 3) := by decide +kernel
theorem dX6_settle_43 : decode cX6_settle 43 = .ok (.iconst 1, 1) := by decide +kernel
theorem dX6_settle_44 : decode cX6_settle 44 = .ok (.iadd, 1) := by decide +kernel
theorem dX6_settle_45 : decode cX6_settle 45 = .ok (.putfield 170, 3) := by decide +kernel
theorem dX6_settle_48 : decode cX6_settle 48 = .ok (.iconst 0, 1) := by decide +kernel
theorem dX6_settle_49 : decode cX6_settle 49 = .ok (.istore 4, 2) := by decide +kernel
theorem dX6_settle_51 : decode cX6_settle 51 = .ok (.iload 4, 2) := by decide +kernel
theorem dX6_settle_53 : decode cX6_settle 53 = .ok (.aload_n 0, 1) := by decide +kernel
theorem dX6_settle_54 : decode cX6_settle 54 = .ok (.getfield 173, 3) := by decide +kernel
theorem dX6_settle_57 : decode cX6_settle 57 = .ok (.if_icmp .ge 46, 3) := by decide +kernel
theorem dX6_settle_60 : decode cX6_settle 60 = .ok (.aload_n 0, 1) := by decide +kernel
theorem dX6_settle_61 : decode cX6_settle 61 = .ok (.getfield 44, 3) := by decide +kernel
theorem dX6_settle_64 : decode cX6_settle 64 = .ok (.iload 4, 2) := by decide +kernel
theorem dX6_settle_66 : decode cX6_settle 66 = .ok (.iaload, 1) := by decide +kernel
theorem dX6_settle_67 : decode cX6_settle 67 = .ok (.iload_n 1, 1) := by decide +kernel
theorem dX6_settle_68 : decode cX6_settle 68 = .ok (.if_icmp .ne 29, 3) := by decide +kernel
theorem dX6_settle_71 : decode cX6_settle 71 = .ok (.aload_n 0, 1) := by decide +kernel
theorem dX6_settle_72 : decode cX6_settle 72 = .ok (.getfield 56, 3) := by decide +kernel
theorem dX6_settle_75 : decode cX6_settle 75 = .ok (.iload 4, 2) := by decide +kernel
theorem dX6_settle_77 : decode cX6_settle 77 = .ok (.baload, 1) := by decide +kernel
theorem dX6_settle_78 : decode cX6_settle 78 = .ok (.ifCond .eq 19, 3) := by decide +kernel
theorem dX6_settle_81 : decode cX6_settle 81 = .ok (.aload_n 0, 1) := by decide +kernel
theorem dX6_settle_82 : decode cX6_settle 82 = .ok (.getfield 56, 3) := by decide +kernel
theorem dX6_settle_85 : decode cX6_settle 85 = .ok (.iload 4, 2) := by decide +kernel
theorem dX6_settle_87 : decode cX6_settle 87 = .ok (.iconst 0, 1) := by decide +kernel
theorem dX6_settle_88 : decode cX6_settle 88 = .ok (.bastore, 1) := by decide +kernel
theorem dX6_settle_89 : decode cX6_settle 89 = .ok (.aload_n 0, 1) := by decide +kernel
theorem dX6_settle_90 : decode cX6_settle 90 = .ok (.iconst 1, 1) := by decide +kernel
theorem dX6_settle_91 : decode cX6_settle 91 = .ok (.iload 4, 2) := by decide +kernel
theorem dX6_settle_93 : decode cX6_settle 93 = .ok (.iconst 0, 1) := by decide +kernel
theorem dX6_settle_94 : decode cX6_settle 94 = .ok (.invokevirtual 176, 3) := by decide +kernel
theorem dX6_settle_97 : decode cX6_settle 97 = .ok (.iinc 4 1, 3) := by decide +kernel
theorem dX6_settle_100 : decode cX6_settle 100 = .ok (.goto (-49), 3) := by decide +kernel
theorem dX6_settle_103 : decode cX6_settle 103 = .ok (.return_, 1) := by decide +kernel
theorem dX6_reject_0 : decode cX6_reject 0 = .ok (.aload_n 0, 1) := by decide +kernel
theorem dX6_reject_1 : decode cX6_reject 1 = .ok (.getfield 31, 3) := by decide +kernel
theorem dX6_reject_4 : decode cX6_reject 4 = .ok (.iload_n 1, 1) := by decide +kernel
theorem dX6_reject_5 : decode cX6_reject 5 = .ok (.baload, 1) := by decide +kernel
theorem dX6_reject_6 : decode cX6_reject 6 = .ok (.ifCond .ne 17, 3) := by decide +kernel
theorem dX6_reject_9 : decode cX6_reject 9 = .ok (.aload_n 0, 1) := by decide +kernel
theorem dX6_reject_10 : decode cX6_reject 10 = .ok (.getfield 31, 3) := by decide +kernel
theorem dX6_reject_13 : decode cX6_reject 13 = .ok (.iload_n 1, 1) := by decide +kernel
theorem dX6_reject_14 : decode cX6_reject 14 = .ok (.iconst 1, 1) := by decide +kernel
theorem dX6_reject_15 : decode cX6_reject 15 = .ok (.bastore, 1) := by decide +kernel
theorem dX6_reject_16 : decode cX6_reject 16 = .ok (.aload_n 0, 1) := by decide +kernel
theorem dX6_reject_17 : decode cX6_reject 17 = .ok (.iload_n 1, 1) := by decide +kernel
theorem dX6_reject_18 : decode cX6_reject 18 = .ok (.iconst 2, 1) := by decide +kernel
theorem dX6_reject_19 : decode cX6_reject 19 = .ok (.iload_n 2, 1) := by decide +kernel
theorem dX6_reject_20 : decode cX6_reject 20 = .ok (.invokevirtual 180, 3) := by decide +kernel
theorem dX6_reject_23 : decode cX6_reject 23 = .ok (.return_, 1) := by decide +kernel
theorem dX6_resolve_0 : decode cX6_resolve 0 = .ok (.aload_n 0, 1) := by decide +kernel
theorem dX6_resolve_1 : decode cX6_resolve 1 = .ok (.getfield 31, 3) := by decide +kernel
theorem dX6_resolve_4 : decode cX6_resolve 4 = .ok (.iload_n 1, 1) := by decide +kernel
theorem dX6_resolve_5 : decode cX6_resolve 5 = .ok (.baload, 1) := by decide +kernel
theorem dX6_resolve_6 : decode cX6_resolve 6 = .ok (.ifCond .eq 4, 3) := by decide +kernel
theorem dX6_resolve_9 : decode cX6_resolve 9 = .ok (.return_, 1) := by decide +kernel
theorem dX6_resolve_10 : decode cX6_resolve 10 = .ok (.aload_n 0, 1) := by decide +kernel
theorem dX6_resolve_11 : decode cX6_resolve 11 = .ok (.getfield 31, 3) := by decide +kernel
theorem dX6_resolve_14 : decode cX6_resolve 14 = .ok (.iload_n 1, 1) := by decide +kernel
theorem dX6_resolve_15 : decode cX6_resolve 15 = .ok (.iconst 1, 1) := by decide +kernel
theorem dX6_resolve_16 : decode cX6_resolve 16 = .ok (.bastore, 1) := by decide +kernel
theorem dX6_resolve_17 : decode cX6_resolve 17 = .ok (.iload_n 2, 1) := by decide +kernel
theorem dX6_resolve_18 : decode cX6_resolve 18 = .ok (.ifCond .ne 13, 3) := by decide +kernel
theorem dX6_resolve_21 : decode cX6_resolve 21 = .ok (.aload_n 0, 1) := by decide +kernel
theorem dX6_resolve_22 : decode cX6_resolve 22 = .ok (.iload_n 1, 1) := by decide +kernel
theorem dX6_resolve_23 : decode cX6_resolve 23 = .ok (.iconst 1, 1) := by decide +kernel
theorem dX6_resolve_24 : decode cX6_resolve 24 = .ok (.iload_n 3, 1) := by decide +kernel
theorem dX6_resolve_25 : decode cX6_resolve 25 = .ok (.invokevirtual 180, 3) := by decide +kernel
theorem dX6_resolve_28 : decode cX6_resolve 28 = .ok (.goto 26, 3) := by decide +kernel
theorem dX6_resolve_31 : decode cX6_resolve 31 = .ok (.iload_n 3, 1) := by decide +kernel
theorem dX6_resolve_32 : decode cX6_resolve 32 = .ok (.iload_n 1, 1) := by decide +kernel
theorem dX6_resolve_33 : decode cX6_resolve 33 = .ok (.if_icmp .ne 14, 3) := by decide +kernel
theorem dX6_resolve_36 : decode cX6_resolve 36 = .ok (.aload_n 0, 1) := by decide +kernel
theorem dX6_resolve_37 : decode cX6_resolve 37 = .ok (.iload_n 1, 1) := by decide +kernel
theorem dX6_resolve_38 : decode cX6_resolve 38 = .ok (.iconst 2, 1) := by decide +kernel
theorem dX6_resolve_39 : decode cX6_resolve 39 = .ok (.bipush (-3), 2) := by decide +kernel
theorem dX6_resolve_41 : decode cX6_resolve 41 = .ok (.invokevirtual 180, 3) := by decide +kernel
theorem dX6_resolve_44 : decode cX6_resolve 44 = .ok (.goto 10, 3) := by decide +kernel
theorem dX6_resolve_47 : decode cX6_resolve 47 = .ok (.aload_n 0, 1) := by decide +kernel
theorem dX6_resolve_48 : decode cX6_resolve 48 = .ok (.iconst 2, 1) := by decide +kernel
theorem dX6_resolve_49 : decode cX6_resolve 49 = .ok (.iload_n 1, 1) := by decide +kernel
theorem dX6_resolve_50 : decode cX6_resolve 50 = .ok (.iload_n 3, 1) := by decide +kernel
theorem dX6_resolve_51 : decode cX6_resolve 51 = .ok (.invokevirtual 176, 3) := by decide +kernel
theorem dX6_resolve_54 : decode cX6_resolve 54 = .ok (.return_, 1) := by decide +kernel
theorem dX6_react_0 : decode cX6_react 0 = .ok (.aload_n 0, 1) := by decide +kernel
theorem dX6_react_1 : decode cX6_react 1 = .ok (.getfield 38, 3) := by decide +kernel
theorem dX6_react_4 : decode cX6_react 4 = .ok (.iload_n 1, 1) := by decide +kernel
theorem dX6_react_5 : decode cX6_react 5 = .ok (.baload, 1) := by decide +kernel
theorem dX6_react_6 : decode cX6_react 6 = .ok (.ifCond .eq 18, 3) := by decide +kernel
theorem dX6_react_9 : decode cX6_react 9 = .ok (.aload_n 0, 1) := by decide +kernel
theorem dX6_react_10 : decode cX6_react 10 = .ok (.getfield 35, 3) := by decide +kernel
theorem dX6_react_13 : decode cX6_react 13 = .ok (.iload_n 1, 1) := by decide +kernel
theorem dX6_react_14 : decode cX6_react 14 = .ok (.baload, 1) := by decide +kernel
theorem dX6_react_15 : decode cX6_react 15 = .ok (.ifCond .ne 9, 3) := by decide +kernel
theorem dX6_react_18 : decode cX6_react 18 = .ok (.aload_n 0, 1) := by decide +kernel
theorem dX6_react_19 : decode cX6_react 19 = .ok (.iconst 3, 1) := by decide +kernel
theorem dX6_react_20 : decode cX6_react 20 = .ok (.iload_n 1, 1) := by decide +kernel
theorem dX6_react_21 : decode cX6_react 21 = .ok (.invokevirtual 183, 3) := by decide +kernel
theorem dX6_react_24 : decode cX6_react 24 = .ok (.aload_n 0, 1) := by decide +kernel
theorem dX6_react_25 : decode cX6_react 25 = .ok (.getfield 35, 3) := by decide +kernel
theorem dX6_react_28 : decode cX6_react 28 = .ok (.iload_n 1, 1) := by decide +kernel
theorem dX6_react_29 : decode cX6_react 29 = .ok (.iconst 1, 1) := by decide +kernel
theorem dX6_react_30 : decode cX6_react 30 = .ok (.bastore, 1) := by decide +kernel
theorem dX6_react_31 : decode cX6_react 31 = .ok (.aload_n 0, 1) := by decide +kernel
theorem dX6_react_32 : decode cX6_react 32 = .ok (.getfield 173, 3) := by decide +kernel
theorem dX6_react_35 : decode cX6_react 35 = .ok (.istore 5, 2) := by decide +kernel
theorem dX6_react_37 : decode cX6_react 37 = .ok (.aload_n 0, 1) := by decide +kernel
theorem dX6_react_38 : decode cX6_react 38 = .ok (.dup, 1) := by decide +kernel
theorem dX6_react_39 : decode cX6_react 39 = .ok (.getfield 173, 3) := by decide +kernel
theorem dX6_react_42 : decode cX6_react 42 = .ok (.iconst 1, 1) := by decide +kernel
theorem dX6_react_43 : decode cX6_react 43 = .ok (.iadd, 1) := by decide +kernel
theorem dX6_react_44 : decode cX6_react 44 = .ok (.putfield 173, 3) := by decide +kernel
theorem dX6_react_47 : decode cX6_react 47 = .ok (.aload_n 0, 1) := by decide +kernel
theorem dX6_react_48 : decode cX6_react 48 = .ok (.getfield 44, 3) := by decide +kernel
theorem dX6_react_51 : decode cX6_react 51 = .ok (.iload 5, 2) := by decide +kernel
theorem dX6_react_53 : decode cX6_react 53 = .ok (.iload_n 1, 1) := by decide +kernel
theorem dX6_react_54 : decode cX6_react 54 = .ok (.iastore, 1) := by decide +kernel
theorem dX6_react_55 : decode cX6_react 55 = .ok (.aload_n 0, 1) := by decide +kernel
theorem dX6_react_56 : decode cX6_react 56 = .ok (.getfield 47, 3) := by decide +kernel
theorem dX6_react_59 : decode cX6_react 59 = .ok (.iload 5, 2) := by decide +kernel
theorem dX6_react_61 : decode cX6_react 61 = .ok (.iload_n 2, 1) := by decide +kernel
theorem dX6_react_62 : decode cX6_react 62 = .ok (.iastore, 1) := by decide +kernel
theorem dX6_react_63 : decode cX6_react 63 = .ok (.aload_n 0, 1) := by decide +kernel
theorem dX6_react_64 : decode cX6_react 64 = .ok (.getfield 50, 3) := by decide +kernel
theorem dX6_react_67 : decode cX6_react 67 = .ok (.iload 5, 2) := by decide +kernel
theorem dX6_react_69 : decode cX6_react 69 = .ok (.iload_n 3, 1) := by decide +kernel
theorem dX6_react_70 : decode cX6_react 70 = .ok (.iastore, 1) := by decide +kernel
theorem dX6_react_71 : decode cX6_react 71 = .ok (.aload_n 0, 1) := by decide +kernel
theorem dX6_react_72 : decode cX6_react 72 = .ok (.getfield 53, 3) := by decide +kernel
theorem dX6_react_75 : decode cX6_react 75 = .ok (.iload 5, 2) := by decide +kernel
theorem dX6_react_77 : decode cX6_react 77 = .ok (.iload 4, 2) := by decide +kernel
theorem dX6_react_79 : decode cX6_react 79 = .ok (.iastore, 1) := by decide +kernel
theorem dX6_react_80 : decode cX6_react 80 = .ok (.aload_n 0, 1) := by decide +kernel
theorem dX6_react_81 : decode cX6_react 81 = .ok (.getfield 56, 3) := by decide +kernel
theorem dX6_react_84 : decode cX6_react 84 = .ok (.iload 5, 2) := by decide +kernel
theorem dX6_react_86 : decode cX6_react 86 = .ok (.aload_n 0, 1) := by decide +kernel
theorem dX6_react_87 : decode cX6_react 87 = .ok (.getfield 25, 3) := by decide +kernel
theorem dX6_react_90 : decode cX6_react 90 = .ok (.iload_n 1, 1) := by decide +kernel
theorem dX6_react_91 : decode cX6_react 91 = .ok (.iaload, 1) := by decide +kernel
theorem dX6_react_92 : decode cX6_react 92 = .ok (.ifCond .ne 7, 3) := by decide +kernel
theorem dX6_react_95 : decode cX6_react 95 = .ok (.iconst 1, 1) := by decide +kernel
theorem dX6_react_96 : decode cX6_react 96 = .ok (.goto 4, 3) := by decide +kernel
theorem dX6_react_99 : decode cX6_react 99 = .ok (.iconst 0, 1) := by decide +kernel
theorem dX6_react_100 : decode cX6_react 100 = .ok (.bastore, 1) := by decide +kernel
theorem dX6_react_101 : decode cX6_react 101 = .ok (.aload_n 0, 1) := by decide +kernel
theorem dX6_react_102 : decode cX6_react 102 = .ok (.getfield 56, 3) := by decide +kernel
theorem dX6_react_105 : decode cX6_react 105 = .ok (.iload 5, 2) := by decide +kernel
theorem dX6_react_107 : decode cX6_react 107 = .ok (.baload, 1) := by decide +kernel
theorem dX6_react_108 : decode cX6_react 108 = .ok (.ifCond .ne 11, 3) := by decide +kernel
theorem dX6_react_111 : decode cX6_react 111 = .ok (.aload_n 0, 1) := by decide +kernel
theorem dX6_react_112 : decode cX6_react 112 = .ok (.iconst 1, 1) := by decide +kernel
theorem dX6_react_113 : decode cX6_react 113 = .ok (.iload 5, 2) := by decide +kernel
theorem dX6_react_115 : decode cX6_react 115 = .ok (.iconst 0, 1) := by decide +kernel
theorem dX6_react_116 : decode cX6_react 116 = .ok (.invokevirtual 176, 3) := by decide +kernel
theorem dX6_react_119 : decode cX6_react 119 = .ok (.return_, 1) := by decide +kernel
theorem dX6_timerAt_0 : decode cX6_timerAt 0 = .ok (.iconst 0, 1) := by decide +kernel
theorem dX6_timerAt_1 : decode cX6_timerAt 1 = .ok (.istore_n 2, 1) := by decide +kernel
theorem dX6_timerAt_2 : decode cX6_timerAt 2 = .ok (.iload_n 2, 1) := by decide +kernel
theorem dX6_timerAt_3 : decode cX6_timerAt 3 = .ok (.aload_n 0, 1) := by decide +kernel
theorem dX6_timerAt_4 : decode cX6_timerAt 4 = .ok (.getfield 187, 3) := by decide +kernel
theorem dX6_timerAt_7 : decode cX6_timerAt 7 = .ok (.if_icmp .ge 21, 3) := by decide +kernel
theorem dX6_timerAt_10 : decode cX6_timerAt 10 = .ok (.aload_n 0, 1) := by decide +kernel
theorem dX6_timerAt_11 : decode cX6_timerAt 11 = .ok (.getfield 80, 3) := by decide +kernel
theorem dX6_timerAt_14 : decode cX6_timerAt 14 = .ok (.iload_n 2, 1) := by decide +kernel
theorem dX6_timerAt_15 : decode cX6_timerAt 15 = .ok (.iaload, 1) := by decide +kernel
theorem dX6_timerAt_16 : decode cX6_timerAt 16 = .ok (.iload_n 1, 1) := by decide +kernel
theorem dX6_timerAt_17 : decode cX6_timerAt 17 = .ok (.if_icmp .ne 5, 3) := by decide +kernel
theorem dX6_timerAt_20 : decode cX6_timerAt 20 = .ok (.iload_n 2, 1) := by decide +kernel
theorem dX6_timerAt_21 : decode cX6_timerAt 21 = .ok (.ireturn, 1) := by decide +kernel
theorem dX6_timerAt_22 : decode cX6_timerAt 22 = .ok (.iinc 2 1, 3) := by decide +kernel
theorem dX6_timerAt_25 : decode cX6_timerAt 25 = .ok (.goto (-23), 3) := by decide +kernel
theorem dX6_timerAt_28 : decode cX6_timerAt 28 = .ok (.iconst (-1), 1) := by decide +kernel
theorem dX6_timerAt_29 : decode cX6_timerAt 29 = .ok (.ireturn, 1) := by decide +kernel
theorem dX6_dropTimer_0 : decode cX6_dropTimer 0 = .ok (.aload_n 0, 1) := by decide +kernel
theorem dX6_dropTimer_1 : decode cX6_dropTimer 1 = .ok (.dup, 1) := by decide +kernel
theorem dX6_dropTimer_2 : decode cX6_dropTimer 2 = .ok (.getfield 187, 3) := by decide +kernel
theorem dX6_dropTimer_5 : decode cX6_dropTimer 5 = .ok (.iconst 1, 1) := by decide +kernel
theorem dX6_dropTimer_6 : decode cX6_dropTimer 6 = .ok (.isub, 1) := by decide +kernel
theorem dX6_dropTimer_7 : decode cX6_dropTimer 7 = .ok (.putfield 187, 3) := by decide +kernel
theorem dX6_dropTimer_10 : decode cX6_dropTimer 10 = .ok (.iload_n 1, 1) := by decide +kernel
theorem dX6_dropTimer_11 : decode cX6_dropTimer 11 = .ok (.istore_n 2, 1) := by decide +kernel
theorem dX6_dropTimer_12 : decode cX6_dropTimer 12 = .ok (.iload_n 2, 1) := by decide +kernel
theorem dX6_dropTimer_13 : decode cX6_dropTimer 13 = .ok (.aload_n 0, 1) := by decide +kernel
theorem dX6_dropTimer_14 : decode cX6_dropTimer 14 = .ok (.getfield 187, 3) := by decide +kernel
theorem dX6_dropTimer_17 : decode cX6_dropTimer 17 = .ok (.if_icmp .ge 121, 3) := by decide +kernel
theorem dX6_dropTimer_20 : decode cX6_dropTimer 20 = .ok (.aload_n 0, 1) := by decide +kernel
theorem dX6_dropTimer_21 : decode cX6_dropTimer 21 = .ok (.getfield 80, 3) := by decide +kernel
theorem dX6_dropTimer_24 : decode cX6_dropTimer 24 = .ok (.iload_n 2, 1) := by decide +kernel
theorem dX6_dropTimer_25 : decode cX6_dropTimer 25 = .ok (.aload_n 0, 1) := by decide +kernel
theorem dX6_dropTimer_26 : decode cX6_dropTimer 26 = .ok (.getfield 80, 3) := by decide +kernel
theorem dX6_dropTimer_29 : decode cX6_dropTimer 29 = .ok (.iload_n 2, 1) := by decide +kernel
theorem dX6_dropTimer_30 : decode cX6_dropTimer 30 = .ok (.iconst 1, 1) := by decide +kernel
theorem dX6_dropTimer_31 : decode cX6_dropTimer 31 = .ok (.iadd, 1) := by decide +kernel
theorem dX6_dropTimer_32 : decode cX6_dropTimer 32 = .ok (.iaload, 1) := by decide +kernel
theorem dX6_dropTimer_33 : decode cX6_dropTimer 33 = .ok (.iastore, 1) := by decide +kernel
theorem dX6_dropTimer_34 : decode cX6_dropTimer 34 = .ok (.aload_n 0, 1) := by decide +kernel
theorem dX6_dropTimer_35 : decode cX6_dropTimer 35 = .ok (.getfield 83, 3) := by decide +kernel
theorem dX6_dropTimer_38 : decode cX6_dropTimer 38 = .ok (.iload_n 2, 1) := by decide +kernel
theorem dX6_dropTimer_39 : decode cX6_dropTimer 39 = .ok (.aload_n 0, 1) := by decide +kernel
theorem dX6_dropTimer_40 : decode cX6_dropTimer 40 = .ok (.getfield 83, 3) := by decide +kernel
theorem dX6_dropTimer_43 : decode cX6_dropTimer 43 = .ok (.iload_n 2, 1) := by decide +kernel
theorem dX6_dropTimer_44 : decode cX6_dropTimer 44 = .ok (.iconst 1, 1) := by decide +kernel
theorem dX6_dropTimer_45 : decode cX6_dropTimer 45 = .ok (.iadd, 1) := by decide +kernel
theorem dX6_dropTimer_46 : decode cX6_dropTimer 46 = .ok (.iaload, 1) := by decide +kernel
theorem dX6_dropTimer_47 : decode cX6_dropTimer 47 = .ok (.iastore, 1) := by decide +kernel
theorem dX6_dropTimer_48 : decode cX6_dropTimer 48 = .ok (.aload_n 0, 1) := by decide +kernel
theorem dX6_dropTimer_49 : decode cX6_dropTimer 49 = .ok (.getfield 86, 3) := by decide +kernel
theorem dX6_dropTimer_52 : decode cX6_dropTimer 52 = .ok (.iload_n 2, 1) := by decide +kernel
theorem dX6_dropTimer_53 : decode cX6_dropTimer 53 = .ok (.aload_n 0, 1) := by decide +kernel
theorem dX6_dropTimer_54 : decode cX6_dropTimer 54 = .ok (.getfield 86, 3) := by decide +kernel
theorem dX6_dropTimer_57 : decode cX6_dropTimer 57 = .ok (.iload_n 2, 1) := by decide +kernel
theorem dX6_dropTimer_58 : decode cX6_dropTimer 58 = .ok (.iconst 1, 1) := by decide +kernel
theorem dX6_dropTimer_59 : decode cX6_dropTimer 59 = .ok (.iadd, 1) := by decide +kernel
theorem dX6_dropTimer_60 : decode cX6_dropTimer 60 = .ok (.iaload, 1) := by decide +kernel
theorem dX6_dropTimer_61 : decode cX6_dropTimer 61 = .ok (.iastore, 1) := by decide +kernel
theorem dX6_dropTimer_62 : decode cX6_dropTimer 62 = .ok (.aload_n 0, 1) := by decide +kernel
theorem dX6_dropTimer_63 : decode cX6_dropTimer 63 = .ok (.getfield 89, 3) := by decide +kernel
theorem dX6_dropTimer_66 : decode cX6_dropTimer 66 = .ok (.iload_n 2, 1) := by decide +kernel
theorem dX6_dropTimer_67 : decode cX6_dropTimer 67 = .ok (.aload_n 0, 1) := by decide +kernel
theorem dX6_dropTimer_68 : decode cX6_dropTimer 68 = .ok (.getfield 89, 3) := by decide +kernel
theorem dX6_dropTimer_71 : decode cX6_dropTimer 71 = .ok (.iload_n 2, 1) := by decide +kernel
theorem dX6_dropTimer_72 : decode cX6_dropTimer 72 = .ok (.iconst 1, 1) := by decide +kernel
theorem dX6_dropTimer_73 : decode cX6_dropTimer 73 = .ok (.iadd, 1) := by decide +kernel
theorem dX6_dropTimer_74 : decode cX6_dropTimer 74 = .ok (.iaload, 1) := by decide +kernel
theorem dX6_dropTimer_75 : decode cX6_dropTimer 75 = .ok (.iastore, 1) := by decide +kernel
theorem dX6_dropTimer_76 : decode cX6_dropTimer 76 = .ok (.aload_n 0, 1) := by decide +kernel
theorem dX6_dropTimer_77 : decode cX6_dropTimer 77 = .ok (.getfield 92, 3) := by decide +kernel
theorem dX6_dropTimer_80 : decode cX6_dropTimer 80 = .ok (.iload_n 2, 1) := by decide +kernel
theorem dX6_dropTimer_81 : decode cX6_dropTimer 81 = .ok (.aload_n 0, 1) := by decide +kernel
theorem dX6_dropTimer_82 : decode cX6_dropTimer 82 = .ok (.getfield 92, 3) := by decide +kernel
theorem dX6_dropTimer_85 : decode cX6_dropTimer 85 = .ok (.iload_n 2, 1) := by decide +kernel
theorem dX6_dropTimer_86 : decode cX6_dropTimer 86 = .ok (.iconst 1, 1) := by decide +kernel
theorem dX6_dropTimer_87 : decode cX6_dropTimer 87 = .ok (.iadd, 1) := by decide +kernel
theorem dX6_dropTimer_88 : decode cX6_dropTimer 88 = .ok (.iaload, 1) := by decide +kernel
theorem dX6_dropTimer_89 : decode cX6_dropTimer 89 = .ok (.iastore, 1) := by decide +kernel
theorem dX6_dropTimer_90 : decode cX6_dropTimer 90 = .ok (.aload_n 0, 1) := by decide +kernel
theorem dX6_dropTimer_91 : decode cX6_dropTimer 91 = .ok (.getfield 95, 3) := by decide +kernel
theorem dX6_dropTimer_94 : decode cX6_dropTimer 94 = .ok (.iload_n 2, 1) := by decide +kernel
theorem dX6_dropTimer_95 : decode cX6_dropTimer 95 = .ok (.aload_n 0, 1) := by decide +kernel
theorem dX6_dropTimer_96 : decode cX6_dropTimer 96 = .ok (.getfield 95, 3) := by decide +kernel
theorem dX6_dropTimer_99 : decode cX6_dropTimer 99 = .ok (.iload_n 2, 1) := by decide +kernel
theorem dX6_dropTimer_100 : decode cX6_dropTimer 100 = .ok (.iconst 1, 1) := by decide +kernel
theorem dX6_dropTimer_101 : decode cX6_dropTimer 101 = .ok (.iadd, 1) := by decide +kernel
theorem dX6_dropTimer_102 : decode cX6_dropTimer 102 = .ok (.iaload, 1) := by decide +kernel
theorem dX6_dropTimer_103 : decode cX6_dropTimer 103 = .ok (.iastore, 1) := by decide +kernel
theorem dX6_dropTimer_104 : decode cX6_dropTimer 104 = .ok (.aload_n 0, 1) := by decide +kernel
theorem dX6_dropTimer_105 : decode cX6_dropTimer 105 = .ok (.getfield 98, 3) := by decide +kernel
theorem dX6_dropTimer_108 : decode cX6_dropTimer 108 = .ok (.iload_n 2, 1) := by decide +kernel
theorem dX6_dropTimer_109 : decode cX6_dropTimer 109 = .ok (.aload_n 0, 1) := by decide +kernel
theorem dX6_dropTimer_110 : decode cX6_dropTimer 110 = .ok (.getfield 98, 3) := by decide +kernel
theorem dX6_dropTimer_113 : decode cX6_dropTimer 113 = .ok (.iload_n 2, 1) := by decide +kernel
theorem dX6_dropTimer_114 : decode cX6_dropTimer 114 = .ok (.iconst 1, 1) := by decide +kernel
theorem dX6_dropTimer_115 : decode cX6_dropTimer 115 = .ok (.iadd, 1) := by decide +kernel
theorem dX6_dropTimer_116 : decode cX6_dropTimer 116 = .ok (.baload, 1) := by decide +kernel
theorem dX6_dropTimer_117 : decode cX6_dropTimer 117 = .ok (.bastore, 1) := by decide +kernel
theorem dX6_dropTimer_118 : decode cX6_dropTimer 118 = .ok (.aload_n 0, 1) := by decide +kernel
theorem dX6_dropTimer_119 : decode cX6_dropTimer 119 = .ok (.getfield 101, 3) := by decide +kernel
theorem dX6_dropTimer_122 : decode cX6_dropTimer 122 = .ok (.iload_n 2, 1) := by decide +kernel
theorem dX6_dropTimer_123 : decode cX6_dropTimer 123 = .ok (.aload_n 0, 1) := by decide +kernel
theorem dX6_dropTimer_124 : decode cX6_dropTimer 124 = .ok (.getfield 101, 3) := by decide +kernel
theorem dX6_dropTimer_127 : decode cX6_dropTimer 127 = .ok (.iload_n 2, 1) := by decide +kernel
theorem dX6_dropTimer_128 : decode cX6_dropTimer 128 = .ok (.iconst 1, 1) := by decide +kernel
theorem dX6_dropTimer_129 : decode cX6_dropTimer 129 = .ok (.iadd, 1) := by decide +kernel
theorem dX6_dropTimer_130 : decode cX6_dropTimer 130 = .ok (.baload, 1) := by decide +kernel
theorem dX6_dropTimer_131 : decode cX6_dropTimer 131 = .ok (.bastore, 1) := by decide +kernel
theorem dX6_dropTimer_132 : decode cX6_dropTimer 132 = .ok (.iinc 2 1, 3) := by decide +kernel
theorem dX6_dropTimer_135 : decode cX6_dropTimer 135 = .ok (.goto (-123), 3) := by decide +kernel
theorem dX6_dropTimer_138 : decode cX6_dropTimer 138 = .ok (.return_, 1) := by decide +kernel
theorem dX6_dueOf_0 : decode cX6_dueOf 0 = .ok (.aload_n 0, 1) := by decide +kernel
theorem dX6_dueOf_1 : decode cX6_dueOf 1 = .ok (.getfield 92, 3) := by decide +kernel
theorem dX6_dueOf_4 : decode cX6_dueOf 4 = .ok (.iload_n 1, 1) := by decide +kernel
theorem dX6_dueOf_5 : decode cX6_dueOf 5 = .ok (.iaload, 1) := by decide +kernel
theorem dX6_dueOf_6 : decode cX6_dueOf 6 = .ok (.iconst 5, 1) := by decide +kernel
theorem dX6_dueOf_7 : decode cX6_dueOf 7 = .ok (.if_icmp .le 17, 3) := by decide +kernel
theorem dX6_dueOf_10 : decode cX6_dueOf 10 = .ok (.aload_n 0, 1) := by decide +kernel
theorem dX6_dueOf_11 : decode cX6_dueOf 11 = .ok (.getfield 89, 3) := by decide +kernel
theorem dX6_dueOf_14 : decode cX6_dueOf 14 = .ok (.iload_n 1, 1) := by decide +kernel
theorem dX6_dueOf_15 : decode cX6_dueOf 15 = .ok (.iaload, 1) := by decide +kernel
theorem dX6_dueOf_16 : decode cX6_dueOf 16 = .ok (.iconst 4, 1) := by decide +kernel
theorem dX6_dueOf_17 : decode cX6_dueOf 17 = .ok (.if_icmp .ge 7, 3) := by decide +kernel
theorem dX6_dueOf_20 : decode cX6_dueOf 20 = .ok (.iconst 4, 1) := by decide +kernel
theorem dX6_dueOf_21 : decode cX6_dueOf 21 = .ok (.goto 9, 3) := by decide +kernel
theorem dX6_dueOf_24 : decode cX6_dueOf 24 = .ok (.aload_n 0, 1) := by decide +kernel
theorem dX6_dueOf_25 : decode cX6_dueOf 25 = .ok (.getfield 89, 3) := by decide +kernel
theorem dX6_dueOf_28 : decode cX6_dueOf 28 = .ok (.iload_n 1, 1) := by decide +kernel
theorem dX6_dueOf_29 : decode cX6_dueOf 29 = .ok (.iaload, 1) := by decide +kernel
theorem dX6_dueOf_30 : decode cX6_dueOf 30 = .ok (.istore_n 2, 1) := by decide +kernel
theorem dX6_dueOf_31 : decode cX6_dueOf 31 = .ok (.aload_n 0, 1) := by decide +kernel
theorem dX6_dueOf_32 : decode cX6_dueOf 32 = .ok (.getfield 190, 3) := by decide +kernel
theorem dX6_dueOf_35 : decode cX6_dueOf 35 = .ok (.iload_n 2, 1) := by decide +kernel
theorem dX6_dueOf_36 : decode cX6_dueOf 36 = .ok (.ifCond .ne 7, 3) := by decide +kernel
theorem dX6_dueOf_39 : decode cX6_dueOf 39 = .ok (.iconst 1, 1) := by decide +kernel
theorem dX6_dueOf_40 : decode cX6_dueOf 40 = .ok (.goto 4, 3) := by decide +kernel
theorem dX6_dueOf_43 : decode cX6_dueOf 43 = .ok (.iload_n 2, 1) := by decide +kernel
theorem dX6_dueOf_44 : decode cX6_dueOf 44 = .ok (.iadd, 1) := by decide +kernel
theorem dX6_dueOf_45 : decode cX6_dueOf 45 = .ok (.ireturn, 1) := by decide +kernel
theorem dX6_addTimer_0 : decode cX6_addTimer 0 = .ok (.aload_n 0, 1) := by decide +kernel
theorem dX6_addTimer_1 : decode cX6_addTimer 1 = .ok (.dup, 1) := by decide +kernel
theorem dX6_addTimer_2 : decode cX6_addTimer 2 = .ok (.getfield 193, 3) := by decide +kernel
theorem dX6_addTimer_5 : decode cX6_addTimer 5 = .ok (.iconst 1, 1) := by decide +kernel
theorem dX6_addTimer_6 : decode cX6_addTimer 6 = .ok (.iadd, 1) := by decide +kernel
theorem dX6_addTimer_7 : decode cX6_addTimer 7 = .ok (.putfield 193, 3) := by decide +kernel
theorem dX6_addTimer_10 : decode cX6_addTimer 10 = .ok (.aload_n 0, 1) := by decide +kernel
theorem dX6_addTimer_11 : decode cX6_addTimer 11 = .ok (.getfield 80, 3) := by decide +kernel
theorem dX6_addTimer_14 : decode cX6_addTimer 14 = .ok (.aload_n 0, 1) := by decide +kernel
theorem dX6_addTimer_15 : decode cX6_addTimer 15 = .ok (.getfield 187, 3) := by decide +kernel
theorem dX6_addTimer_18 : decode cX6_addTimer 18 = .ok (.aload_n 0, 1) := by decide +kernel
theorem dX6_addTimer_19 : decode cX6_addTimer 19 = .ok (.getfield 193, 3) := by decide +kernel
theorem dX6_addTimer_22 : decode cX6_addTimer 22 = .ok (.iastore, 1) := by decide +kernel
theorem dX6_addTimer_23 : decode cX6_addTimer 23 = .ok (.aload_n 0, 1) := by decide +kernel
theorem dX6_addTimer_24 : decode cX6_addTimer 24 = .ok (.getfield 83, 3) := by decide +kernel
theorem dX6_addTimer_27 : decode cX6_addTimer 27 = .ok (.aload_n 0, 1) := by decide +kernel
theorem dX6_addTimer_28 : decode cX6_addTimer 28 = .ok (.getfield 187, 3) := by decide +kernel
theorem dX6_addTimer_31 : decode cX6_addTimer 31 = .ok (.iload_n 1, 1) := by decide +kernel
theorem dX6_addTimer_32 : decode cX6_addTimer 32 = .ok (.iastore, 1) := by decide +kernel
theorem dX6_addTimer_33 : decode cX6_addTimer 33 = .ok (.aload_n 0, 1) := by decide +kernel
theorem dX6_addTimer_34 : decode cX6_addTimer 34 = .ok (.getfield 86, 3) := by decide +kernel
theorem dX6_addTimer_37 : decode cX6_addTimer 37 = .ok (.aload_n 0, 1) := by decide +kernel
theorem dX6_addTimer_38 : decode cX6_addTimer 38 = .ok (.getfield 187, 3) := by decide +kernel
theorem dX6_addTimer_41 : decode cX6_addTimer 41 = .ok (.iload_n 2, 1) := by decide +kernel
theorem dX6_addTimer_42 : decode cX6_addTimer 42 = .ok (.iastore, 1) := by decide +kernel
theorem dX6_addTimer_43 : decode cX6_addTimer 43 = .ok (.aload_n 0, 1) := by decide +kernel
theorem dX6_addTimer_44 : decode cX6_addTimer 44 = .ok (.getfield 89, 3) := by decide +kernel
theorem dX6_addTimer_47 : decode cX6_addTimer 47 = .ok (.aload_n 0, 1) := by decide +kernel
theorem dX6_addTimer_48 : decode cX6_addTimer 48 = .ok (.getfield 187, 3) := by decide +kernel
theorem dX6_addTimer_51 : decode cX6_addTimer 51 = .ok (.iload_n 3, 1) := by decide +kernel
theorem dX6_addTimer_52 : decode cX6_addTimer 52 = .ok (.iastore, 1) := by decide +kernel
theorem dX6_addTimer_53 : decode cX6_addTimer 53 = .ok (.aload_n 0, 1) := by decide +kernel
theorem dX6_addTimer_54 : decode cX6_addTimer 54 = .ok (.getfield 92, 3) := by decide +kernel
theorem dX6_addTimer_57 : decode cX6_addTimer 57 = .ok (.aload_n 0, 1) := by decide +kernel
theorem dX6_addTimer_58 : decode cX6_addTimer 58 = .ok (.getfield 187, 3) := by decide +kernel
theorem dX6_addTimer_61 : decode cX6_addTimer 61 = .ok (.aload_n 0, 1) := by decide +kernel
theorem dX6_addTimer_62 : decode cX6_addTimer 62 = .ok (.getfield 196, 3) := by decide +kernel
theorem dX6_addTimer_65 : decode cX6_addTimer 65 = .ok (.iastore, 1) := by decide +kernel
theorem dX6_addTimer_66 : decode cX6_addTimer 66 = .ok (.aload_n 0, 1) := by decide +kernel
theorem dX6_addTimer_67 : decode cX6_addTimer 67 = .ok (.getfield 98, 3) := by decide +kernel
theorem dX6_addTimer_70 : decode cX6_addTimer 70 = .ok (.aload_n 0, 1) := by decide +kernel
theorem dX6_addTimer_71 : decode cX6_addTimer 71 = .ok (.getfield 187, 3) := by decide +kernel
theorem dX6_addTimer_74 : decode cX6_addTimer 74 = .ok (.iload 4, 2) := by decide +kernel
theorem dX6_addTimer_76 : decode cX6_addTimer 76 = .ok (.bastore, 1) := by decide +kernel
theorem dX6_addTimer_77 : decode cX6_addTimer 77 = .ok (.aload_n 0, 1) := by decide +kernel
theorem dX6_addTimer_78 : decode cX6_addTimer 78 = .ok (.getfield 101, 3) := by decide +kernel
theorem dX6_addTimer_81 : decode cX6_addTimer 81 = .ok (.aload_n 0, 1) := by decide +kernel
theorem dX6_addTimer_82 : decode cX6_addTimer 82 = .ok (.getfield 187, 3) := by decide +kernel
theorem dX6_addTimer_85 : decode cX6_addTimer 85 = .ok (.iconst 0, 1) := by decide +kernel
theorem dX6_addTimer_86 : decode cX6_addTimer 86 = .ok (.bastore, 1) := by decide +kernel
theorem dX6_addTimer_87 : decode cX6_addTimer 87 = .ok (.aload_n 0, 1) := by decide +kernel
theorem dX6_addTimer_88 : decode cX6_addTimer 88 = .ok (.getfield 95, 3) := by decide +kernel
theorem dX6_addTimer_91 : decode cX6_addTimer 91 = .ok (.aload_n 0, 1) := by decide +kernel
theorem dX6_addTimer_92 : decode cX6_addTimer 92 = .ok (.getfield 187, 3) := by decide +kernel
theorem dX6_addTimer_95 : decode cX6_addTimer 95 = .ok (.aload_n 0, 1) := by decide +kernel
theorem dX6_addTimer_96 : decode cX6_addTimer 96 = .ok (.aload_n 0, 1) := by decide +kernel
theorem dX6_addTimer_97 : decode cX6_addTimer 97 = .ok (.getfield 187, 3) := by decide +kernel
theorem dX6_addTimer_100 : decode cX6_addTimer 100 = .ok (.invokevirtual 199, 3) := by decide +kernel
theorem dX6_addTimer_103 : decode cX6_addTimer 103 = .ok (.iastore, 1) := by decide +kernel
theorem dX6_addTimer_104 : decode cX6_addTimer 104 = .ok (.aload_n 0, 1) := by decide +kernel
theorem dX6_addTimer_105 : decode cX6_addTimer 105 = .ok (.dup, 1) := by decide +kernel
theorem dX6_addTimer_106 : decode cX6_addTimer 106 = .ok (.getfield 187, 3) := by decide +kernel
theorem dX6_addTimer_109 : decode cX6_addTimer 109 = .ok (.iconst 1, 1) := by decide +kernel
theorem dX6_addTimer_110 : decode cX6_addTimer 110 = .ok (.iadd, 1) := by decide +kernel
theorem dX6_addTimer_111 : decode cX6_addTimer 111 = .ok (.putfield 187, 3) := by decide +kernel
theorem dX6_addTimer_114 : decode cX6_addTimer 114 = .ok (.return_, 1) := by decide +kernel
theorem dX6_advance_0 : decode cX6_advance 0 = .ok (.aload_n 0, 1) := by decide +kernel
theorem dX6_advance_1 : decode cX6_advance 1 = .ok (.aload_n 0, 1) := by decide +kernel
theorem dX6_advance_2 : decode cX6_advance 2 = .ok (.iload_n 1, 1) := by decide +kernel
theorem dX6_advance_3 : decode cX6_advance 3 = .ok (.iconst 1, 1) := by decide +kernel
theorem dX6_advance_4 : decode cX6_advance 4 = .ok (.bipush 100, 2) := by decide +kernel
theorem dX6_advance_6 : decode cX6_advance 6 = .ok (.invokevirtual 141, 3) := by decide +kernel
theorem dX6_advance_9 : decode cX6_advance 9 = .ok (.ifCond .eq 7, 3) := by decide +kernel
theorem dX6_advance_12 : decode cX6_advance 12 = .ok (.iconst 1, 1) := by decide +kernel
theorem dX6_advance_13 : decode cX6_advance 13 = .ok (.goto 4, 3) := by decide +kernel
theorem dX6_advance_16 : decode cX6_advance 16 = .ok (.iconst 0, 1) := by decide +kernel
theorem dX6_advance_17 : decode cX6_advance 17 = .ok (.putfield 137, 3) := by decide +kernel
theorem dX6_advance_20 : decode cX6_advance 20 = .ok (.aload_n 0, 1) := by decide +kernel
theorem dX6_advance_21 : decode cX6_advance 21 = .ok (.getfield 137, 3) := by decide +kernel
theorem dX6_advance_24 : decode cX6_advance 24 = .ok (.ifCond .eq 5, 3) := by decide +kernel
theorem dX6_advance_27 : decode cX6_advance 27 = .ok (.iconst 0, 1) := by decide +kernel
theorem dX6_advance_28 : decode cX6_advance 28 = .ok (.ireturn, 1) := by decide +kernel
theorem dX6_advance_29 : decode cX6_advance 29 = .ok (.aload_n 0, 1) := by decide +kernel
theorem dX6_advance_30 : decode cX6_advance 30 = .ok (.aload_n 0, 1) := by decide +kernel
theorem dX6_advance_31 : decode cX6_advance 31 = .ok (.getfield 203, 3) := by decide +kernel
theorem dX6_advance_34 : decode cX6_advance 34 = .ok (.ifCond .ne 22, 3) := by decide +kernel
theorem dX6_advance_37 : decode cX6_advance 37 = .ok (.aload_n 0, 1) := by decide +kernel
theorem dX6_advance_38 : decode cX6_advance 38 = .ok (.getfield 190, 3) := by decide +kernel
theorem dX6_advance_41 : decode cX6_advance 41 = .ok (.iload_n 1, 1) := by decide +kernel
theorem dX6_advance_42 : decode cX6_advance 42 = .ok (.iadd, 1) := by decide +kernel
theorem dX6_advance_43 : decode cX6_advance 43 = .ok (.bipush 16, 2) := by decide +kernel
theorem dX6_advance_45 : decode cX6_advance 45 = .ok (.idiv, 1) := by decide +kernel
theorem dX6_advance_46 : decode cX6_advance 46 = .ok (.aload_n 0, 1) := by decide +kernel
theorem dX6_advance_47 : decode cX6_advance 47 = .ok (.getfield 190, 3) := by decide +kernel
theorem dX6_advance_50 : decode cX6_advance 50 = .ok (.bipush 16, 2) := by decide +kernel
theorem dX6_advance_52 : decode cX6_advance 52 = .ok (.idiv, 1) := by decide +kernel
theorem dX6_advance_53 : decode cX6_advance 53 = .ok (.if_icmp .le 7, 3) := by decide +kernel
theorem dX6_advance_56 : decode cX6_advance 56 = .ok (.iconst 1, 1) := by decide +kernel
theorem dX6_advance_57 : decode cX6_advance 57 = .ok (.goto 4, 3) := by decide +kernel
theorem dX6_advance_60 : decode cX6_advance 60 = .ok (.iconst 0, 1) := by decide +kernel
theorem dX6_advance_61 : decode cX6_advance 61 = .ok (.putfield 203, 3) := by decide +kernel
theorem dX6_advance_64 : decode cX6_advance 64 = .ok (.aload_n 0, 1) := by decide +kernel
theorem dX6_advance_65 : decode cX6_advance 65 = .ok (.aload_n 0, 1) := by decide +kernel
theorem dX6_advance_66 : decode cX6_advance 66 = .ok (.getfield 190, 3) := by decide +kernel
theorem dX6_advance_69 : decode cX6_advance 69 = .ok (.iload_n 1, 1) := by decide +kernel
theorem dX6_advance_70 : decode cX6_advance 70 = .ok (.iadd, 1) := by decide +kernel
theorem dX6_advance_71 : decode cX6_advance 71 = .ok (.putfield 190, 3) := by decide +kernel
theorem dX6_advance_74 : decode cX6_advance 74 = .ok (.iconst 1, 1) := by decide +kernel
theorem dX6_advance_75 : decode cX6_advance 75 = .ok (.istore_n 2, 1) := by decide +kernel
theorem dX6_advance_76 : decode cX6_advance 76 = .ok (.iload_n 2, 1) := by decide +kernel
theorem dX6_advance_77 : decode cX6_advance 77 = .ok (.ifCond .eq 117, 3) := by decide +kernel
theorem dX6_advance_80 : decode cX6_advance 80 = .ok (.iconst (-1), 1) := by decide +kernel
theorem dX6_advance_81 : decode cX6_advance 81 = .ok (.istore_n 3, 1) := by decide +kernel
theorem dX6_advance_82 : decode cX6_advance 82 = .ok (.iconst 0, 1) := by decide +kernel
theorem dX6_advance_83 : decode cX6_advance 83 = .ok (.istore 4, 2) := by decide +kernel
theorem dX6_advance_85 : decode cX6_advance 85 = .ok (.iload 4, 2) := by decide +kernel
theorem dX6_advance_87 : decode cX6_advance 87 = .ok (.aload_n 0, 1) := by decide +kernel
theorem dX6_advance_88 : decode cX6_advance 88 = .ok (.getfield 187, 3) := by decide +kernel
theorem dX6_advance_91 : decode cX6_advance 91 = .ok (.if_icmp .ge 56, 3) := by decide +kernel
theorem dX6_advance_94 : decode cX6_advance 94 = .ok (.aload_n 0, 1) := by decide +kernel
theorem dX6_advance_95 : decode cX6_advance 95 = .ok (.getfield 101, 3) := by decide +kernel
theorem dX6_advance_98 : decode cX6_advance 98 = .ok (.iload 4, 2) := by decide +kernel
theorem dX6_advance_100 : decode cX6_advance 100 = .ok (.baload, 1) := by decide +kernel
theorem dX6_advance_101 : decode cX6_advance 101 = .ok (.ifCond .ne 40, 3) := by decide +kernel
theorem dX6_advance_104 : decode cX6_advance 104 = .ok (.aload_n 0, 1) := by decide +kernel
theorem dX6_advance_105 : decode cX6_advance 105 = .ok (.getfield 95, 3) := by decide +kernel
theorem dX6_advance_108 : decode cX6_advance 108 = .ok (.iload 4, 2) := by decide +kernel
theorem dX6_advance_110 : decode cX6_advance 110 = .ok (.iaload, 1) := by decide +kernel
theorem dX6_advance_111 : decode cX6_advance 111 = .ok (.aload_n 0, 1) := by decide +kernel
theorem dX6_advance_112 : decode cX6_advance 112 = .ok (.getfield 190, 3) := by decide +kernel
theorem dX6_advance_115 : decode cX6_advance 115 = .ok (.if_icmp .gt 26, 3) := by decide +kernel
theorem dX6_advance_118 : decode cX6_advance 118 = .ok (.iload_n 3, 1) := by decide +kernel
theorem dX6_advance_119 : decode cX6_advance 119 = .ok (.ifCond .lt 19, 3) := by decide +kernel
theorem dX6_advance_122 : decode cX6_advance 122 = .ok (.aload_n 0, 1) := by decide +kernel
theorem dX6_advance_123 : decode cX6_advance 123 = .ok (.getfield 95, 3) := by decide +kernel
theorem dX6_advance_126 : decode cX6_advance 126 = .ok (.iload 4, 2) := by decide +kernel
theorem dX6_advance_128 : decode cX6_advance 128 = .ok (.iaload, 1) := by decide +kernel
theorem dX6_advance_129 : decode cX6_advance 129 = .ok (.aload_n 0, 1) := by decide +kernel
theorem dX6_advance_130 : decode cX6_advance 130 = .ok (.getfield 95, 3) := by decide +kernel
theorem dX6_advance_133 : decode cX6_advance 133 = .ok (.iload_n 3, 1) := by decide +kernel
theorem dX6_advance_134 : decode cX6_advance 134 = .ok (.iaload, 1) := by decide +kernel
theorem dX6_advance_135 : decode cX6_advance 135 = .ok (.if_icmp .ge 6, 3) := by decide +kernel
theorem dX6_advance_138 : decode cX6_advance 138 = .ok (.iload 4, 2) := by decide +kernel
theorem dX6_advance_140 : decode cX6_advance 140 = .ok (.istore_n 3, 1) := by decide +kernel
theorem dX6_advance_141 : decode cX6_advance 141 = .ok (.iinc 4 1, 3) := by decide +kernel
theorem dX6_advance_144 : decode cX6_advance 144 = .ok (.goto (-59), 3) := by decide +kernel
theorem dX6_advance_147 : decode cX6_advance 147 = .ok (.iload_n 3, 1) := by decide +kernel
theorem dX6_advance_148 : decode cX6_advance 148 = .ok (.ifCond .lt 7, 3) := by decide +kernel
theorem dX6_advance_151 : decode cX6_advance 151 = .ok (.iconst 1, 1) := by decide +kernel
theorem dX6_advance_152 : decode cX6_advance 152 = .ok (.goto 4, 3) := by decide +kernel
theorem dX6_advance_155 : decode cX6_advance 155 = .ok (.iconst 0, 1) := by decide +kernel
theorem dX6_advance_156 : decode cX6_advance 156 = .ok (.istore_n 2, 1) := by decide +kernel
theorem dX6_advance_157 : decode cX6_advance 157 = .ok (.iload_n 2, 1) := by decide +kernel
theorem dX6_advance_158 : decode cX6_advance 158 = .ok (.ifCond .eq 33, 3) := by decide +kernel
theorem dX6_advance_161 : decode cX6_advance 161 = .ok (.aload_n 0, 1) := by decide +kernel
theorem dX6_advance_162 : decode cX6_advance 162 = .ok (.getfield 101, 3) := by decide +kernel
theorem dX6_advance_165 : decode cX6_advance 165 = .ok (.iload_n 3, 1) := by decide +kernel
theorem dX6_advance_166 : decode cX6_advance 166 = .ok (.iconst 1, 1) := by decide +kernel
theorem dX6_advance_167 : decode cX6_advance 167 = .ok (.bastore, 1) := by decide +kernel
theorem dX6_advance_168 : decode cX6_advance 168 = .ok (.aload_n 0, 1) := by decide +kernel
theorem dX6_advance_169 : decode cX6_advance 169 = .ok (.iconst 1, 1) := by decide +kernel
theorem dX6_advance_170 : decode cX6_advance 170 = .ok (.aload_n 0, 1) := by decide +kernel
theorem dX6_advance_171 : decode cX6_advance 171 = .ok (.getfield 83, 3) := by decide +kernel
theorem dX6_advance_174 : decode cX6_advance 174 = .ok (.iload_n 3, 1) := by decide +kernel
theorem dX6_advance_175 : decode cX6_advance 175 = .ok (.iaload, 1) := by decide +kernel
theorem dX6_advance_176 : decode cX6_advance 176 = .ok (.aload_n 0, 1) := by decide +kernel
theorem dX6_advance_177 : decode cX6_advance 177 = .ok (.getfield 86, 3) := by decide +kernel
theorem dX6_advance_180 : decode cX6_advance 180 = .ok (.iload_n 3, 1) := by decide +kernel
theorem dX6_advance_181 : decode cX6_advance 181 = .ok (.iaload, 1) := by decide +kernel
theorem dX6_advance_182 : decode cX6_advance 182 = .ok (.aload_n 0, 1) := by decide +kernel
theorem dX6_advance_183 : decode cX6_advance 183 = .ok (.getfield 80, 3) := by decide +kernel
theorem dX6_advance_186 : decode cX6_advance 186 = .ok (.iload_n 3, 1) := by decide +kernel
theorem dX6_advance_187 : decode cX6_advance 187 = .ok (.iaload, 1) := by decide +kernel
theorem dX6_advance_188 : decode cX6_advance 188 = .ok (.invokevirtual 160, 3) := by decide +kernel
theorem dX6_advance_191 : decode cX6_advance 191 = .ok (.goto (-115), 3) := by decide +kernel
theorem dX6_advance_194 : decode cX6_advance 194 = .ok (.aload_n 0, 1) := by decide +kernel
theorem dX6_advance_195 : decode cX6_advance 195 = .ok (.getfield 190, 3) := by decide +kernel
theorem dX6_advance_198 : decode cX6_advance 198 = .ok (.ireturn, 1) := by decide +kernel
theorem dX6_fail_0 : decode cX6_fail 0 = .ok (.aload_n 0, 1) := by decide +kernel
theorem dX6_fail_1 : decode cX6_fail 1 = .ok (.iconst 1, 1) := by decide +kernel
theorem dX6_fail_2 : decode cX6_fail 2 = .ok (.putfield 207, 3) := by decide +kernel
theorem dX6_fail_5 : decode cX6_fail 5 = .ok (.aload_n 0, 1) := by decide +kernel
theorem dX6_fail_6 : decode cX6_fail 6 = .ok (.iload_n 1, 1) := by decide +kernel
theorem dX6_fail_7 : decode cX6_fail 7 = .ok (.putfield 210, 3) := by decide +kernel
theorem dX6_fail_10 : decode cX6_fail 10 = .ok (.return_, 1) := by decide +kernel
theorem dX6_begin_0 : decode cX6_begin 0 = .ok (.aload_n 0, 1) := by decide +kernel
theorem dX6_begin_1 : decode cX6_begin 1 = .ok (.getfield 116, 3) := by decide +kernel
theorem dX6_begin_4 : decode cX6_begin 4 = .ok (.aload_n 0, 1) := by decide +kernel
theorem dX6_begin_5 : decode cX6_begin 5 = .ok (.getfield 213, 3) := by decide +kernel
theorem dX6_begin_8 : decode cX6_begin 8 = .ok (.iload_n 1, 1) := by decide +kernel
theorem dX6_begin_9 : decode cX6_begin 9 = .ok (.iastore, 1) := by decide +kernel
theorem dX6_begin_10 : decode cX6_begin 10 = .ok (.aload_n 0, 1) := by decide +kernel
theorem dX6_begin_11 : decode cX6_begin 11 = .ok (.getfield 119, 3) := by decide +kernel
theorem dX6_begin_14 : decode cX6_begin 14 = .ok (.aload_n 0, 1) := by decide +kernel
theorem dX6_begin_15 : decode cX6_begin 15 = .ok (.getfield 213, 3) := by decide +kernel
theorem dX6_begin_18 : decode cX6_begin 18 = .ok (.iload_n 2, 1) := by decide +kernel
theorem dX6_begin_19 : decode cX6_begin 19 = .ok (.iastore, 1) := by decide +kernel
theorem dX6_begin_20 : decode cX6_begin 20 = .ok (.aload_n 0, 1) := by decide +kernel
theorem dX6_begin_21 : decode cX6_begin 21 = .ok (.getfield 122, 3) := by decide +kernel
theorem dX6_begin_24 : decode cX6_begin 24 = .ok (.aload_n 0, 1) := by decide +kernel
theorem dX6_begin_25 : decode cX6_begin 25 = .ok (.getfield 213, 3) := by decide +kernel
theorem dX6_begin_28 : decode cX6_begin 28 = .ok (.iconst 0, 1) := by decide +kernel
theorem dX6_begin_29 : decode cX6_begin 29 = .ok (.iastore, 1) := by decide +kernel
theorem dX6_begin_30 : decode cX6_begin 30 = .ok (.aload_n 0, 1) := by decide +kernel
theorem dX6_begin_31 : decode cX6_begin 31 = .ok (.getfield 125, 3) := by decide +kernel
theorem dX6_begin_34 : decode cX6_begin 34 = .ok (.aload_n 0, 1) := by decide +kernel
theorem dX6_begin_35 : decode cX6_begin 35 = .ok (.getfield 213, 3) := by decide +kernel
theorem dX6_begin_38 : decode cX6_begin 38 = .ok (.iconst 0, 1) := by decide +kernel
theorem dX6_begin_39 : decode cX6_begin 39 = .ok (.bastore, 1) := by decide +kernel
theorem dX6_begin_40 : decode cX6_begin 40 = .ok (.aload_n 0, 1) := by decide +kernel
theorem dX6_begin_41 : decode cX6_begin 41 = .ok (.getfield 128, 3) := by decide +kernel
theorem dX6_begin_44 : decode cX6_begin 44 = .ok (.aload_n 0, 1) := by decide +kernel
theorem dX6_begin_45 : decode cX6_begin 45 = .ok (.getfield 213, 3) := by decide +kernel
theorem dX6_begin_48 : decode cX6_begin 48 = .ok (.iconst 0, 1) := by decide +kernel
theorem dX6_begin_49 : decode cX6_begin 49 = .ok (.iastore, 1) := by decide +kernel
theorem dX6_begin_50 : decode cX6_begin 50 = .ok (.aload_n 0, 1) := by decide +kernel
theorem dX6_begin_51 : decode cX6_begin 51 = .ok (.getfield 131, 3) := by decide +kernel
theorem dX6_begin_54 : decode cX6_begin 54 = .ok (.aload_n 0, 1) := by decide +kernel
theorem dX6_begin_55 : decode cX6_begin 55 = .ok (.getfield 213, 3) := by decide +kernel
theorem dX6_begin_58 : decode cX6_begin 58 = .ok (.iload_n 3, 1) := by decide +kernel
theorem dX6_begin_59 : decode cX6_begin 59 = .ok (.iastore, 1) := by decide +kernel
theorem dX6_begin_60 : decode cX6_begin 60 = .ok (.aload_n 0, 1) := by decide +kernel
theorem dX6_begin_61 : decode cX6_begin 61 = .ok (.getfield 134, 3) := by decide +kernel
theorem dX6_begin_64 : decode cX6_begin 64 = .ok (.aload_n 0, 1) := by decide +kernel
theorem dX6_begin_65 : decode cX6_begin 65 = .ok (.getfield 213, 3) := by decide +kernel
theorem dX6_begin_68 : decode cX6_begin 68 = .ok (.iload 4, 2) := by decide +kernel
theorem dX6_begin_70 : decode cX6_begin 70 = .ok (.iastore, 1) := by decide +kernel
theorem dX6_begin_71 : decode cX6_begin 71 = .ok (.aload_n 0, 1) := by decide +kernel
theorem dX6_begin_72 : decode cX6_begin 72 = .ok (.dup, 1) := by decide +kernel
theorem dX6_begin_73 : decode cX6_begin 73 = .ok (.getfield 213, 3) := by decide +kernel
theorem dX6_begin_76 : decode cX6_begin 76 = .ok (.iconst 1, 1) := by decide +kernel
theorem dX6_begin_77 : decode cX6_begin 77 = .ok (.iadd, 1) := by decide +kernel
theorem dX6_begin_78 : decode cX6_begin 78 = .ok (.putfield 213, 3) := by decide +kernel
theorem dX6_begin_81 : decode cX6_begin 81 = .ok (.return_, 1) := by decide +kernel
theorem dX6_nest_0 : decode cX6_nest 0 = .ok (.aload_n 0, 1) := by decide +kernel
theorem dX6_nest_1 : decode cX6_nest 1 = .ok (.getfield 213, 3) := by decide +kernel
theorem dX6_nest_4 : decode cX6_nest 4 = .ok (.bipush 6, 2) := by decide +kernel
theorem dX6_nest_6 : decode cX6_nest 6 = .ok (.if_icmp .eq 12, 3) := by decide +kernel
theorem dX6_nest_9 : decode cX6_nest 9 = .ok (.aload_n 0, 1) := by decide +kernel
theorem dX6_nest_10 : decode cX6_nest 10 = .ok (.getfield 216, 3) := by decide +kernel
theorem dX6_nest_13 : decode cX6_nest 13 = .ok (.bipush 30, 2) := by decide +kernel
theorem dX6_nest_15 : decode cX6_nest 15 = .ok (.if_icmp .ne 9, 3) := by decide +kernel
theorem dX6_nest_18 : decode cX6_nest 18 = .ok (.aload_n 0, 1) := by decide +kernel
theorem dX6_nest_19 : decode cX6_nest 19 = .ok (.iconst (-1), 1) := by decide +kernel
theorem dX6_nest_20 : decode cX6_nest 20 = .ok (.invokevirtual 219, 3) := by decide +kernel
theorem dX6_nest_23 : decode cX6_nest 23 = .ok (.return_, 1) := by decide +kernel
theorem dX6_nest_24 : decode cX6_nest 24 = .ok (.aload_n 0, 1) := by decide +kernel
theorem dX6_nest_25 : decode cX6_nest 25 = .ok (.dup, 1) := by decide +kernel
theorem dX6_nest_26 : decode cX6_nest 26 = .ok (.getfield 216, 3) := by decide +kernel
theorem dX6_nest_29 : decode cX6_nest 29 = .ok (.iconst 1, 1) := by decide +kernel
theorem dX6_nest_30 : decode cX6_nest 30 = .ok (.iadd, 1) := by decide +kernel
theorem dX6_nest_31 : decode cX6_nest 31 = .ok (.putfield 216, 3) := by decide +kernel
theorem dX6_nest_34 : decode cX6_nest 34 = .ok (.aload_n 0, 1) := by decide +kernel
theorem dX6_nest_35 : decode cX6_nest 35 = .ok (.iload_n 1, 1) := by decide +kernel
theorem dX6_nest_36 : decode cX6_nest 36 = .ok (.aload_n 0, 1) := by decide +kernel
theorem dX6_nest_37 : decode cX6_nest 37 = .ok (.getfield 119, 3) := by decide +kernel
theorem dX6_nest_40 : decode cX6_nest 40 = .ok (.aload_n 0, 1) := by decide +kernel
theorem dX6_nest_41 : decode cX6_nest 41 = .ok (.getfield 213, 3) := by decide +kernel
theorem dX6_nest_44 : decode cX6_nest 44 = .ok (.iconst 1, 1) := by decide +kernel
theorem dX6_nest_45 : decode cX6_nest 45 = .ok (.isub, 1) := by decide +kernel
theorem dX6_nest_46 : decode cX6_nest 46 = .ok (.iaload, 1) := by decide +kernel
theorem dX6_nest_47 : decode cX6_nest 47 = .ok (.iload_n 2, 1) := by decide +kernel
theorem dX6_nest_48 : decode cX6_nest 48 = .ok (.iload_n 3, 1) := by decide +kernel
theorem dX6_nest_49 : decode cX6_nest 49 = .ok (.invokevirtual 223, 3) := by decide +kernel
theorem dX6_nest_52 : decode cX6_nest 52 = .ok (.return_, 1) := by decide +kernel
theorem dX6_then_0 : decode cX6_then 0 = .ok (.aload_n 0, 1) := by decide +kernel
theorem dX6_then_1 : decode cX6_then 1 = .ok (.getfield 22, 3) := by decide +kernel
theorem dX6_then_4 : decode cX6_then 4 = .ok (.iload_n 1, 1) := by decide +kernel
theorem dX6_then_5 : decode cX6_then 5 = .ok (.iaload, 1) := by decide +kernel
theorem dX6_then_6 : decode cX6_then 6 = .ok (.ifCond .ne 4, 3) := by decide +kernel
theorem dX6_then_9 : decode cX6_then 9 = .ok (.return_, 1) := by decide +kernel
theorem dX6_then_10 : decode cX6_then 10 = .ok (.aload_n 0, 1) := by decide +kernel
theorem dX6_then_11 : decode cX6_then 11 = .ok (.getfield 167, 3) := by decide +kernel
theorem dX6_then_14 : decode cX6_then 14 = .ok (.bipush 40, 2) := by decide +kernel
theorem dX6_then_16 : decode cX6_then 16 = .ok (.if_icmp .ne 10, 3) := by decide +kernel
theorem dX6_then_19 : decode cX6_then 19 = .ok (.aload_n 0, 1) := by decide +kernel
theorem dX6_then_20 : decode cX6_then 20 = .ok (.bipush (-2), 2) := by decide +kernel
theorem dX6_then_22 : decode cX6_then 22 = .ok (.invokevirtual 219, 3) := by decide +kernel
theorem dX6_then_25 : decode cX6_then 25 = .ok (.return_, 1) := by decide +kernel
theorem dX6_then_26 : decode cX6_then 26 = .ok (.aload_n 0, 1) := by decide +kernel
theorem dX6_then_27 : decode cX6_then 27 = .ok (.getfield 22, 3) := by decide +kernel
theorem dX6_then_30 : decode cX6_then 30 = .ok (.iload_n 1, 1) := by decide +kernel
theorem dX6_then_31 : decode cX6_then 31 = .ok (.iaload, 1) := by decide +kernel
theorem dX6_then_32 : decode cX6_then 32 = .ok (.iconst 1, 1) := by decide +kernel
theorem dX6_then_33 : decode cX6_then 33 = .ok (.isub, 1) := by decide +kernel
theorem dX6_then_34 : decode cX6_then 34 = .ok (.istore_n 3, 1) := by decide +kernel
theorem dX6_then_35 : decode cX6_then 35 = .ok (.aload_n 0, 1) := by decide +kernel
theorem dX6_then_36 : decode cX6_then 36 = .ok (.invokevirtual 226, 3) := by decide +kernel
theorem dX6_then_39 : decode cX6_then 39 = .ok (.istore 4, 2) := by decide +kernel
theorem dX6_then_41 : decode cX6_then 41 = .ok (.aload_n 0, 1) := by decide +kernel
theorem dX6_then_42 : decode cX6_then 42 = .ok (.iload_n 3, 1) := by decide +kernel
theorem dX6_then_43 : decode cX6_then 43 = .ok (.iload_n 2, 1) := by decide +kernel
theorem dX6_then_44 : decode cX6_then 44 = .ok (.bipush 16, 2) := by decide +kernel
theorem dX6_then_46 : decode cX6_then 46 = .ok (.irem, 1) := by decide +kernel
theorem dX6_then_47 : decode cX6_then 47 = .ok (.bipush 9, 2) := by decide +kernel
theorem dX6_then_49 : decode cX6_then 49 = .ok (.if_icmp .le 7, 3) := by decide +kernel
theorem dX6_then_52 : decode cX6_then 52 = .ok (.iconst (-1), 1) := by decide +kernel
theorem dX6_then_53 : decode cX6_then 53 = .ok (.goto 7, 3) := by decide +kernel
theorem dX6_then_56 : decode cX6_then 56 = .ok (.iload_n 2, 1) := by decide +kernel
theorem dX6_then_57 : decode cX6_then 57 = .ok (.bipush 16, 2) := by decide +kernel
theorem dX6_then_59 : decode cX6_then 59 = .ok (.irem, 1) := by decide +kernel
theorem dX6_then_60 : decode cX6_then 60 = .ok (.iload_n 2, 1) := by decide +kernel
theorem dX6_then_61 : decode cX6_then 61 = .ok (.bipush 16, 2) := by decide +kernel
theorem dX6_then_63 : decode cX6_then 63 = .ok (.idiv, 1) := by decide +kernel
theorem dX6_then_64 : decode cX6_then 64 = .ok (.bipush 9, 2) := by decide +kernel
theorem dX6_then_66 : decode cX6_then 66 = .ok (.if_icmp .le 7, 3) := by decide +kernel
theorem dX6_then_69 : decode cX6_then 69 = .ok (.iconst (-1), 1) := by decide +kernel
theorem dX6_then_70 : decode cX6_then 70 = .ok (.goto 7, 3) := by decide +kernel
theorem dX6_then_73 : decode cX6_then 73 = .ok (.iload_n 2, 1) := by decide +kernel
theorem dX6_then_74 : decode cX6_then 74 = .ok (.bipush 16, 2) := by decide +kernel
theorem dX6_then_76 : decode cX6_then 76 = .ok (.idiv, 1) := by decide +kernel
theorem dX6_then_77 : decode cX6_then 77 = .ok (.iload 4, 2) := by decide +kernel
theorem dX6_then_79 : decode cX6_then 79 = .ok (.invokevirtual 230, 3) := by decide +kernel
theorem dX6_then_82 : decode cX6_then 82 = .ok (.aload_n 0, 1) := by decide +kernel
theorem dX6_then_83 : decode cX6_then 83 = .ok (.getfield 22, 3) := by decide +kernel
theorem dX6_then_86 : decode cX6_then 86 = .ok (.iload_n 1, 1) := by decide +kernel
theorem dX6_then_87 : decode cX6_then 87 = .ok (.iload 4, 2) := by decide +kernel
theorem dX6_then_89 : decode cX6_then 89 = .ok (.iconst 1, 1) := by decide +kernel
theorem dX6_then_90 : decode cX6_then 90 = .ok (.iadd, 1) := by decide +kernel
theorem dX6_then_91 : decode cX6_then 91 = .ok (.iastore, 1) := by decide +kernel
theorem dX6_then_92 : decode cX6_then 92 = .ok (.return_, 1) := by decide +kernel
theorem dX6_answer_0 : decode cX6_answer 0 = .ok (.aload_n 0, 1) := by decide +kernel
theorem dX6_answer_1 : decode cX6_answer 1 = .ok (.getfield 213, 3) := by decide +kernel
theorem dX6_answer_4 : decode cX6_answer 4 = .ok (.iconst 1, 1) := by decide +kernel
theorem dX6_answer_5 : decode cX6_answer 5 = .ok (.isub, 1) := by decide +kernel
theorem dX6_answer_6 : decode cX6_answer 6 = .ok (.istore 4, 2) := by decide +kernel
theorem dX6_answer_8 : decode cX6_answer 8 = .ok (.iload_n 2, 1) := by decide +kernel
theorem dX6_answer_9 : decode cX6_answer 9 = .ok (.iconst 2, 1) := by decide +kernel
theorem dX6_answer_10 : decode cX6_answer 10 = .ok (.if_icmp .ne 25, 3) := by decide +kernel
theorem dX6_answer_13 : decode cX6_answer 13 = .ok (.aload_n 0, 1) := by decide +kernel
theorem dX6_answer_14 : decode cX6_answer 14 = .ok (.getfield 22, 3) := by decide +kernel
theorem dX6_answer_17 : decode cX6_answer 17 = .ok (.iload_n 2, 1) := by decide +kernel
theorem dX6_answer_18 : decode cX6_answer 18 = .ok (.iconst 2, 1) := by decide +kernel
theorem dX6_answer_19 : decode cX6_answer 19 = .ok (.if_icmp .ne 7, 3) := by decide +kernel
theorem dX6_answer_22 : decode cX6_answer 22 = .ok (.iload_n 1, 1) := by decide +kernel
theorem dX6_answer_23 : decode cX6_answer 23 = .ok (.goto 4, 3) := by decide +kernel
theorem dX6_answer_26 : decode cX6_answer 26 = .ok (.iconst 0, 1) := by decide +kernel
theorem dX6_answer_27 : decode cX6_answer 27 = .ok (.iaload, 1) := by decide +kernel
theorem dX6_answer_28 : decode cX6_answer 28 = .ok (.ifCond .le 7, 3) := by decide +kernel
theorem dX6_answer_31 : decode cX6_answer 31 = .ok (.iconst 1, 1) := by decide +kernel
theorem dX6_answer_32 : decode cX6_answer 32 = .ok (.goto 4, 3) := by decide +kernel
theorem dX6_answer_35 : decode cX6_answer 35 = .ok (.iconst 0, 1) := by decide +kernel
theorem dX6_answer_36 : decode cX6_answer 36 = .ok (.istore 5, 2) := by decide +kernel
theorem dX6_answer_38 : decode cX6_answer 38 = .ok (.aload_n 0, 1) := by decide +kernel
theorem dX6_answer_39 : decode cX6_answer 39 = .ok (.getfield 125, 3) := by decide +kernel
theorem dX6_answer_42 : decode cX6_answer 42 = .ok (.iload 4, 2) := by decide +kernel
theorem dX6_answer_44 : decode cX6_answer 44 = .ok (.iload 5, 2) := by decide +kernel
theorem dX6_answer_46 : decode cX6_answer 46 = .ok (.bastore, 1) := by decide +kernel
theorem dX6_answer_47 : decode cX6_answer 47 = .ok (.aload_n 0, 1) := by decide +kernel
theorem dX6_answer_48 : decode cX6_answer 48 = .ok (.getfield 128, 3) := by decide +kernel
theorem dX6_answer_51 : decode cX6_answer 51 = .ok (.iload 4, 2) := by decide +kernel
theorem dX6_answer_53 : decode cX6_answer 53 = .ok (.iload 5, 2) := by decide +kernel
theorem dX6_answer_55 : decode cX6_answer 55 = .ok (.ifCond .eq 14, 3) := by decide +kernel
theorem dX6_answer_58 : decode cX6_answer 58 = .ok (.aload_n 0, 1) := by decide +kernel
theorem dX6_answer_59 : decode cX6_answer 59 = .ok (.getfield 22, 3) := by decide +kernel
theorem dX6_answer_62 : decode cX6_answer 62 = .ok (.iload_n 1, 1) := by decide +kernel
theorem dX6_answer_63 : decode cX6_answer 63 = .ok (.iaload, 1) := by decide +kernel
theorem dX6_answer_64 : decode cX6_answer 64 = .ok (.iconst 1, 1) := by decide +kernel
theorem dX6_answer_65 : decode cX6_answer 65 = .ok (.isub, 1) := by decide +kernel
theorem dX6_answer_66 : decode cX6_answer 66 = .ok (.goto 22, 3) := by decide +kernel
theorem dX6_answer_69 : decode cX6_answer 69 = .ok (.iload_n 2, 1) := by decide +kernel
theorem dX6_answer_70 : decode cX6_answer 70 = .ok (.iconst 2, 1) := by decide +kernel
theorem dX6_answer_71 : decode cX6_answer 71 = .ok (.if_icmp .ne 7, 3) := by decide +kernel
theorem dX6_answer_74 : decode cX6_answer 74 = .ok (.iconst 0, 1) := by decide +kernel
theorem dX6_answer_75 : decode cX6_answer 75 = .ok (.goto 13, 3) := by decide +kernel
theorem dX6_answer_78 : decode cX6_answer 78 = .ok (.iload_n 2, 1) := by decide +kernel
theorem dX6_answer_79 : decode cX6_answer 79 = .ok (.iconst 1, 1) := by decide +kernel
theorem dX6_answer_80 : decode cX6_answer 80 = .ok (.if_icmp .ne 7, 3) := by decide +kernel
theorem dX6_answer_83 : decode cX6_answer 83 = .ok (.iload_n 3, 1) := by decide +kernel
theorem dX6_answer_84 : decode cX6_answer 84 = .ok (.goto 4, 3) := by decide +kernel
theorem dX6_answer_87 : decode cX6_answer 87 = .ok (.iload_n 1, 1) := by decide +kernel
theorem dX6_answer_88 : decode cX6_answer 88 = .ok (.iastore, 1) := by decide +kernel
theorem dX6_answer_89 : decode cX6_answer 89 = .ok (.return_, 1) := by decide +kernel
theorem dX6_place_0 : decode cX6_place 0 = .ok (.iload_n 1, 1) := by decide +kernel
theorem dX6_place_1 : decode cX6_place 1 = .ok (.iconst 1, 1) := by decide +kernel
theorem dX6_place_2 : decode cX6_place 2 = .ok (.if_icmp .ne 20, 3) := by decide +kernel
theorem dX6_place_5 : decode cX6_place 5 = .ok (.aload_n 0, 1) := by decide +kernel
theorem dX6_place_6 : decode cX6_place 6 = .ok (.getfield 148, 3) := by decide +kernel
theorem dX6_place_9 : decode cX6_place 9 = .ok (.bipush 40, 2) := by decide +kernel
theorem dX6_place_11 : decode cX6_place 11 = .ok (.if_icmp .lt 7, 3) := by decide +kernel
theorem dX6_place_14 : decode cX6_place 14 = .ok (.iconst 1, 1) := by decide +kernel
theorem dX6_place_15 : decode cX6_place 15 = .ok (.goto 71, 3) := by decide +kernel
theorem dX6_place_18 : decode cX6_place 18 = .ok (.iconst 0, 1) := by decide +kernel
theorem dX6_place_19 : decode cX6_place 19 = .ok (.goto 67, 3) := by decide +kernel
theorem dX6_place_22 : decode cX6_place 22 = .ok (.iload_n 1, 1) := by decide +kernel
theorem dX6_place_23 : decode cX6_place 23 = .ok (.iconst 2, 1) := by decide +kernel
theorem dX6_place_24 : decode cX6_place 24 = .ok (.if_icmp .ne 20, 3) := by decide +kernel
theorem dX6_place_27 : decode cX6_place 27 = .ok (.aload_n 0, 1) := by decide +kernel
theorem dX6_place_28 : decode cX6_place 28 = .ok (.getfield 154, 3) := by decide +kernel
theorem dX6_place_31 : decode cX6_place 31 = .ok (.bipush 60, 2) := by decide +kernel
theorem dX6_place_33 : decode cX6_place 33 = .ok (.if_icmp .lt 7, 3) := by decide +kernel
theorem dX6_place_36 : decode cX6_place 36 = .ok (.iconst 1, 1) := by decide +kernel
theorem dX6_place_37 : decode cX6_place 37 = .ok (.goto 49, 3) := by decide +kernel
theorem dX6_place_40 : decode cX6_place 40 = .ok (.iconst 0, 1) := by decide +kernel
theorem dX6_place_41 : decode cX6_place 41 = .ok (.goto 45, 3) := by decide +kernel
theorem dX6_place_44 : decode cX6_place 44 = .ok (.iload_n 1, 1) := by decide +kernel
theorem dX6_place_45 : decode cX6_place 45 = .ok (.bipush 14, 2) := by decide +kernel
theorem dX6_place_47 : decode cX6_place 47 = .ok (.if_icmp .ne 25, 3) := by decide +kernel
theorem dX6_place_50 : decode cX6_place 50 = .ok (.aload_n 0, 1) := by decide +kernel
theorem dX6_place_51 : decode cX6_place 51 = .ok (.getfield 233, 3) := by decide +kernel
