theorem dX12_init_0 : decode cX12_init 0 = .ok (.aload_n 0, 1) := by decide +kernel
theorem dX12_init_1 : decode cX12_init 1 = .ok (.invokespecial 1, 3) := by decide +kernel
theorem dX12_init_4 : decode cX12_init 4 = .ok (.aload_n 0, 1) := by decide +kernel
theorem dX12_init_5 : decode cX12_init 5 = .ok (.bipush 9, 2) := by decide +kernel
theorem dX12_init_7 : decode cX12_init 7 = .ok (.anewarray 7, 3) := by decide +kernel
theorem dX12_init_10 : decode cX12_init 10 = .ok (.dup, 1) := by decide +kernel
theorem dX12_init_11 : decode cX12_init 11 = .ok (.iconst 0, 1) := by decide +kernel
theorem dX12_init_12 : decode cX12_init 12 = .ok (.ldc 9, 2) := by decide +kernel
theorem dX12_init_14 : decode cX12_init 14 = .ok (.aastore, 1) := by decide +kernel
theorem dX12_init_15 : decode cX12_init 15 = .ok (.dup, 1) := by decide +kernel
theorem dX12_init_16 : decode cX12_init 16 = .ok (.iconst 1, 1) := by decide +kernel
theorem dX12_init_17 : decode cX12_init 17 = .ok (.ldc 11, 2) := by decide +kernel
theorem dX12_init_19 : decode cX12_init 19 = .ok (.aastore, 1) := by decide +kernel
theorem dX12_init_20 : decode cX12_init 20 = .ok (.dup, 1) := by decide +kernel
theorem dX12_init_21 : decode cX12_init 21 = .ok (.iconst 2, 1) := by decide +kernel
theorem dX12_init_22 : decode cX12_init 22 = .ok (.ldc 13, 2) := by decide +kernel
theorem dX12_init_24 : decode cX12_init 24 = .ok (.aastore, 1) := by decide +kernel
theorem dX12_init_25 : decode cX12_init 25 = .ok (.dup, 1) := by decide +kernel
theorem dX12_init_26 : decode cX12_init 26 = .ok (.iconst 3, 1) := by decide +kernel
theorem dX12_init_27 : decode cX12_init 27 = .ok (.ldc 15, 2) := by decide +kernel
theorem dX12_init_29 : decode cX12_init 29 = .ok (.aastore, 1) := by decide +kernel
theorem dX12_init_30 : decode cX12_init 30 = .ok (.dup, 1) := by decide +kernel
theorem dX12_init_31 : decode cX12_init 31 = .ok (.iconst 4, 1) := by decide +kernel
theorem dX12_init_32 : decode cX12_init 32 = .ok (.ldc 17, 2) := by decide +kernel
theorem dX12_init_34 : decode cX12_init 34 = .ok (.aastore, 1) := by decide +kernel
theorem dX12_init_35 : decode cX12_init 35 = .ok (.dup, 1) := by decide +kernel
theorem dX12_init_36 : decode cX12_init 36 = .ok (.iconst 5, 1) := by decide +kernel
theorem dX12_init_37 : decode cX12_init 37 = .ok (.ldc 19, 2) := by decide +kernel
theorem dX12_init_39 : decode cX12_init 39 = .ok (.aastore, 1) := by decide +kernel
theorem dX12_init_40 : decode cX12_init 40 = .ok (.dup, 1) := by decide +kernel
theorem dX12_init_41 : decode cX12_init 41 = .ok (.bipush 6, 2) := by decide +kernel
theorem dX12_init_43 : decode cX12_init 43 = .ok (.ldc 21, 2) := by decide +kernel
theorem dX12_init_45 : decode cX12_init 45 = .ok (.aastore, 1) := by decide +kernel
theorem dX12_init_46 : decode cX12_init 46 = .ok (.dup, 1) := by decide +kernel
theorem dX12_init_47 : decode cX12_init 47 = .ok (.bipush 7, 2) := by decide +kernel
theorem dX12_init_49 : decode cX12_init 49 = .ok (.ldc 23, 2) := by decide +kernel
theorem dX12_init_51 : decode cX12_init 51 = .ok (.aastore, 1) := by decide +kernel
theorem dX12_init_52 : decode cX12_init 52 = .ok (.dup, 1) := by decide +kernel
theorem dX12_init_53 : decode cX12_init 53 = .ok (.bipush 8, 2) := by decide +kernel
theorem dX12_init_55 : decode cX12_init 55 = .ok (.ldc 25, 2) := by decide +kernel
theorem dX12_init_57 : decode cX12_init 57 = .ok (.aastore, 1) := by decide +kernel
theorem dX12_init_58 : decode cX12_init 58 = .ok (.putfield 27, 3) := by decide +kernel
theorem dX12_init_61 : decode cX12_init 61 = .ok (.aload_n 0, 1) := by decide +kernel
theorem dX12_init_62 : decode cX12_init 62 = .ok (.sipush 4000, 3) := by decide +kernel
theorem dX12_init_65 : decode cX12_init 65 = .ok (.newarray .int, 2) := by decide +kernel
theorem dX12_init_67 : decode cX12_init 67 = .ok (.putfield 33, 3) := by decide +kernel
theorem dX12_init_70 : decode cX12_init 70 = .ok (.aload_n 0, 1) := by decide +kernel
theorem dX12_init_71 : decode cX12_init 71 = .ok (.sipush 4000, 3) := by decide +kernel
theorem dX12_init_74 : decode cX12_init 74 = .ok (.newarray .int, 2) := by decide +kernel
theorem dX12_init_76 : decode cX12_init 76 = .ok (.putfield 37, 3) := by decide +kernel
theorem dX12_init_79 : decode cX12_init 79 = .ok (.aload_n 0, 1) := by decide +kernel
theorem dX12_init_80 : decode cX12_init 80 = .ok (.iconst (-1), 1) := by decide +kernel
theorem dX12_init_81 : decode cX12_init 81 = .ok (.putfield 40, 3) := by decide +kernel
theorem dX12_init_84 : decode cX12_init 84 = .ok (.aload_n 0, 1) := by decide +kernel
theorem dX12_init_85 : decode cX12_init 85 = .ok (.bipush 96, 2) := by decide +kernel
theorem dX12_init_87 : decode cX12_init 87 = .ok (.newarray .int, 2) := by decide +kernel
theorem dX12_init_89 : decode cX12_init 89 = .ok (.putfield 44, 3) := by decide +kernel
theorem dX12_init_92 : decode cX12_init 92 = .ok (.aload_n 0, 1) := by decide +kernel
theorem dX12_init_93 : decode cX12_init 93 = .ok (.bipush 8, 2) := by decide +kernel
theorem dX12_init_95 : decode cX12_init 95 = .ok (.newarray .int, 2) := by decide +kernel
theorem dX12_init_97 : decode cX12_init 97 = .ok (.putfield 47, 3) := by decide +kernel
theorem dX12_init_100 : decode cX12_init 100 = .ok (.aload_n 0, 1) := by decide +kernel
theorem dX12_init_101 : decode cX12_init 101 = .ok (.bipush 8, 2) := by decide +kernel
theorem dX12_init_103 : decode cX12_init 103 = .ok (.newarray .int, 2) := by decide +kernel
theorem dX12_init_105 : decode cX12_init 105 = .ok (.putfield 50, 3) := by decide +kernel
theorem dX12_init_108 : decode cX12_init 108 = .ok (.aload_n 0, 1) := by decide +kernel
theorem dX12_init_109 : decode cX12_init 109 = .ok (.bipush 64, 2) := by decide +kernel
theorem dX12_init_111 : decode cX12_init 111 = .ok (.newarray .int, 2) := by decide +kernel
theorem dX12_init_113 : decode cX12_init 113 = .ok (.putfield 52, 3) := by decide +kernel
theorem dX12_init_116 : decode cX12_init 116 = .ok (.aload_n 0, 1) := by decide +kernel
theorem dX12_init_117 : decode cX12_init 117 = .ok (.sipush 1200, 3) := by decide +kernel
theorem dX12_init_120 : decode cX12_init 120 = .ok (.newarray .int, 2) := by decide +kernel
theorem dX12_init_122 : decode cX12_init 122 = .ok (.putfield 54, 3) := by decide +kernel
theorem dX12_init_125 : decode cX12_init 125 = .ok (.aload_n 0, 1) := by decide +kernel
theorem dX12_init_126 : decode cX12_init 126 = .ok (.bipush 100, 2) := by decide +kernel
theorem dX12_init_128 : decode cX12_init 128 = .ok (.newarray .int, 2) := by decide +kernel
theorem dX12_init_130 : decode cX12_init 130 = .ok (.putfield 57, 3) := by decide +kernel
theorem dX12_init_133 : decode cX12_init 133 = .ok (.aload_n 0, 1) := by decide +kernel
theorem dX12_init_134 : decode cX12_init 134 = .ok (.bipush 100, 2) := by decide +kernel
theorem dX12_init_136 : decode cX12_init 136 = .ok (.newarray .int, 2) := by decide +kernel
theorem dX12_init_138 : decode cX12_init 138 = .ok (.putfield 60, 3) := by decide +kernel
theorem dX12_init_141 : decode cX12_init 141 = .ok (.aload_n 0, 1) := by decide +kernel
theorem dX12_init_142 : decode cX12_init 142 = .ok (.bipush 100, 2) := by decide +kernel
theorem dX12_init_144 : decode cX12_init 144 = .ok (.newarray .int, 2) := by decide +kernel
theorem dX12_init_146 : decode cX12_init 146 = .ok (.putfield 63, 3) := by decide +kernel
theorem dX12_init_149 : decode cX12_init 149 = .ok (.aload_n 0, 1) := by decide +kernel
theorem dX12_init_150 : decode cX12_init 150 = .ok (.bipush 100, 2) := by decide +kernel
theorem dX12_init_152 : decode cX12_init 152 = .ok (.newarray .int, 2) := by decide +kernel
theorem dX12_init_154 : decode cX12_init 154 = .ok (.putfield 66, 3) := by decide +kernel
theorem dX12_init_157 : decode cX12_init 157 = .ok (.aload_n 0, 1) := by decide +kernel
theorem dX12_init_158 : decode cX12_init 158 = .ok (.bipush 100, 2) := by decide +kernel
theorem dX12_init_160 : decode cX12_init 160 = .ok (.newarray .int, 2) := by decide +kernel
theorem dX12_init_162 : decode cX12_init 162 = .ok (.putfield 69, 3) := by decide +kernel
theorem dX12_init_165 : decode cX12_init 165 = .ok (.aload_n 0, 1) := by decide +kernel
theorem dX12_init_166 : decode cX12_init 166 = .ok (.bipush 20, 2) := by decide +kernel
theorem dX12_init_168 : decode cX12_init 168 = .ok (.newarray .int, 2) := by decide +kernel
theorem dX12_init_170 : decode cX12_init 170 = .ok (.putfield 72, 3) := by decide +kernel
theorem dX12_init_173 : decode cX12_init 173 = .ok (.aload_n 0, 1) := by decide +kernel
theorem dX12_init_174 : decode cX12_init 174 = .ok (.ldc 75, 2) := by decide +kernel
theorem dX12_init_176 : decode cX12_init 176 = .ok (.newarray .int, 2) := by decide +kernel
theorem dX12_init_178 : decode cX12_init 178 = .ok (.putfield 76, 3) := by decide +kernel
theorem dX12_init_181 : decode cX12_init 181 = .ok (.aload_n 0, 1) := by decide +kernel
theorem dX12_init_182 : decode cX12_init 182 = .ok (.ldc 75, 2) := by decide +kernel
theorem dX12_init_184 : decode cX12_init 184 = .ok (.newarray .int, 2) := by decide +kernel
theorem dX12_init_186 : decode cX12_init 186 = .ok (.putfield 79, 3) := by decide +kernel
theorem dX12_init_189 : decode cX12_init 189 = .ok (.aload_n 0, 1) := by decide +kernel
theorem dX12_init_190 : decode cX12_init 190 = .ok (.ldc 75, 2) := by decide +kernel
theorem dX12_init_192 : decode cX12_init 192 = .ok (.newarray .int, 2) := by decide +kernel
theorem dX12_init_194 : decode cX12_init 194 = .ok (.putfield 82, 3) := by decide +kernel
theorem dX12_init_197 : decode cX12_init 197 = .ok (.aload_n 0, 1) := by decide +kernel
theorem dX12_init_198 : decode cX12_init 198 = .ok (.ldc 75, 2) := by decide +kernel
theorem dX12_init_200 : decode cX12_init 200 = .ok (.newarray .int, 2) := by decide +kernel
theorem dX12_init_202 : decode cX12_init 202 = .ok (.putfield 85, 3) := by decide +kernel
theorem dX12_init_205 : decode cX12_init 205 = .ok (.aload_n 0, 1) := by decide +kernel
theorem dX12_init_206 : decode cX12_init 206 = .ok (.ldc 75, 2) := by decide +kernel
theorem dX12_init_208 : decode cX12_init 208 = .ok (.newarray .int, 2) := by decide +kernel
theorem dX12_init_210 : decode cX12_init 210 = .ok (.putfield 88, 3) := by decide +kernel
theorem dX12_init_213 : decode cX12_init 213 = .ok (.aload_n 0, 1) := by decide +kernel
theorem dX12_init_214 : decode cX12_init 214 = .ok (.ldc 75, 2) := by decide +kernel
theorem dX12_init_216 : decode cX12_init 216 = .ok (.newarray .int, 2) := by decide +kernel
theorem dX12_init_218 : decode cX12_init 218 = .ok (.putfield 91, 3) := by decide +kernel
theorem dX12_init_221 : decode cX12_init 221 = .ok (.aload_n 0, 1) := by decide +kernel
theorem dX12_init_222 : decode cX12_init 222 = .ok (.ldc 75, 2) := by decide +kernel
theorem dX12_init_224 : decode cX12_init 224 = .ok (.newarray .int, 2) := by decide +kernel
theorem dX12_init_226 : decode cX12_init 226 = .ok (.putfield 94, 3) := by decide +kernel
theorem dX12_init_229 : decode cX12_init 229 = .ok (.aload_n 0, 1) := by decide +kernel
theorem dX12_init_230 : decode cX12_init 230 = .ok (.ldc 75, 2) := by decide +kernel
theorem dX12_init_232 : decode cX12_init 232 = .ok (.newarray .int, 2) := by decide +kernel
theorem dX12_init_234 : decode cX12_init 234 = .ok (.putfield 97, 3) := by decide +kernel
theorem dX12_init_237 : decode cX12_init 237 = .ok (.aload_n 0, 1) := by decide +kernel
theorem dX12_init_238 : decode cX12_init 238 = .ok (.ldc 75, 2) := by decide +kernel
theorem dX12_init_240 : decode cX12_init 240 = .ok (.newarray .int, 2) := by decide +kernel
theorem dX12_init_242 : decode cX12_init 242 = .ok (.putfield 100, 3) := by decide +kernel
theorem dX12_init_245 : decode cX12_init 245 = .ok (.aload_n 0, 1) := by decide +kernel
theorem dX12_init_246 : decode cX12_init 246 = .ok (.ldc 75, 2) := by decide +kernel
theorem dX12_init_248 : decode cX12_init 248 = .ok (.newarray .int, 2) := by decide +kernel
theorem dX12_init_250 : decode cX12_init 250 = .ok (.putfield 103, 3) := by decide +kernel
theorem dX12_init_253 : decode cX12_init 253 = .ok (.aload_n 0, 1) := by decide +kernel
theorem dX12_init_254 : decode cX12_init 254 = .ok (.ldc 75, 2) := by decide +kernel
theorem dX12_init_256 : decode cX12_init 256 = .ok (.newarray .int, 2) := by decide +kernel
theorem dX12_init_258 : decode cX12_init 258 = .ok (.putfield 106, 3) := by decide +kernel
theorem dX12_init_261 : decode cX12_init 261 = .ok (.aload_n 0, 1) := by decide +kernel
theorem dX12_init_262 : decode cX12_init 262 = .ok (.bipush 50, 2) := by decide +kernel
theorem dX12_init_264 : decode cX12_init 264 = .ok (.newarray .int, 2) := by decide +kernel
theorem dX12_init_266 : decode cX12_init 266 = .ok (.putfield 109, 3) := by decide +kernel
theorem dX12_init_269 : decode cX12_init 269 = .ok (.aload_n 0, 1) := by decide +kernel
theorem dX12_init_270 : decode cX12_init 270 = .ok (.ldc 112, 2) := by decide +kernel
theorem dX12_init_272 : decode cX12_init 272 = .ok (.newarray .int, 2) := by decide +kernel
theorem dX12_init_274 : decode cX12_init 274 = .ok (.putfield 113, 3) := by decide +kernel
theorem dX12_init_277 : decode cX12_init 277 = .ok (.aload_n 0, 1) := by decide +kernel
theorem dX12_init_278 : decode cX12_init 278 = .ok (.ldc 112, 2) := by decide +kernel
theorem dX12_init_280 : decode cX12_init 280 = .ok (.newarray .int, 2) := by decide +kernel
theorem dX12_init_282 : decode cX12_init 282 = .ok (.putfield 116, 3) := by decide +kernel
theorem dX12_init_285 : decode cX12_init 285 = .ok (.aload_n 0, 1) := by decide +kernel
theorem dX12_init_286 : decode cX12_init 286 = .ok (.ldc 112, 2) := by decide +kernel
theorem dX12_init_288 : decode cX12_init 288 = .ok (.newarray .int, 2) := by decide +kernel
theorem dX12_init_290 : decode cX12_init 290 = .ok (.putfield 119, 3) := by decide +kernel
theorem dX12_init_293 : decode cX12_init 293 = .ok (.aload_n 0, 1) := by decide +kernel
theorem dX12_init_294 : decode cX12_init 294 = .ok (.ldc 112, 2) := by decide +kernel
theorem dX12_init_296 : decode cX12_init 296 = .ok (.newarray .int, 2) := by decide +kernel
theorem dX12_init_298 : decode cX12_init 298 = .ok (.putfield 122, 3) := by decide +kernel
theorem dX12_init_301 : decode cX12_init 301 = .ok (.aload_n 0, 1) := by decide +kernel
theorem dX12_init_302 : decode cX12_init 302 = .ok (.iconst 1, 1) := by decide +kernel
theorem dX12_init_303 : decode cX12_init 303 = .ok (.putfield 125, 3) := by decide +kernel
theorem dX12_init_306 : decode cX12_init 306 = .ok (.aload_n 0, 1) := by decide +kernel
theorem dX12_init_307 : decode cX12_init 307 = .ok (.sipush 21000, 3) := by decide +kernel
theorem dX12_init_310 : decode cX12_init 310 = .ok (.newarray .int, 2) := by decide +kernel
theorem dX12_init_312 : decode cX12_init 312 = .ok (.putfield 128, 3) := by decide +kernel
theorem dX12_init_315 : decode cX12_init 315 = .ok (.aload_n 0, 1) := by decide +kernel
theorem dX12_init_316 : decode cX12_init 316 = .ok (.sipush 21000, 3) := by decide +kernel
theorem dX12_init_319 : decode cX12_init 319 = .ok (.newarray .int, 2) := by decide +kernel
theorem dX12_init_321 : decode cX12_init 321 = .ok (.putfield 131, 3) := by decide +kernel
theorem dX12_init_324 : decode cX12_init 324 = .ok (.aload_n 0, 1) := by decide +kernel
theorem dX12_init_325 : decode cX12_init 325 = .ok (.sipush 4000, 3) := by decide +kernel
theorem dX12_init_328 : decode cX12_init 328 = .ok (.newarray .int, 2) := by decide +kernel
theorem dX12_init_330 : decode cX12_init 330 = .ok (.putfield 134, 3) := by decide +kernel
theorem dX12_init_333 : decode cX12_init 333 = .ok (.aload_n 0, 1) := by decide +kernel
theorem dX12_init_334 : decode cX12_init 334 = .ok (.sipush 5000, 3) := by decide +kernel
theorem dX12_init_337 : decode cX12_init 337 = .ok (.putfield 137, 3) := by decide +kernel
theorem dX12_init_340 : decode cX12_init 340 = .ok (.aload_n 0, 1) := by decide +kernel
theorem dX12_init_341 : decode cX12_init 341 = .ok (.sipush 3000, 3) := by decide +kernel
theorem dX12_init_344 : decode cX12_init 344 = .ok (.newarray .int, 2) := by decide +kernel
theorem dX12_init_346 : decode cX12_init 346 = .ok (.putfield 140, 3) := by decide +kernel
theorem dX12_init_349 : decode cX12_init 349 = .ok (.aload_n 0, 1) := by decide +kernel
theorem dX12_init_350 : decode cX12_init 350 = .ok (.bipush 7, 2) := by decide +kernel
theorem dX12_init_352 : decode cX12_init 352 = .ok (.invokevirtual 143, 3) := by decide +kernel
theorem dX12_init_355 : decode cX12_init 355 = .ok (.return_, 1) := by decide +kernel
theorem dX12_thrown_0 : decode cX12_thrown 0 = .ok (.aload_n 0, 1) := by decide +kernel
theorem dX12_thrown_1 : decode cX12_thrown 1 = .ok (.getfield 147, 3) := by decide +kernel
theorem dX12_thrown_4 : decode cX12_thrown 4 = .ok (.ireturn, 1) := by decide +kernel
theorem dX12_fail_0 : decode cX12_fail 0 = .ok (.aload_n 0, 1) := by decide +kernel
theorem dX12_fail_1 : decode cX12_fail 1 = .ok (.iload_n 1, 1) := by decide +kernel
theorem dX12_fail_2 : decode cX12_fail 2 = .ok (.putfield 147, 3) := by decide +kernel
theorem dX12_fail_5 : decode cX12_fail 5 = .ok (.iconst 0, 1) := by decide +kernel
theorem dX12_fail_6 : decode cX12_fail 6 = .ok (.ireturn, 1) := by decide +kernel
theorem dX12_wrong_0 : decode cX12_wrong 0 = .ok (.aload_n 0, 1) := by decide +kernel
theorem dX12_wrong_1 : decode cX12_wrong 1 = .ok (.getfield 150, 3) := by decide +kernel
theorem dX12_wrong_4 : decode cX12_wrong 4 = .ok (.ifCond .eq 4, 3) := by decide +kernel
theorem dX12_wrong_7 : decode cX12_wrong 7 = .ok (.return_, 1) := by decide +kernel
theorem dX12_wrong_8 : decode cX12_wrong 8 = .ok (.aload_n 0, 1) := by decide +kernel
theorem dX12_wrong_9 : decode cX12_wrong 9 = .ok (.iload_n 1, 1) := by decide +kernel
theorem dX12_wrong_10 : decode cX12_wrong 10 = .ok (.putfield 150, 3) := by decide +kernel
theorem dX12_wrong_13 : decode cX12_wrong 13 = .ok (.aload_n 0, 1) := by decide +kernel
theorem dX12_wrong_14 : decode cX12_wrong 14 = .ok (.iload_n 2, 1) := by decide +kernel
theorem dX12_wrong_15 : decode cX12_wrong 15 = .ok (.putfield 153, 3) := by decide +kernel
theorem dX12_wrong_18 : decode cX12_wrong 18 = .ok (.return_, 1) := by decide +kernel
theorem dX12_newSort_0 : decode cX12_newSort 0 = .ok (.iconst 0, 1) := by decide +kernel
theorem dX12_newSort_1 : decode cX12_newSort 1 = .ok (.istore_n 2, 1) := by decide +kernel
theorem dX12_newSort_2 : decode cX12_newSort 2 = .ok (.iload_n 2, 1) := by decide +kernel
theorem dX12_newSort_3 : decode cX12_newSort 3 = .ok (.aload_n 1, 1) := by decide +kernel
theorem dX12_newSort_4 : decode cX12_newSort 4 = .ok (.invokevirtual 156, 3) := by decide +kernel
theorem dX12_newSort_7 : decode cX12_newSort 7 = .ok (.if_icmp .ge 28, 3) := by decide +kernel
theorem dX12_newSort_10 : decode cX12_newSort 10 = .ok (.aload_n 0, 1) := by decide +kernel
theorem dX12_newSort_11 : decode cX12_newSort 11 = .ok (.getfield 44, 3) := by decide +kernel
theorem dX12_newSort_14 : decode cX12_newSort 14 = .ok (.bipush 12, 2) := by decide +kernel
theorem dX12_newSort_16 : decode cX12_newSort 16 = .ok (.aload_n 0, 1) := by decide +kernel
theorem dX12_newSort_17 : decode cX12_newSort 17 = .ok (.getfield 160, 3) := by decide +kernel
theorem dX12_newSort_20 : decode cX12_newSort 20 = .ok (.imul, 1) := by decide +kernel
theorem dX12_newSort_21 : decode cX12_newSort 21 = .ok (.iload_n 2, 1) := by decide +kernel
theorem dX12_newSort_22 : decode cX12_newSort 22 = .ok (.iadd, 1) := by decide +kernel
theorem dX12_newSort_23 : decode cX12_newSort 23 = .ok (.aload_n 1, 1) := by decide +kernel
theorem dX12_newSort_24 : decode cX12_newSort 24 = .ok (.iload_n 2, 1) := by decide +kernel
theorem dX12_newSort_25 : decode cX12_newSort 25 = .ok (.invokevirtual 163, 3) := by decide +kernel
theorem dX12_newSort_28 : decode cX12_newSort 28 = .ok (.iastore, 1) := by decide +kernel
theorem dX12_newSort_29 : decode cX12_newSort 29 = .ok (.iinc 2 1, 3) := by decide +kernel
theorem dX12_newSort_32 : decode cX12_newSort 32 = .ok (.goto (-30), 3) := by decide +kernel
theorem dX12_newSort_35 : decode cX12_newSort 35 = .ok (.aload_n 0, 1) := by decide +kernel
theorem dX12_newSort_36 : decode cX12_newSort 36 = .ok (.getfield 47, 3) := by decide +kernel
theorem dX12_newSort_39 : decode cX12_newSort 39 = .ok (.aload_n 0, 1) := by decide +kernel
theorem dX12_newSort_40 : decode cX12_newSort 40 = .ok (.getfield 160, 3) := by decide +kernel
theorem dX12_newSort_43 : decode cX12_newSort 43 = .ok (.aload_n 1, 1) := by decide +kernel
theorem dX12_newSort_44 : decode cX12_newSort 44 = .ok (.invokevirtual 156, 3) := by decide +kernel
theorem dX12_newSort_47 : decode cX12_newSort 47 = .ok (.iastore, 1) := by decide +kernel
theorem dX12_newSort_48 : decode cX12_newSort 48 = .ok (.aload_n 0, 1) := by decide +kernel
theorem dX12_newSort_49 : decode cX12_newSort 49 = .ok (.getfield 50, 3) := by decide +kernel
theorem dX12_newSort_52 : decode cX12_newSort 52 = .ok (.aload_n 0, 1) := by decide +kernel
theorem dX12_newSort_53 : decode cX12_newSort 53 = .ok (.getfield 160, 3) := by decide +kernel
theorem dX12_newSort_56 : decode cX12_newSort 56 = .ok (.iconst (-1), 1) := by decide +kernel
theorem dX12_newSort_57 : decode cX12_newSort 57 = .ok (.iastore, 1) := by decide +kernel
theorem dX12_newSort_58 : decode cX12_newSort 58 = .ok (.aload_n 0, 1) := by decide +kernel
theorem dX12_newSort_59 : decode cX12_newSort 59 = .ok (.getfield 76, 3) := by decide +kernel
theorem dX12_newSort_62 : decode cX12_newSort 62 = .ok (.aload_n 0, 1) := by decide +kernel
theorem dX12_newSort_63 : decode cX12_newSort 63 = .ok (.getfield 160, 3) := by decide +kernel
theorem dX12_newSort_66 : decode cX12_newSort 66 = .ok (.iconst 3, 1) := by decide +kernel
theorem dX12_newSort_67 : decode cX12_newSort 67 = .ok (.iastore, 1) := by decide +kernel
theorem dX12_newSort_68 : decode cX12_newSort 68 = .ok (.aload_n 0, 1) := by decide +kernel
theorem dX12_newSort_69 : decode cX12_newSort 69 = .ok (.getfield 79, 3) := by decide +kernel
theorem dX12_newSort_72 : decode cX12_newSort 72 = .ok (.aload_n 0, 1) := by decide +kernel
theorem dX12_newSort_73 : decode cX12_newSort 73 = .ok (.getfield 160, 3) := by decide +kernel
theorem dX12_newSort_76 : decode cX12_newSort 76 = .ok (.aload_n 0, 1) := by decide +kernel
theorem dX12_newSort_77 : decode cX12_newSort 77 = .ok (.getfield 160, 3) := by decide +kernel
theorem dX12_newSort_80 : decode cX12_newSort 80 = .ok (.iastore, 1) := by decide +kernel
theorem dX12_newSort_81 : decode cX12_newSort 81 = .ok (.aload_n 0, 1) := by decide +kernel
theorem dX12_newSort_82 : decode cX12_newSort 82 = .ok (.dup, 1) := by decide +kernel
theorem dX12_newSort_83 : decode cX12_newSort 83 = .ok (.getfield 160, 3) := by decide +kernel
theorem dX12_newSort_86 : decode cX12_newSort 86 = .ok (.iconst 1, 1) := by decide +kernel
theorem dX12_newSort_87 : decode cX12_newSort 87 = .ok (.iadd, 1) := by decide +kernel
theorem dX12_newSort_88 : decode cX12_newSort 88 = .ok (.putfield 160, 3) := by decide +kernel
theorem dX12_newSort_91 : decode cX12_newSort 91 = .ok (.aload_n 0, 1) := by decide +kernel
theorem dX12_newSort_92 : decode cX12_newSort 92 = .ok (.getfield 160, 3) := by decide +kernel
theorem dX12_newSort_95 : decode cX12_newSort 95 = .ok (.iconst 1, 1) := by decide +kernel
theorem dX12_newSort_96 : decode cX12_newSort 96 = .ok (.isub, 1) := by decide +kernel
theorem dX12_newSort_97 : decode cX12_newSort 97 = .ok (.ireturn, 1) := by decide +kernel
theorem dX12_table_0 : decode cX12_table 0 = .ok (.aload_n 0, 1) := by decide +kernel
theorem dX12_table_1 : decode cX12_table 1 = .ok (.iconst 0, 1) := by decide +kernel
theorem dX12_table_2 : decode cX12_table 2 = .ok (.putfield 160, 3) := by decide +kernel
theorem dX12_table_5 : decode cX12_table 5 = .ok (.iconst 0, 1) := by decide +kernel
theorem dX12_table_6 : decode cX12_table 6 = .ok (.istore_n 2, 1) := by decide +kernel
theorem dX12_table_7 : decode cX12_table 7 = .ok (.iload_n 2, 1) := by decide +kernel
theorem dX12_table_8 : decode cX12_table 8 = .ok (.bipush 64, 2) := by decide +kernel
theorem dX12_table_10 : decode cX12_table 10 = .ok (.if_icmp .ge 16, 3) := by decide +kernel
theorem dX12_table_13 : decode cX12_table 13 = .ok (.aload_n 0, 1) := by decide +kernel
theorem dX12_table_14 : decode cX12_table 14 = .ok (.getfield 52, 3) := by decide +kernel
theorem dX12_table_17 : decode cX12_table 17 = .ok (.iload_n 2, 1) := by decide +kernel
theorem dX12_table_18 : decode cX12_table 18 = .ok (.iconst (-1), 1) := by decide +kernel
theorem dX12_table_19 : decode cX12_table 19 = .ok (.iastore, 1) := by decide +kernel
theorem dX12_table_20 : decode cX12_table 20 = .ok (.iinc 2 1, 3) := by decide +kernel
theorem dX12_table_23 : decode cX12_table 23 = .ok (.goto (-16), 3) := by decide +kernel
theorem dX12_table_26 : decode cX12_table 26 = .ok (.iconst 0, 1) := by decide +kernel
theorem dX12_table_27 : decode cX12_table 27 = .ok (.istore_n 2, 1) := by decide +kernel
theorem dX12_table_28 : decode cX12_table 28 = .ok (.iload_n 2, 1) := by decide +kernel
theorem dX12_table_29 : decode cX12_table 29 = .ok (.bipush 8, 2) := by decide +kernel
theorem dX12_table_31 : decode cX12_table 31 = .ok (.if_icmp .ge 16, 3) := by decide +kernel
theorem dX12_table_34 : decode cX12_table 34 = .ok (.aload_n 0, 1) := by decide +kernel
theorem dX12_table_35 : decode cX12_table 35 = .ok (.getfield 50, 3) := by decide +kernel
theorem dX12_table_38 : decode cX12_table 38 = .ok (.iload_n 2, 1) := by decide +kernel
theorem dX12_table_39 : decode cX12_table 39 = .ok (.iconst (-1), 1) := by decide +kernel
theorem dX12_table_40 : decode cX12_table 40 = .ok (.iastore, 1) := by decide +kernel
theorem dX12_table_41 : decode cX12_table 41 = .ok (.iinc 2 1, 3) := by decide +kernel
theorem dX12_table_44 : decode cX12_table 44 = .ok (.goto (-16), 3) := by decide +kernel
theorem dX12_table_47 : decode cX12_table 47 = .ok (.aload_n 0, 1) := by decide +kernel
theorem dX12_table_48 : decode cX12_table 48 = .ok (.iconst 0, 1) := by decide +kernel
theorem dX12_table_49 : decode cX12_table 49 = .ok (.putfield 167, 3) := by decide +kernel
theorem dX12_table_52 : decode cX12_table 52 = .ok (.aload_n 0, 1) := by decide +kernel
theorem dX12_table_53 : decode cX12_table 53 = .ok (.iconst 0, 1) := by decide +kernel
theorem dX12_table_54 : decode cX12_table 54 = .ok (.putfield 170, 3) := by decide +kernel
theorem dX12_table_57 : decode cX12_table 57 = .ok (.aload_n 0, 1) := by decide +kernel
theorem dX12_table_58 : decode cX12_table 58 = .ok (.bipush 8, 2) := by decide +kernel
theorem dX12_table_60 : decode cX12_table 60 = .ok (.putfield 173, 3) := by decide +kernel
theorem dX12_table_63 : decode cX12_table 63 = .ok (.iload_n 1, 1) := by decide +kernel
theorem dX12_table_64 : decode cX12_table 64 = .ok (.bipush 8, 2) := by decide +kernel
theorem dX12_table_66 : decode cX12_table 66 = .ok (.if_icmp .ne 4, 3) := by decide +kernel
theorem dX12_table_69 : decode cX12_table 69 = .ok (.return_, 1) := by decide +kernel
theorem dX12_table_70 : decode cX12_table 70 = .ok (.aload_n 0, 1) := by decide +kernel
theorem dX12_table_71 : decode cX12_table 71 = .ok (.ldc 176, 2) := by decide +kernel
theorem dX12_table_73 : decode cX12_table 73 = .ok (.invokevirtual 178, 3) := by decide +kernel
theorem dX12_table_76 : decode cX12_table 76 = .ok (.istore_n 2, 1) := by decide +kernel
theorem dX12_table_77 : decode cX12_table 77 = .ok (.aload_n 0, 1) := by decide +kernel
theorem dX12_table_78 : decode cX12_table 78 = .ok (.ldc 182, 2) := by decide +kernel
theorem dX12_table_80 : decode cX12_table 80 = .ok (.invokevirtual 178, 3) := by decide +kernel
theorem dX12_table_83 : decode cX12_table 83 = .ok (.istore_n 3, 1) := by decide +kernel
theorem dX12_table_84 : decode cX12_table 84 = .ok (.aload_n 0, 1) := by decide +kernel
theorem dX12_table_85 : decode cX12_table 85 = .ok (.getfield 50, 3) := by decide +kernel
theorem dX12_table_88 : decode cX12_table 88 = .ok (.iload_n 2, 1) := by decide +kernel
theorem dX12_table_89 : decode cX12_table 89 = .ok (.iload_n 3, 1) := by decide +kernel
theorem dX12_table_90 : decode cX12_table 90 = .ok (.iastore, 1) := by decide +kernel
theorem dX12_table_91 : decode cX12_table 91 = .ok (.aload_n 0, 1) := by decide +kernel
theorem dX12_table_92 : decode cX12_table 92 = .ok (.getfield 52, 3) := by decide +kernel
theorem dX12_table_95 : decode cX12_table 95 = .ok (.bipush 8, 2) := by decide +kernel
theorem dX12_table_97 : decode cX12_table 97 = .ok (.iload_n 2, 1) := by decide +kernel
theorem dX12_table_98 : decode cX12_table 98 = .ok (.imul, 1) := by decide +kernel
theorem dX12_table_99 : decode cX12_table 99 = .ok (.iload_n 2, 1) := by decide +kernel
theorem dX12_table_100 : decode cX12_table 100 = .ok (.iadd, 1) := by decide +kernel
theorem dX12_table_101 : decode cX12_table 101 = .ok (.iload_n 2, 1) := by decide +kernel
theorem dX12_table_102 : decode cX12_table 102 = .ok (.iastore, 1) := by decide +kernel
theorem dX12_table_103 : decode cX12_table 103 = .ok (.iload_n 1, 1) := by decide +kernel
theorem dX12_table_104 : decode cX12_table 104 = .ok (.iconst 1, 1) := by decide +kernel
theorem dX12_table_105 : decode cX12_table 105 = .ok (.iand, 1) := by decide +kernel
theorem dX12_table_106 : decode cX12_table 106 = .ok (.ifCond .eq 15, 3) := by decide +kernel
theorem dX12_table_109 : decode cX12_table 109 = .ok (.aload_n 0, 1) := by decide +kernel
theorem dX12_table_110 : decode cX12_table 110 = .ok (.getfield 52, 3) := by decide +kernel
theorem dX12_table_113 : decode cX12_table 113 = .ok (.bipush 8, 2) := by decide +kernel
theorem dX12_table_115 : decode cX12_table 115 = .ok (.iload_n 3, 1) := by decide +kernel
theorem dX12_table_116 : decode cX12_table 116 = .ok (.imul, 1) := by decide +kernel
theorem dX12_table_117 : decode cX12_table 117 = .ok (.iload_n 2, 1) := by decide +kernel
theorem dX12_table_118 : decode cX12_table 118 = .ok (.iadd, 1) := by decide +kernel
theorem dX12_table_119 : decode cX12_table 119 = .ok (.iload_n 2, 1) := by decide +kernel
theorem dX12_table_120 : decode cX12_table 120 = .ok (.iastore, 1) := by decide +kernel
theorem dX12_table_121 : decode cX12_table 121 = .ok (.iload_n 1, 1) := by decide +kernel
theorem dX12_table_122 : decode cX12_table 122 = .ok (.iconst 2, 1) := by decide +kernel
theorem dX12_table_123 : decode cX12_table 123 = .ok (.iand, 1) := by decide +kernel
theorem dX12_table_124 : decode cX12_table 124 = .ok (.ifCond .eq 15, 3) := by decide +kernel
theorem dX12_table_127 : decode cX12_table 127 = .ok (.aload_n 0, 1) := by decide +kernel
theorem dX12_table_128 : decode cX12_table 128 = .ok (.getfield 52, 3) := by decide +kernel
theorem dX12_table_131 : decode cX12_table 131 = .ok (.bipush 8, 2) := by decide +kernel
theorem dX12_table_133 : decode cX12_table 133 = .ok (.iload_n 3, 1) := by decide +kernel
theorem dX12_table_134 : decode cX12_table 134 = .ok (.imul, 1) := by decide +kernel
theorem dX12_table_135 : decode cX12_table 135 = .ok (.iload_n 3, 1) := by decide +kernel
theorem dX12_table_136 : decode cX12_table 136 = .ok (.iadd, 1) := by decide +kernel
theorem dX12_table_137 : decode cX12_table 137 = .ok (.iload_n 3, 1) := by decide +kernel
theorem dX12_table_138 : decode cX12_table 138 = .ok (.iastore, 1) := by decide +kernel
theorem dX12_table_139 : decode cX12_table 139 = .ok (.iload_n 1, 1) := by decide +kernel
theorem dX12_table_140 : decode cX12_table 140 = .ok (.iconst 4, 1) := by decide +kernel
theorem dX12_table_141 : decode cX12_table 141 = .ok (.iand, 1) := by decide +kernel
theorem dX12_table_142 : decode cX12_table 142 = .ok (.ifCond .eq 15, 3) := by decide +kernel
theorem dX12_table_145 : decode cX12_table 145 = .ok (.aload_n 0, 1) := by decide +kernel
theorem dX12_table_146 : decode cX12_table 146 = .ok (.getfield 52, 3) := by decide +kernel
theorem dX12_table_149 : decode cX12_table 149 = .ok (.bipush 8, 2) := by decide +kernel
theorem dX12_table_151 : decode cX12_table 151 = .ok (.iload_n 2, 1) := by decide +kernel
theorem dX12_table_152 : decode cX12_table 152 = .ok (.imul, 1) := by decide +kernel
theorem dX12_table_153 : decode cX12_table 153 = .ok (.iload_n 3, 1) := by decide +kernel
theorem dX12_table_154 : decode cX12_table 154 = .ok (.iadd, 1) := by decide +kernel
theorem dX12_table_155 : decode cX12_table 155 = .ok (.iload_n 3, 1) := by decide +kernel
theorem dX12_table_156 : decode cX12_table 156 = .ok (.iastore, 1) := by decide +kernel
theorem dX12_table_157 : decode cX12_table 157 = .ok (.return_, 1) := by decide +kernel
theorem dX12_feed_0 : decode cX12_feed 0 = .ok (.aload_n 0, 1) := by decide +kernel
theorem dX12_feed_1 : decode cX12_feed 1 = .ok (.iconst 0, 1) := by decide +kernel
theorem dX12_feed_2 : decode cX12_feed 2 = .ok (.putfield 147, 3) := by decide +kernel
theorem dX12_feed_5 : decode cX12_feed 5 = .ok (.aload_n 0, 1) := by decide +kernel
theorem dX12_feed_6 : decode cX12_feed 6 = .ok (.getfield 183, 3) := by decide +kernel
theorem dX12_feed_9 : decode cX12_feed 9 = .ok (.bipush 20, 2) := by decide +kernel
theorem dX12_feed_11 : decode cX12_feed 11 = .ok (.iadd, 1) := by decide +kernel
theorem dX12_feed_12 : decode cX12_feed 12 = .ok (.sipush 4000, 3) := by decide +kernel
theorem dX12_feed_15 : decode cX12_feed 15 = .ok (.if_icmp .le 5, 3) := by decide +kernel
theorem dX12_feed_18 : decode cX12_feed 18 = .ok (.iconst (-1), 1) := by decide +kernel
theorem dX12_feed_19 : decode cX12_feed 19 = .ok (.ireturn, 1) := by decide +kernel
theorem dX12_feed_20 : decode cX12_feed 20 = .ok (.iconst 0, 1) := by decide +kernel
theorem dX12_feed_21 : decode cX12_feed 21 = .ok (.istore 6, 2) := by decide +kernel
theorem dX12_feed_23 : decode cX12_feed 23 = .ok (.iload 6, 2) := by decide +kernel
theorem dX12_feed_25 : decode cX12_feed 25 = .ok (.bipush 20, 2) := by decide +kernel
theorem dX12_feed_27 : decode cX12_feed 27 = .ok (.if_icmp .ge 93, 3) := by decide +kernel
theorem dX12_feed_30 : decode cX12_feed 30 = .ok (.iload 6, 2) := by decide +kernel
theorem dX12_feed_32 : decode cX12_feed 32 = .ok (.iconst 4, 1) := by decide +kernel
theorem dX12_feed_33 : decode cX12_feed 33 = .ok (.if_icmp .ge 7, 3) := by decide +kernel
theorem dX12_feed_36 : decode cX12_feed 36 = .ok (.iload_n 1, 1) := by decide +kernel
theorem dX12_feed_37 : decode cX12_feed 37 = .ok (.goto 39, 3) := by decide +kernel
theorem dX12_feed_40 : decode cX12_feed 40 = .ok (.iload 6, 2) := by decide +kernel
theorem dX12_feed_42 : decode cX12_feed 42 = .ok (.bipush 8, 2) := by decide +kernel
theorem dX12_feed_44 : decode cX12_feed 44 = .ok (.if_icmp .ge 7, 3) := by decide +kernel
theorem dX12_feed_47 : decode cX12_feed 47 = .ok (.iload_n 2, 1) := by decide +kernel
theorem dX12_feed_48 : decode cX12_feed 48 = .ok (.goto 28, 3) := by decide +kernel
theorem dX12_feed_51 : decode cX12_feed 51 = .ok (.iload 6, 2) := by decide +kernel
theorem dX12_feed_53 : decode cX12_feed 53 = .ok (.bipush 12, 2) := by decide +kernel
theorem dX12_feed_55 : decode cX12_feed 55 = .ok (.if_icmp .ge 7, 3) := by decide +kernel
theorem dX12_feed_58 : decode cX12_feed 58 = .ok (.iload_n 3, 1) := by decide +kernel
theorem dX12_feed_59 : decode cX12_feed 59 = .ok (.goto 17, 3) := by decide +kernel
theorem dX12_feed_62 : decode cX12_feed 62 = .ok (.iload 6, 2) := by decide +kernel
theorem dX12_feed_64 : decode cX12_feed 64 = .ok (.bipush 16, 2) := by decide +kernel
theorem dX12_feed_66 : decode cX12_feed 66 = .ok (.if_icmp .ge 8, 3) := by decide +kernel
theorem dX12_feed_69 : decode cX12_feed 69 = .ok (.iload 4, 2) := by decide +kernel
theorem dX12_feed_71 : decode cX12_feed 71 = .ok (.goto 5, 3) := by decide +kernel
theorem dX12_feed_74 : decode cX12_feed 74 = .ok (.iload 5, 2) := by decide +kernel
theorem dX12_feed_76 : decode cX12_feed 76 = .ok (.istore 7, 2) := by decide +kernel
theorem dX12_feed_78 : decode cX12_feed 78 = .ok (.aload_n 0, 1) := by decide +kernel
theorem dX12_feed_79 : decode cX12_feed 79 = .ok (.getfield 33, 3) := by decide +kernel
theorem dX12_feed_82 : decode cX12_feed 82 = .ok (.aload_n 0, 1) := by decide +kernel
theorem dX12_feed_83 : decode cX12_feed 83 = .ok (.getfield 183, 3) := by decide +kernel
theorem dX12_feed_86 : decode cX12_feed 86 = .ok (.iload 7, 2) := by decide +kernel
theorem dX12_feed_88 : decode cX12_feed 88 = .ok (.bipush 24, 2) := by decide +kernel
theorem dX12_feed_90 : decode cX12_feed 90 = .ok (.bipush 8, 2) := by decide +kernel
theorem dX12_feed_92 : decode cX12_feed 92 = .ok (.iload 6, 2) := by decide +kernel
theorem dX12_feed_94 : decode cX12_feed 94 = .ok (.iconst 4, 1) := by decide +kernel
theorem dX12_feed_95 : decode cX12_feed 95 = .ok (.irem, 1) := by decide +kernel
theorem dX12_feed_96 : decode cX12_feed 96 = .ok (.imul, 1) := by decide +kernel
theorem dX12_feed_97 : decode cX12_feed 97 = .ok (.isub, 1) := by decide +kernel
theorem dX12_feed_98 : decode cX12_feed 98 = .ok (.ishr, 1) := by decide +kernel
theorem dX12_feed_99 : decode cX12_feed 99 = .ok (.sipush 255, 3) := by decide +kernel
theorem dX12_feed_102 : decode cX12_feed 102 = .ok (.iand, 1) := by decide +kernel
theorem dX12_feed_103 : decode cX12_feed 103 = .ok (.iastore, 1) := by decide +kernel
theorem dX12_feed_104 : decode cX12_feed 104 = .ok (.aload_n 0, 1) := by decide +kernel
theorem dX12_feed_105 : decode cX12_feed 105 = .ok (.dup, 1) := by decide +kernel
theorem dX12_feed_106 : decode cX12_feed 106 = .ok (.getfield 183, 3) := by decide +kernel
theorem dX12_feed_109 : decode cX12_feed 109 = .ok (.iconst 1, 1) := by decide +kernel
theorem dX12_feed_110 : decode cX12_feed 110 = .ok (.iadd, 1) := by decide +kernel
theorem dX12_feed_111 : decode cX12_feed 111 = .ok (.putfield 183, 3) := by decide +kernel
theorem dX12_feed_114 : decode cX12_feed 114 = .ok (.iinc 6 1, 3) := by decide +kernel
theorem dX12_feed_117 : decode cX12_feed 117 = .ok (.goto (-94), 3) := by decide +kernel
theorem dX12_feed_120 : decode cX12_feed 120 = .ok (.aload_n 0, 1) := by decide +kernel
theorem dX12_feed_121 : decode cX12_feed 121 = .ok (.getfield 183, 3) := by decide +kernel
theorem dX12_feed_124 : decode cX12_feed 124 = .ok (.ireturn, 1) := by decide +kernel
theorem dX12_byteAt_0 : decode cX12_byteAt 0 = .ok (.iload_n 1, 1) := by decide +kernel
theorem dX12_byteAt_1 : decode cX12_byteAt 1 = .ok (.aload_n 0, 1) := by decide +kernel
theorem dX12_byteAt_2 : decode cX12_byteAt 2 = .ok (.getfield 186, 3) := by decide +kernel
theorem dX12_byteAt_5 : decode cX12_byteAt 5 = .ok (.if_icmp .ge 12, 3) := by decide +kernel
theorem dX12_byteAt_8 : decode cX12_byteAt 8 = .ok (.aload_n 0, 1) := by decide +kernel
theorem dX12_byteAt_9 : decode cX12_byteAt 9 = .ok (.getfield 37, 3) := by decide +kernel
theorem dX12_byteAt_12 : decode cX12_byteAt 12 = .ok (.iload_n 1, 1) := by decide +kernel
theorem dX12_byteAt_13 : decode cX12_byteAt 13 = .ok (.iaload, 1) := by decide +kernel
theorem dX12_byteAt_14 : decode cX12_byteAt 14 = .ok (.goto 4, 3) := by decide +kernel
theorem dX12_byteAt_17 : decode cX12_byteAt 17 = .ok (.iconst (-1), 1) := by decide +kernel
theorem dX12_byteAt_18 : decode cX12_byteAt 18 = .ok (.ireturn, 1) := by decide +kernel
theorem dX12_isLetter_0 : decode cX12_isLetter 0 = .ok (.iload_n 0, 1) := by decide +kernel
theorem dX12_isLetter_1 : decode cX12_isLetter 1 = .ok (.bipush 97, 2) := by decide +kernel
theorem dX12_isLetter_3 : decode cX12_isLetter 3 = .ok (.if_icmp .lt 9, 3) := by decide +kernel
theorem dX12_isLetter_6 : decode cX12_isLetter 6 = .ok (.iload_n 0, 1) := by decide +kernel
theorem dX12_isLetter_7 : decode cX12_isLetter 7 = .ok (.bipush 122, 2) := by decide +kernel
theorem dX12_isLetter_9 : decode cX12_isLetter 9 = .ok (.if_icmp .le 15, 3) := by decide +kernel
theorem dX12_isLetter_12 : decode cX12_isLetter 12 = .ok (.iload_n 0, 1) := by decide +kernel
theorem dX12_isLetter_13 : decode cX12_isLetter 13 = .ok (.bipush 65, 2) := by decide +kernel
theorem dX12_isLetter_15 : decode cX12_isLetter 15 = .ok (.if_icmp .lt 13, 3) := by decide +kernel
theorem dX12_isLetter_18 : decode cX12_isLetter 18 = .ok (.iload_n 0, 1) := by decide +kernel
theorem dX12_isLetter_19 : decode cX12_isLetter 19 = .ok (.bipush 90, 2) := by decide +kernel
theorem dX12_isLetter_21 : decode cX12_isLetter 21 = .ok (.if_icmp .gt 7, 3) := by decide +kernel
theorem dX12_isLetter_24 : decode cX12_isLetter 24 = .ok (.iconst 1, 1) := by decide +kernel
theorem dX12_isLetter_25 : decode cX12_isLetter 25 = .ok (.goto 4, 3) := by decide +kernel
theorem dX12_isLetter_28 : decode cX12_isLetter 28 = .ok (.iconst 0, 1) := by decide +kernel
theorem dX12_isLetter_29 : decode cX12_isLetter 29 = .ok (.ireturn, 1) := by decide +kernel
theorem dX12_goesOn_0 : decode cX12_goesOn 0 = .ok (.iload_n 0, 1) := by decide +kernel
theorem dX12_goesOn_1 : decode cX12_goesOn 1 = .ok (.invokestatic 189, 3) := by decide +kernel
theorem dX12_goesOn_4 : decode cX12_goesOn 4 = .ok (.ifCond .ne 21, 3) := by decide +kernel
theorem dX12_goesOn_7 : decode cX12_goesOn 7 = .ok (.iload_n 0, 1) := by decide +kernel
theorem dX12_goesOn_8 : decode cX12_goesOn 8 = .ok (.bipush 48, 2) := by decide +kernel
theorem dX12_goesOn_10 : decode cX12_goesOn 10 = .ok (.if_icmp .lt 9, 3) := by decide +kernel
theorem dX12_goesOn_13 : decode cX12_goesOn 13 = .ok (.iload_n 0, 1) := by decide +kernel
theorem dX12_goesOn_14 : decode cX12_goesOn 14 = .ok (.bipush 57, 2) := by decide +kernel
theorem dX12_goesOn_16 : decode cX12_goesOn 16 = .ok (.if_icmp .le 9, 3) := by decide +kernel
theorem dX12_goesOn_19 : decode cX12_goesOn 19 = .ok (.iload_n 0, 1) := by decide +kernel
theorem dX12_goesOn_20 : decode cX12_goesOn 20 = .ok (.bipush 39, 2) := by decide +kernel
theorem dX12_goesOn_22 : decode cX12_goesOn 22 = .ok (.if_icmp .ne 7, 3) := by decide +kernel
theorem dX12_goesOn_25 : decode cX12_goesOn 25 = .ok (.iconst 1, 1) := by decide +kernel
theorem dX12_goesOn_26 : decode cX12_goesOn 26 = .ok (.goto 4, 3) := by decide +kernel
theorem dX12_goesOn_29 : decode cX12_goesOn 29 = .ok (.iconst 0, 1) := by decide +kernel
theorem dX12_goesOn_30 : decode cX12_goesOn 30 = .ok (.ireturn, 1) := by decide +kernel
theorem dX12_next_0 : decode cX12_next 0 = .ok (.iconst 1, 1) := by decide +kernel
theorem dX12_next_1 : decode cX12_next 1 = .ok (.istore_n 1, 1) := by decide +kernel
theorem dX12_next_2 : decode cX12_next 2 = .ok (.iload_n 1, 1) := by decide +kernel
theorem dX12_next_3 : decode cX12_next 3 = .ok (.ifCond .eq 148, 3) := by decide +kernel
theorem dX12_next_6 : decode cX12_next 6 = .ok (.aload_n 0, 1) := by decide +kernel
theorem dX12_next_7 : decode cX12_next 7 = .ok (.aload_n 0, 1) := by decide +kernel
theorem dX12_next_8 : decode cX12_next 8 = .ok (.getfield 193, 3) := by decide +kernel
theorem dX12_next_11 : decode cX12_next 11 = .ok (.invokevirtual 196, 3) := by decide +kernel
theorem dX12_next_14 : decode cX12_next 14 = .ok (.bipush 10, 2) := by decide +kernel
theorem dX12_next_16 : decode cX12_next 16 = .ok (.if_icmp .eq 16, 3) := by decide +kernel
theorem dX12_next_19 : decode cX12_next 19 = .ok (.aload_n 0, 1) := by decide +kernel
theorem dX12_next_20 : decode cX12_next 20 = .ok (.aload_n 0, 1) := by decide +kernel
theorem dX12_next_21 : decode cX12_next 21 = .ok (.getfield 193, 3) := by decide +kernel
theorem dX12_next_24 : decode cX12_next 24 = .ok (.invokevirtual 196, 3) := by decide +kernel
theorem dX12_next_27 : decode cX12_next 27 = .ok (.bipush 32, 2) := by decide +kernel
theorem dX12_next_29 : decode cX12_next 29 = .ok (.if_icmp .ne 16, 3) := by decide +kernel
theorem dX12_next_32 : decode cX12_next 32 = .ok (.aload_n 0, 1) := by decide +kernel
theorem dX12_next_33 : decode cX12_next 33 = .ok (.dup, 1) := by decide +kernel
theorem dX12_next_34 : decode cX12_next 34 = .ok (.getfield 193, 3) := by decide +kernel
theorem dX12_next_37 : decode cX12_next 37 = .ok (.iconst 1, 1) := by decide +kernel
theorem dX12_next_38 : decode cX12_next 38 = .ok (.iadd, 1) := by decide +kernel
theorem dX12_next_39 : decode cX12_next 39 = .ok (.putfield 193, 3) := by decide +kernel
theorem dX12_next_42 : decode cX12_next 42 = .ok (.goto (-36), 3) := by decide +kernel
theorem dX12_next_45 : decode cX12_next 45 = .ok (.aload_n 0, 1) := by decide +kernel
theorem dX12_next_46 : decode cX12_next 46 = .ok (.aload_n 0, 1) := by decide +kernel
theorem dX12_next_47 : decode cX12_next 47 = .ok (.getfield 193, 3) := by decide +kernel
theorem dX12_next_50 : decode cX12_next 50 = .ok (.invokevirtual 196, 3) := by decide +kernel
theorem dX12_next_53 : decode cX12_next 53 = .ok (.bipush 123, 2) := by decide +kernel
theorem dX12_next_55 : decode cX12_next 55 = .ok (.if_icmp .ne 7, 3) := by decide +kernel
theorem dX12_next_58 : decode cX12_next 58 = .ok (.iconst 1, 1) := by decide +kernel
theorem dX12_next_59 : decode cX12_next 59 = .ok (.goto 4, 3) := by decide +kernel
theorem dX12_next_62 : decode cX12_next 62 = .ok (.iconst 0, 1) := by decide +kernel
theorem dX12_next_63 : decode cX12_next 63 = .ok (.istore_n 1, 1) := by decide +kernel
theorem dX12_next_64 : decode cX12_next 64 = .ok (.iload_n 1, 1) := by decide +kernel
theorem dX12_next_65 : decode cX12_next 65 = .ok (.ifCond .eq (-63), 3) := by decide +kernel
theorem dX12_next_68 : decode cX12_next 68 = .ok (.aload_n 0, 1) := by decide +kernel
theorem dX12_next_69 : decode cX12_next 69 = .ok (.getfield 193, 3) := by decide +kernel
theorem dX12_next_72 : decode cX12_next 72 = .ok (.istore_n 2, 1) := by decide +kernel
theorem dX12_next_73 : decode cX12_next 73 = .ok (.aload_n 0, 1) := by decide +kernel
theorem dX12_next_74 : decode cX12_next 74 = .ok (.getfield 193, 3) := by decide +kernel
theorem dX12_next_77 : decode cX12_next 77 = .ok (.aload_n 0, 1) := by decide +kernel
theorem dX12_next_78 : decode cX12_next 78 = .ok (.getfield 186, 3) := by decide +kernel
theorem dX12_next_81 : decode cX12_next 81 = .ok (.if_icmp .ge 30, 3) := by decide +kernel
theorem dX12_next_84 : decode cX12_next 84 = .ok (.aload_n 0, 1) := by decide +kernel
theorem dX12_next_85 : decode cX12_next 85 = .ok (.getfield 37, 3) := by decide +kernel
theorem dX12_next_88 : decode cX12_next 88 = .ok (.aload_n 0, 1) := by decide +kernel
theorem dX12_next_89 : decode cX12_next 89 = .ok (.getfield 193, 3) := by decide +kernel
theorem dX12_next_92 : decode cX12_next 92 = .ok (.iaload, 1) := by decide +kernel
theorem dX12_next_93 : decode cX12_next 93 = .ok (.bipush 125, 2) := by decide +kernel
theorem dX12_next_95 : decode cX12_next 95 = .ok (.if_icmp .eq 16, 3) := by decide +kernel
theorem dX12_next_98 : decode cX12_next 98 = .ok (.aload_n 0, 1) := by decide +kernel
theorem dX12_next_99 : decode cX12_next 99 = .ok (.dup, 1) := by decide +kernel
theorem dX12_next_100 : decode cX12_next 100 = .ok (.getfield 193, 3) := by decide +kernel
theorem dX12_next_103 : decode cX12_next 103 = .ok (.iconst 1, 1) := by decide +kernel
theorem dX12_next_104 : decode cX12_next 104 = .ok (.iadd, 1) := by decide +kernel
theorem dX12_next_105 : decode cX12_next 105 = .ok (.putfield 193, 3) := by decide +kernel
theorem dX12_next_108 : decode cX12_next 108 = .ok (.goto (-35), 3) := by decide +kernel
theorem dX12_next_111 : decode cX12_next 111 = .ok (.aload_n 0, 1) := by decide +kernel
theorem dX12_next_112 : decode cX12_next 112 = .ok (.getfield 193, 3) := by decide +kernel
theorem dX12_next_115 : decode cX12_next 115 = .ok (.aload_n 0, 1) := by decide +kernel
theorem dX12_next_116 : decode cX12_next 116 = .ok (.getfield 186, 3) := by decide +kernel
theorem dX12_next_119 : decode cX12_next 119 = .ok (.if_icmp .ne 19, 3) := by decide +kernel
theorem dX12_next_122 : decode cX12_next 122 = .ok (.aload_n 0, 1) := by decide +kernel
theorem dX12_next_123 : decode cX12_next 123 = .ok (.iload_n 2, 1) := by decide +kernel
theorem dX12_next_124 : decode cX12_next 124 = .ok (.putfield 200, 3) := by decide +kernel
theorem dX12_next_127 : decode cX12_next 127 = .ok (.aload_n 0, 1) := by decide +kernel
theorem dX12_next_128 : decode cX12_next 128 = .ok (.iconst 3, 1) := by decide +kernel
theorem dX12_next_129 : decode cX12_next 129 = .ok (.putfield 203, 3) := by decide +kernel
theorem dX12_next_132 : decode cX12_next 132 = .ok (.aload_n 0, 1) := by decide +kernel
theorem dX12_next_133 : decode cX12_next 133 = .ok (.iconst (-1), 1) := by decide +kernel
theorem dX12_next_134 : decode cX12_next 134 = .ok (.putfield 206, 3) := by decide +kernel
theorem dX12_next_137 : decode cX12_next 137 = .ok (.return_, 1) := by decide +kernel
theorem dX12_next_138 : decode cX12_next 138 = .ok (.aload_n 0, 1) := by decide +kernel
theorem dX12_next_139 : decode cX12_next 139 = .ok (.dup, 1) := by decide +kernel
theorem dX12_next_140 : decode cX12_next 140 = .ok (.getfield 193, 3) := by decide +kernel
theorem dX12_next_143 : decode cX12_next 143 = .ok (.iconst 1, 1) := by decide +kernel
theorem dX12_next_144 : decode cX12_next 144 = .ok (.iadd, 1) := by decide +kernel
theorem dX12_next_145 : decode cX12_next 145 = .ok (.putfield 193, 3) := by decide +kernel
theorem dX12_next_148 : decode cX12_next 148 = .ok (.goto (-146), 3) := by decide +kernel
theorem dX12_next_151 : decode cX12_next 151 = .ok (.aload_n 0, 1) := by decide +kernel
theorem dX12_next_152 : decode cX12_next 152 = .ok (.aload_n 0, 1) := by decide +kernel
theorem dX12_next_153 : decode cX12_next 153 = .ok (.getfield 193, 3) := by decide +kernel
theorem dX12_next_156 : decode cX12_next 156 = .ok (.putfield 200, 3) := by decide +kernel
theorem dX12_next_159 : decode cX12_next 159 = .ok (.aload_n 0, 1) := by decide +kernel
theorem dX12_next_160 : decode cX12_next 160 = .ok (.aload_n 0, 1) := by decide +kernel
theorem dX12_next_161 : decode cX12_next 161 = .ok (.getfield 193, 3) := by decide +kernel
theorem dX12_next_164 : decode cX12_next 164 = .ok (.invokevirtual 196, 3) := by decide +kernel
theorem dX12_next_167 : decode cX12_next 167 = .ok (.istore_n 2, 1) := by decide +kernel
theorem dX12_next_168 : decode cX12_next 168 = .ok (.aload_n 0, 1) := by decide +kernel
theorem dX12_next_169 : decode cX12_next 169 = .ok (.iconst (-1), 1) := by decide +kernel
theorem dX12_next_170 : decode cX12_next 170 = .ok (.putfield 206, 3) := by decide +kernel
theorem dX12_next_173 : decode cX12_next 173 = .ok (.iload_n 2, 1) := by decide +kernel
theorem dX12_next_174 : decode cX12_next 174 = .ok (.iconst (-1), 1) := by decide +kernel
theorem dX12_next_175 : decode cX12_next 175 = .ok (.if_icmp .ne 11, 3) := by decide +kernel
theorem dX12_next_178 : decode cX12_next 178 = .ok (.aload_n 0, 1) := by decide +kernel
theorem dX12_next_179 : decode cX12_next 179 = .ok (.iconst 0, 1) := by decide +kernel
theorem dX12_next_180 : decode cX12_next 180 = .ok (.putfield 203, 3) := by decide +kernel
theorem dX12_next_183 : decode cX12_next 183 = .ok (.goto 108, 3) := by decide +kernel
theorem dX12_next_186 : decode cX12_next 186 = .ok (.iload_n 2, 1) := by decide +kernel
theorem dX12_next_187 : decode cX12_next 187 = .ok (.invokestatic 189, 3) := by decide +kernel
theorem dX12_next_190 : decode cX12_next 190 = .ok (.ifCond .eq 96, 3) := by decide +kernel
theorem dX12_next_193 : decode cX12_next 193 = .ok (.aload_n 0, 1) := by decide +kernel
theorem dX12_next_194 : decode cX12_next 194 = .ok (.aload_n 0, 1) := by decide +kernel
theorem dX12_next_195 : decode cX12_next 195 = .ok (.getfield 193, 3) := by decide +kernel
theorem dX12_next_198 : decode cX12_next 198 = .ok (.invokevirtual 196, 3) := by decide +kernel
theorem dX12_next_201 : decode cX12_next 201 = .ok (.invokestatic 209, 3) := by decide +kernel
theorem dX12_next_204 : decode cX12_next 204 = .ok (.ifCond .eq 16, 3) := by decide +kernel
theorem dX12_next_207 : decode cX12_next 207 = .ok (.aload_n 0, 1) := by decide +kernel
theorem dX12_next_208 : decode cX12_next 208 = .ok (.dup, 1) := by decide +kernel
theorem dX12_next_209 : decode cX12_next 209 = .ok (.getfield 193, 3) := by decide +kernel
theorem dX12_next_212 : decode cX12_next 212 = .ok (.iconst 1, 1) := by decide +kernel
theorem dX12_next_213 : decode cX12_next 213 = .ok (.iadd, 1) := by decide +kernel
theorem dX12_next_214 : decode cX12_next 214 = .ok (.putfield 193, 3) := by decide +kernel
theorem dX12_next_217 : decode cX12_next 217 = .ok (.goto (-24), 3) := by decide +kernel
theorem dX12_next_220 : decode cX12_next 220 = .ok (.aload_n 0, 1) := by decide +kernel
theorem dX12_next_221 : decode cX12_next 221 = .ok (.iconst 1, 1) := by decide +kernel
theorem dX12_next_222 : decode cX12_next 222 = .ok (.putfield 203, 3) := by decide +kernel
theorem dX12_next_225 : decode cX12_next 225 = .ok (.aload_n 0, 1) := by decide +kernel
theorem dX12_next_226 : decode cX12_next 226 = .ok (.aload_n 0, 1) := by decide +kernel
theorem dX12_next_227 : decode cX12_next 227 = .ok (.getfield 193, 3) := by decide +kernel
theorem dX12_next_230 : decode cX12_next 230 = .ok (.putfield 212, 3) := by decide +kernel
theorem dX12_next_233 : decode cX12_next 233 = .ok (.iconst 0, 1) := by decide +kernel
theorem dX12_next_234 : decode cX12_next 234 = .ok (.istore_n 3, 1) := by decide +kernel
theorem dX12_next_235 : decode cX12_next 235 = .ok (.iload_n 3, 1) := by decide +kernel
theorem dX12_next_236 : decode cX12_next 236 = .ok (.bipush 9, 2) := by decide +kernel
theorem dX12_next_238 : decode cX12_next 238 = .ok (.if_icmp .ge 22, 3) := by decide +kernel
theorem dX12_next_241 : decode cX12_next 241 = .ok (.aload_n 0, 1) := by decide +kernel
theorem dX12_next_242 : decode cX12_next 242 = .ok (.iload_n 3, 1) := by decide +kernel
theorem dX12_next_243 : decode cX12_next 243 = .ok (.invokevirtual 215, 3) := by decide +kernel
theorem dX12_next_246 : decode cX12_next 246 = .ok (.ifCond .eq 8, 3) := by decide +kernel
theorem dX12_next_249 : decode cX12_next 249 = .ok (.aload_n 0, 1) := by decide +kernel
theorem dX12_next_250 : decode cX12_next 250 = .ok (.iload_n 3, 1) := by decide +kernel
theorem dX12_next_251 : decode cX12_next 251 = .ok (.putfield 206, 3) := by decide +kernel
theorem dX12_next_254 : decode cX12_next 254 = .ok (.iinc 3 1, 3) := by decide +kernel
theorem dX12_next_257 : decode cX12_next 257 = .ok (.goto (-22), 3) := by decide +kernel
theorem dX12_next_260 : decode cX12_next 260 = .ok (.aload_n 0, 1) := by decide +kernel
theorem dX12_next_261 : decode cX12_next 261 = .ok (.getfield 212, 3) := by decide +kernel
theorem dX12_next_264 : decode cX12_next 264 = .ok (.aload_n 0, 1) := by decide +kernel
theorem dX12_next_265 : decode cX12_next 265 = .ok (.getfield 200, 3) := by decide +kernel
theorem dX12_next_268 : decode cX12_next 268 = .ok (.isub, 1) := by decide +kernel
theorem dX12_next_269 : decode cX12_next 269 = .ok (.bipush 12, 2) := by decide +kernel
theorem dX12_next_271 : decode cX12_next 271 = .ok (.if_icmp .le 20, 3) := by decide +kernel
theorem dX12_next_274 : decode cX12_next 274 = .ok (.aload_n 0, 1) := by decide +kernel
theorem dX12_next_275 : decode cX12_next 275 = .ok (.iconst 2, 1) := by decide +kernel
theorem dX12_next_276 : decode cX12_next 276 = .ok (.aload_n 0, 1) := by decide +kernel
theorem dX12_next_277 : decode cX12_next 277 = .ok (.getfield 200, 3) := by decide +kernel
theorem dX12_next_280 : decode cX12_next 280 = .ok (.invokevirtual 218, 3) := by decide +kernel
theorem dX12_next_283 : decode cX12_next 283 = .ok (.goto 8, 3) := by decide +kernel
theorem dX12_next_286 : decode cX12_next 286 = .ok (.aload_n 0, 1) := by decide +kernel
theorem dX12_next_287 : decode cX12_next 287 = .ok (.iload_n 2, 1) := by decide +kernel
theorem dX12_next_288 : decode cX12_next 288 = .ok (.invokevirtual 222, 3) := by decide +kernel
theorem dX12_next_291 : decode cX12_next 291 = .ok (.return_, 1) := by decide +kernel
theorem dX12_isWord_0 : decode cX12_isWord 0 = .ok (.aload_n 0, 1) := by decide +kernel
theorem dX12_isWord_1 : decode cX12_isWord 1 = .ok (.getfield 27, 3) := by decide +kernel
theorem dX12_isWord_4 : decode cX12_isWord 4 = .ok (.iload_n 1, 1) := by decide +kernel
theorem dX12_isWord_5 : decode cX12_isWord 5 = .ok (.aaload, 1) := by decide +kernel
theorem dX12_isWord_6 : decode cX12_isWord 6 = .ok (.invokevirtual 156, 3) := by decide +kernel
theorem dX12_isWord_9 : decode cX12_isWord 9 = .ok (.aload_n 0, 1) := by decide +kernel
theorem dX12_isWord_10 : decode cX12_isWord 10 = .ok (.getfield 212, 3) := by decide +kernel
theorem dX12_isWord_13 : decode cX12_isWord 13 = .ok (.aload_n 0, 1) := by decide +kernel
theorem dX12_isWord_14 : decode cX12_isWord 14 = .ok (.getfield 200, 3) := by decide +kernel
theorem dX12_isWord_17 : decode cX12_isWord 17 = .ok (.isub, 1) := by decide +kernel
theorem dX12_isWord_18 : decode cX12_isWord 18 = .ok (.if_icmp .ne 7, 3) := by decide +kernel
theorem dX12_isWord_21 : decode cX12_isWord 21 = .ok (.iconst 1, 1) := by decide +kernel
theorem dX12_isWord_22 : decode cX12_isWord 22 = .ok (.goto 4, 3) := by decide +kernel
theorem dX12_isWord_25 : decode cX12_isWord 25 = .ok (.iconst 0, 1) := by decide +kernel
theorem dX12_isWord_26 : decode cX12_isWord 26 = .ok (.istore_n 2, 1) := by decide +kernel
theorem dX12_isWord_27 : decode cX12_isWord 27 = .ok (.iconst 0, 1) := by decide +kernel
theorem dX12_isWord_28 : decode cX12_isWord 28 = .ok (.istore_n 3, 1) := by decide +kernel
theorem dX12_isWord_29 : decode cX12_isWord 29 = .ok (.iload_n 2, 1) := by decide +kernel
theorem dX12_isWord_30 : decode cX12_isWord 30 = .ok (.ifCond .eq 52, 3) := by decide +kernel
theorem dX12_isWord_33 : decode cX12_isWord 33 = .ok (.iload_n 3, 1) := by decide +kernel
theorem dX12_isWord_34 : decode cX12_isWord 34 = .ok (.aload_n 0, 1) := by decide +kernel
theorem dX12_isWord_35 : decode cX12_isWord 35 = .ok (.getfield 212, 3) := by decide +kernel
theorem dX12_isWord_38 : decode cX12_isWord 38 = .ok (.aload_n 0, 1) := by decide +kernel
theorem dX12_isWord_39 : decode cX12_isWord 39 = .ok (.getfield 200, 3) := by decide +kernel
theorem dX12_isWord_42 : decode cX12_isWord 42 = .ok (.isub, 1) := by decide +kernel
theorem dX12_isWord_43 : decode cX12_isWord 43 = .ok (.if_icmp .ge 39, 3) := by decide +kernel
theorem dX12_isWord_46 : decode cX12_isWord 46 = .ok (.aload_n 0, 1) := by decide +kernel
theorem dX12_isWord_47 : decode cX12_isWord 47 = .ok (.getfield 27, 3) := by decide +kernel
theorem dX12_isWord_50 : decode cX12_isWord 50 = .ok (.iload_n 1, 1) := by decide +kernel
theorem dX12_isWord_51 : decode cX12_isWord 51 = .ok (.aaload, 1) := by decide +kernel
theorem dX12_isWord_52 : decode cX12_isWord 52 = .ok (.iload_n 3, 1) := by decide +kernel
theorem dX12_isWord_53 : decode cX12_isWord 53 = .ok (.invokevirtual 163, 3) := by decide +kernel
theorem dX12_isWord_56 : decode cX12_isWord 56 = .ok (.aload_n 0, 1) := by decide +kernel
theorem dX12_isWord_57 : decode cX12_isWord 57 = .ok (.getfield 37, 3) := by decide +kernel
theorem dX12_isWord_60 : decode cX12_isWord 60 = .ok (.aload_n 0, 1) := by decide +kernel
theorem dX12_isWord_61 : decode cX12_isWord 61 = .ok (.getfield 200, 3) := by decide +kernel
theorem dX12_isWord_64 : decode cX12_isWord 64 = .ok (.iload_n 3, 1) := by decide +kernel
theorem dX12_isWord_65 : decode cX12_isWord 65 = .ok (.iadd, 1) := by decide +kernel
theorem dX12_isWord_66 : decode cX12_isWord 66 = .ok (.iaload, 1) := by decide +kernel
theorem dX12_isWord_67 : decode cX12_isWord 67 = .ok (.if_icmp .ne 7, 3) := by decide +kernel
theorem dX12_isWord_70 : decode cX12_isWord 70 = .ok (.iconst 1, 1) := by decide +kernel
theorem dX12_isWord_71 : decode cX12_isWord 71 = .ok (.goto 4, 3) := by decide +kernel
theorem dX12_isWord_74 : decode cX12_isWord 74 = .ok (.iconst 0, 1) := by decide +kernel
theorem dX12_isWord_75 : decode cX12_isWord 75 = .ok (.istore_n 2, 1) := by decide +kernel
theorem dX12_isWord_76 : decode cX12_isWord 76 = .ok (.iinc 3 1, 3) := by decide +kernel
theorem dX12_isWord_79 : decode cX12_isWord 79 = .ok (.goto (-50), 3) := by decide +kernel
theorem dX12_isWord_82 : decode cX12_isWord 82 = .ok (.iload_n 2, 1) := by decide +kernel
theorem dX12_isWord_83 : decode cX12_isWord 83 = .ok (.ireturn, 1) := by decide +kernel
theorem dX12_readSign_0 : decode cX12_readSign 0 = .ok (.aload_n 0, 1) := by decide +kernel
theorem dX12_readSign_1 : decode cX12_readSign 1 = .ok (.iconst 2, 1) := by decide +kernel
theorem dX12_readSign_2 : decode cX12_readSign 2 = .ok (.putfield 203, 3) := by decide +kernel
theorem dX12_readSign_5 : decode cX12_readSign 5 = .ok (.aload_n 0, 1) := by decide +kernel
theorem dX12_readSign_6 : decode cX12_readSign 6 = .ok (.iload_n 1, 1) := by decide +kernel
theorem dX12_readSign_7 : decode cX12_readSign 7 = .ok (.putfield 225, 3) := by decide +kernel
theorem dX12_readSign_10 : decode cX12_readSign 10 = .ok (.aload_n 0, 1) := by decide +kernel
theorem dX12_readSign_11 : decode cX12_readSign 11 = .ok (.dup, 1) := by decide +kernel
theorem dX12_readSign_12 : decode cX12_readSign 12 = .ok (.getfield 193, 3) := by decide +kernel
theorem dX12_readSign_15 : decode cX12_readSign 15 = .ok (.iconst 1, 1) := by decide +kernel
theorem dX12_readSign_16 : decode cX12_readSign 16 = .ok (.iadd, 1) := by decide +kernel
theorem dX12_readSign_17 : decode cX12_readSign 17 = .ok (.putfield 193, 3) := by decide +kernel
theorem dX12_readSign_20 : decode cX12_readSign 20 = .ok (.iload_n 1, 1) := by decide +kernel
theorem dX12_readSign_21 : decode cX12_readSign 21 = .ok (.bipush 58, 2) := by decide +kernel
theorem dX12_readSign_23 : decode cX12_readSign 23 = .ok (.if_icmp .ne 36, 3) := by decide +kernel
theorem dX12_readSign_26 : decode cX12_readSign 26 = .ok (.aload_n 0, 1) := by decide +kernel
theorem dX12_readSign_27 : decode cX12_readSign 27 = .ok (.aload_n 0, 1) := by decide +kernel
theorem dX12_readSign_28 : decode cX12_readSign 28 = .ok (.getfield 193, 3) := by decide +kernel
theorem dX12_readSign_31 : decode cX12_readSign 31 = .ok (.invokevirtual 196, 3) := by decide +kernel
theorem dX12_readSign_34 : decode cX12_readSign 34 = .ok (.bipush 61, 2) := by decide +kernel
theorem dX12_readSign_36 : decode cX12_readSign 36 = .ok (.if_icmp .ne 23, 3) := by decide +kernel
theorem dX12_readSign_39 : decode cX12_readSign 39 = .ok (.aload_n 0, 1) := by decide +kernel
theorem dX12_readSign_40 : decode cX12_readSign 40 = .ok (.sipush 256, 3) := by decide +kernel
theorem dX12_readSign_43 : decode cX12_readSign 43 = .ok (.putfield 225, 3) := by decide +kernel
theorem dX12_readSign_46 : decode cX12_readSign 46 = .ok (.aload_n 0, 1) := by decide +kernel
theorem dX12_readSign_47 : decode cX12_readSign 47 = .ok (.dup, 1) := by decide +kernel
theorem dX12_readSign_48 : decode cX12_readSign 48 = .ok (.getfield 193, 3) := by decide +kernel
theorem dX12_readSign_51 : decode cX12_readSign 51 = .ok (.iconst 1, 1) := by decide +kernel
theorem dX12_readSign_52 : decode cX12_readSign 52 = .ok (.iadd, 1) := by decide +kernel
theorem dX12_readSign_53 : decode cX12_readSign 53 = .ok (.putfield 193, 3) := by decide +kernel
theorem dX12_readSign_56 : decode cX12_readSign 56 = .ok (.goto 95, 3) := by decide +kernel
theorem dX12_readSign_59 : decode cX12_readSign 59 = .ok (.iload_n 1, 1) := by decide +kernel
theorem dX12_readSign_60 : decode cX12_readSign 60 = .ok (.bipush 45, 2) := by decide +kernel
theorem dX12_readSign_62 : decode cX12_readSign 62 = .ok (.if_icmp .ne 36, 3) := by decide +kernel
theorem dX12_readSign_65 : decode cX12_readSign 65 = .ok (.aload_n 0, 1) := by decide +kernel
theorem dX12_readSign_66 : decode cX12_readSign 66 = .ok (.aload_n 0, 1) := by decide +kernel
theorem dX12_readSign_67 : decode cX12_readSign 67 = .ok (.getfield 193, 3) := by decide +kernel
theorem dX12_readSign_70 : decode cX12_readSign 70 = .ok (.invokevirtual 196, 3) := by decide +kernel
theorem dX12_readSign_73 : decode cX12_readSign 73 = .ok (.bipush 62, 2) := by decide +kernel
theorem dX12_readSign_75 : decode cX12_readSign 75 = .ok (.if_icmp .ne 23, 3) := by decide +kernel
theorem dX12_readSign_78 : decode cX12_readSign 78 = .ok (.aload_n 0, 1) := by decide +kernel
theorem dX12_readSign_79 : decode cX12_readSign 79 = .ok (.sipush 257, 3) := by decide +kernel
theorem dX12_readSign_82 : decode cX12_readSign 82 = .ok (.putfield 225, 3) := by decide +kernel
theorem dX12_readSign_85 : decode cX12_readSign 85 = .ok (.aload_n 0, 1) := by decide +kernel
theorem dX12_readSign_86 : decode cX12_readSign 86 = .ok (.dup, 1) := by decide +kernel
theorem dX12_readSign_87 : decode cX12_readSign 87 = .ok (.getfield 193, 3) := by decide +kernel
theorem dX12_readSign_90 : decode cX12_readSign 90 = .ok (.iconst 1, 1) := by decide +kernel
theorem dX12_readSign_91 : decode cX12_readSign 91 = .ok (.iadd, 1) := by decide +kernel
theorem dX12_readSign_92 : decode cX12_readSign 92 = .ok (.putfield 193, 3) := by decide +kernel
theorem dX12_readSign_95 : decode cX12_readSign 95 = .ok (.goto 56, 3) := by decide +kernel
theorem dX12_readSign_98 : decode cX12_readSign 98 = .ok (.iload_n 1, 1) := by decide +kernel
theorem dX12_readSign_99 : decode cX12_readSign 99 = .ok (.bipush 92, 2) := by decide +kernel
theorem dX12_readSign_101 : decode cX12_readSign 101 = .ok (.if_icmp .eq 50, 3) := by decide +kernel
theorem dX12_readSign_104 : decode cX12_readSign 104 = .ok (.iload_n 1, 1) := by decide +kernel
theorem dX12_readSign_105 : decode cX12_readSign 105 = .ok (.bipush 33, 2) := by decide +kernel
theorem dX12_readSign_107 : decode cX12_readSign 107 = .ok (.if_icmp .eq 44, 3) := by decide +kernel
theorem dX12_readSign_110 : decode cX12_readSign 110 = .ok (.iload_n 1, 1) := by decide +kernel
theorem dX12_readSign_111 : decode cX12_readSign 111 = .ok (.bipush 58, 2) := by decide +kernel
theorem dX12_readSign_113 : decode cX12_readSign 113 = .ok (.if_icmp .eq 38, 3) := by decide +kernel
theorem dX12_readSign_116 : decode cX12_readSign 116 = .ok (.iload_n 1, 1) := by decide +kernel
theorem dX12_readSign_117 : decode cX12_readSign 117 = .ok (.bipush 46, 2) := by decide +kernel
theorem dX12_readSign_119 : decode cX12_readSign 119 = .ok (.if_icmp .eq 32, 3) := by decide +kernel
theorem dX12_readSign_122 : decode cX12_readSign 122 = .ok (.iload_n 1, 1) := by decide +kernel
theorem dX12_readSign_123 : decode cX12_readSign 123 = .ok (.bipush 59, 2) := by decide +kernel
theorem dX12_readSign_125 : decode cX12_readSign 125 = .ok (.if_icmp .eq 26, 3) := by decide +kernel
theorem dX12_readSign_128 : decode cX12_readSign 128 = .ok (.iload_n 1, 1) := by decide +kernel
theorem dX12_readSign_129 : decode cX12_readSign 129 = .ok (.bipush 61, 2) := by decide +kernel
theorem dX12_readSign_131 : decode cX12_readSign 131 = .ok (.if_icmp .eq 20, 3) := by decide +kernel
theorem dX12_readSign_134 : decode cX12_readSign 134 = .ok (.iload_n 1, 1) := by decide +kernel
theorem dX12_readSign_135 : decode cX12_readSign 135 = .ok (.bipush 40, 2) := by decide +kernel
theorem dX12_readSign_137 : decode cX12_readSign 137 = .ok (.if_icmp .eq 14, 3) := by decide +kernel
theorem dX12_readSign_140 : decode cX12_readSign 140 = .ok (.iload_n 1, 1) := by decide +kernel
theorem dX12_readSign_141 : decode cX12_readSign 141 = .ok (.bipush 41, 2) := by decide +kernel
theorem dX12_readSign_143 : decode cX12_readSign 143 = .ok (.if_icmp .eq 8, 3) := by decide +kernel
theorem dX12_readSign_146 : decode cX12_readSign 146 = .ok (.aload_n 0, 1) := by decide +kernel
theorem dX12_readSign_147 : decode cX12_readSign 147 = .ok (.iconst 3, 1) := by decide +kernel
theorem dX12_readSign_148 : decode cX12_readSign 148 = .ok (.putfield 203, 3) := by decide +kernel
theorem dX12_readSign_151 : decode cX12_readSign 151 = .ok (.return_, 1) := by decide +kernel
theorem dX12_isSign_0 : decode cX12_isSign 0 = .ok (.aload_n 0, 1) := by decide +kernel
theorem dX12_isSign_1 : decode cX12_isSign 1 = .ok (.getfield 203, 3) := by decide +kernel
theorem dX12_isSign_4 : decode cX12_isSign 4 = .ok (.iconst 2, 1) := by decide +kernel
theorem dX12_isSign_5 : decode cX12_isSign 5 = .ok (.if_icmp .ne 15, 3) := by decide +kernel
theorem dX12_isSign_8 : decode cX12_isSign 8 = .ok (.aload_n 0, 1) := by decide +kernel
theorem dX12_isSign_9 : decode cX12_isSign 9 = .ok (.getfield 225, 3) := by decide +kernel
theorem dX12_isSign_12 : decode cX12_isSign 12 = .ok (.iload_n 1, 1) := by decide +kernel
theorem dX12_isSign_13 : decode cX12_isSign 13 = .ok (.if_icmp .ne 7, 3) := by decide +kernel
theorem dX12_isSign_16 : decode cX12_isSign 16 = .ok (.iconst 1, 1) := by decide +kernel
theorem dX12_isSign_17 : decode cX12_isSign 17 = .ok (.goto 4, 3) := by decide +kernel
theorem dX12_isSign_20 : decode cX12_isSign 20 = .ok (.iconst 0, 1) := by decide +kernel
theorem dX12_isSign_21 : decode cX12_isSign 21 = .ok (.ireturn, 1) := by decide +kernel
theorem dX12_isName_0 : decode cX12_isName 0 = .ok (.aload_n 0, 1) := by decide +kernel
theorem dX12_isName_1 : decode cX12_isName 1 = .ok (.getfield 203, 3) := by decide +kernel
theorem dX12_isName_4 : decode cX12_isName 4 = .ok (.iconst 1, 1) := by decide +kernel
theorem dX12_isName_5 : decode cX12_isName 5 = .ok (.if_icmp .ne 15, 3) := by decide +kernel
theorem dX12_isName_8 : decode cX12_isName 8 = .ok (.aload_n 0, 1) := by decide +kernel
theorem dX12_isName_9 : decode cX12_isName 9 = .ok (.getfield 206, 3) := by decide +kernel
theorem dX12_isName_12 : decode cX12_isName 12 = .ok (.iconst (-1), 1) := by decide +kernel
theorem dX12_isName_13 : decode cX12_isName 13 = .ok (.if_icmp .ne 7, 3) := by decide +kernel
theorem dX12_isName_16 : decode cX12_isName 16 = .ok (.iconst 1, 1) := by decide +kernel
theorem dX12_isName_17 : decode cX12_isName 17 = .ok (.goto 4, 3) := by decide +kernel
theorem dX12_isName_20 : decode cX12_isName 20 = .ok (.iconst 0, 1) := by decide +kernel
theorem dX12_isName_21 : decode cX12_isName 21 = .ok (.ireturn, 1) := by decide +kernel
theorem dX12_cant_0 : decode cX12_cant 0 = .ok (.aload_n 0, 1) := by decide +kernel
theorem dX12_cant_1 : decode cX12_cant 1 = .ok (.iconst 1, 1) := by decide +kernel
theorem dX12_cant_2 : decode cX12_cant 2 = .ok (.aload_n 0, 1) := by decide +kernel
theorem dX12_cant_3 : decode cX12_cant 3 = .ok (.getfield 200, 3) := by decide +kernel
theorem dX12_cant_6 : decode cX12_cant 6 = .ok (.invokevirtual 218, 3) := by decide +kernel
theorem dX12_cant_9 : decode cX12_cant 9 = .ok (.return_, 1) := by decide +kernel
theorem dX12_need_0 : decode cX12_need 0 = .ok (.aload_n 0, 1) := by decide +kernel
theorem dX12_need_1 : decode cX12_need 1 = .ok (.iload_n 1, 1) := by decide +kernel
theorem dX12_need_2 : decode cX12_need 2 = .ok (.invokevirtual 228, 3) := by decide +kernel
theorem dX12_need_5 : decode cX12_need 5 = .ok (.ifCond .eq 10, 3) := by decide +kernel
theorem dX12_need_8 : decode cX12_need 8 = .ok (.aload_n 0, 1) := by decide +kernel
theorem dX12_need_9 : decode cX12_need 9 = .ok (.invokevirtual 231, 3) := by decide +kernel
theorem dX12_need_12 : decode cX12_need 12 = .ok (.goto 7, 3) := by decide +kernel
theorem dX12_need_15 : decode cX12_need 15 = .ok (.aload_n 0, 1) := by decide +kernel
theorem dX12_need_16 : decode cX12_need 16 = .ok (.invokevirtual 234, 3) := by decide +kernel
theorem dX12_need_19 : decode cX12_need 19 = .ok (.return_, 1) := by decide +kernel
theorem dX12_needWord_0 : decode cX12_needWord 0 = .ok (.aload_n 0, 1) := by decide +kernel
theorem dX12_needWord_1 : decode cX12_needWord 1 = .ok (.getfield 203, 3) := by decide +kernel
theorem dX12_needWord_4 : decode cX12_needWord 4 = .ok (.iconst 1, 1) := by decide +kernel
theorem dX12_needWord_5 : decode cX12_needWord 5 = .ok (.if_icmp .ne 18, 3) := by decide +kernel
theorem dX12_needWord_8 : decode cX12_needWord 8 = .ok (.aload_n 0, 1) := by decide +kernel
theorem dX12_needWord_9 : decode cX12_needWord 9 = .ok (.getfield 206, 3) := by decide +kernel
theorem dX12_needWord_12 : decode cX12_needWord 12 = .ok (.iload_n 1, 1) := by decide +kernel
theorem dX12_needWord_13 : decode cX12_needWord 13 = .ok (.if_icmp .ne 10, 3) := by decide +kernel
theorem dX12_needWord_16 : decode cX12_needWord 16 = .ok (.aload_n 0, 1) := by decide +kernel
theorem dX12_needWord_17 : decode cX12_needWord 17 = .ok (.invokevirtual 231, 3) := by decide +kernel
theorem dX12_needWord_20 : decode cX12_needWord 20 = .ok (.goto 7, 3) := by decide +kernel
theorem dX12_needWord_23 : decode cX12_needWord 23 = .ok (.aload_n 0, 1) := by decide +kernel
theorem dX12_needWord_24 : decode cX12_needWord 24 = .ok (.invokevirtual 234, 3) := by decide +kernel
theorem dX12_needWord_27 : decode cX12_needWord 27 = .ok (.return_, 1) := by decide +kernel
theorem dX12_node_0 : decode cX12_node 0 = .ok (.aload_n 0, 1) := by decide +kernel
theorem dX12_node_1 : decode cX12_node 1 = .ok (.getfield 237, 3) := by decide +kernel
theorem dX12_node_4 : decode cX12_node 4 = .ok (.ifCond .ne 5, 3) := by decide +kernel
theorem dX12_node_7 : decode cX12_node 7 = .ok (.iconst 0, 1) := by decide +kernel
theorem dX12_node_8 : decode cX12_node 8 = .ok (.ireturn, 1) := by decide +kernel
theorem dX12_node_9 : decode cX12_node 9 = .ok (.aload_n 0, 1) := by decide +kernel
theorem dX12_node_10 : decode cX12_node 10 = .ok (.getfield 76, 3) := by decide +kernel
theorem dX12_node_13 : decode cX12_node 13 = .ok (.aload_n 0, 1) := by decide +kernel
theorem dX12_node_14 : decode cX12_node 14 = .ok (.getfield 173, 3) := by decide +kernel
theorem dX12_node_17 : decode cX12_node 17 = .ok (.iload_n 1, 1) := by decide +kernel
theorem dX12_node_18 : decode cX12_node 18 = .ok (.iastore, 1) := by decide +kernel
theorem dX12_node_19 : decode cX12_node 19 = .ok (.aload_n 0, 1) := by decide +kernel
theorem dX12_node_20 : decode cX12_node 20 = .ok (.getfield 79, 3) := by decide +kernel
theorem dX12_node_23 : decode cX12_node 23 = .ok (.aload_n 0, 1) := by decide +kernel
theorem dX12_node_24 : decode cX12_node 24 = .ok (.getfield 173, 3) := by decide +kernel
theorem dX12_node_27 : decode cX12_node 27 = .ok (.iload_n 2, 1) := by decide +kernel
theorem dX12_node_28 : decode cX12_node 28 = .ok (.iastore, 1) := by decide +kernel
theorem dX12_node_29 : decode cX12_node 29 = .ok (.aload_n 0, 1) := by decide +kernel
theorem dX12_node_30 : decode cX12_node 30 = .ok (.getfield 82, 3) := by decide +kernel
theorem dX12_node_33 : decode cX12_node 33 = .ok (.aload_n 0, 1) := by decide +kernel
theorem dX12_node_34 : decode cX12_node 34 = .ok (.getfield 173, 3) := by decide +kernel
theorem dX12_node_37 : decode cX12_node 37 = .ok (.iload_n 3, 1) := by decide +kernel
theorem dX12_node_38 : decode cX12_node 38 = .ok (.iastore, 1) := by decide +kernel
theorem dX12_node_39 : decode cX12_node 39 = .ok (.aload_n 0, 1) := by decide +kernel
theorem dX12_node_40 : decode cX12_node 40 = .ok (.getfield 85, 3) := by decide +kernel
theorem dX12_node_43 : decode cX12_node 43 = .ok (.aload_n 0, 1) := by decide +kernel
theorem dX12_node_44 : decode cX12_node 44 = .ok (.getfield 173, 3) := by decide +kernel
theorem dX12_node_47 : decode cX12_node 47 = .ok (.iload 4, 2) := by decide +kernel
theorem dX12_node_49 : decode cX12_node 49 = .ok (.iastore, 1) := by decide +kernel
theorem dX12_node_50 : decode cX12_node 50 = .ok (.aload_n 0, 1) := by decide +kernel
theorem dX12_node_51 : decode cX12_node 51 = .ok (.getfield 88, 3) := by decide +kernel
theorem dX12_node_54 : decode cX12_node 54 = .ok (.aload_n 0, 1) := by decide +kernel
theorem dX12_node_55 : decode cX12_node 55 = .ok (.getfield 173, 3) := by decide +kernel
theorem dX12_node_58 : decode cX12_node 58 = .ok (.iload 5, 2) := by decide +kernel
theorem dX12_node_60 : decode cX12_node 60 = .ok (.iastore, 1) := by decide +kernel
theorem dX12_node_61 : decode cX12_node 61 = .ok (.aload_n 0, 1) := by decide +kernel
theorem dX12_node_62 : decode cX12_node 62 = .ok (.getfield 91, 3) := by decide +kernel
theorem dX12_node_65 : decode cX12_node 65 = .ok (.aload_n 0, 1) := by decide +kernel
theorem dX12_node_66 : decode cX12_node 66 = .ok (.getfield 173, 3) := by decide +kernel
theorem dX12_node_69 : decode cX12_node 69 = .ok (.iload 5, 2) := by decide +kernel
theorem dX12_node_71 : decode cX12_node 71 = .ok (.iastore, 1) := by decide +kernel
theorem dX12_node_72 : decode cX12_node 72 = .ok (.aload_n 0, 1) := by decide +kernel
theorem dX12_node_73 : decode cX12_node 73 = .ok (.getfield 100, 3) := by decide +kernel
theorem dX12_node_76 : decode cX12_node 76 = .ok (.aload_n 0, 1) := by decide +kernel
theorem dX12_node_77 : decode cX12_node 77 = .ok (.getfield 173, 3) := by decide +kernel
theorem dX12_node_80 : decode cX12_node 80 = .ok (.aload_n 0, 1) := by decide +kernel
theorem dX12_node_81 : decode cX12_node 81 = .ok (.getfield 173, 3) := by decide +kernel
theorem dX12_node_84 : decode cX12_node 84 = .ok (.iastore, 1) := by decide +kernel
theorem dX12_node_85 : decode cX12_node 85 = .ok (.aload_n 0, 1) := by decide +kernel
theorem dX12_node_86 : decode cX12_node 86 = .ok (.dup, 1) := by decide +kernel
theorem dX12_node_87 : decode cX12_node 87 = .ok (.getfield 173, 3) := by decide +kernel
theorem dX12_node_90 : decode cX12_node 90 = .ok (.iconst 1, 1) := by decide +kernel
theorem dX12_node_91 : decode cX12_node 91 = .ok (.iadd, 1) := by decide +kernel
theorem dX12_node_92 : decode cX12_node 92 = .ok (.putfield 173, 3) := by decide +kernel
theorem dX12_node_95 : decode cX12_node 95 = .ok (.aload_n 0, 1) := by decide +kernel
theorem dX12_node_96 : decode cX12_node 96 = .ok (.getfield 173, 3) := by decide +kernel
theorem dX12_node_99 : decode cX12_node 99 = .ok (.iconst 1, 1) := by decide +kernel
theorem dX12_node_100 : decode cX12_node 100 = .ok (.isub, 1) := by decide +kernel
theorem dX12_node_101 : decode cX12_node 101 = .ok (.ireturn, 1) := by decide +kernel
theorem dX12_nameNode_0 : decode cX12_nameNode 0 = .ok (.aload_n 0, 1) := by decide +kernel
theorem dX12_nameNode_1 : decode cX12_nameNode 1 = .ok (.iconst 0, 1) := by decide +kernel
theorem dX12_nameNode_2 : decode cX12_nameNode 2 = .ok (.aload_n 0, 1) := by decide +kernel
theorem dX12_nameNode_3 : decode cX12_nameNode 3 = .ok (.getfield 200, 3) := by decide +kernel
theorem dX12_nameNode_6 : decode cX12_nameNode 6 = .ok (.aload_n 0, 1) := by decide +kernel
theorem dX12_nameNode_7 : decode cX12_nameNode 7 = .ok (.getfield 212, 3) := by decide +kernel
theorem dX12_nameNode_10 : decode cX12_nameNode 10 = .ok (.aload_n 0, 1) := by decide +kernel
theorem dX12_nameNode_11 : decode cX12_nameNode 11 = .ok (.getfield 200, 3) := by decide +kernel
theorem dX12_nameNode_14 : decode cX12_nameNode 14 = .ok (.isub, 1) := by decide +kernel
theorem dX12_nameNode_15 : decode cX12_nameNode 15 = .ok (.iconst 0, 1) := by decide +kernel
theorem dX12_nameNode_16 : decode cX12_nameNode 16 = .ok (.aload_n 0, 1) := by decide +kernel
theorem dX12_nameNode_17 : decode cX12_nameNode 17 = .ok (.getfield 200, 3) := by decide +kernel
theorem dX12_nameNode_20 : decode cX12_nameNode 20 = .ok (.invokevirtual 241, 3) := by decide +kernel
theorem dX12_nameNode_23 : decode cX12_nameNode 23 = .ok (.istore_n 1, 1) := by decide +kernel
theorem dX12_nameNode_24 : decode cX12_nameNode 24 = .ok (.aload_n 0, 1) := by decide +kernel
theorem dX12_nameNode_25 : decode cX12_nameNode 25 = .ok (.invokevirtual 245, 3) := by decide +kernel
theorem dX12_nameNode_28 : decode cX12_nameNode 28 = .ok (.ifCond .eq 10, 3) := by decide +kernel
theorem dX12_nameNode_31 : decode cX12_nameNode 31 = .ok (.aload_n 0, 1) := by decide +kernel
theorem dX12_nameNode_32 : decode cX12_nameNode 32 = .ok (.invokevirtual 231, 3) := by decide +kernel
theorem dX12_nameNode_35 : decode cX12_nameNode 35 = .ok (.goto 7, 3) := by decide +kernel
theorem dX12_nameNode_38 : decode cX12_nameNode 38 = .ok (.aload_n 0, 1) := by decide +kernel
theorem dX12_nameNode_39 : decode cX12_nameNode 39 = .ok (.invokevirtual 234, 3) := by decide +kernel
theorem dX12_nameNode_42 : decode cX12_nameNode 42 = .ok (.iload_n 1, 1) := by decide +kernel
theorem dX12_nameNode_43 : decode cX12_nameNode 43 = .ok (.ireturn, 1) := by decide +kernel
theorem dX12_readTerm_0 : decode cX12_readTerm 0 = .ok (.iload_n 1, 1) := by decide +kernel
theorem dX12_readTerm_1 : decode cX12_readTerm 1 = .ok (.bipush 40, 2) := by decide +kernel
theorem dX12_readTerm_3 : decode cX12_readTerm 3 = .ok (.if_icmp .ne 26, 3) := by decide +kernel
theorem dX12_readTerm_6 : decode cX12_readTerm 6 = .ok (.aload_n 0, 1) := by decide +kernel
theorem dX12_readTerm_7 : decode cX12_readTerm 7 = .ok (.getfield 203, 3) := by decide +kernel
theorem dX12_readTerm_10 : decode cX12_readTerm 10 = .ok (.ifCond .ne 10, 3) := by decide +kernel
theorem dX12_readTerm_13 : decode cX12_readTerm 13 = .ok (.aload_n 0, 1) := by decide +kernel
theorem dX12_readTerm_14 : decode cX12_readTerm 14 = .ok (.invokevirtual 234, 3) := by decide +kernel
theorem dX12_readTerm_17 : decode cX12_readTerm 17 = .ok (.goto 12, 3) := by decide +kernel
theorem dX12_readTerm_20 : decode cX12_readTerm 20 = .ok (.aload_n 0, 1) := by decide +kernel
theorem dX12_readTerm_21 : decode cX12_readTerm 21 = .ok (.iconst 2, 1) := by decide +kernel
theorem dX12_readTerm_22 : decode cX12_readTerm 22 = .ok (.aload_n 0, 1) := by decide +kernel
