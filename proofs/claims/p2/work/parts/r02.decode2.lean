theorem dX12_alike_67 : decode cX12_alike 67 = .ok (.getfield 371, 3) := by decide +kernel
theorem dX12_alike_70 : decode cX12_alike 70 = .ok (.isub, 1) := by decide +kernel
theorem dX12_alike_71 : decode cX12_alike 71 = .ok (.istore 10, 2) := by decide +kernel
theorem dX12_alike_73 : decode cX12_alike 73 = .ok (.aload_n 0, 1) := by decide +kernel
theorem dX12_alike_74 : decode cX12_alike 74 = .ok (.dup, 1) := by decide +kernel
theorem dX12_alike_75 : decode cX12_alike 75 = .ok (.getfield 371, 3) := by decide +kernel
theorem dX12_alike_78 : decode cX12_alike 78 = .ok (.iconst 1, 1) := by decide +kernel
theorem dX12_alike_79 : decode cX12_alike 79 = .ok (.iadd, 1) := by decide +kernel
theorem dX12_alike_80 : decode cX12_alike 80 = .ok (.putfield 371, 3) := by decide +kernel
theorem dX12_alike_83 : decode cX12_alike 83 = .ok (.aload_n 0, 1) := by decide +kernel
theorem dX12_alike_84 : decode cX12_alike 84 = .ok (.iload_n 1, 1) := by decide +kernel
theorem dX12_alike_85 : decode cX12_alike 85 = .ok (.iload_n 2, 1) := by decide +kernel
theorem dX12_alike_86 : decode cX12_alike 86 = .ok (.iload 10, 2) := by decide +kernel
theorem dX12_alike_88 : decode cX12_alike 88 = .ok (.invokevirtual 374, 3) := by decide +kernel
theorem dX12_alike_91 : decode cX12_alike 91 = .ok (.istore 11, 2) := by decide +kernel
theorem dX12_alike_93 : decode cX12_alike 93 = .ok (.aload_n 0, 1) := by decide +kernel
theorem dX12_alike_94 : decode cX12_alike 94 = .ok (.iload 5, 2) := by decide +kernel
theorem dX12_alike_96 : decode cX12_alike 96 = .ok (.iload 6, 2) := by decide +kernel
theorem dX12_alike_98 : decode cX12_alike 98 = .ok (.iload 10, 2) := by decide +kernel
theorem dX12_alike_100 : decode cX12_alike 100 = .ok (.invokevirtual 374, 3) := by decide +kernel
theorem dX12_alike_103 : decode cX12_alike 103 = .ok (.istore 12, 2) := by decide +kernel
theorem dX12_alike_105 : decode cX12_alike 105 = .ok (.aload_n 0, 1) := by decide +kernel
theorem dX12_alike_106 : decode cX12_alike 106 = .ok (.aload_n 0, 1) := by decide +kernel
theorem dX12_alike_107 : decode cX12_alike 107 = .ok (.getfield 85, 3) := by decide +kernel
theorem dX12_alike_110 : decode cX12_alike 110 = .ok (.iload_n 1, 1) := by decide +kernel
theorem dX12_alike_111 : decode cX12_alike 111 = .ok (.iaload, 1) := by decide +kernel
theorem dX12_alike_112 : decode cX12_alike 112 = .ok (.iload 11, 2) := by decide +kernel
theorem dX12_alike_114 : decode cX12_alike 114 = .ok (.aload_n 0, 1) := by decide +kernel
theorem dX12_alike_115 : decode cX12_alike 115 = .ok (.getfield 85, 3) := by decide +kernel
theorem dX12_alike_118 : decode cX12_alike 118 = .ok (.iload 5, 2) := by decide +kernel
theorem dX12_alike_120 : decode cX12_alike 120 = .ok (.iaload, 1) := by decide +kernel
theorem dX12_alike_121 : decode cX12_alike 121 = .ok (.iload 12, 2) := by decide +kernel
theorem dX12_alike_123 : decode cX12_alike 123 = .ok (.iload 7, 2) := by decide +kernel
theorem dX12_alike_125 : decode cX12_alike 125 = .ok (.iconst 1, 1) := by decide +kernel
theorem dX12_alike_126 : decode cX12_alike 126 = .ok (.iadd, 1) := by decide +kernel
theorem dX12_alike_127 : decode cX12_alike 127 = .ok (.invokevirtual 366, 3) := by decide +kernel
theorem dX12_alike_130 : decode cX12_alike 130 = .ok (.ireturn, 1) := by decide +kernel
theorem dX12_alike_131 : decode cX12_alike 131 = .ok (.iload_n 3, 1) := by decide +kernel
theorem dX12_alike_132 : decode cX12_alike 132 = .ok (.iload 4, 2) := by decide +kernel
theorem dX12_alike_134 : decode cX12_alike 134 = .ok (.isub, 1) := by decide +kernel
theorem dX12_alike_135 : decode cX12_alike 135 = .ok (.istore 10, 2) := by decide +kernel
theorem dX12_alike_137 : decode cX12_alike 137 = .ok (.iload 8, 2) := by decide +kernel
theorem dX12_alike_139 : decode cX12_alike 139 = .ok (.iload 9, 2) := by decide +kernel
theorem dX12_alike_141 : decode cX12_alike 141 = .ok (.if_icmp .ne 67, 3) := by decide +kernel
theorem dX12_alike_144 : decode cX12_alike 144 = .ok (.iload 10, 2) := by decide +kernel
theorem dX12_alike_146 : decode cX12_alike 146 = .ok (.aload_n 0, 1) := by decide +kernel
theorem dX12_alike_147 : decode cX12_alike 147 = .ok (.getfield 324, 3) := by decide +kernel
theorem dX12_alike_150 : decode cX12_alike 150 = .ok (.iload_n 3, 1) := by decide +kernel
theorem dX12_alike_151 : decode cX12_alike 151 = .ok (.isub, 1) := by decide +kernel
theorem dX12_alike_152 : decode cX12_alike 152 = .ok (.if_icmp .ne 56, 3) := by decide +kernel
theorem dX12_alike_155 : decode cX12_alike 155 = .ok (.iload 8, 2) := by decide +kernel
theorem dX12_alike_157 : decode cX12_alike 157 = .ok (.iconst (-1), 1) := by decide +kernel
theorem dX12_alike_158 : decode cX12_alike 158 = .ok (.if_icmp .ne 12, 3) := by decide +kernel
theorem dX12_alike_161 : decode cX12_alike 161 = .ok (.iload_n 1, 1) := by decide +kernel
theorem dX12_alike_162 : decode cX12_alike 162 = .ok (.iload 5, 2) := by decide +kernel
theorem dX12_alike_164 : decode cX12_alike 164 = .ok (.if_icmp .ne 44, 3) := by decide +kernel
theorem dX12_alike_167 : decode cX12_alike 167 = .ok (.goto 37, 3) := by decide +kernel
theorem dX12_alike_170 : decode cX12_alike 170 = .ok (.iload 8, 2) := by decide +kernel
theorem dX12_alike_172 : decode cX12_alike 172 = .ok (.iconst 1, 1) := by decide +kernel
theorem dX12_alike_173 : decode cX12_alike 173 = .ok (.if_icmp .eq 15, 3) := by decide +kernel
theorem dX12_alike_176 : decode cX12_alike 176 = .ok (.iload 8, 2) := by decide +kernel
theorem dX12_alike_178 : decode cX12_alike 178 = .ok (.iconst 2, 1) := by decide +kernel
theorem dX12_alike_179 : decode cX12_alike 179 = .ok (.if_icmp .eq 9, 3) := by decide +kernel
theorem dX12_alike_182 : decode cX12_alike 182 = .ok (.iload 8, 2) := by decide +kernel
theorem dX12_alike_184 : decode cX12_alike 184 = .ok (.iconst 3, 1) := by decide +kernel
theorem dX12_alike_185 : decode cX12_alike 185 = .ok (.if_icmp .ne 23, 3) := by decide +kernel
theorem dX12_alike_188 : decode cX12_alike 188 = .ok (.aload_n 0, 1) := by decide +kernel
theorem dX12_alike_189 : decode cX12_alike 189 = .ok (.getfield 79, 3) := by decide +kernel
theorem dX12_alike_192 : decode cX12_alike 192 = .ok (.iload_n 1, 1) := by decide +kernel
theorem dX12_alike_193 : decode cX12_alike 193 = .ok (.iaload, 1) := by decide +kernel
theorem dX12_alike_194 : decode cX12_alike 194 = .ok (.aload_n 0, 1) := by decide +kernel
theorem dX12_alike_195 : decode cX12_alike 195 = .ok (.getfield 79, 3) := by decide +kernel
theorem dX12_alike_198 : decode cX12_alike 198 = .ok (.iload 5, 2) := by decide +kernel
theorem dX12_alike_200 : decode cX12_alike 200 = .ok (.iaload, 1) := by decide +kernel
theorem dX12_alike_201 : decode cX12_alike 201 = .ok (.if_icmp .ne 7, 3) := by decide +kernel
theorem dX12_alike_204 : decode cX12_alike 204 = .ok (.iconst 1, 1) := by decide +kernel
theorem dX12_alike_205 : decode cX12_alike 205 = .ok (.goto 4, 3) := by decide +kernel
theorem dX12_alike_208 : decode cX12_alike 208 = .ok (.iconst 0, 1) := by decide +kernel
theorem dX12_alike_209 : decode cX12_alike 209 = .ok (.istore 11, 2) := by decide +kernel
theorem dX12_alike_211 : decode cX12_alike 211 = .ok (.aload_n 0, 1) := by decide +kernel
theorem dX12_alike_212 : decode cX12_alike 212 = .ok (.getfield 324, 3) := by decide +kernel
theorem dX12_alike_215 : decode cX12_alike 215 = .ok (.istore 12, 2) := by decide +kernel
theorem dX12_alike_217 : decode cX12_alike 217 = .ok (.iconst 1, 1) := by decide +kernel
theorem dX12_alike_218 : decode cX12_alike 218 = .ok (.istore 13, 2) := by decide +kernel
theorem dX12_alike_220 : decode cX12_alike 220 = .ok (.iload 11, 2) := by decide +kernel
theorem dX12_alike_222 : decode cX12_alike 222 = .ok (.ifCond .eq 64, 3) := by decide +kernel
theorem dX12_alike_225 : decode cX12_alike 225 = .ok (.iload 13, 2) := by decide +kernel
theorem dX12_alike_227 : decode cX12_alike 227 = .ok (.iload 10, 2) := by decide +kernel
theorem dX12_alike_229 : decode cX12_alike 229 = .ok (.if_icmp .gt 57, 3) := by decide +kernel
theorem dX12_alike_232 : decode cX12_alike 232 = .ok (.aload_n 0, 1) := by decide +kernel
theorem dX12_alike_233 : decode cX12_alike 233 = .ok (.aload_n 0, 1) := by decide +kernel
theorem dX12_alike_234 : decode cX12_alike 234 = .ok (.getfield 128, 3) := by decide +kernel
theorem dX12_alike_237 : decode cX12_alike 237 = .ok (.iload_n 3, 1) := by decide +kernel
theorem dX12_alike_238 : decode cX12_alike 238 = .ok (.iload 13, 2) := by decide +kernel
theorem dX12_alike_240 : decode cX12_alike 240 = .ok (.isub, 1) := by decide +kernel
theorem dX12_alike_241 : decode cX12_alike 241 = .ok (.iaload, 1) := by decide +kernel
theorem dX12_alike_242 : decode cX12_alike 242 = .ok (.aload_n 0, 1) := by decide +kernel
theorem dX12_alike_243 : decode cX12_alike 243 = .ok (.getfield 131, 3) := by decide +kernel
theorem dX12_alike_246 : decode cX12_alike 246 = .ok (.iload_n 3, 1) := by decide +kernel
theorem dX12_alike_247 : decode cX12_alike 247 = .ok (.iload 13, 2) := by decide +kernel
theorem dX12_alike_249 : decode cX12_alike 249 = .ok (.isub, 1) := by decide +kernel
theorem dX12_alike_250 : decode cX12_alike 250 = .ok (.iaload, 1) := by decide +kernel
theorem dX12_alike_251 : decode cX12_alike 251 = .ok (.aload_n 0, 1) := by decide +kernel
theorem dX12_alike_252 : decode cX12_alike 252 = .ok (.getfield 128, 3) := by decide +kernel
theorem dX12_alike_255 : decode cX12_alike 255 = .ok (.iload 12, 2) := by decide +kernel
theorem dX12_alike_257 : decode cX12_alike 257 = .ok (.iload 13, 2) := by decide +kernel
theorem dX12_alike_259 : decode cX12_alike 259 = .ok (.isub, 1) := by decide +kernel
theorem dX12_alike_260 : decode cX12_alike 260 = .ok (.iaload, 1) := by decide +kernel
theorem dX12_alike_261 : decode cX12_alike 261 = .ok (.aload_n 0, 1) := by decide +kernel
theorem dX12_alike_262 : decode cX12_alike 262 = .ok (.getfield 131, 3) := by decide +kernel
theorem dX12_alike_265 : decode cX12_alike 265 = .ok (.iload 12, 2) := by decide +kernel
theorem dX12_alike_267 : decode cX12_alike 267 = .ok (.iload 13, 2) := by decide +kernel
theorem dX12_alike_269 : decode cX12_alike 269 = .ok (.isub, 1) := by decide +kernel
theorem dX12_alike_270 : decode cX12_alike 270 = .ok (.iaload, 1) := by decide +kernel
theorem dX12_alike_271 : decode cX12_alike 271 = .ok (.iload 7, 2) := by decide +kernel
theorem dX12_alike_273 : decode cX12_alike 273 = .ok (.iconst 1, 1) := by decide +kernel
theorem dX12_alike_274 : decode cX12_alike 274 = .ok (.iadd, 1) := by decide +kernel
theorem dX12_alike_275 : decode cX12_alike 275 = .ok (.invokevirtual 366, 3) := by decide +kernel
theorem dX12_alike_278 : decode cX12_alike 278 = .ok (.istore 11, 2) := by decide +kernel
theorem dX12_alike_280 : decode cX12_alike 280 = .ok (.iinc 13 1, 3) := by decide +kernel
theorem dX12_alike_283 : decode cX12_alike 283 = .ok (.goto (-63), 3) := by decide +kernel
theorem dX12_alike_286 : decode cX12_alike 286 = .ok (.iload 11, 2) := by decide +kernel
theorem dX12_alike_288 : decode cX12_alike 288 = .ok (.ireturn, 1) := by decide +kernel
theorem dX12_put_0 : decode cX12_put 0 = .ok (.aload_n 0, 1) := by decide +kernel
theorem dX12_put_1 : decode cX12_put 1 = .ok (.getfield 378, 3) := by decide +kernel
theorem dX12_put_4 : decode cX12_put 4 = .ok (.sipush 3000, 3) := by decide +kernel
theorem dX12_put_7 : decode cX12_put 7 = .ok (.if_icmp .ge 13, 3) := by decide +kernel
theorem dX12_put_10 : decode cX12_put 10 = .ok (.aload_n 0, 1) := by decide +kernel
theorem dX12_put_11 : decode cX12_put 11 = .ok (.getfield 140, 3) := by decide +kernel
theorem dX12_put_14 : decode cX12_put 14 = .ok (.aload_n 0, 1) := by decide +kernel
theorem dX12_put_15 : decode cX12_put 15 = .ok (.getfield 378, 3) := by decide +kernel
theorem dX12_put_18 : decode cX12_put 18 = .ok (.iload_n 1, 1) := by decide +kernel
theorem dX12_put_19 : decode cX12_put 19 = .ok (.iastore, 1) := by decide +kernel
theorem dX12_put_20 : decode cX12_put 20 = .ok (.aload_n 0, 1) := by decide +kernel
theorem dX12_put_21 : decode cX12_put 21 = .ok (.dup, 1) := by decide +kernel
theorem dX12_put_22 : decode cX12_put 22 = .ok (.getfield 378, 3) := by decide +kernel
theorem dX12_put_25 : decode cX12_put 25 = .ok (.iconst 1, 1) := by decide +kernel
theorem dX12_put_26 : decode cX12_put 26 = .ok (.iadd, 1) := by decide +kernel
theorem dX12_put_27 : decode cX12_put 27 = .ok (.putfield 378, 3) := by decide +kernel
theorem dX12_put_30 : decode cX12_put 30 = .ok (.return_, 1) := by decide +kernel
theorem dX12_number_0 : decode cX12_number 0 = .ok (.iload_n 1, 1) := by decide +kernel
theorem dX12_number_1 : decode cX12_number 1 = .ok (.bipush 9, 2) := by decide +kernel
theorem dX12_number_3 : decode cX12_number 3 = .ok (.if_icmp .le 11, 3) := by decide +kernel
theorem dX12_number_6 : decode cX12_number 6 = .ok (.aload_n 0, 1) := by decide +kernel
theorem dX12_number_7 : decode cX12_number 7 = .ok (.iload_n 1, 1) := by decide +kernel
theorem dX12_number_8 : decode cX12_number 8 = .ok (.bipush 10, 2) := by decide +kernel
theorem dX12_number_10 : decode cX12_number 10 = .ok (.idiv, 1) := by decide +kernel
theorem dX12_number_11 : decode cX12_number 11 = .ok (.invokevirtual 381, 3) := by decide +kernel
theorem dX12_number_14 : decode cX12_number 14 = .ok (.aload_n 0, 1) := by decide +kernel
theorem dX12_number_15 : decode cX12_number 15 = .ok (.bipush 48, 2) := by decide +kernel
theorem dX12_number_17 : decode cX12_number 17 = .ok (.iload_n 1, 1) := by decide +kernel
theorem dX12_number_18 : decode cX12_number 18 = .ok (.bipush 10, 2) := by decide +kernel
theorem dX12_number_20 : decode cX12_number 20 = .ok (.irem, 1) := by decide +kernel
theorem dX12_number_21 : decode cX12_number 21 = .ok (.iadd, 1) := by decide +kernel
theorem dX12_number_22 : decode cX12_number 22 = .ok (.invokevirtual 384, 3) := by decide +kernel
theorem dX12_number_25 : decode cX12_number 25 = .ok (.return_, 1) := by decide +kernel
theorem dX12_putWord_0 : decode cX12_putWord 0 = .ok (.iconst 0, 1) := by decide +kernel
theorem dX12_putWord_1 : decode cX12_putWord 1 = .ok (.istore 4, 2) := by decide +kernel
theorem dX12_putWord_3 : decode cX12_putWord 3 = .ok (.iload 4, 2) := by decide +kernel
theorem dX12_putWord_5 : decode cX12_putWord 5 = .ok (.iload_n 3, 1) := by decide +kernel
theorem dX12_putWord_6 : decode cX12_putWord 6 = .ok (.if_icmp .ge 19, 3) := by decide +kernel
theorem dX12_putWord_9 : decode cX12_putWord 9 = .ok (.aload_n 0, 1) := by decide +kernel
theorem dX12_putWord_10 : decode cX12_putWord 10 = .ok (.aload_n 2, 1) := by decide +kernel
theorem dX12_putWord_11 : decode cX12_putWord 11 = .ok (.iload_n 1, 1) := by decide +kernel
theorem dX12_putWord_12 : decode cX12_putWord 12 = .ok (.iload 4, 2) := by decide +kernel
theorem dX12_putWord_14 : decode cX12_putWord 14 = .ok (.iadd, 1) := by decide +kernel
theorem dX12_putWord_15 : decode cX12_putWord 15 = .ok (.iaload, 1) := by decide +kernel
theorem dX12_putWord_16 : decode cX12_putWord 16 = .ok (.invokevirtual 384, 3) := by decide +kernel
theorem dX12_putWord_19 : decode cX12_putWord 19 = .ok (.iinc 4 1, 3) := by decide +kernel
theorem dX12_putWord_22 : decode cX12_putWord 22 = .ok (.goto (-19), 3) := by decide +kernel
theorem dX12_putWord_25 : decode cX12_putWord 25 = .ok (.return_, 1) := by decide +kernel
theorem dX12_tell_0 : decode cX12_tell 0 = .ok (.aload_n 0, 1) := by decide +kernel
theorem dX12_tell_1 : decode cX12_tell 1 = .ok (.iload_n 3, 1) := by decide +kernel
theorem dX12_tell_2 : decode cX12_tell 2 = .ok (.invokevirtual 354, 3) := by decide +kernel
theorem dX12_tell_5 : decode cX12_tell 5 = .ok (.ifCond .ne 4, 3) := by decide +kernel
theorem dX12_tell_8 : decode cX12_tell 8 = .ok (.return_, 1) := by decide +kernel
theorem dX12_tell_9 : decode cX12_tell 9 = .ok (.aload_n 0, 1) := by decide +kernel
theorem dX12_tell_10 : decode cX12_tell 10 = .ok (.getfield 324, 3) := by decide +kernel
theorem dX12_tell_13 : decode cX12_tell 13 = .ok (.istore 6, 2) := by decide +kernel
theorem dX12_tell_15 : decode cX12_tell 15 = .ok (.aload_n 0, 1) := by decide +kernel
theorem dX12_tell_16 : decode cX12_tell 16 = .ok (.iload_n 1, 1) := by decide +kernel
theorem dX12_tell_17 : decode cX12_tell 17 = .ok (.iload_n 2, 1) := by decide +kernel
theorem dX12_tell_18 : decode cX12_tell 18 = .ok (.invokevirtual 357, 3) := by decide +kernel
theorem dX12_tell_21 : decode cX12_tell 21 = .ok (.aload_n 0, 1) := by decide +kernel
theorem dX12_tell_22 : decode cX12_tell 22 = .ok (.getfield 150, 3) := by decide +kernel
theorem dX12_tell_25 : decode cX12_tell 25 = .ok (.ifCond .eq 4, 3) := by decide +kernel
theorem dX12_tell_28 : decode cX12_tell 28 = .ok (.return_, 1) := by decide +kernel
theorem dX12_tell_29 : decode cX12_tell 29 = .ok (.aload_n 0, 1) := by decide +kernel
theorem dX12_tell_30 : decode cX12_tell 30 = .ok (.getfield 348, 3) := by decide +kernel
theorem dX12_tell_33 : decode cX12_tell 33 = .ok (.istore 7, 2) := by decide +kernel
theorem dX12_tell_35 : decode cX12_tell 35 = .ok (.aload_n 0, 1) := by decide +kernel
theorem dX12_tell_36 : decode cX12_tell 36 = .ok (.getfield 351, 3) := by decide +kernel
theorem dX12_tell_39 : decode cX12_tell 39 = .ok (.istore 8, 2) := by decide +kernel
theorem dX12_tell_41 : decode cX12_tell 41 = .ok (.aload_n 0, 1) := by decide +kernel
theorem dX12_tell_42 : decode cX12_tell 42 = .ok (.iload 7, 2) := by decide +kernel
theorem dX12_tell_44 : decode cX12_tell 44 = .ok (.invokevirtual 363, 3) := by decide +kernel
theorem dX12_tell_47 : decode cX12_tell 47 = .ok (.istore 9, 2) := by decide +kernel
theorem dX12_tell_49 : decode cX12_tell 49 = .ok (.iload 9, 2) := by decide +kernel
theorem dX12_tell_51 : decode cX12_tell 51 = .ok (.iconst 4, 1) := by decide +kernel
theorem dX12_tell_52 : decode cX12_tell 52 = .ok (.if_icmp .eq 9, 3) := by decide +kernel
theorem dX12_tell_55 : decode cX12_tell 55 = .ok (.iload 9, 2) := by decide +kernel
theorem dX12_tell_57 : decode cX12_tell 57 = .ok (.iconst 5, 1) := by decide +kernel
theorem dX12_tell_58 : decode cX12_tell 58 = .ok (.if_icmp .ne 7, 3) := by decide +kernel
theorem dX12_tell_61 : decode cX12_tell 61 = .ok (.iconst 1, 1) := by decide +kernel
theorem dX12_tell_62 : decode cX12_tell 62 = .ok (.goto 4, 3) := by decide +kernel
theorem dX12_tell_65 : decode cX12_tell 65 = .ok (.iconst 0, 1) := by decide +kernel
theorem dX12_tell_66 : decode cX12_tell 66 = .ok (.istore 10, 2) := by decide +kernel
theorem dX12_tell_68 : decode cX12_tell 68 = .ok (.iload 10, 2) := by decide +kernel
theorem dX12_tell_70 : decode cX12_tell 70 = .ok (.ifCond .eq 8, 3) := by decide +kernel
theorem dX12_tell_73 : decode cX12_tell 73 = .ok (.iload 5, 2) := by decide +kernel
theorem dX12_tell_75 : decode cX12_tell 75 = .ok (.ifCond .gt 18, 3) := by decide +kernel
theorem dX12_tell_78 : decode cX12_tell 78 = .ok (.iload 5, 2) := by decide +kernel
theorem dX12_tell_80 : decode cX12_tell 80 = .ok (.iconst 2, 1) := by decide +kernel
theorem dX12_tell_81 : decode cX12_tell 81 = .ok (.if_icmp .ne 16, 3) := by decide +kernel
theorem dX12_tell_84 : decode cX12_tell 84 = .ok (.aload_n 0, 1) := by decide +kernel
theorem dX12_tell_85 : decode cX12_tell 85 = .ok (.getfield 324, 3) := by decide +kernel
theorem dX12_tell_88 : decode cX12_tell 88 = .ok (.iload 6, 2) := by decide +kernel
theorem dX12_tell_90 : decode cX12_tell 90 = .ok (.if_icmp .le 7, 3) := by decide +kernel
theorem dX12_tell_93 : decode cX12_tell 93 = .ok (.iconst 1, 1) := by decide +kernel
theorem dX12_tell_94 : decode cX12_tell 94 = .ok (.goto 4, 3) := by decide +kernel
theorem dX12_tell_97 : decode cX12_tell 97 = .ok (.iconst 0, 1) := by decide +kernel
theorem dX12_tell_98 : decode cX12_tell 98 = .ok (.istore 11, 2) := by decide +kernel
theorem dX12_tell_100 : decode cX12_tell 100 = .ok (.iload 11, 2) := by decide +kernel
theorem dX12_tell_102 : decode cX12_tell 102 = .ok (.ifCond .eq 9, 3) := by decide +kernel
theorem dX12_tell_105 : decode cX12_tell 105 = .ok (.aload_n 0, 1) := by decide +kernel
theorem dX12_tell_106 : decode cX12_tell 106 = .ok (.bipush 40, 2) := by decide +kernel
theorem dX12_tell_108 : decode cX12_tell 108 = .ok (.invokevirtual 384, 3) := by decide +kernel
theorem dX12_tell_111 : decode cX12_tell 111 = .ok (.iload 10, 2) := by decide +kernel
theorem dX12_tell_113 : decode cX12_tell 113 = .ok (.ifCond .eq 107, 3) := by decide +kernel
theorem dX12_tell_116 : decode cX12_tell 116 = .ok (.aload_n 0, 1) := by decide +kernel
theorem dX12_tell_117 : decode cX12_tell 117 = .ok (.iload 9, 2) := by decide +kernel
theorem dX12_tell_119 : decode cX12_tell 119 = .ok (.iconst 4, 1) := by decide +kernel
theorem dX12_tell_120 : decode cX12_tell 120 = .ok (.if_icmp .ne 8, 3) := by decide +kernel
theorem dX12_tell_123 : decode cX12_tell 123 = .ok (.bipush 92, 2) := by decide +kernel
theorem dX12_tell_125 : decode cX12_tell 125 = .ok (.goto 5, 3) := by decide +kernel
theorem dX12_tell_128 : decode cX12_tell 128 = .ok (.bipush 33, 2) := by decide +kernel
theorem dX12_tell_130 : decode cX12_tell 130 = .ok (.invokevirtual 384, 3) := by decide +kernel
theorem dX12_tell_133 : decode cX12_tell 133 = .ok (.aload_n 0, 1) := by decide +kernel
theorem dX12_tell_134 : decode cX12_tell 134 = .ok (.bipush 95, 2) := by decide +kernel
theorem dX12_tell_136 : decode cX12_tell 136 = .ok (.invokevirtual 384, 3) := by decide +kernel
theorem dX12_tell_139 : decode cX12_tell 139 = .ok (.aload_n 0, 1) := by decide +kernel
theorem dX12_tell_140 : decode cX12_tell 140 = .ok (.iload 4, 2) := by decide +kernel
theorem dX12_tell_142 : decode cX12_tell 142 = .ok (.invokevirtual 381, 3) := by decide +kernel
theorem dX12_tell_145 : decode cX12_tell 145 = .ok (.aload_n 0, 1) := by decide +kernel
theorem dX12_tell_146 : decode cX12_tell 146 = .ok (.bipush 58, 2) := by decide +kernel
theorem dX12_tell_148 : decode cX12_tell 148 = .ok (.invokevirtual 384, 3) := by decide +kernel
theorem dX12_tell_151 : decode cX12_tell 151 = .ok (.aload_n 0, 1) := by decide +kernel
theorem dX12_tell_152 : decode cX12_tell 152 = .ok (.aload_n 0, 1) := by decide +kernel
theorem dX12_tell_153 : decode cX12_tell 153 = .ok (.getfield 82, 3) := by decide +kernel
theorem dX12_tell_156 : decode cX12_tell 156 = .ok (.iload 7, 2) := by decide +kernel
theorem dX12_tell_158 : decode cX12_tell 158 = .ok (.iaload, 1) := by decide +kernel
theorem dX12_tell_159 : decode cX12_tell 159 = .ok (.iload 8, 2) := by decide +kernel
theorem dX12_tell_161 : decode cX12_tell 161 = .ok (.iload_n 3, 1) := by decide +kernel
theorem dX12_tell_162 : decode cX12_tell 162 = .ok (.iconst 1, 1) := by decide +kernel
theorem dX12_tell_163 : decode cX12_tell 163 = .ok (.iadd, 1) := by decide +kernel
theorem dX12_tell_164 : decode cX12_tell 164 = .ok (.iload 4, 2) := by decide +kernel
theorem dX12_tell_166 : decode cX12_tell 166 = .ok (.iconst 1, 1) := by decide +kernel
theorem dX12_tell_167 : decode cX12_tell 167 = .ok (.invokevirtual 387, 3) := by decide +kernel
theorem dX12_tell_170 : decode cX12_tell 170 = .ok (.aload_n 0, 1) := by decide +kernel
theorem dX12_tell_171 : decode cX12_tell 171 = .ok (.getfield 150, 3) := by decide +kernel
theorem dX12_tell_174 : decode cX12_tell 174 = .ok (.ifCond .eq 4, 3) := by decide +kernel
theorem dX12_tell_177 : decode cX12_tell 177 = .ok (.return_, 1) := by decide +kernel
theorem dX12_tell_178 : decode cX12_tell 178 = .ok (.aload_n 0, 1) := by decide +kernel
theorem dX12_tell_179 : decode cX12_tell 179 = .ok (.bipush 46, 2) := by decide +kernel
theorem dX12_tell_181 : decode cX12_tell 181 = .ok (.invokevirtual 384, 3) := by decide +kernel
theorem dX12_tell_184 : decode cX12_tell 184 = .ok (.aload_n 0, 1) := by decide +kernel
theorem dX12_tell_185 : decode cX12_tell 185 = .ok (.aload_n 0, 1) := by decide +kernel
theorem dX12_tell_186 : decode cX12_tell 186 = .ok (.getfield 85, 3) := by decide +kernel
theorem dX12_tell_189 : decode cX12_tell 189 = .ok (.iload 7, 2) := by decide +kernel
theorem dX12_tell_191 : decode cX12_tell 191 = .ok (.iaload, 1) := by decide +kernel
theorem dX12_tell_192 : decode cX12_tell 192 = .ok (.aload_n 0, 1) := by decide +kernel
theorem dX12_tell_193 : decode cX12_tell 193 = .ok (.iload 7, 2) := by decide +kernel
theorem dX12_tell_195 : decode cX12_tell 195 = .ok (.iload 8, 2) := by decide +kernel
theorem dX12_tell_197 : decode cX12_tell 197 = .ok (.ldc_w 391, 3) := by decide +kernel
theorem dX12_tell_200 : decode cX12_tell 200 = .ok (.iload 4, 2) := by decide +kernel
theorem dX12_tell_202 : decode cX12_tell 202 = .ok (.isub, 1) := by decide +kernel
theorem dX12_tell_203 : decode cX12_tell 203 = .ok (.invokevirtual 374, 3) := by decide +kernel
theorem dX12_tell_206 : decode cX12_tell 206 = .ok (.iload_n 3, 1) := by decide +kernel
theorem dX12_tell_207 : decode cX12_tell 207 = .ok (.iconst 1, 1) := by decide +kernel
theorem dX12_tell_208 : decode cX12_tell 208 = .ok (.iadd, 1) := by decide +kernel
theorem dX12_tell_209 : decode cX12_tell 209 = .ok (.iload 4, 2) := by decide +kernel
theorem dX12_tell_211 : decode cX12_tell 211 = .ok (.iconst 1, 1) := by decide +kernel
theorem dX12_tell_212 : decode cX12_tell 212 = .ok (.iadd, 1) := by decide +kernel
theorem dX12_tell_213 : decode cX12_tell 213 = .ok (.iconst 0, 1) := by decide +kernel
theorem dX12_tell_214 : decode cX12_tell 214 = .ok (.invokevirtual 387, 3) := by decide +kernel
theorem dX12_tell_217 : decode cX12_tell 217 = .ok (.goto 165, 3) := by decide +kernel
theorem dX12_tell_220 : decode cX12_tell 220 = .ok (.iload 9, 2) := by decide +kernel
theorem dX12_tell_222 : decode cX12_tell 222 = .ok (.iconst (-1), 1) := by decide +kernel
theorem dX12_tell_223 : decode cX12_tell 223 = .ok (.if_icmp .ne 22, 3) := by decide +kernel
theorem dX12_tell_226 : decode cX12_tell 226 = .ok (.aload_n 0, 1) := by decide +kernel
theorem dX12_tell_227 : decode cX12_tell 227 = .ok (.bipush 95, 2) := by decide +kernel
theorem dX12_tell_229 : decode cX12_tell 229 = .ok (.invokevirtual 384, 3) := by decide +kernel
theorem dX12_tell_232 : decode cX12_tell 232 = .ok (.aload_n 0, 1) := by decide +kernel
theorem dX12_tell_233 : decode cX12_tell 233 = .ok (.ldc_w 391, 3) := by decide +kernel
theorem dX12_tell_236 : decode cX12_tell 236 = .ok (.iload 7, 2) := by decide +kernel
theorem dX12_tell_238 : decode cX12_tell 238 = .ok (.isub, 1) := by decide +kernel
theorem dX12_tell_239 : decode cX12_tell 239 = .ok (.invokevirtual 381, 3) := by decide +kernel
theorem dX12_tell_242 : decode cX12_tell 242 = .ok (.goto 72, 3) := by decide +kernel
theorem dX12_tell_245 : decode cX12_tell 245 = .ok (.iload 9, 2) := by decide +kernel
theorem dX12_tell_247 : decode cX12_tell 247 = .ok (.iconst 3, 1) := by decide +kernel
theorem dX12_tell_248 : decode cX12_tell 248 = .ok (.if_icmp .ne 36, 3) := by decide +kernel
theorem dX12_tell_251 : decode cX12_tell 251 = .ok (.aload_n 0, 1) := by decide +kernel
theorem dX12_tell_252 : decode cX12_tell 252 = .ok (.bipush 12, 2) := by decide +kernel
theorem dX12_tell_254 : decode cX12_tell 254 = .ok (.aload_n 0, 1) := by decide +kernel
theorem dX12_tell_255 : decode cX12_tell 255 = .ok (.getfield 79, 3) := by decide +kernel
theorem dX12_tell_258 : decode cX12_tell 258 = .ok (.iload 7, 2) := by decide +kernel
theorem dX12_tell_260 : decode cX12_tell 260 = .ok (.iaload, 1) := by decide +kernel
theorem dX12_tell_261 : decode cX12_tell 261 = .ok (.imul, 1) := by decide +kernel
theorem dX12_tell_262 : decode cX12_tell 262 = .ok (.aload_n 0, 1) := by decide +kernel
theorem dX12_tell_263 : decode cX12_tell 263 = .ok (.getfield 44, 3) := by decide +kernel
theorem dX12_tell_266 : decode cX12_tell 266 = .ok (.aload_n 0, 1) := by decide +kernel
theorem dX12_tell_267 : decode cX12_tell 267 = .ok (.getfield 47, 3) := by decide +kernel
theorem dX12_tell_270 : decode cX12_tell 270 = .ok (.aload_n 0, 1) := by decide +kernel
theorem dX12_tell_271 : decode cX12_tell 271 = .ok (.getfield 79, 3) := by decide +kernel
theorem dX12_tell_274 : decode cX12_tell 274 = .ok (.iload 7, 2) := by decide +kernel
theorem dX12_tell_276 : decode cX12_tell 276 = .ok (.iaload, 1) := by decide +kernel
theorem dX12_tell_277 : decode cX12_tell 277 = .ok (.iaload, 1) := by decide +kernel
theorem dX12_tell_278 : decode cX12_tell 278 = .ok (.invokevirtual 392, 3) := by decide +kernel
theorem dX12_tell_281 : decode cX12_tell 281 = .ok (.goto 33, 3) := by decide +kernel
theorem dX12_tell_284 : decode cX12_tell 284 = .ok (.aload_n 0, 1) := by decide +kernel
theorem dX12_tell_285 : decode cX12_tell 285 = .ok (.bipush 12, 2) := by decide +kernel
theorem dX12_tell_287 : decode cX12_tell 287 = .ok (.aload_n 0, 1) := by decide +kernel
theorem dX12_tell_288 : decode cX12_tell 288 = .ok (.getfield 79, 3) := by decide +kernel
theorem dX12_tell_291 : decode cX12_tell 291 = .ok (.iload 7, 2) := by decide +kernel
theorem dX12_tell_293 : decode cX12_tell 293 = .ok (.iaload, 1) := by decide +kernel
theorem dX12_tell_294 : decode cX12_tell 294 = .ok (.imul, 1) := by decide +kernel
theorem dX12_tell_295 : decode cX12_tell 295 = .ok (.aload_n 0, 1) := by decide +kernel
theorem dX12_tell_296 : decode cX12_tell 296 = .ok (.getfield 54, 3) := by decide +kernel
theorem dX12_tell_299 : decode cX12_tell 299 = .ok (.aload_n 0, 1) := by decide +kernel
theorem dX12_tell_300 : decode cX12_tell 300 = .ok (.getfield 57, 3) := by decide +kernel
theorem dX12_tell_303 : decode cX12_tell 303 = .ok (.aload_n 0, 1) := by decide +kernel
theorem dX12_tell_304 : decode cX12_tell 304 = .ok (.getfield 79, 3) := by decide +kernel
theorem dX12_tell_307 : decode cX12_tell 307 = .ok (.iload 7, 2) := by decide +kernel
theorem dX12_tell_309 : decode cX12_tell 309 = .ok (.iaload, 1) := by decide +kernel
theorem dX12_tell_310 : decode cX12_tell 310 = .ok (.iaload, 1) := by decide +kernel
theorem dX12_tell_311 : decode cX12_tell 311 = .ok (.invokevirtual 392, 3) := by decide +kernel
theorem dX12_tell_314 : decode cX12_tell 314 = .ok (.aload_n 0, 1) := by decide +kernel
theorem dX12_tell_315 : decode cX12_tell 315 = .ok (.getfield 324, 3) := by decide +kernel
theorem dX12_tell_318 : decode cX12_tell 318 = .ok (.istore 12, 2) := by decide +kernel
theorem dX12_tell_320 : decode cX12_tell 320 = .ok (.iconst 1, 1) := by decide +kernel
theorem dX12_tell_321 : decode cX12_tell 321 = .ok (.istore 13, 2) := by decide +kernel
theorem dX12_tell_323 : decode cX12_tell 323 = .ok (.aload_n 0, 1) := by decide +kernel
theorem dX12_tell_324 : decode cX12_tell 324 = .ok (.getfield 150, 3) := by decide +kernel
theorem dX12_tell_327 : decode cX12_tell 327 = .ok (.ifCond .ne 55, 3) := by decide +kernel
theorem dX12_tell_330 : decode cX12_tell 330 = .ok (.iload 13, 2) := by decide +kernel
theorem dX12_tell_332 : decode cX12_tell 332 = .ok (.iload 12, 2) := by decide +kernel
theorem dX12_tell_334 : decode cX12_tell 334 = .ok (.iload 6, 2) := by decide +kernel
theorem dX12_tell_336 : decode cX12_tell 336 = .ok (.isub, 1) := by decide +kernel
theorem dX12_tell_337 : decode cX12_tell 337 = .ok (.if_icmp .gt 45, 3) := by decide +kernel
theorem dX12_tell_340 : decode cX12_tell 340 = .ok (.aload_n 0, 1) := by decide +kernel
theorem dX12_tell_341 : decode cX12_tell 341 = .ok (.bipush 32, 2) := by decide +kernel
theorem dX12_tell_343 : decode cX12_tell 343 = .ok (.invokevirtual 384, 3) := by decide +kernel
theorem dX12_tell_346 : decode cX12_tell 346 = .ok (.aload_n 0, 1) := by decide +kernel
theorem dX12_tell_347 : decode cX12_tell 347 = .ok (.aload_n 0, 1) := by decide +kernel
theorem dX12_tell_348 : decode cX12_tell 348 = .ok (.getfield 128, 3) := by decide +kernel
theorem dX12_tell_351 : decode cX12_tell 351 = .ok (.iload 12, 2) := by decide +kernel
theorem dX12_tell_353 : decode cX12_tell 353 = .ok (.iload 13, 2) := by decide +kernel
theorem dX12_tell_355 : decode cX12_tell 355 = .ok (.isub, 1) := by decide +kernel
theorem dX12_tell_356 : decode cX12_tell 356 = .ok (.iaload, 1) := by decide +kernel
theorem dX12_tell_357 : decode cX12_tell 357 = .ok (.aload_n 0, 1) := by decide +kernel
theorem dX12_tell_358 : decode cX12_tell 358 = .ok (.getfield 131, 3) := by decide +kernel
theorem dX12_tell_361 : decode cX12_tell 361 = .ok (.iload 12, 2) := by decide +kernel
theorem dX12_tell_363 : decode cX12_tell 363 = .ok (.iload 13, 2) := by decide +kernel
theorem dX12_tell_365 : decode cX12_tell 365 = .ok (.isub, 1) := by decide +kernel
theorem dX12_tell_366 : decode cX12_tell 366 = .ok (.iaload, 1) := by decide +kernel
theorem dX12_tell_367 : decode cX12_tell 367 = .ok (.iload_n 3, 1) := by decide +kernel
theorem dX12_tell_368 : decode cX12_tell 368 = .ok (.iconst 1, 1) := by decide +kernel
theorem dX12_tell_369 : decode cX12_tell 369 = .ok (.iadd, 1) := by decide +kernel
theorem dX12_tell_370 : decode cX12_tell 370 = .ok (.iload 4, 2) := by decide +kernel
theorem dX12_tell_372 : decode cX12_tell 372 = .ok (.iconst 2, 1) := by decide +kernel
theorem dX12_tell_373 : decode cX12_tell 373 = .ok (.invokevirtual 387, 3) := by decide +kernel
theorem dX12_tell_376 : decode cX12_tell 376 = .ok (.iinc 13 1, 3) := by decide +kernel
theorem dX12_tell_379 : decode cX12_tell 379 = .ok (.goto (-56), 3) := by decide +kernel
theorem dX12_tell_382 : decode cX12_tell 382 = .ok (.aload_n 0, 1) := by decide +kernel
theorem dX12_tell_383 : decode cX12_tell 383 = .ok (.getfield 150, 3) := by decide +kernel
theorem dX12_tell_386 : decode cX12_tell 386 = .ok (.ifCond .eq 4, 3) := by decide +kernel
theorem dX12_tell_389 : decode cX12_tell 389 = .ok (.return_, 1) := by decide +kernel
theorem dX12_tell_390 : decode cX12_tell 390 = .ok (.aload_n 0, 1) := by decide +kernel
theorem dX12_tell_391 : decode cX12_tell 391 = .ok (.iload 6, 2) := by decide +kernel
theorem dX12_tell_393 : decode cX12_tell 393 = .ok (.putfield 324, 3) := by decide +kernel
theorem dX12_tell_396 : decode cX12_tell 396 = .ok (.iload 11, 2) := by decide +kernel
theorem dX12_tell_398 : decode cX12_tell 398 = .ok (.ifCond .eq 9, 3) := by decide +kernel
theorem dX12_tell_401 : decode cX12_tell 401 = .ok (.aload_n 0, 1) := by decide +kernel
theorem dX12_tell_402 : decode cX12_tell 402 = .ok (.bipush 41, 2) := by decide +kernel
theorem dX12_tell_404 : decode cX12_tell 404 = .ok (.invokevirtual 384, 3) := by decide +kernel
theorem dX12_tell_407 : decode cX12_tell 407 = .ok (.return_, 1) := by decide +kernel
theorem dX12_normal_0 : decode cX12_normal 0 = .ok (.aload_n 0, 1) := by decide +kernel
theorem dX12_normal_1 : decode cX12_normal 1 = .ok (.iload_n 3, 1) := by decide +kernel
theorem dX12_normal_2 : decode cX12_normal 2 = .ok (.invokevirtual 354, 3) := by decide +kernel
theorem dX12_normal_5 : decode cX12_normal 5 = .ok (.ifCond .ne 5, 3) := by decide +kernel
theorem dX12_normal_8 : decode cX12_normal 8 = .ok (.iconst 0, 1) := by decide +kernel
theorem dX12_normal_9 : decode cX12_normal 9 = .ok (.ireturn, 1) := by decide +kernel
theorem dX12_normal_10 : decode cX12_normal 10 = .ok (.aload_n 0, 1) := by decide +kernel
theorem dX12_normal_11 : decode cX12_normal 11 = .ok (.getfield 324, 3) := by decide +kernel
theorem dX12_normal_14 : decode cX12_normal 14 = .ok (.istore 4, 2) := by decide +kernel
theorem dX12_normal_16 : decode cX12_normal 16 = .ok (.aload_n 0, 1) := by decide +kernel
theorem dX12_normal_17 : decode cX12_normal 17 = .ok (.iload_n 1, 1) := by decide +kernel
theorem dX12_normal_18 : decode cX12_normal 18 = .ok (.iload_n 2, 1) := by decide +kernel
theorem dX12_normal_19 : decode cX12_normal 19 = .ok (.invokevirtual 357, 3) := by decide +kernel
theorem dX12_normal_22 : decode cX12_normal 22 = .ok (.aload_n 0, 1) := by decide +kernel
theorem dX12_normal_23 : decode cX12_normal 23 = .ok (.getfield 150, 3) := by decide +kernel
theorem dX12_normal_26 : decode cX12_normal 26 = .ok (.ifCond .eq 5, 3) := by decide +kernel
theorem dX12_normal_29 : decode cX12_normal 29 = .ok (.iconst 0, 1) := by decide +kernel
theorem dX12_normal_30 : decode cX12_normal 30 = .ok (.ireturn, 1) := by decide +kernel
theorem dX12_normal_31 : decode cX12_normal 31 = .ok (.aload_n 0, 1) := by decide +kernel
theorem dX12_normal_32 : decode cX12_normal 32 = .ok (.getfield 348, 3) := by decide +kernel
theorem dX12_normal_35 : decode cX12_normal 35 = .ok (.istore 5, 2) := by decide +kernel
theorem dX12_normal_37 : decode cX12_normal 37 = .ok (.aload_n 0, 1) := by decide +kernel
theorem dX12_normal_38 : decode cX12_normal 38 = .ok (.getfield 351, 3) := by decide +kernel
theorem dX12_normal_41 : decode cX12_normal 41 = .ok (.istore 6, 2) := by decide +kernel
theorem dX12_normal_43 : decode cX12_normal 43 = .ok (.aload_n 0, 1) := by decide +kernel
theorem dX12_normal_44 : decode cX12_normal 44 = .ok (.iload 5, 2) := by decide +kernel
theorem dX12_normal_46 : decode cX12_normal 46 = .ok (.invokevirtual 363, 3) := by decide +kernel
theorem dX12_normal_49 : decode cX12_normal 49 = .ok (.istore 7, 2) := by decide +kernel
theorem dX12_normal_51 : decode cX12_normal 51 = .ok (.iload 7, 2) := by decide +kernel
theorem dX12_normal_53 : decode cX12_normal 53 = .ok (.iconst 4, 1) := by decide +kernel
theorem dX12_normal_54 : decode cX12_normal 54 = .ok (.if_icmp .eq 9, 3) := by decide +kernel
theorem dX12_normal_57 : decode cX12_normal 57 = .ok (.iload 7, 2) := by decide +kernel
theorem dX12_normal_59 : decode cX12_normal 59 = .ok (.iconst 5, 1) := by decide +kernel
theorem dX12_normal_60 : decode cX12_normal 60 = .ok (.if_icmp .ne 103, 3) := by decide +kernel
theorem dX12_normal_63 : decode cX12_normal 63 = .ok (.aload_n 0, 1) := by decide +kernel
theorem dX12_normal_64 : decode cX12_normal 64 = .ok (.iload 7, 2) := by decide +kernel
theorem dX12_normal_66 : decode cX12_normal 66 = .ok (.iconst (-1), 1) := by decide +kernel
theorem dX12_normal_67 : decode cX12_normal 67 = .ok (.iconst 0, 1) := by decide +kernel
theorem dX12_normal_68 : decode cX12_normal 68 = .ok (.iconst 0, 1) := by decide +kernel
theorem dX12_normal_69 : decode cX12_normal 69 = .ok (.iconst 0, 1) := by decide +kernel
theorem dX12_normal_70 : decode cX12_normal 70 = .ok (.invokevirtual 241, 3) := by decide +kernel
theorem dX12_normal_73 : decode cX12_normal 73 = .ok (.istore 8, 2) := by decide +kernel
theorem dX12_normal_75 : decode cX12_normal 75 = .ok (.aload_n 0, 1) := by decide +kernel
theorem dX12_normal_76 : decode cX12_normal 76 = .ok (.getfield 94, 3) := by decide +kernel
theorem dX12_normal_79 : decode cX12_normal 79 = .ok (.iload 8, 2) := by decide +kernel
theorem dX12_normal_81 : decode cX12_normal 81 = .ok (.aload_n 0, 1) := by decide +kernel
theorem dX12_normal_82 : decode cX12_normal 82 = .ok (.getfield 94, 3) := by decide +kernel
theorem dX12_normal_85 : decode cX12_normal 85 = .ok (.iload 5, 2) := by decide +kernel
theorem dX12_normal_87 : decode cX12_normal 87 = .ok (.iaload, 1) := by decide +kernel
theorem dX12_normal_88 : decode cX12_normal 88 = .ok (.iastore, 1) := by decide +kernel
theorem dX12_normal_89 : decode cX12_normal 89 = .ok (.aload_n 0, 1) := by decide +kernel
theorem dX12_normal_90 : decode cX12_normal 90 = .ok (.getfield 97, 3) := by decide +kernel
theorem dX12_normal_93 : decode cX12_normal 93 = .ok (.iload 8, 2) := by decide +kernel
theorem dX12_normal_95 : decode cX12_normal 95 = .ok (.aload_n 0, 1) := by decide +kernel
theorem dX12_normal_96 : decode cX12_normal 96 = .ok (.getfield 97, 3) := by decide +kernel
theorem dX12_normal_99 : decode cX12_normal 99 = .ok (.iload 5, 2) := by decide +kernel
theorem dX12_normal_101 : decode cX12_normal 101 = .ok (.iaload, 1) := by decide +kernel
theorem dX12_normal_102 : decode cX12_normal 102 = .ok (.iastore, 1) := by decide +kernel
theorem dX12_normal_103 : decode cX12_normal 103 = .ok (.aload_n 0, 1) := by decide +kernel
theorem dX12_normal_104 : decode cX12_normal 104 = .ok (.getfield 82, 3) := by decide +kernel
theorem dX12_normal_107 : decode cX12_normal 107 = .ok (.iload 8, 2) := by decide +kernel
theorem dX12_normal_109 : decode cX12_normal 109 = .ok (.aload_n 0, 1) := by decide +kernel
theorem dX12_normal_110 : decode cX12_normal 110 = .ok (.aload_n 0, 1) := by decide +kernel
theorem dX12_normal_111 : decode cX12_normal 111 = .ok (.getfield 82, 3) := by decide +kernel
theorem dX12_normal_114 : decode cX12_normal 114 = .ok (.iload 5, 2) := by decide +kernel
theorem dX12_normal_116 : decode cX12_normal 116 = .ok (.iaload, 1) := by decide +kernel
theorem dX12_normal_117 : decode cX12_normal 117 = .ok (.iload 6, 2) := by decide +kernel
theorem dX12_normal_119 : decode cX12_normal 119 = .ok (.iload_n 3, 1) := by decide +kernel
theorem dX12_normal_120 : decode cX12_normal 120 = .ok (.iconst 1, 1) := by decide +kernel
theorem dX12_normal_121 : decode cX12_normal 121 = .ok (.iadd, 1) := by decide +kernel
theorem dX12_normal_122 : decode cX12_normal 122 = .ok (.invokevirtual 396, 3) := by decide +kernel
theorem dX12_normal_125 : decode cX12_normal 125 = .ok (.iastore, 1) := by decide +kernel
theorem dX12_normal_126 : decode cX12_normal 126 = .ok (.aload_n 0, 1) := by decide +kernel
theorem dX12_normal_127 : decode cX12_normal 127 = .ok (.getfield 85, 3) := by decide +kernel
theorem dX12_normal_130 : decode cX12_normal 130 = .ok (.iload 8, 2) := by decide +kernel
theorem dX12_normal_132 : decode cX12_normal 132 = .ok (.aload_n 0, 1) := by decide +kernel
theorem dX12_normal_133 : decode cX12_normal 133 = .ok (.aload_n 0, 1) := by decide +kernel
theorem dX12_normal_134 : decode cX12_normal 134 = .ok (.getfield 85, 3) := by decide +kernel
theorem dX12_normal_137 : decode cX12_normal 137 = .ok (.iload 5, 2) := by decide +kernel
theorem dX12_normal_139 : decode cX12_normal 139 = .ok (.iaload, 1) := by decide +kernel
theorem dX12_normal_140 : decode cX12_normal 140 = .ok (.aload_n 0, 1) := by decide +kernel
theorem dX12_normal_141 : decode cX12_normal 141 = .ok (.iload 5, 2) := by decide +kernel
theorem dX12_normal_143 : decode cX12_normal 143 = .ok (.iload 6, 2) := by decide +kernel
theorem dX12_normal_145 : decode cX12_normal 145 = .ok (.bipush (-2), 2) := by decide +kernel
theorem dX12_normal_147 : decode cX12_normal 147 = .ok (.iload 8, 2) := by decide +kernel
theorem dX12_normal_149 : decode cX12_normal 149 = .ok (.isub, 1) := by decide +kernel
theorem dX12_normal_150 : decode cX12_normal 150 = .ok (.invokevirtual 374, 3) := by decide +kernel
theorem dX12_normal_153 : decode cX12_normal 153 = .ok (.iload_n 3, 1) := by decide +kernel
theorem dX12_normal_154 : decode cX12_normal 154 = .ok (.iconst 1, 1) := by decide +kernel
theorem dX12_normal_155 : decode cX12_normal 155 = .ok (.iadd, 1) := by decide +kernel
theorem dX12_normal_156 : decode cX12_normal 156 = .ok (.invokevirtual 396, 3) := by decide +kernel
theorem dX12_normal_159 : decode cX12_normal 159 = .ok (.iastore, 1) := by decide +kernel
theorem dX12_normal_160 : decode cX12_normal 160 = .ok (.goto 135, 3) := by decide +kernel
theorem dX12_normal_163 : decode cX12_normal 163 = .ok (.iload 7, 2) := by decide +kernel
theorem dX12_normal_165 : decode cX12_normal 165 = .ok (.iconst 3, 1) := by decide +kernel
theorem dX12_normal_166 : decode cX12_normal 166 = .ok (.if_icmp .ne 13, 3) := by decide +kernel
theorem dX12_normal_169 : decode cX12_normal 169 = .ok (.aload_n 0, 1) := by decide +kernel
theorem dX12_normal_170 : decode cX12_normal 170 = .ok (.getfield 79, 3) := by decide +kernel
theorem dX12_normal_173 : decode cX12_normal 173 = .ok (.iload 5, 2) := by decide +kernel
theorem dX12_normal_175 : decode cX12_normal 175 = .ok (.iaload, 1) := by decide +kernel
theorem dX12_normal_176 : decode cX12_normal 176 = .ok (.goto 42, 3) := by decide +kernel
theorem dX12_normal_179 : decode cX12_normal 179 = .ok (.aload_n 0, 1) := by decide +kernel
theorem dX12_normal_180 : decode cX12_normal 180 = .ok (.iload 7, 2) := by decide +kernel
theorem dX12_normal_182 : decode cX12_normal 182 = .ok (.iconst 2, 1) := by decide +kernel
theorem dX12_normal_183 : decode cX12_normal 183 = .ok (.if_icmp .ne 7, 3) := by decide +kernel
theorem dX12_normal_186 : decode cX12_normal 186 = .ok (.iconst 2, 1) := by decide +kernel
theorem dX12_normal_187 : decode cX12_normal 187 = .ok (.goto 4, 3) := by decide +kernel
theorem dX12_normal_190 : decode cX12_normal 190 = .ok (.iconst 1, 1) := by decide +kernel
theorem dX12_normal_191 : decode cX12_normal 191 = .ok (.iload 7, 2) := by decide +kernel
theorem dX12_normal_193 : decode cX12_normal 193 = .ok (.iconst (-1), 1) := by decide +kernel
theorem dX12_normal_194 : decode cX12_normal 194 = .ok (.if_icmp .ne 11, 3) := by decide +kernel
theorem dX12_normal_197 : decode cX12_normal 197 = .ok (.bipush (-2), 2) := by decide +kernel
theorem dX12_normal_199 : decode cX12_normal 199 = .ok (.iload 5, 2) := by decide +kernel
theorem dX12_normal_201 : decode cX12_normal 201 = .ok (.isub, 1) := by decide +kernel
theorem dX12_normal_202 : decode cX12_normal 202 = .ok (.goto 10, 3) := by decide +kernel
theorem dX12_normal_205 : decode cX12_normal 205 = .ok (.aload_n 0, 1) := by decide +kernel
theorem dX12_normal_206 : decode cX12_normal 206 = .ok (.getfield 79, 3) := by decide +kernel
theorem dX12_normal_209 : decode cX12_normal 209 = .ok (.iload 5, 2) := by decide +kernel
theorem dX12_normal_211 : decode cX12_normal 211 = .ok (.iaload, 1) := by decide +kernel
theorem dX12_normal_212 : decode cX12_normal 212 = .ok (.iconst 0, 1) := by decide +kernel
theorem dX12_normal_213 : decode cX12_normal 213 = .ok (.iconst 0, 1) := by decide +kernel
theorem dX12_normal_214 : decode cX12_normal 214 = .ok (.iconst 0, 1) := by decide +kernel
theorem dX12_normal_215 : decode cX12_normal 215 = .ok (.invokevirtual 241, 3) := by decide +kernel
theorem dX12_normal_218 : decode cX12_normal 218 = .ok (.istore 8, 2) := by decide +kernel
theorem dX12_normal_220 : decode cX12_normal 220 = .ok (.aload_n 0, 1) := by decide +kernel
theorem dX12_normal_221 : decode cX12_normal 221 = .ok (.getfield 324, 3) := by decide +kernel
theorem dX12_normal_224 : decode cX12_normal 224 = .ok (.istore 9, 2) := by decide +kernel
theorem dX12_normal_226 : decode cX12_normal 226 = .ok (.iconst 1, 1) := by decide +kernel
theorem dX12_normal_227 : decode cX12_normal 227 = .ok (.istore 10, 2) := by decide +kernel
theorem dX12_normal_229 : decode cX12_normal 229 = .ok (.aload_n 0, 1) := by decide +kernel
theorem dX12_normal_230 : decode cX12_normal 230 = .ok (.getfield 150, 3) := by decide +kernel
theorem dX12_normal_233 : decode cX12_normal 233 = .ok (.ifCond .ne 62, 3) := by decide +kernel
theorem dX12_normal_236 : decode cX12_normal 236 = .ok (.iload 10, 2) := by decide +kernel
theorem dX12_normal_238 : decode cX12_normal 238 = .ok (.iload 9, 2) := by decide +kernel
theorem dX12_normal_240 : decode cX12_normal 240 = .ok (.iload 4, 2) := by decide +kernel
theorem dX12_normal_242 : decode cX12_normal 242 = .ok (.isub, 1) := by decide +kernel
theorem dX12_normal_243 : decode cX12_normal 243 = .ok (.if_icmp .gt 52, 3) := by decide +kernel
theorem dX12_normal_246 : decode cX12_normal 246 = .ok (.aload_n 0, 1) := by decide +kernel
theorem dX12_normal_247 : decode cX12_normal 247 = .ok (.aload_n 0, 1) := by decide +kernel
theorem dX12_normal_248 : decode cX12_normal 248 = .ok (.getfield 128, 3) := by decide +kernel
theorem dX12_normal_251 : decode cX12_normal 251 = .ok (.iload 9, 2) := by decide +kernel
theorem dX12_normal_253 : decode cX12_normal 253 = .ok (.iload 10, 2) := by decide +kernel
theorem dX12_normal_255 : decode cX12_normal 255 = .ok (.isub, 1) := by decide +kernel
theorem dX12_normal_256 : decode cX12_normal 256 = .ok (.iaload, 1) := by decide +kernel
theorem dX12_normal_257 : decode cX12_normal 257 = .ok (.aload_n 0, 1) := by decide +kernel
theorem dX12_normal_258 : decode cX12_normal 258 = .ok (.getfield 131, 3) := by decide +kernel
theorem dX12_normal_261 : decode cX12_normal 261 = .ok (.iload 9, 2) := by decide +kernel
theorem dX12_normal_263 : decode cX12_normal 263 = .ok (.iload 10, 2) := by decide +kernel
theorem dX12_normal_265 : decode cX12_normal 265 = .ok (.isub, 1) := by decide +kernel
theorem dX12_normal_266 : decode cX12_normal 266 = .ok (.iaload, 1) := by decide +kernel
theorem dX12_normal_267 : decode cX12_normal 267 = .ok (.iload_n 3, 1) := by decide +kernel
theorem dX12_normal_268 : decode cX12_normal 268 = .ok (.iconst 1, 1) := by decide +kernel
theorem dX12_normal_269 : decode cX12_normal 269 = .ok (.iadd, 1) := by decide +kernel
theorem dX12_normal_270 : decode cX12_normal 270 = .ok (.invokevirtual 396, 3) := by decide +kernel
theorem dX12_normal_273 : decode cX12_normal 273 = .ok (.istore 11, 2) := by decide +kernel
theorem dX12_normal_275 : decode cX12_normal 275 = .ok (.aload_n 0, 1) := by decide +kernel
theorem dX12_normal_276 : decode cX12_normal 276 = .ok (.bipush 7, 2) := by decide +kernel
theorem dX12_normal_278 : decode cX12_normal 278 = .ok (.iconst 0, 1) := by decide +kernel
theorem dX12_normal_279 : decode cX12_normal 279 = .ok (.iload 8, 2) := by decide +kernel
theorem dX12_normal_281 : decode cX12_normal 281 = .ok (.iload 11, 2) := by decide +kernel
theorem dX12_normal_283 : decode cX12_normal 283 = .ok (.iconst 0, 1) := by decide +kernel
theorem dX12_normal_284 : decode cX12_normal 284 = .ok (.invokevirtual 241, 3) := by decide +kernel
theorem dX12_normal_287 : decode cX12_normal 287 = .ok (.istore 8, 2) := by decide +kernel
theorem dX12_normal_289 : decode cX12_normal 289 = .ok (.iinc 10 1, 3) := by decide +kernel
theorem dX12_normal_292 : decode cX12_normal 292 = .ok (.goto (-63), 3) := by decide +kernel
theorem dX12_normal_295 : decode cX12_normal 295 = .ok (.aload_n 0, 1) := by decide +kernel
theorem dX12_normal_296 : decode cX12_normal 296 = .ok (.iload 4, 2) := by decide +kernel
theorem dX12_normal_298 : decode cX12_normal 298 = .ok (.putfield 324, 3) := by decide +kernel
theorem dX12_normal_301 : decode cX12_normal 301 = .ok (.iload 8, 2) := by decide +kernel
theorem dX12_normal_303 : decode cX12_normal 303 = .ok (.ireturn, 1) := by decide +kernel
theorem dX12_sameName_0 : decode cX12_sameName 0 = .ok (.iload_n 2, 1) := by decide +kernel
theorem dX12_sameName_1 : decode cX12_sameName 1 = .ok (.iload 5, 2) := by decide +kernel
theorem dX12_sameName_3 : decode cX12_sameName 3 = .ok (.if_icmp .ne 7, 3) := by decide +kernel
theorem dX12_sameName_6 : decode cX12_sameName 6 = .ok (.iconst 1, 1) := by decide +kernel
theorem dX12_sameName_7 : decode cX12_sameName 7 = .ok (.goto 4, 3) := by decide +kernel
theorem dX12_sameName_10 : decode cX12_sameName 10 = .ok (.iconst 0, 1) := by decide +kernel
theorem dX12_sameName_11 : decode cX12_sameName 11 = .ok (.istore 6, 2) := by decide +kernel
theorem dX12_sameName_13 : decode cX12_sameName 13 = .ok (.iconst 0, 1) := by decide +kernel
theorem dX12_sameName_14 : decode cX12_sameName 14 = .ok (.istore 7, 2) := by decide +kernel
theorem dX12_sameName_16 : decode cX12_sameName 16 = .ok (.iload 6, 2) := by decide +kernel
theorem dX12_sameName_18 : decode cX12_sameName 18 = .ok (.ifCond .eq 41, 3) := by decide +kernel
theorem dX12_sameName_21 : decode cX12_sameName 21 = .ok (.iload 7, 2) := by decide +kernel
theorem dX12_sameName_23 : decode cX12_sameName 23 = .ok (.iload_n 2, 1) := by decide +kernel
theorem dX12_sameName_24 : decode cX12_sameName 24 = .ok (.if_icmp .ge 35, 3) := by decide +kernel
theorem dX12_sameName_27 : decode cX12_sameName 27 = .ok (.aload_n 0, 1) := by decide +kernel
theorem dX12_sameName_28 : decode cX12_sameName 28 = .ok (.getfield 37, 3) := by decide +kernel
theorem dX12_sameName_31 : decode cX12_sameName 31 = .ok (.iload_n 1, 1) := by decide +kernel
theorem dX12_sameName_32 : decode cX12_sameName 32 = .ok (.iload 7, 2) := by decide +kernel
theorem dX12_sameName_34 : decode cX12_sameName 34 = .ok (.iadd, 1) := by decide +kernel
theorem dX12_sameName_35 : decode cX12_sameName 35 = .ok (.iaload, 1) := by decide +kernel
theorem dX12_sameName_36 : decode cX12_sameName 36 = .ok (.aload_n 3, 1) := by decide +kernel
theorem dX12_sameName_37 : decode cX12_sameName 37 = .ok (.iload 4, 2) := by decide +kernel
theorem dX12_sameName_39 : decode cX12_sameName 39 = .ok (.iload 7, 2) := by decide +kernel
theorem dX12_sameName_41 : decode cX12_sameName 41 = .ok (.iadd, 1) := by decide +kernel
theorem dX12_sameName_42 : decode cX12_sameName 42 = .ok (.iaload, 1) := by decide +kernel
theorem dX12_sameName_43 : decode cX12_sameName 43 = .ok (.if_icmp .ne 7, 3) := by decide +kernel
theorem dX12_sameName_46 : decode cX12_sameName 46 = .ok (.iconst 1, 1) := by decide +kernel
theorem dX12_sameName_47 : decode cX12_sameName 47 = .ok (.goto 4, 3) := by decide +kernel
theorem dX12_sameName_50 : decode cX12_sameName 50 = .ok (.iconst 0, 1) := by decide +kernel
theorem dX12_sameName_51 : decode cX12_sameName 51 = .ok (.istore 6, 2) := by decide +kernel
theorem dX12_sameName_53 : decode cX12_sameName 53 = .ok (.iinc 7 1, 3) := by decide +kernel
theorem dX12_sameName_56 : decode cX12_sameName 56 = .ok (.goto (-40), 3) := by decide +kernel
theorem dX12_sameName_59 : decode cX12_sameName 59 = .ok (.iload 6, 2) := by decide +kernel
theorem dX12_sameName_61 : decode cX12_sameName 61 = .ok (.ireturn, 1) := by decide +kernel
theorem dX12_sortOf_0 : decode cX12_sortOf 0 = .ok (.iconst (-1), 1) := by decide +kernel
theorem dX12_sortOf_1 : decode cX12_sortOf 1 = .ok (.istore_n 2, 1) := by decide +kernel
theorem dX12_sortOf_2 : decode cX12_sortOf 2 = .ok (.iconst 0, 1) := by decide +kernel
theorem dX12_sortOf_3 : decode cX12_sortOf 3 = .ok (.istore_n 3, 1) := by decide +kernel
theorem dX12_sortOf_4 : decode cX12_sortOf 4 = .ok (.iload_n 3, 1) := by decide +kernel
theorem dX12_sortOf_5 : decode cX12_sortOf 5 = .ok (.aload_n 0, 1) := by decide +kernel
theorem dX12_sortOf_6 : decode cX12_sortOf 6 = .ok (.getfield 160, 3) := by decide +kernel
theorem dX12_sortOf_9 : decode cX12_sortOf 9 = .ok (.if_icmp .ge 44, 3) := by decide +kernel
theorem dX12_sortOf_12 : decode cX12_sortOf 12 = .ok (.aload_n 0, 1) := by decide +kernel
theorem dX12_sortOf_13 : decode cX12_sortOf 13 = .ok (.aload_n 0, 1) := by decide +kernel
theorem dX12_sortOf_14 : decode cX12_sortOf 14 = .ok (.getfield 79, 3) := by decide +kernel
theorem dX12_sortOf_17 : decode cX12_sortOf 17 = .ok (.iload_n 1, 1) := by decide +kernel
theorem dX12_sortOf_18 : decode cX12_sortOf 18 = .ok (.iaload, 1) := by decide +kernel
theorem dX12_sortOf_19 : decode cX12_sortOf 19 = .ok (.aload_n 0, 1) := by decide +kernel
theorem dX12_sortOf_20 : decode cX12_sortOf 20 = .ok (.getfield 82, 3) := by decide +kernel
theorem dX12_sortOf_23 : decode cX12_sortOf 23 = .ok (.iload_n 1, 1) := by decide +kernel
theorem dX12_sortOf_24 : decode cX12_sortOf 24 = .ok (.iaload, 1) := by decide +kernel
theorem dX12_sortOf_25 : decode cX12_sortOf 25 = .ok (.aload_n 0, 1) := by decide +kernel
theorem dX12_sortOf_26 : decode cX12_sortOf 26 = .ok (.getfield 44, 3) := by decide +kernel
theorem dX12_sortOf_29 : decode cX12_sortOf 29 = .ok (.bipush 12, 2) := by decide +kernel
theorem dX12_sortOf_31 : decode cX12_sortOf 31 = .ok (.iload_n 3, 1) := by decide +kernel
theorem dX12_sortOf_32 : decode cX12_sortOf 32 = .ok (.imul, 1) := by decide +kernel
theorem dX12_sortOf_33 : decode cX12_sortOf 33 = .ok (.aload_n 0, 1) := by decide +kernel
theorem dX12_sortOf_34 : decode cX12_sortOf 34 = .ok (.getfield 47, 3) := by decide +kernel
theorem dX12_sortOf_37 : decode cX12_sortOf 37 = .ok (.iload_n 3, 1) := by decide +kernel
theorem dX12_sortOf_38 : decode cX12_sortOf 38 = .ok (.iaload, 1) := by decide +kernel
theorem dX12_sortOf_39 : decode cX12_sortOf 39 = .ok (.invokevirtual 399, 3) := by decide +kernel
theorem dX12_sortOf_42 : decode cX12_sortOf 42 = .ok (.ifCond .eq 5, 3) := by decide +kernel
theorem dX12_sortOf_45 : decode cX12_sortOf 45 = .ok (.iload_n 3, 1) := by decide +kernel
theorem dX12_sortOf_46 : decode cX12_sortOf 46 = .ok (.istore_n 2, 1) := by decide +kernel
theorem dX12_sortOf_47 : decode cX12_sortOf 47 = .ok (.iinc 3 1, 3) := by decide +kernel
theorem dX12_sortOf_50 : decode cX12_sortOf 50 = .ok (.goto (-46), 3) := by decide +kernel
theorem dX12_sortOf_53 : decode cX12_sortOf 53 = .ok (.iload_n 2, 1) := by decide +kernel
theorem dX12_sortOf_54 : decode cX12_sortOf 54 = .ok (.ireturn, 1) := by decide +kernel
theorem dX12_knownOf_0 : decode cX12_knownOf 0 = .ok (.iconst (-1), 1) := by decide +kernel
theorem dX12_knownOf_1 : decode cX12_knownOf 1 = .ok (.istore_n 2, 1) := by decide +kernel
theorem dX12_knownOf_2 : decode cX12_knownOf 2 = .ok (.iconst 0, 1) := by decide +kernel
theorem dX12_knownOf_3 : decode cX12_knownOf 3 = .ok (.istore_n 3, 1) := by decide +kernel
theorem dX12_knownOf_4 : decode cX12_knownOf 4 = .ok (.iload_n 3, 1) := by decide +kernel
theorem dX12_knownOf_5 : decode cX12_knownOf 5 = .ok (.aload_n 0, 1) := by decide +kernel
theorem dX12_knownOf_6 : decode cX12_knownOf 6 = .ok (.getfield 167, 3) := by decide +kernel
theorem dX12_knownOf_9 : decode cX12_knownOf 9 = .ok (.if_icmp .ge 44, 3) := by decide +kernel
theorem dX12_knownOf_12 : decode cX12_knownOf 12 = .ok (.aload_n 0, 1) := by decide +kernel
theorem dX12_knownOf_13 : decode cX12_knownOf 13 = .ok (.aload_n 0, 1) := by decide +kernel
theorem dX12_knownOf_14 : decode cX12_knownOf 14 = .ok (.getfield 79, 3) := by decide +kernel
theorem dX12_knownOf_17 : decode cX12_knownOf 17 = .ok (.iload_n 1, 1) := by decide +kernel
theorem dX12_knownOf_18 : decode cX12_knownOf 18 = .ok (.iaload, 1) := by decide +kernel
theorem dX12_knownOf_19 : decode cX12_knownOf 19 = .ok (.aload_n 0, 1) := by decide +kernel
theorem dX12_knownOf_20 : decode cX12_knownOf 20 = .ok (.getfield 82, 3) := by decide +kernel
theorem dX12_knownOf_23 : decode cX12_knownOf 23 = .ok (.iload_n 1, 1) := by decide +kernel
theorem dX12_knownOf_24 : decode cX12_knownOf 24 = .ok (.iaload, 1) := by decide +kernel
theorem dX12_knownOf_25 : decode cX12_knownOf 25 = .ok (.aload_n 0, 1) := by decide +kernel
theorem dX12_knownOf_26 : decode cX12_knownOf 26 = .ok (.getfield 54, 3) := by decide +kernel
theorem dX12_knownOf_29 : decode cX12_knownOf 29 = .ok (.bipush 12, 2) := by decide +kernel
theorem dX12_knownOf_31 : decode cX12_knownOf 31 = .ok (.iload_n 3, 1) := by decide +kernel
theorem dX12_knownOf_32 : decode cX12_knownOf 32 = .ok (.imul, 1) := by decide +kernel
theorem dX12_knownOf_33 : decode cX12_knownOf 33 = .ok (.aload_n 0, 1) := by decide +kernel
theorem dX12_knownOf_34 : decode cX12_knownOf 34 = .ok (.getfield 57, 3) := by decide +kernel
theorem dX12_knownOf_37 : decode cX12_knownOf 37 = .ok (.iload_n 3, 1) := by decide +kernel
theorem dX12_knownOf_38 : decode cX12_knownOf 38 = .ok (.iaload, 1) := by decide +kernel
theorem dX12_knownOf_39 : decode cX12_knownOf 39 = .ok (.invokevirtual 399, 3) := by decide +kernel
theorem dX12_knownOf_42 : decode cX12_knownOf 42 = .ok (.ifCond .eq 5, 3) := by decide +kernel
theorem dX12_knownOf_45 : decode cX12_knownOf 45 = .ok (.iload_n 3, 1) := by decide +kernel
theorem dX12_knownOf_46 : decode cX12_knownOf 46 = .ok (.istore_n 2, 1) := by decide +kernel
theorem dX12_knownOf_47 : decode cX12_knownOf 47 = .ok (.iinc 3 1, 3) := by decide +kernel
theorem dX12_knownOf_50 : decode cX12_knownOf 50 = .ok (.goto (-46), 3) := by decide +kernel
theorem dX12_knownOf_53 : decode cX12_knownOf 53 = .ok (.iload_n 2, 1) := by decide +kernel
theorem dX12_knownOf_54 : decode cX12_knownOf 54 = .ok (.ireturn, 1) := by decide +kernel
theorem dX12_becomes_0 : decode cX12_becomes 0 = .ok (.aload_n 0, 1) := by decide +kernel
theorem dX12_becomes_1 : decode cX12_becomes 1 = .ok (.iload_n 1, 1) := by decide +kernel
theorem dX12_becomes_2 : decode cX12_becomes 2 = .ok (.putfield 403, 3) := by decide +kernel
theorem dX12_becomes_5 : decode cX12_becomes 5 = .ok (.aload_n 0, 1) := by decide +kernel
theorem dX12_becomes_6 : decode cX12_becomes 6 = .ok (.iload_n 2, 1) := by decide +kernel
theorem dX12_becomes_7 : decode cX12_becomes 7 = .ok (.putfield 406, 3) := by decide +kernel
theorem dX12_becomes_10 : decode cX12_becomes 10 = .ok (.return_, 1) := by decide +kernel
theorem dX12_judgeName_0 : decode cX12_judgeName 0 = .ok (.iconst (-1), 1) := by decide +kernel
theorem dX12_judgeName_1 : decode cX12_judgeName 1 = .ok (.istore_n 2, 1) := by decide +kernel
theorem dX12_judgeName_2 : decode cX12_judgeName 2 = .ok (.iconst 0, 1) := by decide +kernel
theorem dX12_judgeName_3 : decode cX12_judgeName 3 = .ok (.istore_n 3, 1) := by decide +kernel
theorem dX12_judgeName_4 : decode cX12_judgeName 4 = .ok (.iload_n 3, 1) := by decide +kernel
theorem dX12_judgeName_5 : decode cX12_judgeName 5 = .ok (.aload_n 0, 1) := by decide +kernel
theorem dX12_judgeName_6 : decode cX12_judgeName 6 = .ok (.getfield 409, 3) := by decide +kernel
theorem dX12_judgeName_9 : decode cX12_judgeName 9 = .ok (.if_icmp .ge 121, 3) := by decide +kernel
theorem dX12_judgeName_12 : decode cX12_judgeName 12 = .ok (.aload_n 0, 1) := by decide +kernel
theorem dX12_judgeName_13 : decode cX12_judgeName 13 = .ok (.getfield 79, 3) := by decide +kernel
theorem dX12_judgeName_16 : decode cX12_judgeName 16 = .ok (.aload_n 0, 1) := by decide +kernel
theorem dX12_judgeName_17 : decode cX12_judgeName 17 = .ok (.getfield 109, 3) := by decide +kernel
theorem dX12_judgeName_20 : decode cX12_judgeName 20 = .ok (.iload_n 3, 1) := by decide +kernel
theorem dX12_judgeName_21 : decode cX12_judgeName 21 = .ok (.iaload, 1) := by decide +kernel
theorem dX12_judgeName_22 : decode cX12_judgeName 22 = .ok (.iaload, 1) := by decide +kernel
theorem dX12_judgeName_23 : decode cX12_judgeName 23 = .ok (.istore 4, 2) := by decide +kernel
theorem dX12_judgeName_25 : decode cX12_judgeName 25 = .ok (.aload_n 0, 1) := by decide +kernel
theorem dX12_judgeName_26 : decode cX12_judgeName 26 = .ok (.getfield 82, 3) := by decide +kernel
theorem dX12_judgeName_29 : decode cX12_judgeName 29 = .ok (.iload_n 1, 1) := by decide +kernel
theorem dX12_judgeName_30 : decode cX12_judgeName 30 = .ok (.iaload, 1) := by decide +kernel
theorem dX12_judgeName_31 : decode cX12_judgeName 31 = .ok (.aload_n 0, 1) := by decide +kernel
theorem dX12_judgeName_32 : decode cX12_judgeName 32 = .ok (.getfield 82, 3) := by decide +kernel
theorem dX12_judgeName_35 : decode cX12_judgeName 35 = .ok (.iload 4, 2) := by decide +kernel
theorem dX12_judgeName_37 : decode cX12_judgeName 37 = .ok (.iaload, 1) := by decide +kernel
theorem dX12_judgeName_38 : decode cX12_judgeName 38 = .ok (.if_icmp .ne 7, 3) := by decide +kernel
theorem dX12_judgeName_41 : decode cX12_judgeName 41 = .ok (.iconst 1, 1) := by decide +kernel
theorem dX12_judgeName_42 : decode cX12_judgeName 42 = .ok (.goto 4, 3) := by decide +kernel
theorem dX12_judgeName_45 : decode cX12_judgeName 45 = .ok (.iconst 0, 1) := by decide +kernel
theorem dX12_judgeName_46 : decode cX12_judgeName 46 = .ok (.istore 5, 2) := by decide +kernel
theorem dX12_judgeName_48 : decode cX12_judgeName 48 = .ok (.iconst 0, 1) := by decide +kernel
theorem dX12_judgeName_49 : decode cX12_judgeName 49 = .ok (.istore 6, 2) := by decide +kernel
theorem dX12_judgeName_51 : decode cX12_judgeName 51 = .ok (.iload 5, 2) := by decide +kernel
theorem dX12_judgeName_53 : decode cX12_judgeName 53 = .ok (.ifCond .eq 59, 3) := by decide +kernel
theorem dX12_judgeName_56 : decode cX12_judgeName 56 = .ok (.iload 6, 2) := by decide +kernel
theorem dX12_judgeName_58 : decode cX12_judgeName 58 = .ok (.aload_n 0, 1) := by decide +kernel
theorem dX12_judgeName_59 : decode cX12_judgeName 59 = .ok (.getfield 82, 3) := by decide +kernel
theorem dX12_judgeName_62 : decode cX12_judgeName 62 = .ok (.iload_n 1, 1) := by decide +kernel
theorem dX12_judgeName_63 : decode cX12_judgeName 63 = .ok (.iaload, 1) := by decide +kernel
theorem dX12_judgeName_64 : decode cX12_judgeName 64 = .ok (.if_icmp .ge 48, 3) := by decide +kernel
theorem dX12_judgeName_67 : decode cX12_judgeName 67 = .ok (.aload_n 0, 1) := by decide +kernel
theorem dX12_judgeName_68 : decode cX12_judgeName 68 = .ok (.getfield 37, 3) := by decide +kernel
theorem dX12_judgeName_71 : decode cX12_judgeName 71 = .ok (.aload_n 0, 1) := by decide +kernel
theorem dX12_judgeName_72 : decode cX12_judgeName 72 = .ok (.getfield 79, 3) := by decide +kernel
theorem dX12_judgeName_75 : decode cX12_judgeName 75 = .ok (.iload_n 1, 1) := by decide +kernel
theorem dX12_judgeName_76 : decode cX12_judgeName 76 = .ok (.iaload, 1) := by decide +kernel
theorem dX12_judgeName_77 : decode cX12_judgeName 77 = .ok (.iload 6, 2) := by decide +kernel
theorem dX12_judgeName_79 : decode cX12_judgeName 79 = .ok (.iadd, 1) := by decide +kernel
theorem dX12_judgeName_80 : decode cX12_judgeName 80 = .ok (.iaload, 1) := by decide +kernel
theorem dX12_judgeName_81 : decode cX12_judgeName 81 = .ok (.aload_n 0, 1) := by decide +kernel
theorem dX12_judgeName_82 : decode cX12_judgeName 82 = .ok (.getfield 37, 3) := by decide +kernel
theorem dX12_judgeName_85 : decode cX12_judgeName 85 = .ok (.aload_n 0, 1) := by decide +kernel
theorem dX12_judgeName_86 : decode cX12_judgeName 86 = .ok (.getfield 79, 3) := by decide +kernel
theorem dX12_judgeName_89 : decode cX12_judgeName 89 = .ok (.iload 4, 2) := by decide +kernel
theorem dX12_judgeName_91 : decode cX12_judgeName 91 = .ok (.iaload, 1) := by decide +kernel
theorem dX12_judgeName_92 : decode cX12_judgeName 92 = .ok (.iload 6, 2) := by decide +kernel
theorem dX12_judgeName_94 : decode cX12_judgeName 94 = .ok (.iadd, 1) := by decide +kernel
theorem dX12_judgeName_95 : decode cX12_judgeName 95 = .ok (.iaload, 1) := by decide +kernel
theorem dX12_judgeName_96 : decode cX12_judgeName 96 = .ok (.if_icmp .ne 7, 3) := by decide +kernel
theorem dX12_judgeName_99 : decode cX12_judgeName 99 = .ok (.iconst 1, 1) := by decide +kernel
theorem dX12_judgeName_100 : decode cX12_judgeName 100 = .ok (.goto 4, 3) := by decide +kernel
theorem dX12_judgeName_103 : decode cX12_judgeName 103 = .ok (.iconst 0, 1) := by decide +kernel
theorem dX12_judgeName_104 : decode cX12_judgeName 104 = .ok (.istore 5, 2) := by decide +kernel
theorem dX12_judgeName_106 : decode cX12_judgeName 106 = .ok (.iinc 6 1, 3) := by decide +kernel
theorem dX12_judgeName_109 : decode cX12_judgeName 109 = .ok (.goto (-58), 3) := by decide +kernel
theorem dX12_judgeName_112 : decode cX12_judgeName 112 = .ok (.iload 5, 2) := by decide +kernel
theorem dX12_judgeName_114 : decode cX12_judgeName 114 = .ok (.ifCond .eq 10, 3) := by decide +kernel
theorem dX12_judgeName_117 : decode cX12_judgeName 117 = .ok (.aload_n 0, 1) := by decide +kernel
theorem dX12_judgeName_118 : decode cX12_judgeName 118 = .ok (.getfield 109, 3) := by decide +kernel
theorem dX12_judgeName_121 : decode cX12_judgeName 121 = .ok (.iload_n 3, 1) := by decide +kernel
theorem dX12_judgeName_122 : decode cX12_judgeName 122 = .ok (.iaload, 1) := by decide +kernel
theorem dX12_judgeName_123 : decode cX12_judgeName 123 = .ok (.istore_n 2, 1) := by decide +kernel
theorem dX12_judgeName_124 : decode cX12_judgeName 124 = .ok (.iinc 3 1, 3) := by decide +kernel
theorem dX12_judgeName_127 : decode cX12_judgeName 127 = .ok (.goto (-123), 3) := by decide +kernel
theorem dX12_judgeName_130 : decode cX12_judgeName 130 = .ok (.iload_n 2, 1) := by decide +kernel
theorem dX12_judgeName_131 : decode cX12_judgeName 131 = .ok (.ifCond .lt 34, 3) := by decide +kernel
theorem dX12_judgeName_134 : decode cX12_judgeName 134 = .ok (.aload_n 0, 1) := by decide +kernel
theorem dX12_judgeName_135 : decode cX12_judgeName 135 = .ok (.getfield 76, 3) := by decide +kernel
theorem dX12_judgeName_138 : decode cX12_judgeName 138 = .ok (.iload_n 1, 1) := by decide +kernel
theorem dX12_judgeName_139 : decode cX12_judgeName 139 = .ok (.iconst 1, 1) := by decide +kernel
theorem dX12_judgeName_140 : decode cX12_judgeName 140 = .ok (.iastore, 1) := by decide +kernel
theorem dX12_judgeName_141 : decode cX12_judgeName 141 = .ok (.aload_n 0, 1) := by decide +kernel
theorem dX12_judgeName_142 : decode cX12_judgeName 142 = .ok (.getfield 79, 3) := by decide +kernel
theorem dX12_judgeName_145 : decode cX12_judgeName 145 = .ok (.iload_n 1, 1) := by decide +kernel
theorem dX12_judgeName_146 : decode cX12_judgeName 146 = .ok (.iload_n 2, 1) := by decide +kernel
theorem dX12_judgeName_147 : decode cX12_judgeName 147 = .ok (.iastore, 1) := by decide +kernel
theorem dX12_judgeName_148 : decode cX12_judgeName 148 = .ok (.aload_n 0, 1) := by decide +kernel
theorem dX12_judgeName_149 : decode cX12_judgeName 149 = .ok (.aload_n 0, 1) := by decide +kernel
theorem dX12_judgeName_150 : decode cX12_judgeName 150 = .ok (.getfield 103, 3) := by decide +kernel
theorem dX12_judgeName_153 : decode cX12_judgeName 153 = .ok (.iload_n 2, 1) := by decide +kernel
theorem dX12_judgeName_154 : decode cX12_judgeName 154 = .ok (.iaload, 1) := by decide +kernel
theorem dX12_judgeName_155 : decode cX12_judgeName 155 = .ok (.aload_n 0, 1) := by decide +kernel
theorem dX12_judgeName_156 : decode cX12_judgeName 156 = .ok (.getfield 106, 3) := by decide +kernel
theorem dX12_judgeName_159 : decode cX12_judgeName 159 = .ok (.iload_n 2, 1) := by decide +kernel
theorem dX12_judgeName_160 : decode cX12_judgeName 160 = .ok (.iaload, 1) := by decide +kernel
theorem dX12_judgeName_161 : decode cX12_judgeName 161 = .ok (.invokevirtual 412, 3) := by decide +kernel
theorem dX12_judgeName_164 : decode cX12_judgeName 164 = .ok (.return_, 1) := by decide +kernel
theorem dX12_judgeName_165 : decode cX12_judgeName 165 = .ok (.aload_n 0, 1) := by decide +kernel
theorem dX12_judgeName_166 : decode cX12_judgeName 166 = .ok (.iload_n 1, 1) := by decide +kernel
theorem dX12_judgeName_167 : decode cX12_judgeName 167 = .ok (.invokevirtual 415, 3) := by decide +kernel
theorem dX12_judgeName_170 : decode cX12_judgeName 170 = .ok (.istore_n 3, 1) := by decide +kernel
theorem dX12_judgeName_171 : decode cX12_judgeName 171 = .ok (.iload_n 3, 1) := by decide +kernel
theorem dX12_judgeName_172 : decode cX12_judgeName 172 = .ok (.ifCond .lt 7, 3) := by decide +kernel
theorem dX12_judgeName_175 : decode cX12_judgeName 175 = .ok (.iconst (-1), 1) := by decide +kernel
theorem dX12_judgeName_176 : decode cX12_judgeName 176 = .ok (.goto 8, 3) := by decide +kernel
theorem dX12_judgeName_179 : decode cX12_judgeName 179 = .ok (.aload_n 0, 1) := by decide +kernel
theorem dX12_judgeName_180 : decode cX12_judgeName 180 = .ok (.iload_n 1, 1) := by decide +kernel
theorem dX12_judgeName_181 : decode cX12_judgeName 181 = .ok (.invokevirtual 418, 3) := by decide +kernel
theorem dX12_judgeName_184 : decode cX12_judgeName 184 = .ok (.istore 4, 2) := by decide +kernel
theorem dX12_judgeName_186 : decode cX12_judgeName 186 = .ok (.iload_n 3, 1) := by decide +kernel
theorem dX12_judgeName_187 : decode cX12_judgeName 187 = .ok (.ifCond .lt 36, 3) := by decide +kernel
theorem dX12_judgeName_190 : decode cX12_judgeName 190 = .ok (.aload_n 0, 1) := by decide +kernel
theorem dX12_judgeName_191 : decode cX12_judgeName 191 = .ok (.getfield 76, 3) := by decide +kernel
theorem dX12_judgeName_194 : decode cX12_judgeName 194 = .ok (.iload_n 1, 1) := by decide +kernel
theorem dX12_judgeName_195 : decode cX12_judgeName 195 = .ok (.iconst 2, 1) := by decide +kernel
theorem dX12_judgeName_196 : decode cX12_judgeName 196 = .ok (.iastore, 1) := by decide +kernel
theorem dX12_judgeName_197 : decode cX12_judgeName 197 = .ok (.aload_n 0, 1) := by decide +kernel
theorem dX12_judgeName_198 : decode cX12_judgeName 198 = .ok (.getfield 79, 3) := by decide +kernel
theorem dX12_judgeName_201 : decode cX12_judgeName 201 = .ok (.iload_n 1, 1) := by decide +kernel
theorem dX12_judgeName_202 : decode cX12_judgeName 202 = .ok (.iload_n 3, 1) := by decide +kernel
theorem dX12_judgeName_203 : decode cX12_judgeName 203 = .ok (.iastore, 1) := by decide +kernel
theorem dX12_judgeName_204 : decode cX12_judgeName 204 = .ok (.aload_n 0, 1) := by decide +kernel
theorem dX12_judgeName_205 : decode cX12_judgeName 205 = .ok (.aload_n 0, 1) := by decide +kernel
theorem dX12_judgeName_206 : decode cX12_judgeName 206 = .ok (.getfield 60, 3) := by decide +kernel
theorem dX12_judgeName_209 : decode cX12_judgeName 209 = .ok (.iload_n 3, 1) := by decide +kernel
theorem dX12_judgeName_210 : decode cX12_judgeName 210 = .ok (.iaload, 1) := by decide +kernel
theorem dX12_judgeName_211 : decode cX12_judgeName 211 = .ok (.aload_n 0, 1) := by decide +kernel
theorem dX12_judgeName_212 : decode cX12_judgeName 212 = .ok (.getfield 63, 3) := by decide +kernel
theorem dX12_judgeName_215 : decode cX12_judgeName 215 = .ok (.iload_n 3, 1) := by decide +kernel
theorem dX12_judgeName_216 : decode cX12_judgeName 216 = .ok (.iaload, 1) := by decide +kernel
theorem dX12_judgeName_217 : decode cX12_judgeName 217 = .ok (.invokevirtual 412, 3) := by decide +kernel
theorem dX12_judgeName_220 : decode cX12_judgeName 220 = .ok (.goto 85, 3) := by decide +kernel
theorem dX12_judgeName_223 : decode cX12_judgeName 223 = .ok (.iload 4, 2) := by decide +kernel
theorem dX12_judgeName_225 : decode cX12_judgeName 225 = .ok (.ifCond .ge 17, 3) := by decide +kernel
theorem dX12_judgeName_228 : decode cX12_judgeName 228 = .ok (.aload_n 0, 1) := by decide +kernel
theorem dX12_judgeName_229 : decode cX12_judgeName 229 = .ok (.iconst 3, 1) := by decide +kernel
theorem dX12_judgeName_230 : decode cX12_judgeName 230 = .ok (.aload_n 0, 1) := by decide +kernel
theorem dX12_judgeName_231 : decode cX12_judgeName 231 = .ok (.getfield 79, 3) := by decide +kernel
theorem dX12_judgeName_234 : decode cX12_judgeName 234 = .ok (.iload_n 1, 1) := by decide +kernel
theorem dX12_judgeName_235 : decode cX12_judgeName 235 = .ok (.iaload, 1) := by decide +kernel
theorem dX12_judgeName_236 : decode cX12_judgeName 236 = .ok (.invokevirtual 218, 3) := by decide +kernel
theorem dX12_judgeName_239 : decode cX12_judgeName 239 = .ok (.goto 66, 3) := by decide +kernel
theorem dX12_judgeName_242 : decode cX12_judgeName 242 = .ok (.aload_n 0, 1) := by decide +kernel
theorem dX12_judgeName_243 : decode cX12_judgeName 243 = .ok (.getfield 50, 3) := by decide +kernel
theorem dX12_judgeName_246 : decode cX12_judgeName 246 = .ok (.iload 4, 2) := by decide +kernel
theorem dX12_judgeName_248 : decode cX12_judgeName 248 = .ok (.iaload, 1) := by decide +kernel
theorem dX12_judgeName_249 : decode cX12_judgeName 249 = .ok (.ifCond .ge 18, 3) := by decide +kernel
theorem dX12_judgeName_252 : decode cX12_judgeName 252 = .ok (.aload_n 0, 1) := by decide +kernel
theorem dX12_judgeName_253 : decode cX12_judgeName 253 = .ok (.bipush 7, 2) := by decide +kernel
theorem dX12_judgeName_255 : decode cX12_judgeName 255 = .ok (.aload_n 0, 1) := by decide +kernel
theorem dX12_judgeName_256 : decode cX12_judgeName 256 = .ok (.getfield 79, 3) := by decide +kernel
theorem dX12_judgeName_259 : decode cX12_judgeName 259 = .ok (.iload_n 1, 1) := by decide +kernel
theorem dX12_judgeName_260 : decode cX12_judgeName 260 = .ok (.iaload, 1) := by decide +kernel
theorem dX12_judgeName_261 : decode cX12_judgeName 261 = .ok (.invokevirtual 218, 3) := by decide +kernel
theorem dX12_judgeName_264 : decode cX12_judgeName 264 = .ok (.goto 41, 3) := by decide +kernel
theorem dX12_judgeName_267 : decode cX12_judgeName 267 = .ok (.aload_n 0, 1) := by decide +kernel
theorem dX12_judgeName_268 : decode cX12_judgeName 268 = .ok (.getfield 76, 3) := by decide +kernel
theorem dX12_judgeName_271 : decode cX12_judgeName 271 = .ok (.iload_n 1, 1) := by decide +kernel
theorem dX12_judgeName_272 : decode cX12_judgeName 272 = .ok (.iconst 3, 1) := by decide +kernel
theorem dX12_judgeName_273 : decode cX12_judgeName 273 = .ok (.iastore, 1) := by decide +kernel
theorem dX12_judgeName_274 : decode cX12_judgeName 274 = .ok (.aload_n 0, 1) := by decide +kernel
theorem dX12_judgeName_275 : decode cX12_judgeName 275 = .ok (.getfield 79, 3) := by decide +kernel
theorem dX12_judgeName_278 : decode cX12_judgeName 278 = .ok (.iload_n 1, 1) := by decide +kernel
theorem dX12_judgeName_279 : decode cX12_judgeName 279 = .ok (.iload 4, 2) := by decide +kernel
theorem dX12_judgeName_281 : decode cX12_judgeName 281 = .ok (.iastore, 1) := by decide +kernel
theorem dX12_judgeName_282 : decode cX12_judgeName 282 = .ok (.aload_n 0, 1) := by decide +kernel
theorem dX12_judgeName_283 : decode cX12_judgeName 283 = .ok (.aload_n 0, 1) := by decide +kernel
theorem dX12_judgeName_284 : decode cX12_judgeName 284 = .ok (.getfield 50, 3) := by decide +kernel
theorem dX12_judgeName_287 : decode cX12_judgeName 287 = .ok (.iload 4, 2) := by decide +kernel
theorem dX12_judgeName_289 : decode cX12_judgeName 289 = .ok (.iaload, 1) := by decide +kernel
theorem dX12_judgeName_290 : decode cX12_judgeName 290 = .ok (.aload_n 0, 1) := by decide +kernel
theorem dX12_judgeName_291 : decode cX12_judgeName 291 = .ok (.getfield 50, 3) := by decide +kernel
theorem dX12_judgeName_294 : decode cX12_judgeName 294 = .ok (.aload_n 0, 1) := by decide +kernel
theorem dX12_judgeName_295 : decode cX12_judgeName 295 = .ok (.getfield 50, 3) := by decide +kernel
theorem dX12_judgeName_298 : decode cX12_judgeName 298 = .ok (.iload 4, 2) := by decide +kernel
theorem dX12_judgeName_300 : decode cX12_judgeName 300 = .ok (.iaload, 1) := by decide +kernel
theorem dX12_judgeName_301 : decode cX12_judgeName 301 = .ok (.iaload, 1) := by decide +kernel
theorem dX12_judgeName_302 : decode cX12_judgeName 302 = .ok (.invokevirtual 412, 3) := by decide +kernel
theorem dX12_judgeName_305 : decode cX12_judgeName 305 = .ok (.return_, 1) := by decide +kernel
theorem dX12_judgeSort_0 : decode cX12_judgeSort 0 = .ok (.aload_n 0, 1) := by decide +kernel
theorem dX12_judgeSort_1 : decode cX12_judgeSort 1 = .ok (.iload_n 1, 1) := by decide +kernel
theorem dX12_judgeSort_2 : decode cX12_judgeSort 2 = .ok (.iload_n 2, 1) := by decide +kernel
theorem dX12_judgeSort_3 : decode cX12_judgeSort 3 = .ok (.invokevirtual 421, 3) := by decide +kernel
theorem dX12_judgeSort_6 : decode cX12_judgeSort 6 = .ok (.aload_n 0, 1) := by decide +kernel
theorem dX12_judgeSort_7 : decode cX12_judgeSort 7 = .ok (.getfield 150, 3) := by decide +kernel
theorem dX12_judgeSort_10 : decode cX12_judgeSort 10 = .ok (.ifCond .ne 20, 3) := by decide +kernel
theorem dX12_judgeSort_13 : decode cX12_judgeSort 13 = .ok (.aload_n 0, 1) := by decide +kernel
theorem dX12_judgeSort_14 : decode cX12_judgeSort 14 = .ok (.getfield 76, 3) := by decide +kernel
theorem dX12_judgeSort_17 : decode cX12_judgeSort 17 = .ok (.aload_n 0, 1) := by decide +kernel
theorem dX12_judgeSort_18 : decode cX12_judgeSort 18 = .ok (.getfield 403, 3) := by decide +kernel
theorem dX12_judgeSort_21 : decode cX12_judgeSort 21 = .ok (.iaload, 1) := by decide +kernel
theorem dX12_judgeSort_22 : decode cX12_judgeSort 22 = .ok (.iconst 3, 1) := by decide +kernel
theorem dX12_judgeSort_23 : decode cX12_judgeSort 23 = .ok (.if_icmp .ne 7, 3) := by decide +kernel
theorem dX12_judgeSort_26 : decode cX12_judgeSort 26 = .ok (.iconst 1, 1) := by decide +kernel
theorem dX12_judgeSort_27 : decode cX12_judgeSort 27 = .ok (.goto 4, 3) := by decide +kernel
theorem dX12_judgeSort_30 : decode cX12_judgeSort 30 = .ok (.iconst 0, 1) := by decide +kernel
theorem dX12_judgeSort_31 : decode cX12_judgeSort 31 = .ok (.istore_n 3, 1) := by decide +kernel
theorem dX12_judgeSort_32 : decode cX12_judgeSort 32 = .ok (.iload_n 3, 1) := by decide +kernel
theorem dX12_judgeSort_33 : decode cX12_judgeSort 33 = .ok (.ifCond .ne 15, 3) := by decide +kernel
theorem dX12_judgeSort_36 : decode cX12_judgeSort 36 = .ok (.aload_n 0, 1) := by decide +kernel
theorem dX12_judgeSort_37 : decode cX12_judgeSort 37 = .ok (.bipush 8, 2) := by decide +kernel
theorem dX12_judgeSort_39 : decode cX12_judgeSort 39 = .ok (.aload_n 0, 1) := by decide +kernel
theorem dX12_judgeSort_40 : decode cX12_judgeSort 40 = .ok (.getfield 88, 3) := by decide +kernel
theorem dX12_judgeSort_43 : decode cX12_judgeSort 43 = .ok (.iload_n 1, 1) := by decide +kernel
theorem dX12_judgeSort_44 : decode cX12_judgeSort 44 = .ok (.iaload, 1) := by decide +kernel
theorem dX12_judgeSort_45 : decode cX12_judgeSort 45 = .ok (.invokevirtual 218, 3) := by decide +kernel
theorem dX12_judgeSort_48 : decode cX12_judgeSort 48 = .ok (.iload_n 3, 1) := by decide +kernel
theorem dX12_judgeSort_49 : decode cX12_judgeSort 49 = .ok (.ifCond .eq 15, 3) := by decide +kernel
theorem dX12_judgeSort_52 : decode cX12_judgeSort 52 = .ok (.aload_n 0, 1) := by decide +kernel
theorem dX12_judgeSort_53 : decode cX12_judgeSort 53 = .ok (.getfield 79, 3) := by decide +kernel
theorem dX12_judgeSort_56 : decode cX12_judgeSort 56 = .ok (.aload_n 0, 1) := by decide +kernel
theorem dX12_judgeSort_57 : decode cX12_judgeSort 57 = .ok (.getfield 403, 3) := by decide +kernel
theorem dX12_judgeSort_60 : decode cX12_judgeSort 60 = .ok (.iaload, 1) := by decide +kernel
theorem dX12_judgeSort_61 : decode cX12_judgeSort 61 = .ok (.goto 4, 3) := by decide +kernel
theorem dX12_judgeSort_64 : decode cX12_judgeSort 64 = .ok (.iconst 0, 1) := by decide +kernel
theorem dX12_judgeSort_65 : decode cX12_judgeSort 65 = .ok (.ireturn, 1) := by decide +kernel
theorem dX12_bind_0 : decode cX12_bind 0 = .ok (.aload_n 0, 1) := by decide +kernel
theorem dX12_bind_1 : decode cX12_bind 1 = .ok (.getfield 103, 3) := by decide +kernel
theorem dX12_bind_4 : decode cX12_bind 4 = .ok (.iload_n 1, 1) := by decide +kernel
theorem dX12_bind_5 : decode cX12_bind 5 = .ok (.iload_n 2, 1) := by decide +kernel
theorem dX12_bind_6 : decode cX12_bind 6 = .ok (.iastore, 1) := by decide +kernel
theorem dX12_bind_7 : decode cX12_bind 7 = .ok (.aload_n 0, 1) := by decide +kernel
theorem dX12_bind_8 : decode cX12_bind 8 = .ok (.getfield 106, 3) := by decide +kernel
theorem dX12_bind_11 : decode cX12_bind 11 = .ok (.iload_n 1, 1) := by decide +kernel
theorem dX12_bind_12 : decode cX12_bind 12 = .ok (.iload_n 3, 1) := by decide +kernel
theorem dX12_bind_13 : decode cX12_bind 13 = .ok (.iastore, 1) := by decide +kernel
theorem dX12_bind_14 : decode cX12_bind 14 = .ok (.aload_n 0, 1) := by decide +kernel
theorem dX12_bind_15 : decode cX12_bind 15 = .ok (.getfield 109, 3) := by decide +kernel
theorem dX12_bind_18 : decode cX12_bind 18 = .ok (.aload_n 0, 1) := by decide +kernel
theorem dX12_bind_19 : decode cX12_bind 19 = .ok (.getfield 409, 3) := by decide +kernel
theorem dX12_bind_22 : decode cX12_bind 22 = .ok (.iload_n 1, 1) := by decide +kernel
theorem dX12_bind_23 : decode cX12_bind 23 = .ok (.iastore, 1) := by decide +kernel
theorem dX12_bind_24 : decode cX12_bind 24 = .ok (.aload_n 0, 1) := by decide +kernel
theorem dX12_bind_25 : decode cX12_bind 25 = .ok (.dup, 1) := by decide +kernel
theorem dX12_bind_26 : decode cX12_bind 26 = .ok (.getfield 409, 3) := by decide +kernel
theorem dX12_bind_29 : decode cX12_bind 29 = .ok (.iconst 1, 1) := by decide +kernel
