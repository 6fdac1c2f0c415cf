theorem dX12_doStatement_72 : decode cX12_doStatement 72 = .ok (.pop, 1) := by decide +kernel
theorem dX12_doStatement_73 : decode cX12_doStatement 73 = .ok (.aload_n 0, 1) := by decide +kernel
theorem dX12_doStatement_74 : decode cX12_doStatement 74 = .ok (.getfield 150, 3) := by decide +kernel
theorem dX12_doStatement_77 : decode cX12_doStatement 77 = .ok (.ifCond .ne 16, 3) := by decide +kernel
theorem dX12_doStatement_80 : decode cX12_doStatement 80 = .ok (.aload_n 0, 1) := by decide +kernel
theorem dX12_doStatement_81 : decode cX12_doStatement 81 = .ok (.aload_n 0, 1) := by decide +kernel
theorem dX12_doStatement_82 : decode cX12_doStatement 82 = .ok (.getfield 284, 3) := by decide +kernel
theorem dX12_doStatement_85 : decode cX12_doStatement 85 = .ok (.iconst 0, 1) := by decide +kernel
theorem dX12_doStatement_86 : decode cX12_doStatement 86 = .ok (.iconst 0, 1) := by decide +kernel
theorem dX12_doStatement_87 : decode cX12_doStatement 87 = .ok (.invokevirtual 396, 3) := by decide +kernel
theorem dX12_doStatement_90 : decode cX12_doStatement 90 = .ok (.goto 4, 3) := by decide +kernel
theorem dX12_doStatement_93 : decode cX12_doStatement 93 = .ok (.iconst 0, 1) := by decide +kernel
theorem dX12_doStatement_94 : decode cX12_doStatement 94 = .ok (.istore_n 1, 1) := by decide +kernel
theorem dX12_doStatement_95 : decode cX12_doStatement 95 = .ok (.aload_n 0, 1) := by decide +kernel
theorem dX12_doStatement_96 : decode cX12_doStatement 96 = .ok (.aload_n 0, 1) := by decide +kernel
theorem dX12_doStatement_97 : decode cX12_doStatement 97 = .ok (.getfield 281, 3) := by decide +kernel
theorem dX12_doStatement_100 : decode cX12_doStatement 100 = .ok (.iconst 0, 1) := by decide +kernel
theorem dX12_doStatement_101 : decode cX12_doStatement 101 = .ok (.invokevirtual 421, 3) := by decide +kernel
theorem dX12_doStatement_104 : decode cX12_doStatement 104 = .ok (.aload_n 0, 1) := by decide +kernel
theorem dX12_doStatement_105 : decode cX12_doStatement 105 = .ok (.getfield 150, 3) := by decide +kernel
theorem dX12_doStatement_108 : decode cX12_doStatement 108 = .ok (.ifCond .ne 33, 3) := by decide +kernel
theorem dX12_doStatement_111 : decode cX12_doStatement 111 = .ok (.aload_n 0, 1) := by decide +kernel
theorem dX12_doStatement_112 : decode cX12_doStatement 112 = .ok (.iload_n 1, 1) := by decide +kernel
theorem dX12_doStatement_113 : decode cX12_doStatement 113 = .ok (.iconst 0, 1) := by decide +kernel
theorem dX12_doStatement_114 : decode cX12_doStatement 114 = .ok (.aload_n 0, 1) := by decide +kernel
theorem dX12_doStatement_115 : decode cX12_doStatement 115 = .ok (.getfield 403, 3) := by decide +kernel
theorem dX12_doStatement_118 : decode cX12_doStatement 118 = .ok (.iconst 0, 1) := by decide +kernel
theorem dX12_doStatement_119 : decode cX12_doStatement 119 = .ok (.iconst 0, 1) := by decide +kernel
theorem dX12_doStatement_120 : decode cX12_doStatement 120 = .ok (.invokevirtual 366, 3) := by decide +kernel
theorem dX12_doStatement_123 : decode cX12_doStatement 123 = .ok (.ifCond .ne 18, 3) := by decide +kernel
theorem dX12_doStatement_126 : decode cX12_doStatement 126 = .ok (.aload_n 0, 1) := by decide +kernel
theorem dX12_doStatement_127 : decode cX12_doStatement 127 = .ok (.bipush 11, 2) := by decide +kernel
theorem dX12_doStatement_129 : decode cX12_doStatement 129 = .ok (.aload_n 0, 1) := by decide +kernel
theorem dX12_doStatement_130 : decode cX12_doStatement 130 = .ok (.getfield 88, 3) := by decide +kernel
theorem dX12_doStatement_133 : decode cX12_doStatement 133 = .ok (.aload_n 0, 1) := by decide +kernel
theorem dX12_doStatement_134 : decode cX12_doStatement 134 = .ok (.getfield 281, 3) := by decide +kernel
theorem dX12_doStatement_137 : decode cX12_doStatement 137 = .ok (.iaload, 1) := by decide +kernel
theorem dX12_doStatement_138 : decode cX12_doStatement 138 = .ok (.invokevirtual 218, 3) := by decide +kernel
theorem dX12_doStatement_141 : decode cX12_doStatement 141 = .ok (.aload_n 0, 1) := by decide +kernel
theorem dX12_doStatement_142 : decode cX12_doStatement 142 = .ok (.getfield 150, 3) := by decide +kernel
theorem dX12_doStatement_145 : decode cX12_doStatement 145 = .ok (.ifCond .ne 8, 3) := by decide +kernel
theorem dX12_doStatement_148 : decode cX12_doStatement 148 = .ok (.aload_n 0, 1) := by decide +kernel
theorem dX12_doStatement_149 : decode cX12_doStatement 149 = .ok (.iconst 1, 1) := by decide +kernel
theorem dX12_doStatement_150 : decode cX12_doStatement 150 = .ok (.invokevirtual 455, 3) := by decide +kernel
theorem dX12_doStatement_153 : decode cX12_doStatement 153 = .ok (.goto 119, 3) := by decide +kernel
theorem dX12_doStatement_156 : decode cX12_doStatement 156 = .ok (.aload_n 0, 1) := by decide +kernel
theorem dX12_doStatement_157 : decode cX12_doStatement 157 = .ok (.aload_n 0, 1) := by decide +kernel
theorem dX12_doStatement_158 : decode cX12_doStatement 158 = .ok (.getfield 281, 3) := by decide +kernel
theorem dX12_doStatement_161 : decode cX12_doStatement 161 = .ok (.iconst 0, 1) := by decide +kernel
theorem dX12_doStatement_162 : decode cX12_doStatement 162 = .ok (.invokevirtual 421, 3) := by decide +kernel
theorem dX12_doStatement_165 : decode cX12_doStatement 165 = .ok (.aload_n 0, 1) := by decide +kernel
theorem dX12_doStatement_166 : decode cX12_doStatement 166 = .ok (.aload_n 0, 1) := by decide +kernel
theorem dX12_doStatement_167 : decode cX12_doStatement 167 = .ok (.getfield 403, 3) := by decide +kernel
theorem dX12_doStatement_170 : decode cX12_doStatement 170 = .ok (.invokevirtual 459, 3) := by decide +kernel
theorem dX12_doStatement_173 : decode cX12_doStatement 173 = .ok (.goto 99, 3) := by decide +kernel
theorem dX12_doStatement_176 : decode cX12_doStatement 176 = .ok (.aload_n 0, 1) := by decide +kernel
theorem dX12_doStatement_177 : decode cX12_doStatement 177 = .ok (.aload_n 0, 1) := by decide +kernel
theorem dX12_doStatement_178 : decode cX12_doStatement 178 = .ok (.getfield 281, 3) := by decide +kernel
theorem dX12_doStatement_181 : decode cX12_doStatement 181 = .ok (.iconst 0, 1) := by decide +kernel
theorem dX12_doStatement_182 : decode cX12_doStatement 182 = .ok (.invokevirtual 421, 3) := by decide +kernel
theorem dX12_doStatement_185 : decode cX12_doStatement 185 = .ok (.aload_n 0, 1) := by decide +kernel
theorem dX12_doStatement_186 : decode cX12_doStatement 186 = .ok (.aload_n 0, 1) := by decide +kernel
theorem dX12_doStatement_187 : decode cX12_doStatement 187 = .ok (.getfield 281, 3) := by decide +kernel
theorem dX12_doStatement_190 : decode cX12_doStatement 190 = .ok (.invokevirtual 459, 3) := by decide +kernel
theorem dX12_doStatement_193 : decode cX12_doStatement 193 = .ok (.goto 79, 3) := by decide +kernel
theorem dX12_doStatement_196 : decode cX12_doStatement 196 = .ok (.aload_n 0, 1) := by decide +kernel
theorem dX12_doStatement_197 : decode cX12_doStatement 197 = .ok (.aload_n 0, 1) := by decide +kernel
theorem dX12_doStatement_198 : decode cX12_doStatement 198 = .ok (.getfield 281, 3) := by decide +kernel
theorem dX12_doStatement_201 : decode cX12_doStatement 201 = .ok (.iconst 0, 1) := by decide +kernel
theorem dX12_doStatement_202 : decode cX12_doStatement 202 = .ok (.invokevirtual 421, 3) := by decide +kernel
theorem dX12_doStatement_205 : decode cX12_doStatement 205 = .ok (.aload_n 0, 1) := by decide +kernel
theorem dX12_doStatement_206 : decode cX12_doStatement 206 = .ok (.invokevirtual 462, 3) := by decide +kernel
theorem dX12_doStatement_209 : decode cX12_doStatement 209 = .ok (.goto 63, 3) := by decide +kernel
theorem dX12_doStatement_212 : decode cX12_doStatement 212 = .ok (.aload_n 0, 1) := by decide +kernel
theorem dX12_doStatement_213 : decode cX12_doStatement 213 = .ok (.aload_n 0, 1) := by decide +kernel
theorem dX12_doStatement_214 : decode cX12_doStatement 214 = .ok (.getfield 281, 3) := by decide +kernel
theorem dX12_doStatement_217 : decode cX12_doStatement 217 = .ok (.iconst 0, 1) := by decide +kernel
theorem dX12_doStatement_218 : decode cX12_doStatement 218 = .ok (.invokevirtual 421, 3) := by decide +kernel
theorem dX12_doStatement_221 : decode cX12_doStatement 221 = .ok (.aload_n 0, 1) := by decide +kernel
theorem dX12_doStatement_222 : decode cX12_doStatement 222 = .ok (.aload_n 0, 1) := by decide +kernel
theorem dX12_doStatement_223 : decode cX12_doStatement 223 = .ok (.getfield 284, 3) := by decide +kernel
theorem dX12_doStatement_226 : decode cX12_doStatement 226 = .ok (.iconst 0, 1) := by decide +kernel
theorem dX12_doStatement_227 : decode cX12_doStatement 227 = .ok (.invokevirtual 421, 3) := by decide +kernel
theorem dX12_doStatement_230 : decode cX12_doStatement 230 = .ok (.aload_n 0, 1) := by decide +kernel
theorem dX12_doStatement_231 : decode cX12_doStatement 231 = .ok (.getfield 150, 3) := by decide +kernel
theorem dX12_doStatement_234 : decode cX12_doStatement 234 = .ok (.ifCond .ne 38, 3) := by decide +kernel
theorem dX12_doStatement_237 : decode cX12_doStatement 237 = .ok (.aload_n 0, 1) := by decide +kernel
theorem dX12_doStatement_238 : decode cX12_doStatement 238 = .ok (.aload_n 0, 1) := by decide +kernel
theorem dX12_doStatement_239 : decode cX12_doStatement 239 = .ok (.getfield 281, 3) := by decide +kernel
theorem dX12_doStatement_242 : decode cX12_doStatement 242 = .ok (.iconst 0, 1) := by decide +kernel
theorem dX12_doStatement_243 : decode cX12_doStatement 243 = .ok (.aload_n 0, 1) := by decide +kernel
theorem dX12_doStatement_244 : decode cX12_doStatement 244 = .ok (.getfield 284, 3) := by decide +kernel
theorem dX12_doStatement_247 : decode cX12_doStatement 247 = .ok (.iconst 0, 1) := by decide +kernel
theorem dX12_doStatement_248 : decode cX12_doStatement 248 = .ok (.iconst 0, 1) := by decide +kernel
theorem dX12_doStatement_249 : decode cX12_doStatement 249 = .ok (.invokevirtual 366, 3) := by decide +kernel
theorem dX12_doStatement_252 : decode cX12_doStatement 252 = .ok (.istore_n 1, 1) := by decide +kernel
theorem dX12_doStatement_253 : decode cX12_doStatement 253 = .ok (.aload_n 0, 1) := by decide +kernel
theorem dX12_doStatement_254 : decode cX12_doStatement 254 = .ok (.getfield 150, 3) := by decide +kernel
theorem dX12_doStatement_257 : decode cX12_doStatement 257 = .ok (.ifCond .ne 8, 3) := by decide +kernel
theorem dX12_doStatement_260 : decode cX12_doStatement 260 = .ok (.aload_n 0, 1) := by decide +kernel
theorem dX12_doStatement_261 : decode cX12_doStatement 261 = .ok (.iload_n 1, 1) := by decide +kernel
theorem dX12_doStatement_262 : decode cX12_doStatement 262 = .ok (.invokevirtual 455, 3) := by decide +kernel
theorem dX12_doStatement_265 : decode cX12_doStatement 265 = .ok (.goto 7, 3) := by decide +kernel
theorem dX12_doStatement_268 : decode cX12_doStatement 268 = .ok (.aload_n 0, 1) := by decide +kernel
theorem dX12_doStatement_269 : decode cX12_doStatement 269 = .ok (.invokevirtual 465, 3) := by decide +kernel
theorem dX12_doStatement_272 : decode cX12_doStatement 272 = .ok (.return_, 1) := by decide +kernel
theorem dX12_tellLine_0 : decode cX12_tellLine 0 = .ok (.aload_n 0, 1) := by decide +kernel
theorem dX12_tellLine_1 : decode cX12_tellLine 1 = .ok (.getfield 150, 3) := by decide +kernel
theorem dX12_tellLine_4 : decode cX12_tellLine 4 = .ok (.ifCond .eq 4, 3) := by decide +kernel
theorem dX12_tellLine_7 : decode cX12_tellLine 7 = .ok (.return_, 1) := by decide +kernel
theorem dX12_tellLine_8 : decode cX12_tellLine 8 = .ok (.aload_n 0, 1) := by decide +kernel
theorem dX12_tellLine_9 : decode cX12_tellLine 9 = .ok (.iload_n 1, 1) := by decide +kernel
theorem dX12_tellLine_10 : decode cX12_tellLine 10 = .ok (.iconst 0, 1) := by decide +kernel
theorem dX12_tellLine_11 : decode cX12_tellLine 11 = .ok (.iconst 0, 1) := by decide +kernel
theorem dX12_tellLine_12 : decode cX12_tellLine 12 = .ok (.iconst 0, 1) := by decide +kernel
theorem dX12_tellLine_13 : decode cX12_tellLine 13 = .ok (.iconst 0, 1) := by decide +kernel
theorem dX12_tellLine_14 : decode cX12_tellLine 14 = .ok (.invokevirtual 387, 3) := by decide +kernel
theorem dX12_tellLine_17 : decode cX12_tellLine 17 = .ok (.aload_n 0, 1) := by decide +kernel
theorem dX12_tellLine_18 : decode cX12_tellLine 18 = .ok (.getfield 150, 3) := by decide +kernel
theorem dX12_tellLine_21 : decode cX12_tellLine 21 = .ok (.ifCond .ne 9, 3) := by decide +kernel
theorem dX12_tellLine_24 : decode cX12_tellLine 24 = .ok (.aload_n 0, 1) := by decide +kernel
theorem dX12_tellLine_25 : decode cX12_tellLine 25 = .ok (.bipush 10, 2) := by decide +kernel
theorem dX12_tellLine_27 : decode cX12_tellLine 27 = .ok (.invokevirtual 384, 3) := by decide +kernel
theorem dX12_tellLine_30 : decode cX12_tellLine 30 = .ok (.return_, 1) := by decide +kernel
theorem dX12_tellHead_0 : decode cX12_tellHead 0 = .ok (.aload_n 0, 1) := by decide +kernel
theorem dX12_tellHead_1 : decode cX12_tellHead 1 = .ok (.aload_n 0, 1) := by decide +kernel
theorem dX12_tellHead_2 : decode cX12_tellHead 2 = .ok (.getfield 281, 3) := by decide +kernel
theorem dX12_tellHead_5 : decode cX12_tellHead 5 = .ok (.iconst 0, 1) := by decide +kernel
theorem dX12_tellHead_6 : decode cX12_tellHead 6 = .ok (.invokevirtual 357, 3) := by decide +kernel
theorem dX12_tellHead_9 : decode cX12_tellHead 9 = .ok (.aload_n 0, 1) := by decide +kernel
theorem dX12_tellHead_10 : decode cX12_tellHead 10 = .ok (.getfield 150, 3) := by decide +kernel
theorem dX12_tellHead_13 : decode cX12_tellHead 13 = .ok (.ifCond .eq 4, 3) := by decide +kernel
theorem dX12_tellHead_16 : decode cX12_tellHead 16 = .ok (.return_, 1) := by decide +kernel
theorem dX12_tellHead_17 : decode cX12_tellHead 17 = .ok (.aload_n 0, 1) := by decide +kernel
theorem dX12_tellHead_18 : decode cX12_tellHead 18 = .ok (.aload_n 0, 1) := by decide +kernel
theorem dX12_tellHead_19 : decode cX12_tellHead 19 = .ok (.getfield 348, 3) := by decide +kernel
theorem dX12_tellHead_22 : decode cX12_tellHead 22 = .ok (.invokevirtual 363, 3) := by decide +kernel
theorem dX12_tellHead_25 : decode cX12_tellHead 25 = .ok (.istore_n 1, 1) := by decide +kernel
theorem dX12_tellHead_26 : decode cX12_tellHead 26 = .ok (.iload_n 1, 1) := by decide +kernel
theorem dX12_tellHead_27 : decode cX12_tellHead 27 = .ok (.iconst 4, 1) := by decide +kernel
theorem dX12_tellHead_28 : decode cX12_tellHead 28 = .ok (.if_icmp .ne 12, 3) := by decide +kernel
theorem dX12_tellHead_31 : decode cX12_tellHead 31 = .ok (.aload_n 0, 1) := by decide +kernel
theorem dX12_tellHead_32 : decode cX12_tellHead 32 = .ok (.bipush 92, 2) := by decide +kernel
theorem dX12_tellHead_34 : decode cX12_tellHead 34 = .ok (.invokevirtual 384, 3) := by decide +kernel
theorem dX12_tellHead_37 : decode cX12_tellHead 37 = .ok (.goto 93, 3) := by decide +kernel
theorem dX12_tellHead_40 : decode cX12_tellHead 40 = .ok (.iload_n 1, 1) := by decide +kernel
theorem dX12_tellHead_41 : decode cX12_tellHead 41 = .ok (.iconst 5, 1) := by decide +kernel
theorem dX12_tellHead_42 : decode cX12_tellHead 42 = .ok (.if_icmp .ne 12, 3) := by decide +kernel
theorem dX12_tellHead_45 : decode cX12_tellHead 45 = .ok (.aload_n 0, 1) := by decide +kernel
theorem dX12_tellHead_46 : decode cX12_tellHead 46 = .ok (.bipush 33, 2) := by decide +kernel
theorem dX12_tellHead_48 : decode cX12_tellHead 48 = .ok (.invokevirtual 384, 3) := by decide +kernel
theorem dX12_tellHead_51 : decode cX12_tellHead 51 = .ok (.goto 79, 3) := by decide +kernel
theorem dX12_tellHead_54 : decode cX12_tellHead 54 = .ok (.iload_n 1, 1) := by decide +kernel
theorem dX12_tellHead_55 : decode cX12_tellHead 55 = .ok (.iconst 3, 1) := by decide +kernel
theorem dX12_tellHead_56 : decode cX12_tellHead 56 = .ok (.if_icmp .ne 40, 3) := by decide +kernel
theorem dX12_tellHead_59 : decode cX12_tellHead 59 = .ok (.aload_n 0, 1) := by decide +kernel
theorem dX12_tellHead_60 : decode cX12_tellHead 60 = .ok (.bipush 12, 2) := by decide +kernel
theorem dX12_tellHead_62 : decode cX12_tellHead 62 = .ok (.aload_n 0, 1) := by decide +kernel
theorem dX12_tellHead_63 : decode cX12_tellHead 63 = .ok (.getfield 79, 3) := by decide +kernel
theorem dX12_tellHead_66 : decode cX12_tellHead 66 = .ok (.aload_n 0, 1) := by decide +kernel
theorem dX12_tellHead_67 : decode cX12_tellHead 67 = .ok (.getfield 348, 3) := by decide +kernel
theorem dX12_tellHead_70 : decode cX12_tellHead 70 = .ok (.iaload, 1) := by decide +kernel
theorem dX12_tellHead_71 : decode cX12_tellHead 71 = .ok (.imul, 1) := by decide +kernel
theorem dX12_tellHead_72 : decode cX12_tellHead 72 = .ok (.aload_n 0, 1) := by decide +kernel
theorem dX12_tellHead_73 : decode cX12_tellHead 73 = .ok (.getfield 44, 3) := by decide +kernel
theorem dX12_tellHead_76 : decode cX12_tellHead 76 = .ok (.aload_n 0, 1) := by decide +kernel
theorem dX12_tellHead_77 : decode cX12_tellHead 77 = .ok (.getfield 47, 3) := by decide +kernel
theorem dX12_tellHead_80 : decode cX12_tellHead 80 = .ok (.aload_n 0, 1) := by decide +kernel
theorem dX12_tellHead_81 : decode cX12_tellHead 81 = .ok (.getfield 79, 3) := by decide +kernel
theorem dX12_tellHead_84 : decode cX12_tellHead 84 = .ok (.aload_n 0, 1) := by decide +kernel
theorem dX12_tellHead_85 : decode cX12_tellHead 85 = .ok (.getfield 348, 3) := by decide +kernel
theorem dX12_tellHead_88 : decode cX12_tellHead 88 = .ok (.iaload, 1) := by decide +kernel
theorem dX12_tellHead_89 : decode cX12_tellHead 89 = .ok (.iaload, 1) := by decide +kernel
theorem dX12_tellHead_90 : decode cX12_tellHead 90 = .ok (.invokevirtual 392, 3) := by decide +kernel
theorem dX12_tellHead_93 : decode cX12_tellHead 93 = .ok (.goto 37, 3) := by decide +kernel
theorem dX12_tellHead_96 : decode cX12_tellHead 96 = .ok (.aload_n 0, 1) := by decide +kernel
theorem dX12_tellHead_97 : decode cX12_tellHead 97 = .ok (.bipush 12, 2) := by decide +kernel
theorem dX12_tellHead_99 : decode cX12_tellHead 99 = .ok (.aload_n 0, 1) := by decide +kernel
theorem dX12_tellHead_100 : decode cX12_tellHead 100 = .ok (.getfield 79, 3) := by decide +kernel
theorem dX12_tellHead_103 : decode cX12_tellHead 103 = .ok (.aload_n 0, 1) := by decide +kernel
theorem dX12_tellHead_104 : decode cX12_tellHead 104 = .ok (.getfield 348, 3) := by decide +kernel
theorem dX12_tellHead_107 : decode cX12_tellHead 107 = .ok (.iaload, 1) := by decide +kernel
theorem dX12_tellHead_108 : decode cX12_tellHead 108 = .ok (.imul, 1) := by decide +kernel
theorem dX12_tellHead_109 : decode cX12_tellHead 109 = .ok (.aload_n 0, 1) := by decide +kernel
theorem dX12_tellHead_110 : decode cX12_tellHead 110 = .ok (.getfield 54, 3) := by decide +kernel
theorem dX12_tellHead_113 : decode cX12_tellHead 113 = .ok (.aload_n 0, 1) := by decide +kernel
theorem dX12_tellHead_114 : decode cX12_tellHead 114 = .ok (.getfield 57, 3) := by decide +kernel
theorem dX12_tellHead_117 : decode cX12_tellHead 117 = .ok (.aload_n 0, 1) := by decide +kernel
theorem dX12_tellHead_118 : decode cX12_tellHead 118 = .ok (.getfield 79, 3) := by decide +kernel
theorem dX12_tellHead_121 : decode cX12_tellHead 121 = .ok (.aload_n 0, 1) := by decide +kernel
theorem dX12_tellHead_122 : decode cX12_tellHead 122 = .ok (.getfield 348, 3) := by decide +kernel
theorem dX12_tellHead_125 : decode cX12_tellHead 125 = .ok (.iaload, 1) := by decide +kernel
theorem dX12_tellHead_126 : decode cX12_tellHead 126 = .ok (.iaload, 1) := by decide +kernel
theorem dX12_tellHead_127 : decode cX12_tellHead 127 = .ok (.invokevirtual 392, 3) := by decide +kernel
theorem dX12_tellHead_130 : decode cX12_tellHead 130 = .ok (.aload_n 0, 1) := by decide +kernel
theorem dX12_tellHead_131 : decode cX12_tellHead 131 = .ok (.bipush 32, 2) := by decide +kernel
theorem dX12_tellHead_133 : decode cX12_tellHead 133 = .ok (.invokevirtual 384, 3) := by decide +kernel
theorem dX12_tellHead_136 : decode cX12_tellHead 136 = .ok (.aload_n 0, 1) := by decide +kernel
theorem dX12_tellHead_137 : decode cX12_tellHead 137 = .ok (.aload_n 0, 1) := by decide +kernel
theorem dX12_tellHead_138 : decode cX12_tellHead 138 = .ok (.getfield 324, 3) := by decide +kernel
theorem dX12_tellHead_141 : decode cX12_tellHead 141 = .ok (.invokevirtual 381, 3) := by decide +kernel
theorem dX12_tellHead_144 : decode cX12_tellHead 144 = .ok (.aload_n 0, 1) := by decide +kernel
theorem dX12_tellHead_145 : decode cX12_tellHead 145 = .ok (.bipush 10, 2) := by decide +kernel
theorem dX12_tellHead_147 : decode cX12_tellHead 147 = .ok (.invokevirtual 384, 3) := by decide +kernel
theorem dX12_tellHead_150 : decode cX12_tellHead 150 = .ok (.return_, 1) := by decide +kernel
theorem dX12_text_0 : decode cX12_text 0 = .ok (.aload_n 0, 1) := by decide +kernel
theorem dX12_text_1 : decode cX12_text 1 = .ok (.iconst 0, 1) := by decide +kernel
theorem dX12_text_2 : decode cX12_text 2 = .ok (.putfield 147, 3) := by decide +kernel
theorem dX12_text_5 : decode cX12_text 5 = .ok (.iload_n 1, 1) := by decide +kernel
theorem dX12_text_6 : decode cX12_text 6 = .ok (.ifCond .lt 11, 3) := by decide +kernel
theorem dX12_text_9 : decode cX12_text 9 = .ok (.iload_n 1, 1) := by decide +kernel
theorem dX12_text_10 : decode cX12_text 10 = .ok (.aload_n 0, 1) := by decide +kernel
theorem dX12_text_11 : decode cX12_text 11 = .ok (.getfield 183, 3) := by decide +kernel
theorem dX12_text_14 : decode cX12_text 14 = .ok (.if_icmp .le 9, 3) := by decide +kernel
theorem dX12_text_17 : decode cX12_text 17 = .ok (.aload_n 0, 1) := by decide +kernel
theorem dX12_text_18 : decode cX12_text 18 = .ok (.iconst 1, 1) := by decide +kernel
theorem dX12_text_19 : decode cX12_text 19 = .ok (.invokevirtual 468, 3) := by decide +kernel
theorem dX12_text_22 : decode cX12_text 22 = .ok (.ireturn, 1) := by decide +kernel
theorem dX12_text_23 : decode cX12_text 23 = .ok (.iconst 0, 1) := by decide +kernel
theorem dX12_text_24 : decode cX12_text 24 = .ok (.istore_n 2, 1) := by decide +kernel
theorem dX12_text_25 : decode cX12_text 25 = .ok (.iload_n 2, 1) := by decide +kernel
theorem dX12_text_26 : decode cX12_text 26 = .ok (.iload_n 1, 1) := by decide +kernel
theorem dX12_text_27 : decode cX12_text 27 = .ok (.if_icmp .ge 21, 3) := by decide +kernel
theorem dX12_text_30 : decode cX12_text 30 = .ok (.aload_n 0, 1) := by decide +kernel
theorem dX12_text_31 : decode cX12_text 31 = .ok (.getfield 37, 3) := by decide +kernel
theorem dX12_text_34 : decode cX12_text 34 = .ok (.iload_n 2, 1) := by decide +kernel
theorem dX12_text_35 : decode cX12_text 35 = .ok (.aload_n 0, 1) := by decide +kernel
theorem dX12_text_36 : decode cX12_text 36 = .ok (.getfield 33, 3) := by decide +kernel
theorem dX12_text_39 : decode cX12_text 39 = .ok (.iload_n 2, 1) := by decide +kernel
theorem dX12_text_40 : decode cX12_text 40 = .ok (.iaload, 1) := by decide +kernel
theorem dX12_text_41 : decode cX12_text 41 = .ok (.iastore, 1) := by decide +kernel
theorem dX12_text_42 : decode cX12_text 42 = .ok (.iinc 2 1, 3) := by decide +kernel
theorem dX12_text_45 : decode cX12_text 45 = .ok (.goto (-20), 3) := by decide +kernel
theorem dX12_text_48 : decode cX12_text 48 = .ok (.aload_n 0, 1) := by decide +kernel
theorem dX12_text_49 : decode cX12_text 49 = .ok (.iload_n 1, 1) := by decide +kernel
theorem dX12_text_50 : decode cX12_text 50 = .ok (.putfield 186, 3) := by decide +kernel
theorem dX12_text_53 : decode cX12_text 53 = .ok (.aload_n 0, 1) := by decide +kernel
theorem dX12_text_54 : decode cX12_text 54 = .ok (.iconst 0, 1) := by decide +kernel
theorem dX12_text_55 : decode cX12_text 55 = .ok (.putfield 183, 3) := by decide +kernel
theorem dX12_text_58 : decode cX12_text 58 = .ok (.aload_n 0, 1) := by decide +kernel
theorem dX12_text_59 : decode cX12_text 59 = .ok (.iconst 0, 1) := by decide +kernel
theorem dX12_text_60 : decode cX12_text 60 = .ok (.putfield 378, 3) := by decide +kernel
theorem dX12_text_63 : decode cX12_text 63 = .ok (.aload_n 0, 1) := by decide +kernel
theorem dX12_text_64 : decode cX12_text 64 = .ok (.iconst 0, 1) := by decide +kernel
theorem dX12_text_65 : decode cX12_text 65 = .ok (.putfield 150, 3) := by decide +kernel
theorem dX12_text_68 : decode cX12_text 68 = .ok (.aload_n 0, 1) := by decide +kernel
theorem dX12_text_69 : decode cX12_text 69 = .ok (.iconst 0, 1) := by decide +kernel
theorem dX12_text_70 : decode cX12_text 70 = .ok (.putfield 471, 3) := by decide +kernel
theorem dX12_text_73 : decode cX12_text 73 = .ok (.aload_n 0, 1) := by decide +kernel
theorem dX12_text_74 : decode cX12_text 74 = .ok (.invokevirtual 474, 3) := by decide +kernel
theorem dX12_text_77 : decode cX12_text 77 = .ok (.aload_n 0, 1) := by decide +kernel
theorem dX12_text_78 : decode cX12_text 78 = .ok (.getfield 150, 3) := by decide +kernel
theorem dX12_text_81 : decode cX12_text 81 = .ok (.ifCond .ne 78, 3) := by decide +kernel
theorem dX12_text_84 : decode cX12_text 84 = .ok (.aload_n 0, 1) := by decide +kernel
theorem dX12_text_85 : decode cX12_text 85 = .ok (.iconst 1, 1) := by decide +kernel
theorem dX12_text_86 : decode cX12_text 86 = .ok (.putfield 237, 3) := by decide +kernel
theorem dX12_text_89 : decode cX12_text 89 = .ok (.aload_n 0, 1) := by decide +kernel
theorem dX12_text_90 : decode cX12_text 90 = .ok (.iconst 0, 1) := by decide +kernel
theorem dX12_text_91 : decode cX12_text 91 = .ok (.putfield 193, 3) := by decide +kernel
theorem dX12_text_94 : decode cX12_text 94 = .ok (.aload_n 0, 1) := by decide +kernel
theorem dX12_text_95 : decode cX12_text 95 = .ok (.invokevirtual 231, 3) := by decide +kernel
theorem dX12_text_98 : decode cX12_text 98 = .ok (.aload_n 0, 1) := by decide +kernel
theorem dX12_text_99 : decode cX12_text 99 = .ok (.getfield 150, 3) := by decide +kernel
theorem dX12_text_102 : decode cX12_text 102 = .ok (.ifCond .ne 52, 3) := by decide +kernel
theorem dX12_text_105 : decode cX12_text 105 = .ok (.aload_n 0, 1) := by decide +kernel
theorem dX12_text_106 : decode cX12_text 106 = .ok (.getfield 203, 3) := by decide +kernel
theorem dX12_text_109 : decode cX12_text 109 = .ok (.ifCond .eq 45, 3) := by decide +kernel
theorem dX12_text_112 : decode cX12_text 112 = .ok (.aload_n 0, 1) := by decide +kernel
theorem dX12_text_113 : decode cX12_text 113 = .ok (.invokevirtual 477, 3) := by decide +kernel
theorem dX12_text_116 : decode cX12_text 116 = .ok (.aload_n 0, 1) := by decide +kernel
theorem dX12_text_117 : decode cX12_text 117 = .ok (.invokevirtual 299, 3) := by decide +kernel
theorem dX12_text_120 : decode cX12_text 120 = .ok (.aload_n 0, 1) := by decide +kernel
theorem dX12_text_121 : decode cX12_text 121 = .ok (.invokevirtual 480, 3) := by decide +kernel
theorem dX12_text_124 : decode cX12_text 124 = .ok (.aload_n 0, 1) := by decide +kernel
theorem dX12_text_125 : decode cX12_text 125 = .ok (.invokevirtual 483, 3) := by decide +kernel
theorem dX12_text_128 : decode cX12_text 128 = .ok (.aload_n 0, 1) := by decide +kernel
theorem dX12_text_129 : decode cX12_text 129 = .ok (.getfield 150, 3) := by decide +kernel
theorem dX12_text_132 : decode cX12_text 132 = .ok (.ifCond .ne (-34), 3) := by decide +kernel
theorem dX12_text_135 : decode cX12_text 135 = .ok (.aload_n 0, 1) := by decide +kernel
theorem dX12_text_136 : decode cX12_text 136 = .ok (.dup, 1) := by decide +kernel
theorem dX12_text_137 : decode cX12_text 137 = .ok (.getfield 471, 3) := by decide +kernel
theorem dX12_text_140 : decode cX12_text 140 = .ok (.iconst 1, 1) := by decide +kernel
theorem dX12_text_141 : decode cX12_text 141 = .ok (.iadd, 1) := by decide +kernel
theorem dX12_text_142 : decode cX12_text 142 = .ok (.putfield 471, 3) := by decide +kernel
theorem dX12_text_145 : decode cX12_text 145 = .ok (.aload_n 0, 1) := by decide +kernel
theorem dX12_text_146 : decode cX12_text 146 = .ok (.bipush 59, 2) := by decide +kernel
theorem dX12_text_148 : decode cX12_text 148 = .ok (.invokevirtual 252, 3) := by decide +kernel
theorem dX12_text_151 : decode cX12_text 151 = .ok (.goto (-53), 3) := by decide +kernel
theorem dX12_text_154 : decode cX12_text 154 = .ok (.aload_n 0, 1) := by decide +kernel
theorem dX12_text_155 : decode cX12_text 155 = .ok (.iconst 0, 1) := by decide +kernel
theorem dX12_text_156 : decode cX12_text 156 = .ok (.putfield 237, 3) := by decide +kernel
theorem dX12_text_159 : decode cX12_text 159 = .ok (.aload_n 0, 1) := by decide +kernel
theorem dX12_text_160 : decode cX12_text 160 = .ok (.aload_n 0, 1) := by decide +kernel
theorem dX12_text_161 : decode cX12_text 161 = .ok (.getfield 150, 3) := by decide +kernel
theorem dX12_text_164 : decode cX12_text 164 = .ok (.putfield 486, 3) := by decide +kernel
theorem dX12_text_167 : decode cX12_text 167 = .ok (.aload_n 0, 1) := by decide +kernel
theorem dX12_text_168 : decode cX12_text 168 = .ok (.aload_n 0, 1) := by decide +kernel
theorem dX12_text_169 : decode cX12_text 169 = .ok (.getfield 150, 3) := by decide +kernel
theorem dX12_text_172 : decode cX12_text 172 = .ok (.ifCond .ne 7, 3) := by decide +kernel
theorem dX12_text_175 : decode cX12_text 175 = .ok (.iconst (-1), 1) := by decide +kernel
theorem dX12_text_176 : decode cX12_text 176 = .ok (.goto 7, 3) := by decide +kernel
theorem dX12_text_179 : decode cX12_text 179 = .ok (.aload_n 0, 1) := by decide +kernel
theorem dX12_text_180 : decode cX12_text 180 = .ok (.getfield 153, 3) := by decide +kernel
theorem dX12_text_183 : decode cX12_text 183 = .ok (.putfield 40, 3) := by decide +kernel
theorem dX12_text_186 : decode cX12_text 186 = .ok (.aload_n 0, 1) := by decide +kernel
theorem dX12_text_187 : decode cX12_text 187 = .ok (.iconst 0, 1) := by decide +kernel
theorem dX12_text_188 : decode cX12_text 188 = .ok (.putfield 150, 3) := by decide +kernel
theorem dX12_text_191 : decode cX12_text 191 = .ok (.aload_n 0, 1) := by decide +kernel
theorem dX12_text_192 : decode cX12_text 192 = .ok (.getfield 486, 3) := by decide +kernel
theorem dX12_text_195 : decode cX12_text 195 = .ok (.ireturn, 1) := by decide +kernel
theorem dX12_fault_0 : decode cX12_fault 0 = .ok (.aload_n 0, 1) := by decide +kernel
theorem dX12_fault_1 : decode cX12_fault 1 = .ok (.iconst 0, 1) := by decide +kernel
theorem dX12_fault_2 : decode cX12_fault 2 = .ok (.putfield 147, 3) := by decide +kernel
theorem dX12_fault_5 : decode cX12_fault 5 = .ok (.iload_n 1, 1) := by decide +kernel
theorem dX12_fault_6 : decode cX12_fault 6 = .ok (.tableswitch 41 0 2 #[26, 31, 36], 26) := by decide +kernel
theorem dX12_fault_32 : decode cX12_fault 32 = .ok (.aload_n 0, 1) := by decide +kernel
theorem dX12_fault_33 : decode cX12_fault 33 = .ok (.getfield 486, 3) := by decide +kernel
theorem dX12_fault_36 : decode cX12_fault 36 = .ok (.ireturn, 1) := by decide +kernel
theorem dX12_fault_37 : decode cX12_fault 37 = .ok (.aload_n 0, 1) := by decide +kernel
theorem dX12_fault_38 : decode cX12_fault 38 = .ok (.getfield 40, 3) := by decide +kernel
theorem dX12_fault_41 : decode cX12_fault 41 = .ok (.ireturn, 1) := by decide +kernel
theorem dX12_fault_42 : decode cX12_fault 42 = .ok (.aload_n 0, 1) := by decide +kernel
theorem dX12_fault_43 : decode cX12_fault 43 = .ok (.getfield 471, 3) := by decide +kernel
theorem dX12_fault_46 : decode cX12_fault 46 = .ok (.ireturn, 1) := by decide +kernel
theorem dX12_fault_47 : decode cX12_fault 47 = .ok (.aload_n 0, 1) := by decide +kernel
theorem dX12_fault_48 : decode cX12_fault 48 = .ok (.iconst 1, 1) := by decide +kernel
theorem dX12_fault_49 : decode cX12_fault 49 = .ok (.invokevirtual 468, 3) := by decide +kernel
theorem dX12_fault_52 : decode cX12_fault 52 = .ok (.ireturn, 1) := by decide +kernel
theorem dX12_corner_0 : decode cX12_corner 0 = .ok (.aload_n 0, 1) := by decide +kernel
theorem dX12_corner_1 : decode cX12_corner 1 = .ok (.iconst 0, 1) := by decide +kernel
theorem dX12_corner_2 : decode cX12_corner 2 = .ok (.putfield 147, 3) := by decide +kernel
theorem dX12_corner_5 : decode cX12_corner 5 = .ok (.iload_n 1, 1) := by decide +kernel
theorem dX12_corner_6 : decode cX12_corner 6 = .ok (.ifCond .lt 9, 3) := by decide +kernel
theorem dX12_corner_9 : decode cX12_corner 9 = .ok (.iload_n 1, 1) := by decide +kernel
theorem dX12_corner_10 : decode cX12_corner 10 = .ok (.bipush 8, 2) := by decide +kernel
theorem dX12_corner_12 : decode cX12_corner 12 = .ok (.if_icmp .le 9, 3) := by decide +kernel
theorem dX12_corner_15 : decode cX12_corner 15 = .ok (.aload_n 0, 1) := by decide +kernel
theorem dX12_corner_16 : decode cX12_corner 16 = .ok (.iconst 1, 1) := by decide +kernel
theorem dX12_corner_17 : decode cX12_corner 17 = .ok (.invokevirtual 468, 3) := by decide +kernel
theorem dX12_corner_20 : decode cX12_corner 20 = .ok (.ireturn, 1) := by decide +kernel
theorem dX12_corner_21 : decode cX12_corner 21 = .ok (.aload_n 0, 1) := by decide +kernel
theorem dX12_corner_22 : decode cX12_corner 22 = .ok (.getfield 167, 3) := by decide +kernel
theorem dX12_corner_25 : decode cX12_corner 25 = .ok (.istore_n 2, 1) := by decide +kernel
theorem dX12_corner_26 : decode cX12_corner 26 = .ok (.aload_n 0, 1) := by decide +kernel
theorem dX12_corner_27 : decode cX12_corner 27 = .ok (.iload_n 1, 1) := by decide +kernel
theorem dX12_corner_28 : decode cX12_corner 28 = .ok (.invokevirtual 143, 3) := by decide +kernel
theorem dX12_corner_31 : decode cX12_corner 31 = .ok (.iload_n 2, 1) := by decide +kernel
theorem dX12_corner_32 : decode cX12_corner 32 = .ok (.ireturn, 1) := by decide +kernel
theorem dX12_limit_0 : decode cX12_limit 0 = .ok (.aload_n 0, 1) := by decide +kernel
theorem dX12_limit_1 : decode cX12_limit 1 = .ok (.iconst 0, 1) := by decide +kernel
theorem dX12_limit_2 : decode cX12_limit 2 = .ok (.putfield 147, 3) := by decide +kernel
theorem dX12_limit_5 : decode cX12_limit 5 = .ok (.iload_n 1, 1) := by decide +kernel
theorem dX12_limit_6 : decode cX12_limit 6 = .ok (.iconst 1, 1) := by decide +kernel
theorem dX12_limit_7 : decode cX12_limit 7 = .ok (.if_icmp .lt 10, 3) := by decide +kernel
theorem dX12_limit_10 : decode cX12_limit 10 = .ok (.iload_n 1, 1) := by decide +kernel
theorem dX12_limit_11 : decode cX12_limit 11 = .ok (.sipush 20000, 3) := by decide +kernel
theorem dX12_limit_14 : decode cX12_limit 14 = .ok (.if_icmp .le 9, 3) := by decide +kernel
theorem dX12_limit_17 : decode cX12_limit 17 = .ok (.aload_n 0, 1) := by decide +kernel
theorem dX12_limit_18 : decode cX12_limit 18 = .ok (.iconst 1, 1) := by decide +kernel
theorem dX12_limit_19 : decode cX12_limit 19 = .ok (.invokevirtual 468, 3) := by decide +kernel
theorem dX12_limit_22 : decode cX12_limit 22 = .ok (.ireturn, 1) := by decide +kernel
theorem dX12_limit_23 : decode cX12_limit 23 = .ok (.aload_n 0, 1) := by decide +kernel
theorem dX12_limit_24 : decode cX12_limit 24 = .ok (.getfield 137, 3) := by decide +kernel
theorem dX12_limit_27 : decode cX12_limit 27 = .ok (.istore_n 2, 1) := by decide +kernel
theorem dX12_limit_28 : decode cX12_limit 28 = .ok (.aload_n 0, 1) := by decide +kernel
theorem dX12_limit_29 : decode cX12_limit 29 = .ok (.iload_n 1, 1) := by decide +kernel
theorem dX12_limit_30 : decode cX12_limit 30 = .ok (.putfield 137, 3) := by decide +kernel
theorem dX12_limit_33 : decode cX12_limit 33 = .ok (.iload_n 2, 1) := by decide +kernel
theorem dX12_limit_34 : decode cX12_limit 34 = .ok (.ireturn, 1) := by decide +kernel
theorem dX12_outs_0 : decode cX12_outs 0 = .ok (.aload_n 0, 1) := by decide +kernel
theorem dX12_outs_1 : decode cX12_outs 1 = .ok (.iconst 0, 1) := by decide +kernel
theorem dX12_outs_2 : decode cX12_outs 2 = .ok (.putfield 147, 3) := by decide +kernel
theorem dX12_outs_5 : decode cX12_outs 5 = .ok (.aload_n 0, 1) := by decide +kernel
theorem dX12_outs_6 : decode cX12_outs 6 = .ok (.getfield 378, 3) := by decide +kernel
theorem dX12_outs_9 : decode cX12_outs 9 = .ok (.ireturn, 1) := by decide +kernel
theorem dX12_out_0 : decode cX12_out 0 = .ok (.aload_n 0, 1) := by decide +kernel
theorem dX12_out_1 : decode cX12_out 1 = .ok (.iconst 0, 1) := by decide +kernel
theorem dX12_out_2 : decode cX12_out 2 = .ok (.putfield 147, 3) := by decide +kernel
theorem dX12_out_5 : decode cX12_out 5 = .ok (.iload_n 1, 1) := by decide +kernel
theorem dX12_out_6 : decode cX12_out 6 = .ok (.ifCond .lt 18, 3) := by decide +kernel
theorem dX12_out_9 : decode cX12_out 9 = .ok (.iload_n 1, 1) := by decide +kernel
theorem dX12_out_10 : decode cX12_out 10 = .ok (.aload_n 0, 1) := by decide +kernel
theorem dX12_out_11 : decode cX12_out 11 = .ok (.getfield 378, 3) := by decide +kernel
theorem dX12_out_14 : decode cX12_out 14 = .ok (.if_icmp .ge 10, 3) := by decide +kernel
theorem dX12_out_17 : decode cX12_out 17 = .ok (.iload_n 1, 1) := by decide +kernel
theorem dX12_out_18 : decode cX12_out 18 = .ok (.sipush 3000, 3) := by decide +kernel
theorem dX12_out_21 : decode cX12_out 21 = .ok (.if_icmp .lt 9, 3) := by decide +kernel
theorem dX12_out_24 : decode cX12_out 24 = .ok (.aload_n 0, 1) := by decide +kernel
theorem dX12_out_25 : decode cX12_out 25 = .ok (.iconst 1, 1) := by decide +kernel
theorem dX12_out_26 : decode cX12_out 26 = .ok (.invokevirtual 468, 3) := by decide +kernel
theorem dX12_out_29 : decode cX12_out 29 = .ok (.ireturn, 1) := by decide +kernel
theorem dX12_out_30 : decode cX12_out 30 = .ok (.aload_n 0, 1) := by decide +kernel
theorem dX12_out_31 : decode cX12_out 31 = .ok (.getfield 140, 3) := by decide +kernel
theorem dX12_out_34 : decode cX12_out 34 = .ok (.iload_n 1, 1) := by decide +kernel
theorem dX12_out_35 : decode cX12_out 35 = .ok (.iaload, 1) := by decide +kernel
theorem dX12_out_36 : decode cX12_out 36 = .ok (.ireturn, 1) := by decide +kernel
theorem dX12_count_0 : decode cX12_count 0 = .ok (.aload_n 0, 1) := by decide +kernel
theorem dX12_count_1 : decode cX12_count 1 = .ok (.iconst 0, 1) := by decide +kernel
theorem dX12_count_2 : decode cX12_count 2 = .ok (.putfield 147, 3) := by decide +kernel
theorem dX12_count_5 : decode cX12_count 5 = .ok (.iconst 0, 1) := by decide +kernel
theorem dX12_count_6 : decode cX12_count 6 = .ok (.istore_n 2, 1) := by decide +kernel
theorem dX12_count_7 : decode cX12_count 7 = .ok (.iconst 0, 1) := by decide +kernel
theorem dX12_count_8 : decode cX12_count 8 = .ok (.istore_n 3, 1) := by decide +kernel
theorem dX12_count_9 : decode cX12_count 9 = .ok (.iconst 0, 1) := by decide +kernel
theorem dX12_count_10 : decode cX12_count 10 = .ok (.istore 4, 2) := by decide +kernel
theorem dX12_count_12 : decode cX12_count 12 = .ok (.iload 4, 2) := by decide +kernel
theorem dX12_count_14 : decode cX12_count 14 = .ok (.aload_n 0, 1) := by decide +kernel
theorem dX12_count_15 : decode cX12_count 15 = .ok (.getfield 160, 3) := by decide +kernel
theorem dX12_count_18 : decode cX12_count 18 = .ok (.if_icmp .ge 27, 3) := by decide +kernel
theorem dX12_count_21 : decode cX12_count 21 = .ok (.iload_n 2, 1) := by decide +kernel
theorem dX12_count_22 : decode cX12_count 22 = .ok (.aload_n 0, 1) := by decide +kernel
theorem dX12_count_23 : decode cX12_count 23 = .ok (.getfield 50, 3) := by decide +kernel
theorem dX12_count_26 : decode cX12_count 26 = .ok (.iload 4, 2) := by decide +kernel
theorem dX12_count_28 : decode cX12_count 28 = .ok (.iaload, 1) := by decide +kernel
theorem dX12_count_29 : decode cX12_count 29 = .ok (.ifCond .lt 7, 3) := by decide +kernel
theorem dX12_count_32 : decode cX12_count 32 = .ok (.iconst 1, 1) := by decide +kernel
theorem dX12_count_33 : decode cX12_count 33 = .ok (.goto 4, 3) := by decide +kernel
theorem dX12_count_36 : decode cX12_count 36 = .ok (.iconst 0, 1) := by decide +kernel
theorem dX12_count_37 : decode cX12_count 37 = .ok (.iadd, 1) := by decide +kernel
theorem dX12_count_38 : decode cX12_count 38 = .ok (.istore_n 2, 1) := by decide +kernel
theorem dX12_count_39 : decode cX12_count 39 = .ok (.iinc 4 1, 3) := by decide +kernel
theorem dX12_count_42 : decode cX12_count 42 = .ok (.goto (-30), 3) := by decide +kernel
theorem dX12_count_45 : decode cX12_count 45 = .ok (.iconst 0, 1) := by decide +kernel
theorem dX12_count_46 : decode cX12_count 46 = .ok (.istore 4, 2) := by decide +kernel
theorem dX12_count_48 : decode cX12_count 48 = .ok (.iload 4, 2) := by decide +kernel
theorem dX12_count_50 : decode cX12_count 50 = .ok (.bipush 64, 2) := by decide +kernel
theorem dX12_count_52 : decode cX12_count 52 = .ok (.if_icmp .ge 27, 3) := by decide +kernel
theorem dX12_count_55 : decode cX12_count 55 = .ok (.iload_n 3, 1) := by decide +kernel
theorem dX12_count_56 : decode cX12_count 56 = .ok (.aload_n 0, 1) := by decide +kernel
theorem dX12_count_57 : decode cX12_count 57 = .ok (.getfield 52, 3) := by decide +kernel
theorem dX12_count_60 : decode cX12_count 60 = .ok (.iload 4, 2) := by decide +kernel
theorem dX12_count_62 : decode cX12_count 62 = .ok (.iaload, 1) := by decide +kernel
theorem dX12_count_63 : decode cX12_count 63 = .ok (.ifCond .lt 7, 3) := by decide +kernel
theorem dX12_count_66 : decode cX12_count 66 = .ok (.iconst 1, 1) := by decide +kernel
theorem dX12_count_67 : decode cX12_count 67 = .ok (.goto 4, 3) := by decide +kernel
theorem dX12_count_70 : decode cX12_count 70 = .ok (.iconst 0, 1) := by decide +kernel
theorem dX12_count_71 : decode cX12_count 71 = .ok (.iadd, 1) := by decide +kernel
theorem dX12_count_72 : decode cX12_count 72 = .ok (.istore_n 3, 1) := by decide +kernel
theorem dX12_count_73 : decode cX12_count 73 = .ok (.iinc 4 1, 3) := by decide +kernel
theorem dX12_count_76 : decode cX12_count 76 = .ok (.goto (-28), 3) := by decide +kernel
theorem dX12_count_79 : decode cX12_count 79 = .ok (.iload_n 1, 1) := by decide +kernel
theorem dX12_count_80 : decode cX12_count 80 = .ok (.tableswitch 136 0 13 #[72, 77, 82, 87, 92, 97, 102, 107, 112, 117, 122, 124, 126, 131], 72) := by decide +kernel
theorem dX12_count_152 : decode cX12_count 152 = .ok (.aload_n 0, 1) := by decide +kernel
theorem dX12_count_153 : decode cX12_count 153 = .ok (.getfield 302, 3) := by decide +kernel
theorem dX12_count_156 : decode cX12_count 156 = .ok (.ireturn, 1) := by decide +kernel
theorem dX12_count_157 : decode cX12_count 157 = .ok (.aload_n 0, 1) := by decide +kernel
theorem dX12_count_158 : decode cX12_count 158 = .ok (.getfield 339, 3) := by decide +kernel
theorem dX12_count_161 : decode cX12_count 161 = .ok (.ireturn, 1) := by decide +kernel
theorem dX12_count_162 : decode cX12_count 162 = .ok (.aload_n 0, 1) := by decide +kernel
theorem dX12_count_163 : decode cX12_count 163 = .ok (.getfield 336, 3) := by decide +kernel
theorem dX12_count_166 : decode cX12_count 166 = .ok (.ireturn, 1) := by decide +kernel
theorem dX12_count_167 : decode cX12_count 167 = .ok (.aload_n 0, 1) := by decide +kernel
theorem dX12_count_168 : decode cX12_count 168 = .ok (.getfield 345, 3) := by decide +kernel
theorem dX12_count_171 : decode cX12_count 171 = .ok (.ireturn, 1) := by decide +kernel
theorem dX12_count_172 : decode cX12_count 172 = .ok (.aload_n 0, 1) := by decide +kernel
theorem dX12_count_173 : decode cX12_count 173 = .ok (.getfield 327, 3) := by decide +kernel
theorem dX12_count_176 : decode cX12_count 176 = .ok (.ireturn, 1) := by decide +kernel
theorem dX12_count_177 : decode cX12_count 177 = .ok (.aload_n 0, 1) := by decide +kernel
theorem dX12_count_178 : decode cX12_count 178 = .ok (.getfield 333, 3) := by decide +kernel
theorem dX12_count_181 : decode cX12_count 181 = .ok (.ireturn, 1) := by decide +kernel
theorem dX12_count_182 : decode cX12_count 182 = .ok (.aload_n 0, 1) := by decide +kernel
theorem dX12_count_183 : decode cX12_count 183 = .ok (.getfield 312, 3) := by decide +kernel
theorem dX12_count_186 : decode cX12_count 186 = .ok (.ireturn, 1) := by decide +kernel
theorem dX12_count_187 : decode cX12_count 187 = .ok (.aload_n 0, 1) := by decide +kernel
theorem dX12_count_188 : decode cX12_count 188 = .ok (.getfield 305, 3) := by decide +kernel
theorem dX12_count_191 : decode cX12_count 191 = .ok (.ireturn, 1) := by decide +kernel
theorem dX12_count_192 : decode cX12_count 192 = .ok (.aload_n 0, 1) := by decide +kernel
theorem dX12_count_193 : decode cX12_count 193 = .ok (.getfield 167, 3) := by decide +kernel
theorem dX12_count_196 : decode cX12_count 196 = .ok (.ireturn, 1) := by decide +kernel
theorem dX12_count_197 : decode cX12_count 197 = .ok (.aload_n 0, 1) := by decide +kernel
theorem dX12_count_198 : decode cX12_count 198 = .ok (.getfield 160, 3) := by decide +kernel
theorem dX12_count_201 : decode cX12_count 201 = .ok (.ireturn, 1) := by decide +kernel
theorem dX12_count_202 : decode cX12_count 202 = .ok (.iload_n 2, 1) := by decide +kernel
theorem dX12_count_203 : decode cX12_count 203 = .ok (.ireturn, 1) := by decide +kernel
theorem dX12_count_204 : decode cX12_count 204 = .ok (.iload_n 3, 1) := by decide +kernel
theorem dX12_count_205 : decode cX12_count 205 = .ok (.ireturn, 1) := by decide +kernel
theorem dX12_count_206 : decode cX12_count 206 = .ok (.aload_n 0, 1) := by decide +kernel
theorem dX12_count_207 : decode cX12_count 207 = .ok (.getfield 170, 3) := by decide +kernel
theorem dX12_count_210 : decode cX12_count 210 = .ok (.ireturn, 1) := by decide +kernel
theorem dX12_count_211 : decode cX12_count 211 = .ok (.aload_n 0, 1) := by decide +kernel
theorem dX12_count_212 : decode cX12_count 212 = .ok (.getfield 183, 3) := by decide +kernel
theorem dX12_count_215 : decode cX12_count 215 = .ok (.ireturn, 1) := by decide +kernel
theorem dX12_count_216 : decode cX12_count 216 = .ok (.aload_n 0, 1) := by decide +kernel
theorem dX12_count_217 : decode cX12_count 217 = .ok (.iconst 1, 1) := by decide +kernel
theorem dX12_count_218 : decode cX12_count 218 = .ok (.invokevirtual 468, 3) := by decide +kernel
theorem dX12_count_221 : decode cX12_count 221 = .ok (.ireturn, 1) := by decide +kernel
theorem dX12_name_0 : decode cX12_name 0 = .ok (.aload_n 0, 1) := by decide +kernel
theorem dX12_name_1 : decode cX12_name 1 = .ok (.iconst 0, 1) := by decide +kernel
theorem dX12_name_2 : decode cX12_name 2 = .ok (.putfield 147, 3) := by decide +kernel
theorem dX12_name_5 : decode cX12_name 5 = .ok (.iload_n 1, 1) := by decide +kernel
theorem dX12_name_6 : decode cX12_name 6 = .ok (.ifCond .lt 15, 3) := by decide +kernel
theorem dX12_name_9 : decode cX12_name 9 = .ok (.iload_n 1, 1) := by decide +kernel
theorem dX12_name_10 : decode cX12_name 10 = .ok (.aload_n 0, 1) := by decide +kernel
theorem dX12_name_11 : decode cX12_name 11 = .ok (.getfield 167, 3) := by decide +kernel
theorem dX12_name_14 : decode cX12_name 14 = .ok (.if_icmp .ge 7, 3) := by decide +kernel
theorem dX12_name_17 : decode cX12_name 17 = .ok (.iload_n 2, 1) := by decide +kernel
theorem dX12_name_18 : decode cX12_name 18 = .ok (.ifCond .ge 9, 3) := by decide +kernel
theorem dX12_name_21 : decode cX12_name 21 = .ok (.aload_n 0, 1) := by decide +kernel
theorem dX12_name_22 : decode cX12_name 22 = .ok (.iconst 1, 1) := by decide +kernel
theorem dX12_name_23 : decode cX12_name 23 = .ok (.invokevirtual 468, 3) := by decide +kernel
theorem dX12_name_26 : decode cX12_name 26 = .ok (.ireturn, 1) := by decide +kernel
theorem dX12_name_27 : decode cX12_name 27 = .ok (.iload_n 2, 1) := by decide +kernel
theorem dX12_name_28 : decode cX12_name 28 = .ok (.ifCond .ne 18, 3) := by decide +kernel
theorem dX12_name_31 : decode cX12_name 31 = .ok (.aload_n 0, 1) := by decide +kernel
theorem dX12_name_32 : decode cX12_name 32 = .ok (.getfield 66, 3) := by decide +kernel
theorem dX12_name_35 : decode cX12_name 35 = .ok (.iload_n 1, 1) := by decide +kernel
theorem dX12_name_36 : decode cX12_name 36 = .ok (.iaload, 1) := by decide +kernel
theorem dX12_name_37 : decode cX12_name 37 = .ok (.ifCond .lt 7, 3) := by decide +kernel
theorem dX12_name_40 : decode cX12_name 40 = .ok (.iconst 1, 1) := by decide +kernel
theorem dX12_name_41 : decode cX12_name 41 = .ok (.goto 4, 3) := by decide +kernel
theorem dX12_name_44 : decode cX12_name 44 = .ok (.iconst 0, 1) := by decide +kernel
theorem dX12_name_45 : decode cX12_name 45 = .ok (.ireturn, 1) := by decide +kernel
theorem dX12_name_46 : decode cX12_name 46 = .ok (.iload_n 2, 1) := by decide +kernel
theorem dX12_name_47 : decode cX12_name 47 = .ok (.iconst 1, 1) := by decide +kernel
theorem dX12_name_48 : decode cX12_name 48 = .ok (.if_icmp .ne 10, 3) := by decide +kernel
theorem dX12_name_51 : decode cX12_name 51 = .ok (.aload_n 0, 1) := by decide +kernel
theorem dX12_name_52 : decode cX12_name 52 = .ok (.getfield 63, 3) := by decide +kernel
theorem dX12_name_55 : decode cX12_name 55 = .ok (.iload_n 1, 1) := by decide +kernel
theorem dX12_name_56 : decode cX12_name 56 = .ok (.iaload, 1) := by decide +kernel
theorem dX12_name_57 : decode cX12_name 57 = .ok (.ireturn, 1) := by decide +kernel
theorem dX12_name_58 : decode cX12_name 58 = .ok (.iload_n 2, 1) := by decide +kernel
theorem dX12_name_59 : decode cX12_name 59 = .ok (.iconst 2, 1) := by decide +kernel
theorem dX12_name_60 : decode cX12_name 60 = .ok (.if_icmp .ne 10, 3) := by decide +kernel
theorem dX12_name_63 : decode cX12_name 63 = .ok (.aload_n 0, 1) := by decide +kernel
theorem dX12_name_64 : decode cX12_name 64 = .ok (.getfield 57, 3) := by decide +kernel
theorem dX12_name_67 : decode cX12_name 67 = .ok (.iload_n 1, 1) := by decide +kernel
theorem dX12_name_68 : decode cX12_name 68 = .ok (.iaload, 1) := by decide +kernel
theorem dX12_name_69 : decode cX12_name 69 = .ok (.ireturn, 1) := by decide +kernel
theorem dX12_name_70 : decode cX12_name 70 = .ok (.iload_n 2, 1) := by decide +kernel
theorem dX12_name_71 : decode cX12_name 71 = .ok (.iconst 3, 1) := by decide +kernel
theorem dX12_name_72 : decode cX12_name 72 = .ok (.isub, 1) := by decide +kernel
theorem dX12_name_73 : decode cX12_name 73 = .ok (.aload_n 0, 1) := by decide +kernel
theorem dX12_name_74 : decode cX12_name 74 = .ok (.getfield 57, 3) := by decide +kernel
theorem dX12_name_77 : decode cX12_name 77 = .ok (.iload_n 1, 1) := by decide +kernel
theorem dX12_name_78 : decode cX12_name 78 = .ok (.iaload, 1) := by decide +kernel
theorem dX12_name_79 : decode cX12_name 79 = .ok (.if_icmp .ge 19, 3) := by decide +kernel
theorem dX12_name_82 : decode cX12_name 82 = .ok (.aload_n 0, 1) := by decide +kernel
theorem dX12_name_83 : decode cX12_name 83 = .ok (.getfield 54, 3) := by decide +kernel
theorem dX12_name_86 : decode cX12_name 86 = .ok (.bipush 12, 2) := by decide +kernel
theorem dX12_name_88 : decode cX12_name 88 = .ok (.iload_n 1, 1) := by decide +kernel
theorem dX12_name_89 : decode cX12_name 89 = .ok (.imul, 1) := by decide +kernel
theorem dX12_name_90 : decode cX12_name 90 = .ok (.iload_n 2, 1) := by decide +kernel
theorem dX12_name_91 : decode cX12_name 91 = .ok (.iadd, 1) := by decide +kernel
theorem dX12_name_92 : decode cX12_name 92 = .ok (.iconst 3, 1) := by decide +kernel
theorem dX12_name_93 : decode cX12_name 93 = .ok (.isub, 1) := by decide +kernel
theorem dX12_name_94 : decode cX12_name 94 = .ok (.iaload, 1) := by decide +kernel
theorem dX12_name_95 : decode cX12_name 95 = .ok (.goto 4, 3) := by decide +kernel
theorem dX12_name_98 : decode cX12_name 98 = .ok (.iconst (-1), 1) := by decide +kernel
theorem dX12_name_99 : decode cX12_name 99 = .ok (.ireturn, 1) := by decide +kernel
theorem dX12_sort_0 : decode cX12_sort 0 = .ok (.aload_n 0, 1) := by decide +kernel
theorem dX12_sort_1 : decode cX12_sort 1 = .ok (.iconst 0, 1) := by decide +kernel
theorem dX12_sort_2 : decode cX12_sort 2 = .ok (.putfield 147, 3) := by decide +kernel
theorem dX12_sort_5 : decode cX12_sort 5 = .ok (.iload_n 1, 1) := by decide +kernel
theorem dX12_sort_6 : decode cX12_sort 6 = .ok (.ifCond .lt 15, 3) := by decide +kernel
theorem dX12_sort_9 : decode cX12_sort 9 = .ok (.iload_n 1, 1) := by decide +kernel
theorem dX12_sort_10 : decode cX12_sort 10 = .ok (.aload_n 0, 1) := by decide +kernel
theorem dX12_sort_11 : decode cX12_sort 11 = .ok (.getfield 160, 3) := by decide +kernel
theorem dX12_sort_14 : decode cX12_sort 14 = .ok (.if_icmp .ge 7, 3) := by decide +kernel
theorem dX12_sort_17 : decode cX12_sort 17 = .ok (.iload_n 2, 1) := by decide +kernel
theorem dX12_sort_18 : decode cX12_sort 18 = .ok (.ifCond .ge 9, 3) := by decide +kernel
theorem dX12_sort_21 : decode cX12_sort 21 = .ok (.aload_n 0, 1) := by decide +kernel
theorem dX12_sort_22 : decode cX12_sort 22 = .ok (.iconst 1, 1) := by decide +kernel
theorem dX12_sort_23 : decode cX12_sort 23 = .ok (.invokevirtual 468, 3) := by decide +kernel
theorem dX12_sort_26 : decode cX12_sort 26 = .ok (.ireturn, 1) := by decide +kernel
theorem dX12_sort_27 : decode cX12_sort 27 = .ok (.iload_n 2, 1) := by decide +kernel
theorem dX12_sort_28 : decode cX12_sort 28 = .ok (.ifCond .ne 10, 3) := by decide +kernel
theorem dX12_sort_31 : decode cX12_sort 31 = .ok (.aload_n 0, 1) := by decide +kernel
theorem dX12_sort_32 : decode cX12_sort 32 = .ok (.getfield 50, 3) := by decide +kernel
theorem dX12_sort_35 : decode cX12_sort 35 = .ok (.iload_n 1, 1) := by decide +kernel
theorem dX12_sort_36 : decode cX12_sort 36 = .ok (.iaload, 1) := by decide +kernel
theorem dX12_sort_37 : decode cX12_sort 37 = .ok (.ireturn, 1) := by decide +kernel
theorem dX12_sort_38 : decode cX12_sort 38 = .ok (.iload_n 2, 1) := by decide +kernel
theorem dX12_sort_39 : decode cX12_sort 39 = .ok (.iconst 1, 1) := by decide +kernel
theorem dX12_sort_40 : decode cX12_sort 40 = .ok (.if_icmp .ne 10, 3) := by decide +kernel
theorem dX12_sort_43 : decode cX12_sort 43 = .ok (.aload_n 0, 1) := by decide +kernel
theorem dX12_sort_44 : decode cX12_sort 44 = .ok (.getfield 47, 3) := by decide +kernel
theorem dX12_sort_47 : decode cX12_sort 47 = .ok (.iload_n 1, 1) := by decide +kernel
theorem dX12_sort_48 : decode cX12_sort 48 = .ok (.iaload, 1) := by decide +kernel
theorem dX12_sort_49 : decode cX12_sort 49 = .ok (.ireturn, 1) := by decide +kernel
theorem dX12_sort_50 : decode cX12_sort 50 = .ok (.iload_n 2, 1) := by decide +kernel
theorem dX12_sort_51 : decode cX12_sort 51 = .ok (.iconst 2, 1) := by decide +kernel
theorem dX12_sort_52 : decode cX12_sort 52 = .ok (.isub, 1) := by decide +kernel
theorem dX12_sort_53 : decode cX12_sort 53 = .ok (.aload_n 0, 1) := by decide +kernel
theorem dX12_sort_54 : decode cX12_sort 54 = .ok (.getfield 47, 3) := by decide +kernel
theorem dX12_sort_57 : decode cX12_sort 57 = .ok (.iload_n 1, 1) := by decide +kernel
theorem dX12_sort_58 : decode cX12_sort 58 = .ok (.iaload, 1) := by decide +kernel
theorem dX12_sort_59 : decode cX12_sort 59 = .ok (.if_icmp .ge 19, 3) := by decide +kernel
theorem dX12_sort_62 : decode cX12_sort 62 = .ok (.aload_n 0, 1) := by decide +kernel
theorem dX12_sort_63 : decode cX12_sort 63 = .ok (.getfield 44, 3) := by decide +kernel
theorem dX12_sort_66 : decode cX12_sort 66 = .ok (.bipush 12, 2) := by decide +kernel
theorem dX12_sort_68 : decode cX12_sort 68 = .ok (.iload_n 1, 1) := by decide +kernel
theorem dX12_sort_69 : decode cX12_sort 69 = .ok (.imul, 1) := by decide +kernel
theorem dX12_sort_70 : decode cX12_sort 70 = .ok (.iload_n 2, 1) := by decide +kernel
theorem dX12_sort_71 : decode cX12_sort 71 = .ok (.iadd, 1) := by decide +kernel
theorem dX12_sort_72 : decode cX12_sort 72 = .ok (.iconst 2, 1) := by decide +kernel
theorem dX12_sort_73 : decode cX12_sort 73 = .ok (.isub, 1) := by decide +kernel
theorem dX12_sort_74 : decode cX12_sort 74 = .ok (.iaload, 1) := by decide +kernel
theorem dX12_sort_75 : decode cX12_sort 75 = .ok (.goto 4, 3) := by decide +kernel
theorem dX12_sort_78 : decode cX12_sort 78 = .ok (.iconst (-1), 1) := by decide +kernel
theorem dX12_sort_79 : decode cX12_sort 79 = .ok (.ireturn, 1) := by decide +kernel
theorem dX12_rule_0 : decode cX12_rule 0 = .ok (.aload_n 0, 1) := by decide +kernel
theorem dX12_rule_1 : decode cX12_rule 1 = .ok (.iconst 0, 1) := by decide +kernel
theorem dX12_rule_2 : decode cX12_rule 2 = .ok (.putfield 147, 3) := by decide +kernel
theorem dX12_rule_5 : decode cX12_rule 5 = .ok (.iload_n 1, 1) := by decide +kernel
theorem dX12_rule_6 : decode cX12_rule 6 = .ok (.ifCond .lt 23, 3) := by decide +kernel
theorem dX12_rule_9 : decode cX12_rule 9 = .ok (.iload_n 1, 1) := by decide +kernel
theorem dX12_rule_10 : decode cX12_rule 10 = .ok (.aload_n 0, 1) := by decide +kernel
theorem dX12_rule_11 : decode cX12_rule 11 = .ok (.getfield 160, 3) := by decide +kernel
theorem dX12_rule_14 : decode cX12_rule 14 = .ok (.if_icmp .ge 15, 3) := by decide +kernel
theorem dX12_rule_17 : decode cX12_rule 17 = .ok (.iload_n 2, 1) := by decide +kernel
theorem dX12_rule_18 : decode cX12_rule 18 = .ok (.ifCond .lt 11, 3) := by decide +kernel
theorem dX12_rule_21 : decode cX12_rule 21 = .ok (.iload_n 2, 1) := by decide +kernel
theorem dX12_rule_22 : decode cX12_rule 22 = .ok (.aload_n 0, 1) := by decide +kernel
theorem dX12_rule_23 : decode cX12_rule 23 = .ok (.getfield 160, 3) := by decide +kernel
theorem dX12_rule_26 : decode cX12_rule 26 = .ok (.if_icmp .lt 9, 3) := by decide +kernel
theorem dX12_rule_29 : decode cX12_rule 29 = .ok (.aload_n 0, 1) := by decide +kernel
theorem dX12_rule_30 : decode cX12_rule 30 = .ok (.iconst 1, 1) := by decide +kernel
theorem dX12_rule_31 : decode cX12_rule 31 = .ok (.invokevirtual 468, 3) := by decide +kernel
theorem dX12_rule_34 : decode cX12_rule 34 = .ok (.ireturn, 1) := by decide +kernel
theorem dX12_rule_35 : decode cX12_rule 35 = .ok (.aload_n 0, 1) := by decide +kernel
theorem dX12_rule_36 : decode cX12_rule 36 = .ok (.getfield 52, 3) := by decide +kernel
theorem dX12_rule_39 : decode cX12_rule 39 = .ok (.bipush 8, 2) := by decide +kernel
theorem dX12_rule_41 : decode cX12_rule 41 = .ok (.iload_n 1, 1) := by decide +kernel
theorem dX12_rule_42 : decode cX12_rule 42 = .ok (.imul, 1) := by decide +kernel
theorem dX12_rule_43 : decode cX12_rule 43 = .ok (.iload_n 2, 1) := by decide +kernel
theorem dX12_rule_44 : decode cX12_rule 44 = .ok (.iadd, 1) := by decide +kernel
theorem dX12_rule_45 : decode cX12_rule 45 = .ok (.iaload, 1) := by decide +kernel
theorem dX12_rule_46 : decode cX12_rule 46 = .ok (.ireturn, 1) := by decide +kernel
theorem dX12_type_0 : decode cX12_type 0 = .ok (.aload_n 0, 1) := by decide +kernel
theorem dX12_type_1 : decode cX12_type 1 = .ok (.iconst 0, 1) := by decide +kernel
theorem dX12_type_2 : decode cX12_type 2 = .ok (.putfield 147, 3) := by decide +kernel
theorem dX12_type_5 : decode cX12_type 5 = .ok (.iload_n 1, 1) := by decide +kernel
theorem dX12_type_6 : decode cX12_type 6 = .ok (.ifCond .lt 11, 3) := by decide +kernel
theorem dX12_type_9 : decode cX12_type 9 = .ok (.iload_n 1, 1) := by decide +kernel
theorem dX12_type_10 : decode cX12_type 10 = .ok (.aload_n 0, 1) := by decide +kernel
theorem dX12_type_11 : decode cX12_type 11 = .ok (.getfield 167, 3) := by decide +kernel
theorem dX12_type_14 : decode cX12_type 14 = .ok (.if_icmp .lt 9, 3) := by decide +kernel
theorem dX12_type_17 : decode cX12_type 17 = .ok (.aload_n 0, 1) := by decide +kernel
theorem dX12_type_18 : decode cX12_type 18 = .ok (.iconst 1, 1) := by decide +kernel
theorem dX12_type_19 : decode cX12_type 19 = .ok (.invokevirtual 468, 3) := by decide +kernel
theorem dX12_type_22 : decode cX12_type 22 = .ok (.ireturn, 1) := by decide +kernel
theorem dX12_type_23 : decode cX12_type 23 = .ok (.aload_n 0, 1) := by decide +kernel
theorem dX12_type_24 : decode cX12_type 24 = .ok (.invokevirtual 477, 3) := by decide +kernel
theorem dX12_type_27 : decode cX12_type 27 = .ok (.aload_n 0, 1) := by decide +kernel
theorem dX12_type_28 : decode cX12_type 28 = .ok (.iconst 0, 1) := by decide +kernel
theorem dX12_type_29 : decode cX12_type 29 = .ok (.putfield 378, 3) := by decide +kernel
theorem dX12_type_32 : decode cX12_type 32 = .ok (.aload_n 0, 1) := by decide +kernel
theorem dX12_type_33 : decode cX12_type 33 = .ok (.iconst 0, 1) := by decide +kernel
theorem dX12_type_34 : decode cX12_type 34 = .ok (.putfield 150, 3) := by decide +kernel
theorem dX12_type_37 : decode cX12_type 37 = .ok (.aload_n 0, 1) := by decide +kernel
theorem dX12_type_38 : decode cX12_type 38 = .ok (.aload_n 0, 1) := by decide +kernel
theorem dX12_type_39 : decode cX12_type 39 = .ok (.getfield 60, 3) := by decide +kernel
theorem dX12_type_42 : decode cX12_type 42 = .ok (.iload_n 1, 1) := by decide +kernel
theorem dX12_type_43 : decode cX12_type 43 = .ok (.iaload, 1) := by decide +kernel
theorem dX12_type_44 : decode cX12_type 44 = .ok (.iconst 0, 1) := by decide +kernel
theorem dX12_type_45 : decode cX12_type 45 = .ok (.iconst 0, 1) := by decide +kernel
theorem dX12_type_46 : decode cX12_type 46 = .ok (.iconst 0, 1) := by decide +kernel
theorem dX12_type_47 : decode cX12_type 47 = .ok (.iconst 0, 1) := by decide +kernel
theorem dX12_type_48 : decode cX12_type 48 = .ok (.invokevirtual 387, 3) := by decide +kernel
theorem dX12_type_51 : decode cX12_type 51 = .ok (.aload_n 0, 1) := by decide +kernel
theorem dX12_type_52 : decode cX12_type 52 = .ok (.invokevirtual 483, 3) := by decide +kernel
theorem dX12_type_55 : decode cX12_type 55 = .ok (.aload_n 0, 1) := by decide +kernel
theorem dX12_type_56 : decode cX12_type 56 = .ok (.getfield 150, 3) := by decide +kernel
theorem dX12_type_59 : decode cX12_type 59 = .ok (.istore_n 2, 1) := by decide +kernel
theorem dX12_type_60 : decode cX12_type 60 = .ok (.aload_n 0, 1) := by decide +kernel
theorem dX12_type_61 : decode cX12_type 61 = .ok (.iconst 0, 1) := by decide +kernel
theorem dX12_type_62 : decode cX12_type 62 = .ok (.putfield 150, 3) := by decide +kernel
theorem dX12_type_65 : decode cX12_type 65 = .ok (.iload_n 2, 1) := by decide +kernel
theorem dX12_type_66 : decode cX12_type 66 = .ok (.ifCond .ne 10, 3) := by decide +kernel
theorem dX12_type_69 : decode cX12_type 69 = .ok (.aload_n 0, 1) := by decide +kernel
theorem dX12_type_70 : decode cX12_type 70 = .ok (.getfield 378, 3) := by decide +kernel
theorem dX12_type_73 : decode cX12_type 73 = .ok (.goto 5, 3) := by decide +kernel
theorem dX12_type_76 : decode cX12_type 76 = .ok (.iload_n 2, 1) := by decide +kernel
theorem dX12_type_77 : decode cX12_type 77 = .ok (.ineg, 1) := by decide +kernel
theorem dX12_type_78 : decode cX12_type 78 = .ok (.ireturn, 1) := by decide +kernel
theorem dX12_same_0 : decode cX12_same 0 = .ok (.aload_n 0, 1) := by decide +kernel
theorem dX12_same_1 : decode cX12_same 1 = .ok (.iconst 0, 1) := by decide +kernel
theorem dX12_same_2 : decode cX12_same 2 = .ok (.putfield 147, 3) := by decide +kernel
theorem dX12_same_5 : decode cX12_same 5 = .ok (.iload_n 1, 1) := by decide +kernel
theorem dX12_same_6 : decode cX12_same 6 = .ok (.ifCond .lt 23, 3) := by decide +kernel
theorem dX12_same_9 : decode cX12_same 9 = .ok (.iload_n 1, 1) := by decide +kernel
theorem dX12_same_10 : decode cX12_same 10 = .ok (.aload_n 0, 1) := by decide +kernel
theorem dX12_same_11 : decode cX12_same 11 = .ok (.getfield 167, 3) := by decide +kernel
theorem dX12_same_14 : decode cX12_same 14 = .ok (.if_icmp .ge 15, 3) := by decide +kernel
theorem dX12_same_17 : decode cX12_same 17 = .ok (.iload_n 2, 1) := by decide +kernel
theorem dX12_same_18 : decode cX12_same 18 = .ok (.ifCond .lt 11, 3) := by decide +kernel
theorem dX12_same_21 : decode cX12_same 21 = .ok (.iload_n 2, 1) := by decide +kernel
theorem dX12_same_22 : decode cX12_same 22 = .ok (.aload_n 0, 1) := by decide +kernel
theorem dX12_same_23 : decode cX12_same 23 = .ok (.getfield 167, 3) := by decide +kernel
theorem dX12_same_26 : decode cX12_same 26 = .ok (.if_icmp .lt 9, 3) := by decide +kernel
theorem dX12_same_29 : decode cX12_same 29 = .ok (.aload_n 0, 1) := by decide +kernel
theorem dX12_same_30 : decode cX12_same 30 = .ok (.iconst 1, 1) := by decide +kernel
theorem dX12_same_31 : decode cX12_same 31 = .ok (.invokevirtual 468, 3) := by decide +kernel
theorem dX12_same_34 : decode cX12_same 34 = .ok (.ireturn, 1) := by decide +kernel
theorem dX12_same_35 : decode cX12_same 35 = .ok (.aload_n 0, 1) := by decide +kernel
theorem dX12_same_36 : decode cX12_same 36 = .ok (.invokevirtual 477, 3) := by decide +kernel
theorem dX12_same_39 : decode cX12_same 39 = .ok (.aload_n 0, 1) := by decide +kernel
theorem dX12_same_40 : decode cX12_same 40 = .ok (.iconst 0, 1) := by decide +kernel
theorem dX12_same_41 : decode cX12_same 41 = .ok (.putfield 150, 3) := by decide +kernel
theorem dX12_same_44 : decode cX12_same 44 = .ok (.aload_n 0, 1) := by decide +kernel
theorem dX12_same_45 : decode cX12_same 45 = .ok (.iconst 1, 1) := by decide +kernel
theorem dX12_same_46 : decode cX12_same 46 = .ok (.putfield 237, 3) := by decide +kernel
theorem dX12_same_49 : decode cX12_same 49 = .ok (.aload_n 0, 1) := by decide +kernel
theorem dX12_same_50 : decode cX12_same 50 = .ok (.iconst 2, 1) := by decide +kernel
theorem dX12_same_51 : decode cX12_same 51 = .ok (.iload_n 1, 1) := by decide +kernel
theorem dX12_same_52 : decode cX12_same 52 = .ok (.iconst 0, 1) := by decide +kernel
theorem dX12_same_53 : decode cX12_same 53 = .ok (.iconst 0, 1) := by decide +kernel
theorem dX12_same_54 : decode cX12_same 54 = .ok (.iconst 0, 1) := by decide +kernel
theorem dX12_same_55 : decode cX12_same 55 = .ok (.invokevirtual 241, 3) := by decide +kernel
theorem dX12_same_58 : decode cX12_same 58 = .ok (.istore_n 3, 1) := by decide +kernel
theorem dX12_same_59 : decode cX12_same 59 = .ok (.aload_n 0, 1) := by decide +kernel
theorem dX12_same_60 : decode cX12_same 60 = .ok (.iconst 2, 1) := by decide +kernel
theorem dX12_same_61 : decode cX12_same 61 = .ok (.iload_n 2, 1) := by decide +kernel
theorem dX12_same_62 : decode cX12_same 62 = .ok (.iconst 0, 1) := by decide +kernel
theorem dX12_same_63 : decode cX12_same 63 = .ok (.iconst 0, 1) := by decide +kernel
theorem dX12_same_64 : decode cX12_same 64 = .ok (.iconst 0, 1) := by decide +kernel
theorem dX12_same_65 : decode cX12_same 65 = .ok (.invokevirtual 241, 3) := by decide +kernel
theorem dX12_same_68 : decode cX12_same 68 = .ok (.istore 4, 2) := by decide +kernel
theorem dX12_same_70 : decode cX12_same 70 = .ok (.aload_n 0, 1) := by decide +kernel
theorem dX12_same_71 : decode cX12_same 71 = .ok (.iconst 0, 1) := by decide +kernel
theorem dX12_same_72 : decode cX12_same 72 = .ok (.putfield 237, 3) := by decide +kernel
theorem dX12_same_75 : decode cX12_same 75 = .ok (.aload_n 0, 1) := by decide +kernel
theorem dX12_same_76 : decode cX12_same 76 = .ok (.iload_n 3, 1) := by decide +kernel
theorem dX12_same_77 : decode cX12_same 77 = .ok (.iconst 0, 1) := by decide +kernel
theorem dX12_same_78 : decode cX12_same 78 = .ok (.iload 4, 2) := by decide +kernel
theorem dX12_same_80 : decode cX12_same 80 = .ok (.iconst 0, 1) := by decide +kernel
theorem dX12_same_81 : decode cX12_same 81 = .ok (.iconst 0, 1) := by decide +kernel
theorem dX12_same_82 : decode cX12_same 82 = .ok (.invokevirtual 366, 3) := by decide +kernel
theorem dX12_same_85 : decode cX12_same 85 = .ok (.istore 5, 2) := by decide +kernel
theorem dX12_same_87 : decode cX12_same 87 = .ok (.aload_n 0, 1) := by decide +kernel
theorem dX12_same_88 : decode cX12_same 88 = .ok (.invokevirtual 483, 3) := by decide +kernel
theorem dX12_same_91 : decode cX12_same 91 = .ok (.aload_n 0, 1) := by decide +kernel
theorem dX12_same_92 : decode cX12_same 92 = .ok (.getfield 150, 3) := by decide +kernel
theorem dX12_same_95 : decode cX12_same 95 = .ok (.istore 6, 2) := by decide +kernel
theorem dX12_same_97 : decode cX12_same 97 = .ok (.aload_n 0, 1) := by decide +kernel
theorem dX12_same_98 : decode cX12_same 98 = .ok (.iconst 0, 1) := by decide +kernel
theorem dX12_same_99 : decode cX12_same 99 = .ok (.putfield 150, 3) := by decide +kernel
theorem dX12_same_102 : decode cX12_same 102 = .ok (.iload 6, 2) := by decide +kernel
theorem dX12_same_104 : decode cX12_same 104 = .ok (.ifCond .eq 9, 3) := by decide +kernel
theorem dX12_same_107 : decode cX12_same 107 = .ok (.iload 6, 2) := by decide +kernel
theorem dX12_same_109 : decode cX12_same 109 = .ok (.ineg, 1) := by decide +kernel
theorem dX12_same_110 : decode cX12_same 110 = .ok (.goto 13, 3) := by decide +kernel
theorem dX12_same_113 : decode cX12_same 113 = .ok (.iload 5, 2) := by decide +kernel
theorem dX12_same_115 : decode cX12_same 115 = .ok (.ifCond .eq 7, 3) := by decide +kernel
theorem dX12_same_118 : decode cX12_same 118 = .ok (.iconst 1, 1) := by decide +kernel
theorem dX12_same_119 : decode cX12_same 119 = .ok (.goto 4, 3) := by decide +kernel
theorem dX12_same_122 : decode cX12_same 122 = .ok (.iconst 0, 1) := by decide +kernel
theorem dX12_same_123 : decode cX12_same 123 = .ok (.ireturn, 1) := by decide +kernel
theorem dX12_mark_0 : decode cX12_mark 0 = .ok (.aload_n 0, 1) := by decide +kernel
theorem dX12_mark_1 : decode cX12_mark 1 = .ok (.iconst 0, 1) := by decide +kernel
theorem dX12_mark_2 : decode cX12_mark 2 = .ok (.putfield 147, 3) := by decide +kernel
theorem dX12_mark_5 : decode cX12_mark 5 = .ok (.aload_n 0, 1) := by decide +kernel
theorem dX12_mark_6 : decode cX12_mark 6 = .ok (.getfield 170, 3) := by decide +kernel
theorem dX12_mark_9 : decode cX12_mark 9 = .ok (.bipush 20, 2) := by decide +kernel
theorem dX12_mark_11 : decode cX12_mark 11 = .ok (.if_icmp .ne 9, 3) := by decide +kernel
theorem dX12_mark_14 : decode cX12_mark 14 = .ok (.aload_n 0, 1) := by decide +kernel
theorem dX12_mark_15 : decode cX12_mark 15 = .ok (.iconst 1, 1) := by decide +kernel
theorem dX12_mark_16 : decode cX12_mark 16 = .ok (.invokevirtual 468, 3) := by decide +kernel
theorem dX12_mark_19 : decode cX12_mark 19 = .ok (.ireturn, 1) := by decide +kernel
theorem dX12_mark_20 : decode cX12_mark 20 = .ok (.aload_n 0, 1) := by decide +kernel
theorem dX12_mark_21 : decode cX12_mark 21 = .ok (.getfield 72, 3) := by decide +kernel
theorem dX12_mark_24 : decode cX12_mark 24 = .ok (.aload_n 0, 1) := by decide +kernel
theorem dX12_mark_25 : decode cX12_mark 25 = .ok (.getfield 170, 3) := by decide +kernel
theorem dX12_mark_28 : decode cX12_mark 28 = .ok (.aload_n 0, 1) := by decide +kernel
theorem dX12_mark_29 : decode cX12_mark 29 = .ok (.getfield 167, 3) := by decide +kernel
theorem dX12_mark_32 : decode cX12_mark 32 = .ok (.iastore, 1) := by decide +kernel
theorem dX12_mark_33 : decode cX12_mark 33 = .ok (.aload_n 0, 1) := by decide +kernel
theorem dX12_mark_34 : decode cX12_mark 34 = .ok (.dup, 1) := by decide +kernel
theorem dX12_mark_35 : decode cX12_mark 35 = .ok (.getfield 170, 3) := by decide +kernel
theorem dX12_mark_38 : decode cX12_mark 38 = .ok (.iconst 1, 1) := by decide +kernel
theorem dX12_mark_39 : decode cX12_mark 39 = .ok (.iadd, 1) := by decide +kernel
theorem dX12_mark_40 : decode cX12_mark 40 = .ok (.putfield 170, 3) := by decide +kernel
theorem dX12_mark_43 : decode cX12_mark 43 = .ok (.aload_n 0, 1) := by decide +kernel
theorem dX12_mark_44 : decode cX12_mark 44 = .ok (.getfield 170, 3) := by decide +kernel
theorem dX12_mark_47 : decode cX12_mark 47 = .ok (.ireturn, 1) := by decide +kernel
theorem dX12_back_0 : decode cX12_back 0 = .ok (.aload_n 0, 1) := by decide +kernel
theorem dX12_back_1 : decode cX12_back 1 = .ok (.iconst 0, 1) := by decide +kernel
theorem dX12_back_2 : decode cX12_back 2 = .ok (.putfield 147, 3) := by decide +kernel
theorem dX12_back_5 : decode cX12_back 5 = .ok (.aload_n 0, 1) := by decide +kernel
theorem dX12_back_6 : decode cX12_back 6 = .ok (.getfield 170, 3) := by decide +kernel
theorem dX12_back_9 : decode cX12_back 9 = .ok (.ifCond .ne 9, 3) := by decide +kernel
theorem dX12_back_12 : decode cX12_back 12 = .ok (.aload_n 0, 1) := by decide +kernel
theorem dX12_back_13 : decode cX12_back 13 = .ok (.iconst 1, 1) := by decide +kernel
theorem dX12_back_14 : decode cX12_back 14 = .ok (.invokevirtual 468, 3) := by decide +kernel
theorem dX12_back_17 : decode cX12_back 17 = .ok (.ireturn, 1) := by decide +kernel
theorem dX12_back_18 : decode cX12_back 18 = .ok (.aload_n 0, 1) := by decide +kernel
theorem dX12_back_19 : decode cX12_back 19 = .ok (.dup, 1) := by decide +kernel
theorem dX12_back_20 : decode cX12_back 20 = .ok (.getfield 170, 3) := by decide +kernel
theorem dX12_back_23 : decode cX12_back 23 = .ok (.iconst 1, 1) := by decide +kernel
theorem dX12_back_24 : decode cX12_back 24 = .ok (.isub, 1) := by decide +kernel
theorem dX12_back_25 : decode cX12_back 25 = .ok (.putfield 170, 3) := by decide +kernel
theorem dX12_back_28 : decode cX12_back 28 = .ok (.aload_n 0, 1) := by decide +kernel
theorem dX12_back_29 : decode cX12_back 29 = .ok (.aload_n 0, 1) := by decide +kernel
theorem dX12_back_30 : decode cX12_back 30 = .ok (.getfield 72, 3) := by decide +kernel
theorem dX12_back_33 : decode cX12_back 33 = .ok (.aload_n 0, 1) := by decide +kernel
theorem dX12_back_34 : decode cX12_back 34 = .ok (.getfield 170, 3) := by decide +kernel
theorem dX12_back_37 : decode cX12_back 37 = .ok (.iaload, 1) := by decide +kernel
theorem dX12_back_38 : decode cX12_back 38 = .ok (.putfield 167, 3) := by decide +kernel
theorem dX12_back_41 : decode cX12_back 41 = .ok (.aload_n 0, 1) := by decide +kernel
theorem dX12_back_42 : decode cX12_back 42 = .ok (.aload_n 0, 1) := by decide +kernel
theorem dX12_back_43 : decode cX12_back 43 = .ok (.getfield 167, 3) := by decide +kernel
theorem dX12_back_46 : decode cX12_back 46 = .ok (.ifCond .ne 8, 3) := by decide +kernel
theorem dX12_back_49 : decode cX12_back 49 = .ok (.bipush 8, 2) := by decide +kernel
theorem dX12_back_51 : decode cX12_back 51 = .ok (.goto 14, 3) := by decide +kernel
theorem dX12_back_54 : decode cX12_back 54 = .ok (.aload_n 0, 1) := by decide +kernel
theorem dX12_back_55 : decode cX12_back 55 = .ok (.getfield 69, 3) := by decide +kernel
theorem dX12_back_58 : decode cX12_back 58 = .ok (.aload_n 0, 1) := by decide +kernel
theorem dX12_back_59 : decode cX12_back 59 = .ok (.getfield 167, 3) := by decide +kernel
theorem dX12_back_62 : decode cX12_back 62 = .ok (.iconst 1, 1) := by decide +kernel
theorem dX12_back_63 : decode cX12_back 63 = .ok (.isub, 1) := by decide +kernel
theorem dX12_back_64 : decode cX12_back 64 = .ok (.iaload, 1) := by decide +kernel
theorem dX12_back_65 : decode cX12_back 65 = .ok (.putfield 173, 3) := by decide +kernel
theorem dX12_back_68 : decode cX12_back 68 = .ok (.aload_n 0, 1) := by decide +kernel
theorem dX12_back_69 : decode cX12_back 69 = .ok (.getfield 167, 3) := by decide +kernel
theorem dX12_back_72 : decode cX12_back 72 = .ok (.ireturn, 1) := by decide +kernel
