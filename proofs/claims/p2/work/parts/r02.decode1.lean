theorem dX12_readTerm_23 : decode cX12_readTerm 23 = .ok (.getfield 200, 3) := by decide +kernel
theorem dX12_readTerm_26 : decode cX12_readTerm 26 = .ok (.invokevirtual 218, 3) := by decide +kernel
theorem dX12_readTerm_29 : decode cX12_readTerm 29 = .ok (.aload_n 0, 1) := by decide +kernel
theorem dX12_readTerm_30 : decode cX12_readTerm 30 = .ok (.getfield 150, 3) := by decide +kernel
theorem dX12_readTerm_33 : decode cX12_readTerm 33 = .ok (.ifCond .eq 5, 3) := by decide +kernel
theorem dX12_readTerm_36 : decode cX12_readTerm 36 = .ok (.iconst 0, 1) := by decide +kernel
theorem dX12_readTerm_37 : decode cX12_readTerm 37 = .ok (.ireturn, 1) := by decide +kernel
theorem dX12_readTerm_38 : decode cX12_readTerm 38 = .ok (.aload_n 0, 1) := by decide +kernel
theorem dX12_readTerm_39 : decode cX12_readTerm 39 = .ok (.getfield 200, 3) := by decide +kernel
theorem dX12_readTerm_42 : decode cX12_readTerm 42 = .ok (.istore_n 2, 1) := by decide +kernel
theorem dX12_readTerm_43 : decode cX12_readTerm 43 = .ok (.aload_n 0, 1) := by decide +kernel
theorem dX12_readTerm_44 : decode cX12_readTerm 44 = .ok (.bipush 92, 2) := by decide +kernel
theorem dX12_readTerm_46 : decode cX12_readTerm 46 = .ok (.invokevirtual 228, 3) := by decide +kernel
theorem dX12_readTerm_49 : decode cX12_readTerm 49 = .ok (.ifCond .ne 12, 3) := by decide +kernel
theorem dX12_readTerm_52 : decode cX12_readTerm 52 = .ok (.aload_n 0, 1) := by decide +kernel
theorem dX12_readTerm_53 : decode cX12_readTerm 53 = .ok (.bipush 33, 2) := by decide +kernel
theorem dX12_readTerm_55 : decode cX12_readTerm 55 = .ok (.invokevirtual 228, 3) := by decide +kernel
theorem dX12_readTerm_58 : decode cX12_readTerm 58 = .ok (.ifCond .eq 78, 3) := by decide +kernel
theorem dX12_readTerm_61 : decode cX12_readTerm 61 = .ok (.aload_n 0, 1) := by decide +kernel
theorem dX12_readTerm_62 : decode cX12_readTerm 62 = .ok (.aload_n 0, 1) := by decide +kernel
theorem dX12_readTerm_63 : decode cX12_readTerm 63 = .ok (.bipush 92, 2) := by decide +kernel
theorem dX12_readTerm_65 : decode cX12_readTerm 65 = .ok (.invokevirtual 228, 3) := by decide +kernel
theorem dX12_readTerm_68 : decode cX12_readTerm 68 = .ok (.ifCond .eq 7, 3) := by decide +kernel
theorem dX12_readTerm_71 : decode cX12_readTerm 71 = .ok (.iconst 4, 1) := by decide +kernel
theorem dX12_readTerm_72 : decode cX12_readTerm 72 = .ok (.goto 4, 3) := by decide +kernel
theorem dX12_readTerm_75 : decode cX12_readTerm 75 = .ok (.iconst 5, 1) := by decide +kernel
theorem dX12_readTerm_76 : decode cX12_readTerm 76 = .ok (.iconst 0, 1) := by decide +kernel
theorem dX12_readTerm_77 : decode cX12_readTerm 77 = .ok (.iconst 0, 1) := by decide +kernel
theorem dX12_readTerm_78 : decode cX12_readTerm 78 = .ok (.iconst 0, 1) := by decide +kernel
theorem dX12_readTerm_79 : decode cX12_readTerm 79 = .ok (.iload_n 2, 1) := by decide +kernel
theorem dX12_readTerm_80 : decode cX12_readTerm 80 = .ok (.invokevirtual 241, 3) := by decide +kernel
theorem dX12_readTerm_83 : decode cX12_readTerm 83 = .ok (.istore_n 3, 1) := by decide +kernel
theorem dX12_readTerm_84 : decode cX12_readTerm 84 = .ok (.aload_n 0, 1) := by decide +kernel
theorem dX12_readTerm_85 : decode cX12_readTerm 85 = .ok (.invokevirtual 231, 3) := by decide +kernel
theorem dX12_readTerm_88 : decode cX12_readTerm 88 = .ok (.aload_n 0, 1) := by decide +kernel
theorem dX12_readTerm_89 : decode cX12_readTerm 89 = .ok (.invokevirtual 249, 3) := by decide +kernel
theorem dX12_readTerm_92 : decode cX12_readTerm 92 = .ok (.istore 4, 2) := by decide +kernel
theorem dX12_readTerm_94 : decode cX12_readTerm 94 = .ok (.aload_n 0, 1) := by decide +kernel
theorem dX12_readTerm_95 : decode cX12_readTerm 95 = .ok (.bipush 58, 2) := by decide +kernel
theorem dX12_readTerm_97 : decode cX12_readTerm 97 = .ok (.invokevirtual 252, 3) := by decide +kernel
theorem dX12_readTerm_100 : decode cX12_readTerm 100 = .ok (.aload_n 0, 1) := by decide +kernel
theorem dX12_readTerm_101 : decode cX12_readTerm 101 = .ok (.iload_n 1, 1) := by decide +kernel
theorem dX12_readTerm_102 : decode cX12_readTerm 102 = .ok (.iconst 1, 1) := by decide +kernel
theorem dX12_readTerm_103 : decode cX12_readTerm 103 = .ok (.iadd, 1) := by decide +kernel
theorem dX12_readTerm_104 : decode cX12_readTerm 104 = .ok (.invokevirtual 255, 3) := by decide +kernel
theorem dX12_readTerm_107 : decode cX12_readTerm 107 = .ok (.istore 5, 2) := by decide +kernel
theorem dX12_readTerm_109 : decode cX12_readTerm 109 = .ok (.aload_n 0, 1) := by decide +kernel
theorem dX12_readTerm_110 : decode cX12_readTerm 110 = .ok (.bipush 46, 2) := by decide +kernel
theorem dX12_readTerm_112 : decode cX12_readTerm 112 = .ok (.invokevirtual 252, 3) := by decide +kernel
theorem dX12_readTerm_115 : decode cX12_readTerm 115 = .ok (.aload_n 0, 1) := by decide +kernel
theorem dX12_readTerm_116 : decode cX12_readTerm 116 = .ok (.iload_n 1, 1) := by decide +kernel
theorem dX12_readTerm_117 : decode cX12_readTerm 117 = .ok (.iconst 1, 1) := by decide +kernel
theorem dX12_readTerm_118 : decode cX12_readTerm 118 = .ok (.iadd, 1) := by decide +kernel
theorem dX12_readTerm_119 : decode cX12_readTerm 119 = .ok (.invokevirtual 255, 3) := by decide +kernel
theorem dX12_readTerm_122 : decode cX12_readTerm 122 = .ok (.istore 6, 2) := by decide +kernel
theorem dX12_readTerm_124 : decode cX12_readTerm 124 = .ok (.aload_n 0, 1) := by decide +kernel
theorem dX12_readTerm_125 : decode cX12_readTerm 125 = .ok (.iload_n 3, 1) := by decide +kernel
theorem dX12_readTerm_126 : decode cX12_readTerm 126 = .ok (.iload 4, 2) := by decide +kernel
theorem dX12_readTerm_128 : decode cX12_readTerm 128 = .ok (.iload 5, 2) := by decide +kernel
theorem dX12_readTerm_130 : decode cX12_readTerm 130 = .ok (.iload 6, 2) := by decide +kernel
theorem dX12_readTerm_132 : decode cX12_readTerm 132 = .ok (.invokevirtual 258, 3) := by decide +kernel
theorem dX12_readTerm_135 : decode cX12_readTerm 135 = .ok (.ireturn, 1) := by decide +kernel
theorem dX12_readTerm_136 : decode cX12_readTerm 136 = .ok (.aload_n 0, 1) := by decide +kernel
theorem dX12_readTerm_137 : decode cX12_readTerm 137 = .ok (.getfield 203, 3) := by decide +kernel
theorem dX12_readTerm_140 : decode cX12_readTerm 140 = .ok (.iconst 1, 1) := by decide +kernel
theorem dX12_readTerm_141 : decode cX12_readTerm 141 = .ok (.if_icmp .ne 76, 3) := by decide +kernel
theorem dX12_readTerm_144 : decode cX12_readTerm 144 = .ok (.aload_n 0, 1) := by decide +kernel
theorem dX12_readTerm_145 : decode cX12_readTerm 145 = .ok (.getfield 206, 3) := by decide +kernel
theorem dX12_readTerm_148 : decode cX12_readTerm 148 = .ok (.bipush 7, 2) := by decide +kernel
theorem dX12_readTerm_150 : decode cX12_readTerm 150 = .ok (.if_icmp .ne 67, 3) := by decide +kernel
theorem dX12_readTerm_153 : decode cX12_readTerm 153 = .ok (.aload_n 0, 1) := by decide +kernel
theorem dX12_readTerm_154 : decode cX12_readTerm 154 = .ok (.bipush 6, 2) := by decide +kernel
theorem dX12_readTerm_156 : decode cX12_readTerm 156 = .ok (.iconst 0, 1) := by decide +kernel
theorem dX12_readTerm_157 : decode cX12_readTerm 157 = .ok (.iconst 0, 1) := by decide +kernel
theorem dX12_readTerm_158 : decode cX12_readTerm 158 = .ok (.iconst 0, 1) := by decide +kernel
theorem dX12_readTerm_159 : decode cX12_readTerm 159 = .ok (.iload_n 2, 1) := by decide +kernel
theorem dX12_readTerm_160 : decode cX12_readTerm 160 = .ok (.invokevirtual 241, 3) := by decide +kernel
theorem dX12_readTerm_163 : decode cX12_readTerm 163 = .ok (.istore_n 3, 1) := by decide +kernel
theorem dX12_readTerm_164 : decode cX12_readTerm 164 = .ok (.aload_n 0, 1) := by decide +kernel
theorem dX12_readTerm_165 : decode cX12_readTerm 165 = .ok (.invokevirtual 231, 3) := by decide +kernel
theorem dX12_readTerm_168 : decode cX12_readTerm 168 = .ok (.aload_n 0, 1) := by decide +kernel
theorem dX12_readTerm_169 : decode cX12_readTerm 169 = .ok (.invokevirtual 249, 3) := by decide +kernel
theorem dX12_readTerm_172 : decode cX12_readTerm 172 = .ok (.istore 4, 2) := by decide +kernel
theorem dX12_readTerm_174 : decode cX12_readTerm 174 = .ok (.aload_n 0, 1) := by decide +kernel
theorem dX12_readTerm_175 : decode cX12_readTerm 175 = .ok (.sipush 256, 3) := by decide +kernel
theorem dX12_readTerm_178 : decode cX12_readTerm 178 = .ok (.invokevirtual 252, 3) := by decide +kernel
theorem dX12_readTerm_181 : decode cX12_readTerm 181 = .ok (.aload_n 0, 1) := by decide +kernel
theorem dX12_readTerm_182 : decode cX12_readTerm 182 = .ok (.iload_n 1, 1) := by decide +kernel
theorem dX12_readTerm_183 : decode cX12_readTerm 183 = .ok (.iconst 1, 1) := by decide +kernel
theorem dX12_readTerm_184 : decode cX12_readTerm 184 = .ok (.iadd, 1) := by decide +kernel
theorem dX12_readTerm_185 : decode cX12_readTerm 185 = .ok (.invokevirtual 255, 3) := by decide +kernel
theorem dX12_readTerm_188 : decode cX12_readTerm 188 = .ok (.istore 5, 2) := by decide +kernel
theorem dX12_readTerm_190 : decode cX12_readTerm 190 = .ok (.aload_n 0, 1) := by decide +kernel
theorem dX12_readTerm_191 : decode cX12_readTerm 191 = .ok (.bipush 8, 2) := by decide +kernel
theorem dX12_readTerm_193 : decode cX12_readTerm 193 = .ok (.invokevirtual 262, 3) := by decide +kernel
theorem dX12_readTerm_196 : decode cX12_readTerm 196 = .ok (.aload_n 0, 1) := by decide +kernel
theorem dX12_readTerm_197 : decode cX12_readTerm 197 = .ok (.iload_n 1, 1) := by decide +kernel
theorem dX12_readTerm_198 : decode cX12_readTerm 198 = .ok (.iconst 1, 1) := by decide +kernel
theorem dX12_readTerm_199 : decode cX12_readTerm 199 = .ok (.iadd, 1) := by decide +kernel
theorem dX12_readTerm_200 : decode cX12_readTerm 200 = .ok (.invokevirtual 255, 3) := by decide +kernel
theorem dX12_readTerm_203 : decode cX12_readTerm 203 = .ok (.istore 6, 2) := by decide +kernel
theorem dX12_readTerm_205 : decode cX12_readTerm 205 = .ok (.aload_n 0, 1) := by decide +kernel
theorem dX12_readTerm_206 : decode cX12_readTerm 206 = .ok (.iload_n 3, 1) := by decide +kernel
theorem dX12_readTerm_207 : decode cX12_readTerm 207 = .ok (.iload 4, 2) := by decide +kernel
theorem dX12_readTerm_209 : decode cX12_readTerm 209 = .ok (.iload 5, 2) := by decide +kernel
theorem dX12_readTerm_211 : decode cX12_readTerm 211 = .ok (.iload 6, 2) := by decide +kernel
theorem dX12_readTerm_213 : decode cX12_readTerm 213 = .ok (.invokevirtual 258, 3) := by decide +kernel
theorem dX12_readTerm_216 : decode cX12_readTerm 216 = .ok (.ireturn, 1) := by decide +kernel
theorem dX12_readTerm_217 : decode cX12_readTerm 217 = .ok (.aload_n 0, 1) := by decide +kernel
theorem dX12_readTerm_218 : decode cX12_readTerm 218 = .ok (.iload_n 1, 1) := by decide +kernel
theorem dX12_readTerm_219 : decode cX12_readTerm 219 = .ok (.iload_n 2, 1) := by decide +kernel
theorem dX12_readTerm_220 : decode cX12_readTerm 220 = .ok (.invokevirtual 265, 3) := by decide +kernel
theorem dX12_readTerm_223 : decode cX12_readTerm 223 = .ok (.ireturn, 1) := by decide +kernel
theorem dX12_parts_0 : decode cX12_parts 0 = .ok (.aload_n 0, 1) := by decide +kernel
theorem dX12_parts_1 : decode cX12_parts 1 = .ok (.getfield 237, 3) := by decide +kernel
theorem dX12_parts_4 : decode cX12_parts 4 = .ok (.ifCond .eq 25, 3) := by decide +kernel
theorem dX12_parts_7 : decode cX12_parts 7 = .ok (.aload_n 0, 1) := by decide +kernel
theorem dX12_parts_8 : decode cX12_parts 8 = .ok (.getfield 79, 3) := by decide +kernel
theorem dX12_parts_11 : decode cX12_parts 11 = .ok (.iload_n 1, 1) := by decide +kernel
theorem dX12_parts_12 : decode cX12_parts 12 = .ok (.iload_n 2, 1) := by decide +kernel
theorem dX12_parts_13 : decode cX12_parts 13 = .ok (.iastore, 1) := by decide +kernel
theorem dX12_parts_14 : decode cX12_parts 14 = .ok (.aload_n 0, 1) := by decide +kernel
theorem dX12_parts_15 : decode cX12_parts 15 = .ok (.getfield 82, 3) := by decide +kernel
theorem dX12_parts_18 : decode cX12_parts 18 = .ok (.iload_n 1, 1) := by decide +kernel
theorem dX12_parts_19 : decode cX12_parts 19 = .ok (.iload_n 3, 1) := by decide +kernel
theorem dX12_parts_20 : decode cX12_parts 20 = .ok (.iastore, 1) := by decide +kernel
theorem dX12_parts_21 : decode cX12_parts 21 = .ok (.aload_n 0, 1) := by decide +kernel
theorem dX12_parts_22 : decode cX12_parts 22 = .ok (.getfield 85, 3) := by decide +kernel
theorem dX12_parts_25 : decode cX12_parts 25 = .ok (.iload_n 1, 1) := by decide +kernel
theorem dX12_parts_26 : decode cX12_parts 26 = .ok (.iload 4, 2) := by decide +kernel
theorem dX12_parts_28 : decode cX12_parts 28 = .ok (.iastore, 1) := by decide +kernel
theorem dX12_parts_29 : decode cX12_parts 29 = .ok (.iload_n 1, 1) := by decide +kernel
theorem dX12_parts_30 : decode cX12_parts 30 = .ok (.ireturn, 1) := by decide +kernel
theorem dX12_beginsAtom_0 : decode cX12_beginsAtom 0 = .ok (.aload_n 0, 1) := by decide +kernel
theorem dX12_beginsAtom_1 : decode cX12_beginsAtom 1 = .ok (.invokevirtual 245, 3) := by decide +kernel
theorem dX12_beginsAtom_4 : decode cX12_beginsAtom 4 = .ok (.ifCond .ne 12, 3) := by decide +kernel
theorem dX12_beginsAtom_7 : decode cX12_beginsAtom 7 = .ok (.aload_n 0, 1) := by decide +kernel
theorem dX12_beginsAtom_8 : decode cX12_beginsAtom 8 = .ok (.bipush 40, 2) := by decide +kernel
theorem dX12_beginsAtom_10 : decode cX12_beginsAtom 10 = .ok (.invokevirtual 228, 3) := by decide +kernel
theorem dX12_beginsAtom_13 : decode cX12_beginsAtom 13 = .ok (.ifCond .eq 7, 3) := by decide +kernel
theorem dX12_beginsAtom_16 : decode cX12_beginsAtom 16 = .ok (.iconst 1, 1) := by decide +kernel
theorem dX12_beginsAtom_17 : decode cX12_beginsAtom 17 = .ok (.goto 4, 3) := by decide +kernel
theorem dX12_beginsAtom_20 : decode cX12_beginsAtom 20 = .ok (.iconst 0, 1) := by decide +kernel
theorem dX12_beginsAtom_21 : decode cX12_beginsAtom 21 = .ok (.ireturn, 1) := by decide +kernel
theorem dX12_readUse_0 : decode cX12_readUse 0 = .ok (.aload_n 0, 1) := by decide +kernel
theorem dX12_readUse_1 : decode cX12_readUse 1 = .ok (.iload_n 1, 1) := by decide +kernel
theorem dX12_readUse_2 : decode cX12_readUse 2 = .ok (.invokevirtual 269, 3) := by decide +kernel
theorem dX12_readUse_5 : decode cX12_readUse 5 = .ok (.istore_n 3, 1) := by decide +kernel
theorem dX12_readUse_6 : decode cX12_readUse 6 = .ok (.aload_n 0, 1) := by decide +kernel
theorem dX12_readUse_7 : decode cX12_readUse 7 = .ok (.getfield 150, 3) := by decide +kernel
theorem dX12_readUse_10 : decode cX12_readUse 10 = .ok (.ifCond .ne 32, 3) := by decide +kernel
theorem dX12_readUse_13 : decode cX12_readUse 13 = .ok (.aload_n 0, 1) := by decide +kernel
theorem dX12_readUse_14 : decode cX12_readUse 14 = .ok (.invokevirtual 272, 3) := by decide +kernel
theorem dX12_readUse_17 : decode cX12_readUse 17 = .ok (.ifCond .eq 25, 3) := by decide +kernel
theorem dX12_readUse_20 : decode cX12_readUse 20 = .ok (.aload_n 0, 1) := by decide +kernel
theorem dX12_readUse_21 : decode cX12_readUse 21 = .ok (.iload_n 1, 1) := by decide +kernel
theorem dX12_readUse_22 : decode cX12_readUse 22 = .ok (.invokevirtual 269, 3) := by decide +kernel
theorem dX12_readUse_25 : decode cX12_readUse 25 = .ok (.istore 4, 2) := by decide +kernel
theorem dX12_readUse_27 : decode cX12_readUse 27 = .ok (.aload_n 0, 1) := by decide +kernel
theorem dX12_readUse_28 : decode cX12_readUse 28 = .ok (.bipush 7, 2) := by decide +kernel
theorem dX12_readUse_30 : decode cX12_readUse 30 = .ok (.iconst 0, 1) := by decide +kernel
theorem dX12_readUse_31 : decode cX12_readUse 31 = .ok (.iload_n 3, 1) := by decide +kernel
theorem dX12_readUse_32 : decode cX12_readUse 32 = .ok (.iload 4, 2) := by decide +kernel
theorem dX12_readUse_34 : decode cX12_readUse 34 = .ok (.iload_n 2, 1) := by decide +kernel
theorem dX12_readUse_35 : decode cX12_readUse 35 = .ok (.invokevirtual 241, 3) := by decide +kernel
theorem dX12_readUse_38 : decode cX12_readUse 38 = .ok (.istore_n 3, 1) := by decide +kernel
theorem dX12_readUse_39 : decode cX12_readUse 39 = .ok (.goto (-33), 3) := by decide +kernel
theorem dX12_readUse_42 : decode cX12_readUse 42 = .ok (.aload_n 0, 1) := by decide +kernel
theorem dX12_readUse_43 : decode cX12_readUse 43 = .ok (.getfield 150, 3) := by decide +kernel
theorem dX12_readUse_46 : decode cX12_readUse 46 = .ok (.ifCond .ne 58, 3) := by decide +kernel
theorem dX12_readUse_49 : decode cX12_readUse 49 = .ok (.aload_n 0, 1) := by decide +kernel
theorem dX12_readUse_50 : decode cX12_readUse 50 = .ok (.sipush 257, 3) := by decide +kernel
theorem dX12_readUse_53 : decode cX12_readUse 53 = .ok (.invokevirtual 228, 3) := by decide +kernel
theorem dX12_readUse_56 : decode cX12_readUse 56 = .ok (.ifCond .eq 48, 3) := by decide +kernel
theorem dX12_readUse_59 : decode cX12_readUse 59 = .ok (.aload_n 0, 1) := by decide +kernel
theorem dX12_readUse_60 : decode cX12_readUse 60 = .ok (.getfield 200, 3) := by decide +kernel
theorem dX12_readUse_63 : decode cX12_readUse 63 = .ok (.istore 4, 2) := by decide +kernel
theorem dX12_readUse_65 : decode cX12_readUse 65 = .ok (.aload_n 0, 1) := by decide +kernel
theorem dX12_readUse_66 : decode cX12_readUse 66 = .ok (.invokevirtual 231, 3) := by decide +kernel
theorem dX12_readUse_69 : decode cX12_readUse 69 = .ok (.aload_n 0, 1) := by decide +kernel
theorem dX12_readUse_70 : decode cX12_readUse 70 = .ok (.iload_n 1, 1) := by decide +kernel
theorem dX12_readUse_71 : decode cX12_readUse 71 = .ok (.iconst 1, 1) := by decide +kernel
theorem dX12_readUse_72 : decode cX12_readUse 72 = .ok (.iadd, 1) := by decide +kernel
theorem dX12_readUse_73 : decode cX12_readUse 73 = .ok (.invokevirtual 255, 3) := by decide +kernel
theorem dX12_readUse_76 : decode cX12_readUse 76 = .ok (.istore 5, 2) := by decide +kernel
theorem dX12_readUse_78 : decode cX12_readUse 78 = .ok (.aload_n 0, 1) := by decide +kernel
theorem dX12_readUse_79 : decode cX12_readUse 79 = .ok (.iconst 5, 1) := by decide +kernel
theorem dX12_readUse_80 : decode cX12_readUse 80 = .ok (.iconst (-1), 1) := by decide +kernel
theorem dX12_readUse_81 : decode cX12_readUse 81 = .ok (.iload_n 3, 1) := by decide +kernel
theorem dX12_readUse_82 : decode cX12_readUse 82 = .ok (.iload 5, 2) := by decide +kernel
theorem dX12_readUse_84 : decode cX12_readUse 84 = .ok (.iload_n 2, 1) := by decide +kernel
theorem dX12_readUse_85 : decode cX12_readUse 85 = .ok (.invokevirtual 241, 3) := by decide +kernel
theorem dX12_readUse_88 : decode cX12_readUse 88 = .ok (.istore_n 3, 1) := by decide +kernel
theorem dX12_readUse_89 : decode cX12_readUse 89 = .ok (.aload_n 0, 1) := by decide +kernel
theorem dX12_readUse_90 : decode cX12_readUse 90 = .ok (.getfield 237, 3) := by decide +kernel
theorem dX12_readUse_93 : decode cX12_readUse 93 = .ok (.ifCond .eq 11, 3) := by decide +kernel
theorem dX12_readUse_96 : decode cX12_readUse 96 = .ok (.aload_n 0, 1) := by decide +kernel
theorem dX12_readUse_97 : decode cX12_readUse 97 = .ok (.getfield 91, 3) := by decide +kernel
theorem dX12_readUse_100 : decode cX12_readUse 100 = .ok (.iload_n 3, 1) := by decide +kernel
theorem dX12_readUse_101 : decode cX12_readUse 101 = .ok (.iload 4, 2) := by decide +kernel
theorem dX12_readUse_103 : decode cX12_readUse 103 = .ok (.iastore, 1) := by decide +kernel
theorem dX12_readUse_104 : decode cX12_readUse 104 = .ok (.iload_n 3, 1) := by decide +kernel
theorem dX12_readUse_105 : decode cX12_readUse 105 = .ok (.ireturn, 1) := by decide +kernel
theorem dX12_readAtom_0 : decode cX12_readAtom 0 = .ok (.aload_n 0, 1) := by decide +kernel
theorem dX12_readAtom_1 : decode cX12_readAtom 1 = .ok (.bipush 40, 2) := by decide +kernel
theorem dX12_readAtom_3 : decode cX12_readAtom 3 = .ok (.invokevirtual 228, 3) := by decide +kernel
theorem dX12_readAtom_6 : decode cX12_readAtom 6 = .ok (.ifCond .ne 8, 3) := by decide +kernel
theorem dX12_readAtom_9 : decode cX12_readAtom 9 = .ok (.aload_n 0, 1) := by decide +kernel
theorem dX12_readAtom_10 : decode cX12_readAtom 10 = .ok (.invokevirtual 249, 3) := by decide +kernel
theorem dX12_readAtom_13 : decode cX12_readAtom 13 = .ok (.ireturn, 1) := by decide +kernel
theorem dX12_readAtom_14 : decode cX12_readAtom 14 = .ok (.aload_n 0, 1) := by decide +kernel
theorem dX12_readAtom_15 : decode cX12_readAtom 15 = .ok (.getfield 200, 3) := by decide +kernel
theorem dX12_readAtom_18 : decode cX12_readAtom 18 = .ok (.istore_n 2, 1) := by decide +kernel
theorem dX12_readAtom_19 : decode cX12_readAtom 19 = .ok (.aload_n 0, 1) := by decide +kernel
theorem dX12_readAtom_20 : decode cX12_readAtom 20 = .ok (.invokevirtual 231, 3) := by decide +kernel
theorem dX12_readAtom_23 : decode cX12_readAtom 23 = .ok (.aload_n 0, 1) := by decide +kernel
theorem dX12_readAtom_24 : decode cX12_readAtom 24 = .ok (.iload_n 1, 1) := by decide +kernel
theorem dX12_readAtom_25 : decode cX12_readAtom 25 = .ok (.iconst 1, 1) := by decide +kernel
theorem dX12_readAtom_26 : decode cX12_readAtom 26 = .ok (.iadd, 1) := by decide +kernel
theorem dX12_readAtom_27 : decode cX12_readAtom 27 = .ok (.invokevirtual 255, 3) := by decide +kernel
theorem dX12_readAtom_30 : decode cX12_readAtom 30 = .ok (.istore_n 3, 1) := by decide +kernel
theorem dX12_readAtom_31 : decode cX12_readAtom 31 = .ok (.aload_n 0, 1) := by decide +kernel
theorem dX12_readAtom_32 : decode cX12_readAtom 32 = .ok (.bipush 41, 2) := by decide +kernel
theorem dX12_readAtom_34 : decode cX12_readAtom 34 = .ok (.invokevirtual 252, 3) := by decide +kernel
theorem dX12_readAtom_37 : decode cX12_readAtom 37 = .ok (.aload_n 0, 1) := by decide +kernel
theorem dX12_readAtom_38 : decode cX12_readAtom 38 = .ok (.getfield 237, 3) := by decide +kernel
theorem dX12_readAtom_41 : decode cX12_readAtom 41 = .ok (.ifCond .eq 10, 3) := by decide +kernel
theorem dX12_readAtom_44 : decode cX12_readAtom 44 = .ok (.aload_n 0, 1) := by decide +kernel
theorem dX12_readAtom_45 : decode cX12_readAtom 45 = .ok (.getfield 88, 3) := by decide +kernel
theorem dX12_readAtom_48 : decode cX12_readAtom 48 = .ok (.iload_n 3, 1) := by decide +kernel
theorem dX12_readAtom_49 : decode cX12_readAtom 49 = .ok (.iload_n 2, 1) := by decide +kernel
theorem dX12_readAtom_50 : decode cX12_readAtom 50 = .ok (.iastore, 1) := by decide +kernel
theorem dX12_readAtom_51 : decode cX12_readAtom 51 = .ok (.iload_n 3, 1) := by decide +kernel
theorem dX12_readAtom_52 : decode cX12_readAtom 52 = .ok (.ireturn, 1) := by decide +kernel
theorem dX12_readStatement_0 : decode cX12_readStatement 0 = .ok (.aload_n 0, 1) := by decide +kernel
theorem dX12_readStatement_1 : decode cX12_readStatement 1 = .ok (.aload_n 0, 1) := by decide +kernel
theorem dX12_readStatement_2 : decode cX12_readStatement 2 = .ok (.getfield 200, 3) := by decide +kernel
theorem dX12_readStatement_5 : decode cX12_readStatement 5 = .ok (.putfield 275, 3) := by decide +kernel
theorem dX12_readStatement_8 : decode cX12_readStatement 8 = .ok (.aload_n 0, 1) := by decide +kernel
theorem dX12_readStatement_9 : decode cX12_readStatement 9 = .ok (.aload_n 0, 1) := by decide +kernel
theorem dX12_readStatement_10 : decode cX12_readStatement 10 = .ok (.getfield 203, 3) := by decide +kernel
theorem dX12_readStatement_13 : decode cX12_readStatement 13 = .ok (.iconst 1, 1) := by decide +kernel
theorem dX12_readStatement_14 : decode cX12_readStatement 14 = .ok (.if_icmp .ne 10, 3) := by decide +kernel
theorem dX12_readStatement_17 : decode cX12_readStatement 17 = .ok (.aload_n 0, 1) := by decide +kernel
theorem dX12_readStatement_18 : decode cX12_readStatement 18 = .ok (.getfield 206, 3) := by decide +kernel
theorem dX12_readStatement_21 : decode cX12_readStatement 21 = .ok (.goto 4, 3) := by decide +kernel
theorem dX12_readStatement_24 : decode cX12_readStatement 24 = .ok (.iconst (-1), 1) := by decide +kernel
theorem dX12_readStatement_25 : decode cX12_readStatement 25 = .ok (.putfield 278, 3) := by decide +kernel
theorem dX12_readStatement_28 : decode cX12_readStatement 28 = .ok (.aload_n 0, 1) := by decide +kernel
theorem dX12_readStatement_29 : decode cX12_readStatement 29 = .ok (.iconst (-1), 1) := by decide +kernel
theorem dX12_readStatement_30 : decode cX12_readStatement 30 = .ok (.putfield 281, 3) := by decide +kernel
theorem dX12_readStatement_33 : decode cX12_readStatement 33 = .ok (.aload_n 0, 1) := by decide +kernel
theorem dX12_readStatement_34 : decode cX12_readStatement 34 = .ok (.iconst (-1), 1) := by decide +kernel
theorem dX12_readStatement_35 : decode cX12_readStatement 35 = .ok (.putfield 284, 3) := by decide +kernel
theorem dX12_readStatement_38 : decode cX12_readStatement 38 = .ok (.aload_n 0, 1) := by decide +kernel
theorem dX12_readStatement_39 : decode cX12_readStatement 39 = .ok (.getfield 278, 3) := by decide +kernel
theorem dX12_readStatement_42 : decode cX12_readStatement 42 = .ok (.iconst (-1), 1) := by decide +kernel
theorem dX12_readStatement_43 : decode cX12_readStatement 43 = .ok (.if_icmp .ne 8, 3) := by decide +kernel
theorem dX12_readStatement_46 : decode cX12_readStatement 46 = .ok (.aload_n 0, 1) := by decide +kernel
theorem dX12_readStatement_47 : decode cX12_readStatement 47 = .ok (.invokevirtual 287, 3) := by decide +kernel
theorem dX12_readStatement_50 : decode cX12_readStatement 50 = .ok (.return_, 1) := by decide +kernel
theorem dX12_readStatement_51 : decode cX12_readStatement 51 = .ok (.aload_n 0, 1) := by decide +kernel
theorem dX12_readStatement_52 : decode cX12_readStatement 52 = .ok (.getfield 278, 3) := by decide +kernel
theorem dX12_readStatement_55 : decode cX12_readStatement 55 = .ok (.bipush 6, 2) := by decide +kernel
theorem dX12_readStatement_57 : decode cX12_readStatement 57 = .ok (.if_icmp .le 8, 3) := by decide +kernel
theorem dX12_readStatement_60 : decode cX12_readStatement 60 = .ok (.aload_n 0, 1) := by decide +kernel
theorem dX12_readStatement_61 : decode cX12_readStatement 61 = .ok (.invokevirtual 234, 3) := by decide +kernel
theorem dX12_readStatement_64 : decode cX12_readStatement 64 = .ok (.return_, 1) := by decide +kernel
theorem dX12_readStatement_65 : decode cX12_readStatement 65 = .ok (.aload_n 0, 1) := by decide +kernel
theorem dX12_readStatement_66 : decode cX12_readStatement 66 = .ok (.invokevirtual 231, 3) := by decide +kernel
theorem dX12_readStatement_69 : decode cX12_readStatement 69 = .ok (.aload_n 0, 1) := by decide +kernel
theorem dX12_readStatement_70 : decode cX12_readStatement 70 = .ok (.getfield 278, 3) := by decide +kernel
theorem dX12_readStatement_73 : decode cX12_readStatement 73 = .ok (.tableswitch 104 0 2 #[27, 38, 63], 27) := by decide +kernel
theorem dX12_readStatement_100 : decode cX12_readStatement 100 = .ok (.aload_n 0, 1) := by decide +kernel
theorem dX12_readStatement_101 : decode cX12_readStatement 101 = .ok (.aload_n 0, 1) := by decide +kernel
theorem dX12_readStatement_102 : decode cX12_readStatement 102 = .ok (.invokevirtual 249, 3) := by decide +kernel
theorem dX12_readStatement_105 : decode cX12_readStatement 105 = .ok (.putfield 290, 3) := by decide +kernel
theorem dX12_readStatement_108 : decode cX12_readStatement 108 = .ok (.goto 148, 3) := by decide +kernel
theorem dX12_readStatement_111 : decode cX12_readStatement 111 = .ok (.aload_n 0, 1) := by decide +kernel
theorem dX12_readStatement_112 : decode cX12_readStatement 112 = .ok (.aload_n 0, 1) := by decide +kernel
theorem dX12_readStatement_113 : decode cX12_readStatement 113 = .ok (.invokevirtual 249, 3) := by decide +kernel
theorem dX12_readStatement_116 : decode cX12_readStatement 116 = .ok (.putfield 290, 3) := by decide +kernel
theorem dX12_readStatement_119 : decode cX12_readStatement 119 = .ok (.aload_n 0, 1) := by decide +kernel
theorem dX12_readStatement_120 : decode cX12_readStatement 120 = .ok (.bipush 58, 2) := by decide +kernel
theorem dX12_readStatement_122 : decode cX12_readStatement 122 = .ok (.invokevirtual 252, 3) := by decide +kernel
theorem dX12_readStatement_125 : decode cX12_readStatement 125 = .ok (.aload_n 0, 1) := by decide +kernel
theorem dX12_readStatement_126 : decode cX12_readStatement 126 = .ok (.aload_n 0, 1) := by decide +kernel
theorem dX12_readStatement_127 : decode cX12_readStatement 127 = .ok (.invokevirtual 249, 3) := by decide +kernel
theorem dX12_readStatement_130 : decode cX12_readStatement 130 = .ok (.putfield 293, 3) := by decide +kernel
theorem dX12_readStatement_133 : decode cX12_readStatement 133 = .ok (.goto 123, 3) := by decide +kernel
theorem dX12_readStatement_136 : decode cX12_readStatement 136 = .ok (.aload_n 0, 1) := by decide +kernel
theorem dX12_readStatement_137 : decode cX12_readStatement 137 = .ok (.aload_n 0, 1) := by decide +kernel
theorem dX12_readStatement_138 : decode cX12_readStatement 138 = .ok (.invokevirtual 249, 3) := by decide +kernel
theorem dX12_readStatement_141 : decode cX12_readStatement 141 = .ok (.putfield 290, 3) := by decide +kernel
theorem dX12_readStatement_144 : decode cX12_readStatement 144 = .ok (.aload_n 0, 1) := by decide +kernel
theorem dX12_readStatement_145 : decode cX12_readStatement 145 = .ok (.getfield 150, 3) := by decide +kernel
theorem dX12_readStatement_148 : decode cX12_readStatement 148 = .ok (.ifCond .ne 11, 3) := by decide +kernel
theorem dX12_readStatement_151 : decode cX12_readStatement 151 = .ok (.aload_n 0, 1) := by decide +kernel
theorem dX12_readStatement_152 : decode cX12_readStatement 152 = .ok (.aload_n 0, 1) := by decide +kernel
theorem dX12_readStatement_153 : decode cX12_readStatement 153 = .ok (.invokevirtual 249, 3) := by decide +kernel
theorem dX12_readStatement_156 : decode cX12_readStatement 156 = .ok (.putfield 293, 3) := by decide +kernel
theorem dX12_readStatement_159 : decode cX12_readStatement 159 = .ok (.aload_n 0, 1) := by decide +kernel
theorem dX12_readStatement_160 : decode cX12_readStatement 160 = .ok (.getfield 150, 3) := by decide +kernel
theorem dX12_readStatement_163 : decode cX12_readStatement 163 = .ok (.ifCond .ne 93, 3) := by decide +kernel
theorem dX12_readStatement_166 : decode cX12_readStatement 166 = .ok (.aload_n 0, 1) := by decide +kernel
theorem dX12_readStatement_167 : decode cX12_readStatement 167 = .ok (.aload_n 0, 1) := by decide +kernel
theorem dX12_readStatement_168 : decode cX12_readStatement 168 = .ok (.invokevirtual 249, 3) := by decide +kernel
theorem dX12_readStatement_171 : decode cX12_readStatement 171 = .ok (.putfield 296, 3) := by decide +kernel
theorem dX12_readStatement_174 : decode cX12_readStatement 174 = .ok (.goto 82, 3) := by decide +kernel
theorem dX12_readStatement_177 : decode cX12_readStatement 177 = .ok (.aload_n 0, 1) := by decide +kernel
theorem dX12_readStatement_178 : decode cX12_readStatement 178 = .ok (.aload_n 0, 1) := by decide +kernel
theorem dX12_readStatement_179 : decode cX12_readStatement 179 = .ok (.iconst 0, 1) := by decide +kernel
theorem dX12_readStatement_180 : decode cX12_readStatement 180 = .ok (.invokevirtual 255, 3) := by decide +kernel
theorem dX12_readStatement_183 : decode cX12_readStatement 183 = .ok (.putfield 281, 3) := by decide +kernel
theorem dX12_readStatement_186 : decode cX12_readStatement 186 = .ok (.aload_n 0, 1) := by decide +kernel
theorem dX12_readStatement_187 : decode cX12_readStatement 187 = .ok (.getfield 150, 3) := by decide +kernel
theorem dX12_readStatement_190 : decode cX12_readStatement 190 = .ok (.ifCond .ne 36, 3) := by decide +kernel
theorem dX12_readStatement_193 : decode cX12_readStatement 193 = .ok (.aload_n 0, 1) := by decide +kernel
theorem dX12_readStatement_194 : decode cX12_readStatement 194 = .ok (.getfield 278, 3) := by decide +kernel
theorem dX12_readStatement_197 : decode cX12_readStatement 197 = .ok (.iconst 3, 1) := by decide +kernel
theorem dX12_readStatement_198 : decode cX12_readStatement 198 = .ok (.if_icmp .ne 28, 3) := by decide +kernel
theorem dX12_readStatement_201 : decode cX12_readStatement 201 = .ok (.aload_n 0, 1) := by decide +kernel
theorem dX12_readStatement_202 : decode cX12_readStatement 202 = .ok (.bipush 58, 2) := by decide +kernel
theorem dX12_readStatement_204 : decode cX12_readStatement 204 = .ok (.invokevirtual 228, 3) := by decide +kernel
theorem dX12_readStatement_207 : decode cX12_readStatement 207 = .ok (.ifCond .eq 19, 3) := by decide +kernel
theorem dX12_readStatement_210 : decode cX12_readStatement 210 = .ok (.aload_n 0, 1) := by decide +kernel
theorem dX12_readStatement_211 : decode cX12_readStatement 211 = .ok (.invokevirtual 231, 3) := by decide +kernel
theorem dX12_readStatement_214 : decode cX12_readStatement 214 = .ok (.aload_n 0, 1) := by decide +kernel
theorem dX12_readStatement_215 : decode cX12_readStatement 215 = .ok (.aload_n 0, 1) := by decide +kernel
theorem dX12_readStatement_216 : decode cX12_readStatement 216 = .ok (.iconst 0, 1) := by decide +kernel
theorem dX12_readStatement_217 : decode cX12_readStatement 217 = .ok (.invokevirtual 255, 3) := by decide +kernel
theorem dX12_readStatement_220 : decode cX12_readStatement 220 = .ok (.putfield 284, 3) := by decide +kernel
theorem dX12_readStatement_223 : decode cX12_readStatement 223 = .ok (.goto 33, 3) := by decide +kernel
theorem dX12_readStatement_226 : decode cX12_readStatement 226 = .ok (.aload_n 0, 1) := by decide +kernel
theorem dX12_readStatement_227 : decode cX12_readStatement 227 = .ok (.getfield 150, 3) := by decide +kernel
theorem dX12_readStatement_230 : decode cX12_readStatement 230 = .ok (.ifCond .ne 26, 3) := by decide +kernel
theorem dX12_readStatement_233 : decode cX12_readStatement 233 = .ok (.aload_n 0, 1) := by decide +kernel
theorem dX12_readStatement_234 : decode cX12_readStatement 234 = .ok (.getfield 278, 3) := by decide +kernel
theorem dX12_readStatement_237 : decode cX12_readStatement 237 = .ok (.iconst 5, 1) := by decide +kernel
theorem dX12_readStatement_238 : decode cX12_readStatement 238 = .ok (.if_icmp .ne 18, 3) := by decide +kernel
theorem dX12_readStatement_241 : decode cX12_readStatement 241 = .ok (.aload_n 0, 1) := by decide +kernel
theorem dX12_readStatement_242 : decode cX12_readStatement 242 = .ok (.bipush 61, 2) := by decide +kernel
theorem dX12_readStatement_244 : decode cX12_readStatement 244 = .ok (.invokevirtual 252, 3) := by decide +kernel
theorem dX12_readStatement_247 : decode cX12_readStatement 247 = .ok (.aload_n 0, 1) := by decide +kernel
theorem dX12_readStatement_248 : decode cX12_readStatement 248 = .ok (.aload_n 0, 1) := by decide +kernel
theorem dX12_readStatement_249 : decode cX12_readStatement 249 = .ok (.iconst 0, 1) := by decide +kernel
theorem dX12_readStatement_250 : decode cX12_readStatement 250 = .ok (.invokevirtual 255, 3) := by decide +kernel
theorem dX12_readStatement_253 : decode cX12_readStatement 253 = .ok (.putfield 284, 3) := by decide +kernel
theorem dX12_readStatement_256 : decode cX12_readStatement 256 = .ok (.return_, 1) := by decide +kernel
theorem dX12_readTold_0 : decode cX12_readTold 0 = .ok (.aload_n 0, 1) := by decide +kernel
theorem dX12_readTold_1 : decode cX12_readTold 1 = .ok (.aload_n 0, 1) := by decide +kernel
theorem dX12_readTold_2 : decode cX12_readTold 2 = .ok (.invokevirtual 249, 3) := by decide +kernel
theorem dX12_readTold_5 : decode cX12_readTold 5 = .ok (.putfield 290, 3) := by decide +kernel
theorem dX12_readTold_8 : decode cX12_readTold 8 = .ok (.aload_n 0, 1) := by decide +kernel
theorem dX12_readTold_9 : decode cX12_readTold 9 = .ok (.getfield 150, 3) := by decide +kernel
theorem dX12_readTold_12 : decode cX12_readTold 12 = .ok (.ifCond .eq 4, 3) := by decide +kernel
theorem dX12_readTold_15 : decode cX12_readTold 15 = .ok (.return_, 1) := by decide +kernel
theorem dX12_readTold_16 : decode cX12_readTold 16 = .ok (.aload_n 0, 1) := by decide +kernel
theorem dX12_readTold_17 : decode cX12_readTold 17 = .ok (.bipush 58, 2) := by decide +kernel
theorem dX12_readTold_19 : decode cX12_readTold 19 = .ok (.invokevirtual 228, 3) := by decide +kernel
theorem dX12_readTold_22 : decode cX12_readTold 22 = .ok (.ifCond .eq 49, 3) := by decide +kernel
theorem dX12_readTold_25 : decode cX12_readTold 25 = .ok (.aload_n 0, 1) := by decide +kernel
theorem dX12_readTold_26 : decode cX12_readTold 26 = .ok (.invokevirtual 231, 3) := by decide +kernel
theorem dX12_readTold_29 : decode cX12_readTold 29 = .ok (.aload_n 0, 1) := by decide +kernel
theorem dX12_readTold_30 : decode cX12_readTold 30 = .ok (.aload_n 0, 1) := by decide +kernel
theorem dX12_readTold_31 : decode cX12_readTold 31 = .ok (.iconst 0, 1) := by decide +kernel
theorem dX12_readTold_32 : decode cX12_readTold 32 = .ok (.invokevirtual 255, 3) := by decide +kernel
theorem dX12_readTold_35 : decode cX12_readTold 35 = .ok (.putfield 284, 3) := by decide +kernel
theorem dX12_readTold_38 : decode cX12_readTold 38 = .ok (.aload_n 0, 1) := by decide +kernel
theorem dX12_readTold_39 : decode cX12_readTold 39 = .ok (.getfield 150, 3) := by decide +kernel
theorem dX12_readTold_42 : decode cX12_readTold 42 = .ok (.ifCond .ne 45, 3) := by decide +kernel
theorem dX12_readTold_45 : decode cX12_readTold 45 = .ok (.aload_n 0, 1) := by decide +kernel
theorem dX12_readTold_46 : decode cX12_readTold 46 = .ok (.sipush 256, 3) := by decide +kernel
theorem dX12_readTold_49 : decode cX12_readTold 49 = .ok (.invokevirtual 228, 3) := by decide +kernel
theorem dX12_readTold_52 : decode cX12_readTold 52 = .ok (.ifCond .eq 35, 3) := by decide +kernel
theorem dX12_readTold_55 : decode cX12_readTold 55 = .ok (.aload_n 0, 1) := by decide +kernel
theorem dX12_readTold_56 : decode cX12_readTold 56 = .ok (.invokevirtual 231, 3) := by decide +kernel
theorem dX12_readTold_59 : decode cX12_readTold 59 = .ok (.aload_n 0, 1) := by decide +kernel
theorem dX12_readTold_60 : decode cX12_readTold 60 = .ok (.aload_n 0, 1) := by decide +kernel
theorem dX12_readTold_61 : decode cX12_readTold 61 = .ok (.iconst 0, 1) := by decide +kernel
theorem dX12_readTold_62 : decode cX12_readTold 62 = .ok (.invokevirtual 255, 3) := by decide +kernel
theorem dX12_readTold_65 : decode cX12_readTold 65 = .ok (.putfield 281, 3) := by decide +kernel
theorem dX12_readTold_68 : decode cX12_readTold 68 = .ok (.goto 19, 3) := by decide +kernel
theorem dX12_readTold_71 : decode cX12_readTold 71 = .ok (.aload_n 0, 1) := by decide +kernel
theorem dX12_readTold_72 : decode cX12_readTold 72 = .ok (.sipush 256, 3) := by decide +kernel
theorem dX12_readTold_75 : decode cX12_readTold 75 = .ok (.invokevirtual 252, 3) := by decide +kernel
theorem dX12_readTold_78 : decode cX12_readTold 78 = .ok (.aload_n 0, 1) := by decide +kernel
theorem dX12_readTold_79 : decode cX12_readTold 79 = .ok (.aload_n 0, 1) := by decide +kernel
theorem dX12_readTold_80 : decode cX12_readTold 80 = .ok (.iconst 0, 1) := by decide +kernel
theorem dX12_readTold_81 : decode cX12_readTold 81 = .ok (.invokevirtual 255, 3) := by decide +kernel
theorem dX12_readTold_84 : decode cX12_readTold 84 = .ok (.putfield 281, 3) := by decide +kernel
theorem dX12_readTold_87 : decode cX12_readTold 87 = .ok (.return_, 1) := by decide +kernel
theorem dX12_readAll_0 : decode cX12_readAll 0 = .ok (.aload_n 0, 1) := by decide +kernel
theorem dX12_readAll_1 : decode cX12_readAll 1 = .ok (.iconst 0, 1) := by decide +kernel
theorem dX12_readAll_2 : decode cX12_readAll 2 = .ok (.putfield 237, 3) := by decide +kernel
theorem dX12_readAll_5 : decode cX12_readAll 5 = .ok (.aload_n 0, 1) := by decide +kernel
theorem dX12_readAll_6 : decode cX12_readAll 6 = .ok (.iconst 0, 1) := by decide +kernel
theorem dX12_readAll_7 : decode cX12_readAll 7 = .ok (.putfield 193, 3) := by decide +kernel
theorem dX12_readAll_10 : decode cX12_readAll 10 = .ok (.aload_n 0, 1) := by decide +kernel
theorem dX12_readAll_11 : decode cX12_readAll 11 = .ok (.invokevirtual 231, 3) := by decide +kernel
theorem dX12_readAll_14 : decode cX12_readAll 14 = .ok (.aload_n 0, 1) := by decide +kernel
theorem dX12_readAll_15 : decode cX12_readAll 15 = .ok (.getfield 150, 3) := by decide +kernel
theorem dX12_readAll_18 : decode cX12_readAll 18 = .ok (.ifCond .ne 30, 3) := by decide +kernel
theorem dX12_readAll_21 : decode cX12_readAll 21 = .ok (.aload_n 0, 1) := by decide +kernel
theorem dX12_readAll_22 : decode cX12_readAll 22 = .ok (.getfield 203, 3) := by decide +kernel
theorem dX12_readAll_25 : decode cX12_readAll 25 = .ok (.ifCond .eq 23, 3) := by decide +kernel
theorem dX12_readAll_28 : decode cX12_readAll 28 = .ok (.aload_n 0, 1) := by decide +kernel
theorem dX12_readAll_29 : decode cX12_readAll 29 = .ok (.invokevirtual 299, 3) := by decide +kernel
theorem dX12_readAll_32 : decode cX12_readAll 32 = .ok (.aload_n 0, 1) := by decide +kernel
theorem dX12_readAll_33 : decode cX12_readAll 33 = .ok (.getfield 150, 3) := by decide +kernel
theorem dX12_readAll_36 : decode cX12_readAll 36 = .ok (.ifCond .ne (-22), 3) := by decide +kernel
theorem dX12_readAll_39 : decode cX12_readAll 39 = .ok (.aload_n 0, 1) := by decide +kernel
theorem dX12_readAll_40 : decode cX12_readAll 40 = .ok (.bipush 59, 2) := by decide +kernel
theorem dX12_readAll_42 : decode cX12_readAll 42 = .ok (.invokevirtual 252, 3) := by decide +kernel
theorem dX12_readAll_45 : decode cX12_readAll 45 = .ok (.goto (-31), 3) := by decide +kernel
theorem dX12_readAll_48 : decode cX12_readAll 48 = .ok (.return_, 1) := by decide +kernel
theorem dX12_may_0 : decode cX12_may 0 = .ok (.aload_n 0, 1) := by decide +kernel
theorem dX12_may_1 : decode cX12_may 1 = .ok (.getfield 150, 3) := by decide +kernel
theorem dX12_may_4 : decode cX12_may 4 = .ok (.ifCond .eq 5, 3) := by decide +kernel
theorem dX12_may_7 : decode cX12_may 7 = .ok (.iconst 0, 1) := by decide +kernel
theorem dX12_may_8 : decode cX12_may 8 = .ok (.ireturn, 1) := by decide +kernel
theorem dX12_may_9 : decode cX12_may 9 = .ok (.aload_n 0, 1) := by decide +kernel
theorem dX12_may_10 : decode cX12_may 10 = .ok (.getfield 302, 3) := by decide +kernel
theorem dX12_may_13 : decode cX12_may 13 = .ok (.aload_n 0, 1) := by decide +kernel
theorem dX12_may_14 : decode cX12_may 14 = .ok (.getfield 137, 3) := by decide +kernel
theorem dX12_may_17 : decode cX12_may 17 = .ok (.if_icmp .ne 16, 3) := by decide +kernel
theorem dX12_may_20 : decode cX12_may 20 = .ok (.aload_n 0, 1) := by decide +kernel
theorem dX12_may_21 : decode cX12_may 21 = .ok (.bipush 12, 2) := by decide +kernel
theorem dX12_may_23 : decode cX12_may 23 = .ok (.aload_n 0, 1) := by decide +kernel
theorem dX12_may_24 : decode cX12_may 24 = .ok (.getfield 275, 3) := by decide +kernel
theorem dX12_may_27 : decode cX12_may 27 = .ok (.invokevirtual 218, 3) := by decide +kernel
theorem dX12_may_30 : decode cX12_may 30 = .ok (.goto 23, 3) := by decide +kernel
theorem dX12_may_33 : decode cX12_may 33 = .ok (.aload_n 0, 1) := by decide +kernel
theorem dX12_may_34 : decode cX12_may 34 = .ok (.getfield 305, 3) := by decide +kernel
theorem dX12_may_37 : decode cX12_may 37 = .ok (.ldc_w 308, 3) := by decide +kernel
theorem dX12_may_40 : decode cX12_may 40 = .ok (.if_icmp .ne 13, 3) := by decide +kernel
theorem dX12_may_43 : decode cX12_may 43 = .ok (.aload_n 0, 1) := by decide +kernel
theorem dX12_may_44 : decode cX12_may 44 = .ok (.bipush 14, 2) := by decide +kernel
theorem dX12_may_46 : decode cX12_may 46 = .ok (.aload_n 0, 1) := by decide +kernel
theorem dX12_may_47 : decode cX12_may 47 = .ok (.getfield 275, 3) := by decide +kernel
theorem dX12_may_50 : decode cX12_may 50 = .ok (.invokevirtual 218, 3) := by decide +kernel
theorem dX12_may_53 : decode cX12_may 53 = .ok (.aload_n 0, 1) := by decide +kernel
theorem dX12_may_54 : decode cX12_may 54 = .ok (.getfield 150, 3) := by decide +kernel
theorem dX12_may_57 : decode cX12_may 57 = .ok (.ifCond .eq 5, 3) := by decide +kernel
theorem dX12_may_60 : decode cX12_may 60 = .ok (.iconst 0, 1) := by decide +kernel
theorem dX12_may_61 : decode cX12_may 61 = .ok (.ireturn, 1) := by decide +kernel
theorem dX12_may_62 : decode cX12_may 62 = .ok (.aload_n 0, 1) := by decide +kernel
theorem dX12_may_63 : decode cX12_may 63 = .ok (.dup, 1) := by decide +kernel
theorem dX12_may_64 : decode cX12_may 64 = .ok (.getfield 302, 3) := by decide +kernel
theorem dX12_may_67 : decode cX12_may 67 = .ok (.iconst 1, 1) := by decide +kernel
theorem dX12_may_68 : decode cX12_may 68 = .ok (.iadd, 1) := by decide +kernel
theorem dX12_may_69 : decode cX12_may 69 = .ok (.putfield 302, 3) := by decide +kernel
theorem dX12_may_72 : decode cX12_may 72 = .ok (.aload_n 0, 1) := by decide +kernel
theorem dX12_may_73 : decode cX12_may 73 = .ok (.dup, 1) := by decide +kernel
theorem dX12_may_74 : decode cX12_may 74 = .ok (.getfield 305, 3) := by decide +kernel
theorem dX12_may_77 : decode cX12_may 77 = .ok (.iconst 1, 1) := by decide +kernel
theorem dX12_may_78 : decode cX12_may 78 = .ok (.iadd, 1) := by decide +kernel
theorem dX12_may_79 : decode cX12_may 79 = .ok (.putfield 305, 3) := by decide +kernel
theorem dX12_may_82 : decode cX12_may 82 = .ok (.iconst 1, 1) := by decide +kernel
theorem dX12_may_83 : decode cX12_may 83 = .ok (.ireturn, 1) := by decide +kernel
theorem dX12_look_0 : decode cX12_look 0 = .ok (.aload_n 0, 1) := by decide +kernel
theorem dX12_look_1 : decode cX12_look 1 = .ok (.getfield 150, 3) := by decide +kernel
theorem dX12_look_4 : decode cX12_look 4 = .ok (.ifCond .ne 19, 3) := by decide +kernel
theorem dX12_look_7 : decode cX12_look 7 = .ok (.iload_n 1, 1) := by decide +kernel
theorem dX12_look_8 : decode cX12_look 8 = .ok (.bipush 100, 2) := by decide +kernel
theorem dX12_look_10 : decode cX12_look 10 = .ok (.if_icmp .lt 13, 3) := by decide +kernel
theorem dX12_look_13 : decode cX12_look 13 = .ok (.aload_n 0, 1) := by decide +kernel
theorem dX12_look_14 : decode cX12_look 14 = .ok (.bipush 13, 2) := by decide +kernel
theorem dX12_look_16 : decode cX12_look 16 = .ok (.aload_n 0, 1) := by decide +kernel
theorem dX12_look_17 : decode cX12_look 17 = .ok (.getfield 275, 3) := by decide +kernel
theorem dX12_look_20 : decode cX12_look 20 = .ok (.invokevirtual 218, 3) := by decide +kernel
theorem dX12_look_23 : decode cX12_look 23 = .ok (.aload_n 0, 1) := by decide +kernel
theorem dX12_look_24 : decode cX12_look 24 = .ok (.invokevirtual 309, 3) := by decide +kernel
theorem dX12_look_27 : decode cX12_look 27 = .ok (.ifCond .ne 5, 3) := by decide +kernel
theorem dX12_look_30 : decode cX12_look 30 = .ok (.iconst 0, 1) := by decide +kernel
theorem dX12_look_31 : decode cX12_look 31 = .ok (.ireturn, 1) := by decide +kernel
theorem dX12_look_32 : decode cX12_look 32 = .ok (.aload_n 0, 1) := by decide +kernel
theorem dX12_look_33 : decode cX12_look 33 = .ok (.dup, 1) := by decide +kernel
theorem dX12_look_34 : decode cX12_look 34 = .ok (.getfield 312, 3) := by decide +kernel
theorem dX12_look_37 : decode cX12_look 37 = .ok (.iconst 1, 1) := by decide +kernel
theorem dX12_look_38 : decode cX12_look 38 = .ok (.iadd, 1) := by decide +kernel
theorem dX12_look_39 : decode cX12_look 39 = .ok (.putfield 312, 3) := by decide +kernel
theorem dX12_look_42 : decode cX12_look 42 = .ok (.iconst 1, 1) := by decide +kernel
theorem dX12_look_43 : decode cX12_look 43 = .ok (.ireturn, 1) := by decide +kernel
theorem dX12_cell_0 : decode cX12_cell 0 = .ok (.aload_n 0, 1) := by decide +kernel
theorem dX12_cell_1 : decode cX12_cell 1 = .ok (.getfield 113, 3) := by decide +kernel
theorem dX12_cell_4 : decode cX12_cell 4 = .ok (.aload_n 0, 1) := by decide +kernel
theorem dX12_cell_5 : decode cX12_cell 5 = .ok (.getfield 125, 3) := by decide +kernel
theorem dX12_cell_8 : decode cX12_cell 8 = .ok (.iload_n 1, 1) := by decide +kernel
theorem dX12_cell_9 : decode cX12_cell 9 = .ok (.iastore, 1) := by decide +kernel
theorem dX12_cell_10 : decode cX12_cell 10 = .ok (.aload_n 0, 1) := by decide +kernel
theorem dX12_cell_11 : decode cX12_cell 11 = .ok (.getfield 116, 3) := by decide +kernel
theorem dX12_cell_14 : decode cX12_cell 14 = .ok (.aload_n 0, 1) := by decide +kernel
theorem dX12_cell_15 : decode cX12_cell 15 = .ok (.getfield 125, 3) := by decide +kernel
theorem dX12_cell_18 : decode cX12_cell 18 = .ok (.iload_n 2, 1) := by decide +kernel
theorem dX12_cell_19 : decode cX12_cell 19 = .ok (.iastore, 1) := by decide +kernel
theorem dX12_cell_20 : decode cX12_cell 20 = .ok (.aload_n 0, 1) := by decide +kernel
theorem dX12_cell_21 : decode cX12_cell 21 = .ok (.getfield 119, 3) := by decide +kernel
theorem dX12_cell_24 : decode cX12_cell 24 = .ok (.aload_n 0, 1) := by decide +kernel
theorem dX12_cell_25 : decode cX12_cell 25 = .ok (.getfield 125, 3) := by decide +kernel
theorem dX12_cell_28 : decode cX12_cell 28 = .ok (.iload_n 3, 1) := by decide +kernel
theorem dX12_cell_29 : decode cX12_cell 29 = .ok (.iastore, 1) := by decide +kernel
theorem dX12_cell_30 : decode cX12_cell 30 = .ok (.aload_n 0, 1) := by decide +kernel
theorem dX12_cell_31 : decode cX12_cell 31 = .ok (.getfield 122, 3) := by decide +kernel
theorem dX12_cell_34 : decode cX12_cell 34 = .ok (.aload_n 0, 1) := by decide +kernel
theorem dX12_cell_35 : decode cX12_cell 35 = .ok (.getfield 125, 3) := by decide +kernel
theorem dX12_cell_38 : decode cX12_cell 38 = .ok (.iload 4, 2) := by decide +kernel
theorem dX12_cell_40 : decode cX12_cell 40 = .ok (.iastore, 1) := by decide +kernel
theorem dX12_cell_41 : decode cX12_cell 41 = .ok (.aload_n 0, 1) := by decide +kernel
theorem dX12_cell_42 : decode cX12_cell 42 = .ok (.dup, 1) := by decide +kernel
theorem dX12_cell_43 : decode cX12_cell 43 = .ok (.getfield 125, 3) := by decide +kernel
theorem dX12_cell_46 : decode cX12_cell 46 = .ok (.iconst 1, 1) := by decide +kernel
theorem dX12_cell_47 : decode cX12_cell 47 = .ok (.iadd, 1) := by decide +kernel
theorem dX12_cell_48 : decode cX12_cell 48 = .ok (.putfield 125, 3) := by decide +kernel
theorem dX12_cell_51 : decode cX12_cell 51 = .ok (.aload_n 0, 1) := by decide +kernel
theorem dX12_cell_52 : decode cX12_cell 52 = .ok (.getfield 125, 3) := by decide +kernel
theorem dX12_cell_55 : decode cX12_cell 55 = .ok (.iconst 1, 1) := by decide +kernel
theorem dX12_cell_56 : decode cX12_cell 56 = .ok (.isub, 1) := by decide +kernel
theorem dX12_cell_57 : decode cX12_cell 57 = .ok (.ireturn, 1) := by decide +kernel
theorem dX12_find_0 : decode cX12_find 0 = .ok (.iload_n 2, 1) := by decide +kernel
theorem dX12_find_1 : decode cX12_find 1 = .ok (.istore_n 3, 1) := by decide +kernel
theorem dX12_find_2 : decode cX12_find 2 = .ok (.iload_n 3, 1) := by decide +kernel
theorem dX12_find_3 : decode cX12_find 3 = .ok (.ifCond .eq 23, 3) := by decide +kernel
theorem dX12_find_6 : decode cX12_find 6 = .ok (.aload_n 0, 1) := by decide +kernel
theorem dX12_find_7 : decode cX12_find 7 = .ok (.getfield 116, 3) := by decide +kernel
theorem dX12_find_10 : decode cX12_find 10 = .ok (.iload_n 3, 1) := by decide +kernel
theorem dX12_find_11 : decode cX12_find 11 = .ok (.iaload, 1) := by decide +kernel
theorem dX12_find_12 : decode cX12_find 12 = .ok (.iload_n 1, 1) := by decide +kernel
theorem dX12_find_13 : decode cX12_find 13 = .ok (.if_icmp .eq 13, 3) := by decide +kernel
theorem dX12_find_16 : decode cX12_find 16 = .ok (.aload_n 0, 1) := by decide +kernel
theorem dX12_find_17 : decode cX12_find 17 = .ok (.getfield 113, 3) := by decide +kernel
theorem dX12_find_20 : decode cX12_find 20 = .ok (.iload_n 3, 1) := by decide +kernel
theorem dX12_find_21 : decode cX12_find 21 = .ok (.iaload, 1) := by decide +kernel
theorem dX12_find_22 : decode cX12_find 22 = .ok (.istore_n 3, 1) := by decide +kernel
theorem dX12_find_23 : decode cX12_find 23 = .ok (.goto (-21), 3) := by decide +kernel
theorem dX12_find_26 : decode cX12_find 26 = .ok (.aload_n 0, 1) := by decide +kernel
theorem dX12_find_27 : decode cX12_find 27 = .ok (.iload_n 3, 1) := by decide +kernel
theorem dX12_find_28 : decode cX12_find 28 = .ok (.ifCond .eq 7, 3) := by decide +kernel
theorem dX12_find_31 : decode cX12_find 31 = .ok (.iconst 1, 1) := by decide +kernel
theorem dX12_find_32 : decode cX12_find 32 = .ok (.goto 4, 3) := by decide +kernel
theorem dX12_find_35 : decode cX12_find 35 = .ok (.iconst 0, 1) := by decide +kernel
theorem dX12_find_36 : decode cX12_find 36 = .ok (.putfield 315, 3) := by decide +kernel
theorem dX12_find_39 : decode cX12_find 39 = .ok (.aload_n 0, 1) := by decide +kernel
theorem dX12_find_40 : decode cX12_find 40 = .ok (.getfield 315, 3) := by decide +kernel
theorem dX12_find_43 : decode cX12_find 43 = .ok (.ifCond .eq 23, 3) := by decide +kernel
theorem dX12_find_46 : decode cX12_find 46 = .ok (.aload_n 0, 1) := by decide +kernel
theorem dX12_find_47 : decode cX12_find 47 = .ok (.aload_n 0, 1) := by decide +kernel
theorem dX12_find_48 : decode cX12_find 48 = .ok (.getfield 119, 3) := by decide +kernel
theorem dX12_find_51 : decode cX12_find 51 = .ok (.iload_n 3, 1) := by decide +kernel
theorem dX12_find_52 : decode cX12_find 52 = .ok (.iaload, 1) := by decide +kernel
theorem dX12_find_53 : decode cX12_find 53 = .ok (.putfield 318, 3) := by decide +kernel
theorem dX12_find_56 : decode cX12_find 56 = .ok (.aload_n 0, 1) := by decide +kernel
theorem dX12_find_57 : decode cX12_find 57 = .ok (.aload_n 0, 1) := by decide +kernel
theorem dX12_find_58 : decode cX12_find 58 = .ok (.getfield 122, 3) := by decide +kernel
theorem dX12_find_61 : decode cX12_find 61 = .ok (.iload_n 3, 1) := by decide +kernel
theorem dX12_find_62 : decode cX12_find 62 = .ok (.iaload, 1) := by decide +kernel
theorem dX12_find_63 : decode cX12_find 63 = .ok (.putfield 321, 3) := by decide +kernel
theorem dX12_find_66 : decode cX12_find 66 = .ok (.return_, 1) := by decide +kernel
theorem dX12_head_0 : decode cX12_head 0 = .ok (.aload_n 0, 1) := by decide +kernel
theorem dX12_head_1 : decode cX12_head 1 = .ok (.getfield 324, 3) := by decide +kernel
theorem dX12_head_4 : decode cX12_head 4 = .ok (.istore_n 3, 1) := by decide +kernel
theorem dX12_head_5 : decode cX12_head 5 = .ok (.iload_n 1, 1) := by decide +kernel
theorem dX12_head_6 : decode cX12_head 6 = .ok (.istore 4, 2) := by decide +kernel
theorem dX12_head_8 : decode cX12_head 8 = .ok (.iload_n 2, 1) := by decide +kernel
theorem dX12_head_9 : decode cX12_head 9 = .ok (.istore 5, 2) := by decide +kernel
theorem dX12_head_11 : decode cX12_head 11 = .ok (.aload_n 0, 1) := by decide +kernel
theorem dX12_head_12 : decode cX12_head 12 = .ok (.getfield 150, 3) := by decide +kernel
theorem dX12_head_15 : decode cX12_head 15 = .ok (.ifCond .ne 7, 3) := by decide +kernel
theorem dX12_head_18 : decode cX12_head 18 = .ok (.iconst 1, 1) := by decide +kernel
theorem dX12_head_19 : decode cX12_head 19 = .ok (.goto 4, 3) := by decide +kernel
theorem dX12_head_22 : decode cX12_head 22 = .ok (.iconst 0, 1) := by decide +kernel
theorem dX12_head_23 : decode cX12_head 23 = .ok (.istore 6, 2) := by decide +kernel
theorem dX12_head_25 : decode cX12_head 25 = .ok (.iload 6, 2) := by decide +kernel
theorem dX12_head_27 : decode cX12_head 27 = .ok (.ifCond .eq 404, 3) := by decide +kernel
theorem dX12_head_30 : decode cX12_head 30 = .ok (.iload 4, 2) := by decide +kernel
theorem dX12_head_32 : decode cX12_head 32 = .ok (.ifCond .ge 7, 3) := by decide +kernel
theorem dX12_head_35 : decode cX12_head 35 = .ok (.iconst (-1), 1) := by decide +kernel
theorem dX12_head_36 : decode cX12_head 36 = .ok (.goto 10, 3) := by decide +kernel
theorem dX12_head_39 : decode cX12_head 39 = .ok (.aload_n 0, 1) := by decide +kernel
theorem dX12_head_40 : decode cX12_head 40 = .ok (.getfield 76, 3) := by decide +kernel
theorem dX12_head_43 : decode cX12_head 43 = .ok (.iload 4, 2) := by decide +kernel
theorem dX12_head_45 : decode cX12_head 45 = .ok (.iaload, 1) := by decide +kernel
theorem dX12_head_46 : decode cX12_head 46 = .ok (.istore 7, 2) := by decide +kernel
theorem dX12_head_48 : decode cX12_head 48 = .ok (.iconst 0, 1) := by decide +kernel
theorem dX12_head_49 : decode cX12_head 49 = .ok (.istore 6, 2) := by decide +kernel
theorem dX12_head_51 : decode cX12_head 51 = .ok (.iload 7, 2) := by decide +kernel
theorem dX12_head_53 : decode cX12_head 53 = .ok (.bipush 7, 2) := by decide +kernel
theorem dX12_head_55 : decode cX12_head 55 = .ok (.if_icmp .ne 73, 3) := by decide +kernel
theorem dX12_head_58 : decode cX12_head 58 = .ok (.aload_n 0, 1) := by decide +kernel
theorem dX12_head_59 : decode cX12_head 59 = .ok (.invokevirtual 309, 3) := by decide +kernel
theorem dX12_head_62 : decode cX12_head 62 = .ok (.istore 6, 2) := by decide +kernel
theorem dX12_head_64 : decode cX12_head 64 = .ok (.iload 6, 2) := by decide +kernel
theorem dX12_head_66 : decode cX12_head 66 = .ok (.ifCond .eq 362, 3) := by decide +kernel
theorem dX12_head_69 : decode cX12_head 69 = .ok (.aload_n 0, 1) := by decide +kernel
theorem dX12_head_70 : decode cX12_head 70 = .ok (.dup, 1) := by decide +kernel
theorem dX12_head_71 : decode cX12_head 71 = .ok (.getfield 327, 3) := by decide +kernel
theorem dX12_head_74 : decode cX12_head 74 = .ok (.iconst 1, 1) := by decide +kernel
theorem dX12_head_75 : decode cX12_head 75 = .ok (.iadd, 1) := by decide +kernel
theorem dX12_head_76 : decode cX12_head 76 = .ok (.putfield 327, 3) := by decide +kernel
theorem dX12_head_79 : decode cX12_head 79 = .ok (.aload_n 0, 1) := by decide +kernel
theorem dX12_head_80 : decode cX12_head 80 = .ok (.getfield 128, 3) := by decide +kernel
theorem dX12_head_83 : decode cX12_head 83 = .ok (.aload_n 0, 1) := by decide +kernel
theorem dX12_head_84 : decode cX12_head 84 = .ok (.getfield 324, 3) := by decide +kernel
theorem dX12_head_87 : decode cX12_head 87 = .ok (.aload_n 0, 1) := by decide +kernel
theorem dX12_head_88 : decode cX12_head 88 = .ok (.getfield 85, 3) := by decide +kernel
theorem dX12_head_91 : decode cX12_head 91 = .ok (.iload 4, 2) := by decide +kernel
theorem dX12_head_93 : decode cX12_head 93 = .ok (.iaload, 1) := by decide +kernel
theorem dX12_head_94 : decode cX12_head 94 = .ok (.iastore, 1) := by decide +kernel
theorem dX12_head_95 : decode cX12_head 95 = .ok (.aload_n 0, 1) := by decide +kernel
theorem dX12_head_96 : decode cX12_head 96 = .ok (.getfield 131, 3) := by decide +kernel
theorem dX12_head_99 : decode cX12_head 99 = .ok (.aload_n 0, 1) := by decide +kernel
theorem dX12_head_100 : decode cX12_head 100 = .ok (.getfield 324, 3) := by decide +kernel
theorem dX12_head_103 : decode cX12_head 103 = .ok (.iload 5, 2) := by decide +kernel
theorem dX12_head_105 : decode cX12_head 105 = .ok (.iastore, 1) := by decide +kernel
theorem dX12_head_106 : decode cX12_head 106 = .ok (.aload_n 0, 1) := by decide +kernel
theorem dX12_head_107 : decode cX12_head 107 = .ok (.dup, 1) := by decide +kernel
theorem dX12_head_108 : decode cX12_head 108 = .ok (.getfield 324, 3) := by decide +kernel
theorem dX12_head_111 : decode cX12_head 111 = .ok (.iconst 1, 1) := by decide +kernel
theorem dX12_head_112 : decode cX12_head 112 = .ok (.iadd, 1) := by decide +kernel
theorem dX12_head_113 : decode cX12_head 113 = .ok (.putfield 324, 3) := by decide +kernel
theorem dX12_head_116 : decode cX12_head 116 = .ok (.aload_n 0, 1) := by decide +kernel
theorem dX12_head_117 : decode cX12_head 117 = .ok (.getfield 82, 3) := by decide +kernel
theorem dX12_head_120 : decode cX12_head 120 = .ok (.iload 4, 2) := by decide +kernel
theorem dX12_head_122 : decode cX12_head 122 = .ok (.iaload, 1) := by decide +kernel
theorem dX12_head_123 : decode cX12_head 123 = .ok (.istore 4, 2) := by decide +kernel
theorem dX12_head_125 : decode cX12_head 125 = .ok (.goto 303, 3) := by decide +kernel
theorem dX12_head_128 : decode cX12_head 128 = .ok (.iload 7, 2) := by decide +kernel
theorem dX12_head_130 : decode cX12_head 130 = .ok (.iconst 1, 1) := by decide +kernel
theorem dX12_head_131 : decode cX12_head 131 = .ok (.if_icmp .ne 84, 3) := by decide +kernel
theorem dX12_head_134 : decode cX12_head 134 = .ok (.aload_n 0, 1) := by decide +kernel
theorem dX12_head_135 : decode cX12_head 135 = .ok (.aload_n 0, 1) := by decide +kernel
theorem dX12_head_136 : decode cX12_head 136 = .ok (.getfield 79, 3) := by decide +kernel
theorem dX12_head_139 : decode cX12_head 139 = .ok (.iload 4, 2) := by decide +kernel
theorem dX12_head_141 : decode cX12_head 141 = .ok (.iaload, 1) := by decide +kernel
theorem dX12_head_142 : decode cX12_head 142 = .ok (.iload 5, 2) := by decide +kernel
theorem dX12_head_144 : decode cX12_head 144 = .ok (.invokevirtual 330, 3) := by decide +kernel
theorem dX12_head_147 : decode cX12_head 147 = .ok (.aload_n 0, 1) := by decide +kernel
theorem dX12_head_148 : decode cX12_head 148 = .ok (.getfield 315, 3) := by decide +kernel
theorem dX12_head_151 : decode cX12_head 151 = .ok (.ifCond .eq 22, 3) := by decide +kernel
theorem dX12_head_154 : decode cX12_head 154 = .ok (.aload_n 0, 1) := by decide +kernel
theorem dX12_head_155 : decode cX12_head 155 = .ok (.getfield 318, 3) := by decide +kernel
theorem dX12_head_158 : decode cX12_head 158 = .ok (.ifCond .ge 15, 3) := by decide +kernel
theorem dX12_head_161 : decode cX12_head 161 = .ok (.aload_n 0, 1) := by decide +kernel
theorem dX12_head_162 : decode cX12_head 162 = .ok (.getfield 318, 3) := by decide +kernel
theorem dX12_head_165 : decode cX12_head 165 = .ok (.istore 4, 2) := by decide +kernel
theorem dX12_head_167 : decode cX12_head 167 = .ok (.iconst 0, 1) := by decide +kernel
theorem dX12_head_168 : decode cX12_head 168 = .ok (.istore 5, 2) := by decide +kernel
theorem dX12_head_170 : decode cX12_head 170 = .ok (.goto 258, 3) := by decide +kernel
theorem dX12_head_173 : decode cX12_head 173 = .ok (.aload_n 0, 1) := by decide +kernel
theorem dX12_head_174 : decode cX12_head 174 = .ok (.getfield 315, 3) := by decide +kernel
theorem dX12_head_177 : decode cX12_head 177 = .ok (.ifCond .eq 251, 3) := by decide +kernel
theorem dX12_head_180 : decode cX12_head 180 = .ok (.aload_n 0, 1) := by decide +kernel
theorem dX12_head_181 : decode cX12_head 181 = .ok (.invokevirtual 309, 3) := by decide +kernel
theorem dX12_head_184 : decode cX12_head 184 = .ok (.ifCond .eq 244, 3) := by decide +kernel
theorem dX12_head_187 : decode cX12_head 187 = .ok (.aload_n 0, 1) := by decide +kernel
theorem dX12_head_188 : decode cX12_head 188 = .ok (.dup, 1) := by decide +kernel
theorem dX12_head_189 : decode cX12_head 189 = .ok (.getfield 333, 3) := by decide +kernel
theorem dX12_head_192 : decode cX12_head 192 = .ok (.iconst 1, 1) := by decide +kernel
theorem dX12_head_193 : decode cX12_head 193 = .ok (.iadd, 1) := by decide +kernel
theorem dX12_head_194 : decode cX12_head 194 = .ok (.putfield 333, 3) := by decide +kernel
theorem dX12_head_197 : decode cX12_head 197 = .ok (.aload_n 0, 1) := by decide +kernel
theorem dX12_head_198 : decode cX12_head 198 = .ok (.getfield 318, 3) := by decide +kernel
theorem dX12_head_201 : decode cX12_head 201 = .ok (.istore 4, 2) := by decide +kernel
theorem dX12_head_203 : decode cX12_head 203 = .ok (.aload_n 0, 1) := by decide +kernel
theorem dX12_head_204 : decode cX12_head 204 = .ok (.getfield 321, 3) := by decide +kernel
theorem dX12_head_207 : decode cX12_head 207 = .ok (.istore 5, 2) := by decide +kernel
theorem dX12_head_209 : decode cX12_head 209 = .ok (.iconst 1, 1) := by decide +kernel
theorem dX12_head_210 : decode cX12_head 210 = .ok (.istore 6, 2) := by decide +kernel
theorem dX12_head_212 : decode cX12_head 212 = .ok (.goto 216, 3) := by decide +kernel
theorem dX12_head_215 : decode cX12_head 215 = .ok (.iload 7, 2) := by decide +kernel
theorem dX12_head_217 : decode cX12_head 217 = .ok (.iconst 2, 1) := by decide +kernel
theorem dX12_head_218 : decode cX12_head 218 = .ok (.if_icmp .ne 59, 3) := by decide +kernel
theorem dX12_head_221 : decode cX12_head 221 = .ok (.aload_n 0, 1) := by decide +kernel
theorem dX12_head_222 : decode cX12_head 222 = .ok (.getfield 66, 3) := by decide +kernel
theorem dX12_head_225 : decode cX12_head 225 = .ok (.aload_n 0, 1) := by decide +kernel
theorem dX12_head_226 : decode cX12_head 226 = .ok (.getfield 79, 3) := by decide +kernel
theorem dX12_head_229 : decode cX12_head 229 = .ok (.iload 4, 2) := by decide +kernel
theorem dX12_head_231 : decode cX12_head 231 = .ok (.iaload, 1) := by decide +kernel
theorem dX12_head_232 : decode cX12_head 232 = .ok (.iaload, 1) := by decide +kernel
theorem dX12_head_233 : decode cX12_head 233 = .ok (.ifCond .lt 44, 3) := by decide +kernel
theorem dX12_head_236 : decode cX12_head 236 = .ok (.aload_n 0, 1) := by decide +kernel
theorem dX12_head_237 : decode cX12_head 237 = .ok (.invokevirtual 309, 3) := by decide +kernel
theorem dX12_head_240 : decode cX12_head 240 = .ok (.istore 6, 2) := by decide +kernel
theorem dX12_head_242 : decode cX12_head 242 = .ok (.iload 6, 2) := by decide +kernel
theorem dX12_head_244 : decode cX12_head 244 = .ok (.ifCond .eq 184, 3) := by decide +kernel
theorem dX12_head_247 : decode cX12_head 247 = .ok (.aload_n 0, 1) := by decide +kernel
theorem dX12_head_248 : decode cX12_head 248 = .ok (.dup, 1) := by decide +kernel
theorem dX12_head_249 : decode cX12_head 249 = .ok (.getfield 336, 3) := by decide +kernel
theorem dX12_head_252 : decode cX12_head 252 = .ok (.iconst 1, 1) := by decide +kernel
theorem dX12_head_253 : decode cX12_head 253 = .ok (.iadd, 1) := by decide +kernel
theorem dX12_head_254 : decode cX12_head 254 = .ok (.putfield 336, 3) := by decide +kernel
theorem dX12_head_257 : decode cX12_head 257 = .ok (.aload_n 0, 1) := by decide +kernel
theorem dX12_head_258 : decode cX12_head 258 = .ok (.getfield 66, 3) := by decide +kernel
theorem dX12_head_261 : decode cX12_head 261 = .ok (.aload_n 0, 1) := by decide +kernel
theorem dX12_head_262 : decode cX12_head 262 = .ok (.getfield 79, 3) := by decide +kernel
theorem dX12_head_265 : decode cX12_head 265 = .ok (.iload 4, 2) := by decide +kernel
theorem dX12_head_267 : decode cX12_head 267 = .ok (.iaload, 1) := by decide +kernel
theorem dX12_head_268 : decode cX12_head 268 = .ok (.iaload, 1) := by decide +kernel
theorem dX12_head_269 : decode cX12_head 269 = .ok (.istore 4, 2) := by decide +kernel
theorem dX12_head_271 : decode cX12_head 271 = .ok (.iconst 0, 1) := by decide +kernel
theorem dX12_head_272 : decode cX12_head 272 = .ok (.istore 5, 2) := by decide +kernel
theorem dX12_head_274 : decode cX12_head 274 = .ok (.goto 154, 3) := by decide +kernel
theorem dX12_head_277 : decode cX12_head 277 = .ok (.iload 7, 2) := by decide +kernel
theorem dX12_head_279 : decode cX12_head 279 = .ok (.iconst 4, 1) := by decide +kernel
theorem dX12_head_280 : decode cX12_head 280 = .ok (.if_icmp .ne 87, 3) := by decide +kernel
theorem dX12_head_283 : decode cX12_head 283 = .ok (.aload_n 0, 1) := by decide +kernel
theorem dX12_head_284 : decode cX12_head 284 = .ok (.getfield 324, 3) := by decide +kernel
theorem dX12_head_287 : decode cX12_head 287 = .ok (.iload_n 3, 1) := by decide +kernel
theorem dX12_head_288 : decode cX12_head 288 = .ok (.if_icmp .le 79, 3) := by decide +kernel
theorem dX12_head_291 : decode cX12_head 291 = .ok (.aload_n 0, 1) := by decide +kernel
theorem dX12_head_292 : decode cX12_head 292 = .ok (.invokevirtual 309, 3) := by decide +kernel
theorem dX12_head_295 : decode cX12_head 295 = .ok (.istore 6, 2) := by decide +kernel
theorem dX12_head_297 : decode cX12_head 297 = .ok (.iload 6, 2) := by decide +kernel
theorem dX12_head_299 : decode cX12_head 299 = .ok (.ifCond .eq 129, 3) := by decide +kernel
theorem dX12_head_302 : decode cX12_head 302 = .ok (.aload_n 0, 1) := by decide +kernel
theorem dX12_head_303 : decode cX12_head 303 = .ok (.dup, 1) := by decide +kernel
theorem dX12_head_304 : decode cX12_head 304 = .ok (.getfield 339, 3) := by decide +kernel
theorem dX12_head_307 : decode cX12_head 307 = .ok (.iconst 1, 1) := by decide +kernel
theorem dX12_head_308 : decode cX12_head 308 = .ok (.iadd, 1) := by decide +kernel
theorem dX12_head_309 : decode cX12_head 309 = .ok (.putfield 339, 3) := by decide +kernel
theorem dX12_head_312 : decode cX12_head 312 = .ok (.aload_n 0, 1) := by decide +kernel
theorem dX12_head_313 : decode cX12_head 313 = .ok (.dup, 1) := by decide +kernel
theorem dX12_head_314 : decode cX12_head 314 = .ok (.getfield 324, 3) := by decide +kernel
theorem dX12_head_317 : decode cX12_head 317 = .ok (.iconst 1, 1) := by decide +kernel
theorem dX12_head_318 : decode cX12_head 318 = .ok (.isub, 1) := by decide +kernel
theorem dX12_head_319 : decode cX12_head 319 = .ok (.putfield 324, 3) := by decide +kernel
theorem dX12_head_322 : decode cX12_head 322 = .ok (.aload_n 0, 1) := by decide +kernel
theorem dX12_head_323 : decode cX12_head 323 = .ok (.iload 5, 2) := by decide +kernel
theorem dX12_head_325 : decode cX12_head 325 = .ok (.aload_n 0, 1) := by decide +kernel
theorem dX12_head_326 : decode cX12_head 326 = .ok (.getfield 100, 3) := by decide +kernel
theorem dX12_head_329 : decode cX12_head 329 = .ok (.iload 4, 2) := by decide +kernel
theorem dX12_head_331 : decode cX12_head 331 = .ok (.iaload, 1) := by decide +kernel
theorem dX12_head_332 : decode cX12_head 332 = .ok (.aload_n 0, 1) := by decide +kernel
theorem dX12_head_333 : decode cX12_head 333 = .ok (.getfield 128, 3) := by decide +kernel
theorem dX12_head_336 : decode cX12_head 336 = .ok (.aload_n 0, 1) := by decide +kernel
theorem dX12_head_337 : decode cX12_head 337 = .ok (.getfield 324, 3) := by decide +kernel
theorem dX12_head_340 : decode cX12_head 340 = .ok (.iaload, 1) := by decide +kernel
theorem dX12_head_341 : decode cX12_head 341 = .ok (.aload_n 0, 1) := by decide +kernel
theorem dX12_head_342 : decode cX12_head 342 = .ok (.getfield 131, 3) := by decide +kernel
theorem dX12_head_345 : decode cX12_head 345 = .ok (.aload_n 0, 1) := by decide +kernel
theorem dX12_head_346 : decode cX12_head 346 = .ok (.getfield 324, 3) := by decide +kernel
theorem dX12_head_349 : decode cX12_head 349 = .ok (.iaload, 1) := by decide +kernel
theorem dX12_head_350 : decode cX12_head 350 = .ok (.invokevirtual 342, 3) := by decide +kernel
theorem dX12_head_353 : decode cX12_head 353 = .ok (.istore 5, 2) := by decide +kernel
theorem dX12_head_355 : decode cX12_head 355 = .ok (.aload_n 0, 1) := by decide +kernel
theorem dX12_head_356 : decode cX12_head 356 = .ok (.getfield 85, 3) := by decide +kernel
theorem dX12_head_359 : decode cX12_head 359 = .ok (.iload 4, 2) := by decide +kernel
theorem dX12_head_361 : decode cX12_head 361 = .ok (.iaload, 1) := by decide +kernel
theorem dX12_head_362 : decode cX12_head 362 = .ok (.istore 4, 2) := by decide +kernel
theorem dX12_head_364 : decode cX12_head 364 = .ok (.goto 64, 3) := by decide +kernel
theorem dX12_head_367 : decode cX12_head 367 = .ok (.iload 7, 2) := by decide +kernel
theorem dX12_head_369 : decode cX12_head 369 = .ok (.bipush 6, 2) := by decide +kernel
theorem dX12_head_371 : decode cX12_head 371 = .ok (.if_icmp .ne 57, 3) := by decide +kernel
theorem dX12_head_374 : decode cX12_head 374 = .ok (.aload_n 0, 1) := by decide +kernel
theorem dX12_head_375 : decode cX12_head 375 = .ok (.invokevirtual 309, 3) := by decide +kernel
theorem dX12_head_378 : decode cX12_head 378 = .ok (.istore 6, 2) := by decide +kernel
theorem dX12_head_380 : decode cX12_head 380 = .ok (.iload 6, 2) := by decide +kernel
theorem dX12_head_382 : decode cX12_head 382 = .ok (.ifCond .eq 46, 3) := by decide +kernel
theorem dX12_head_385 : decode cX12_head 385 = .ok (.aload_n 0, 1) := by decide +kernel
theorem dX12_head_386 : decode cX12_head 386 = .ok (.dup, 1) := by decide +kernel
theorem dX12_head_387 : decode cX12_head 387 = .ok (.getfield 345, 3) := by decide +kernel
theorem dX12_head_390 : decode cX12_head 390 = .ok (.iconst 1, 1) := by decide +kernel
theorem dX12_head_391 : decode cX12_head 391 = .ok (.iadd, 1) := by decide +kernel
theorem dX12_head_392 : decode cX12_head 392 = .ok (.putfield 345, 3) := by decide +kernel
theorem dX12_head_395 : decode cX12_head 395 = .ok (.aload_n 0, 1) := by decide +kernel
theorem dX12_head_396 : decode cX12_head 396 = .ok (.iload 5, 2) := by decide +kernel
theorem dX12_head_398 : decode cX12_head 398 = .ok (.aload_n 0, 1) := by decide +kernel
theorem dX12_head_399 : decode cX12_head 399 = .ok (.getfield 100, 3) := by decide +kernel
theorem dX12_head_402 : decode cX12_head 402 = .ok (.iload 4, 2) := by decide +kernel
theorem dX12_head_404 : decode cX12_head 404 = .ok (.iaload, 1) := by decide +kernel
theorem dX12_head_405 : decode cX12_head 405 = .ok (.aload_n 0, 1) := by decide +kernel
theorem dX12_head_406 : decode cX12_head 406 = .ok (.getfield 82, 3) := by decide +kernel
theorem dX12_head_409 : decode cX12_head 409 = .ok (.iload 4, 2) := by decide +kernel
theorem dX12_head_411 : decode cX12_head 411 = .ok (.iaload, 1) := by decide +kernel
theorem dX12_head_412 : decode cX12_head 412 = .ok (.iload 5, 2) := by decide +kernel
theorem dX12_head_414 : decode cX12_head 414 = .ok (.invokevirtual 342, 3) := by decide +kernel
theorem dX12_head_417 : decode cX12_head 417 = .ok (.istore 5, 2) := by decide +kernel
theorem dX12_head_419 : decode cX12_head 419 = .ok (.aload_n 0, 1) := by decide +kernel
theorem dX12_head_420 : decode cX12_head 420 = .ok (.getfield 85, 3) := by decide +kernel
theorem dX12_head_423 : decode cX12_head 423 = .ok (.iload 4, 2) := by decide +kernel
theorem dX12_head_425 : decode cX12_head 425 = .ok (.iaload, 1) := by decide +kernel
theorem dX12_head_426 : decode cX12_head 426 = .ok (.istore 4, 2) := by decide +kernel
theorem dX12_head_428 : decode cX12_head 428 = .ok (.goto (-403), 3) := by decide +kernel
theorem dX12_head_431 : decode cX12_head 431 = .ok (.aload_n 0, 1) := by decide +kernel
theorem dX12_head_432 : decode cX12_head 432 = .ok (.iload 4, 2) := by decide +kernel
theorem dX12_head_434 : decode cX12_head 434 = .ok (.putfield 348, 3) := by decide +kernel
theorem dX12_head_437 : decode cX12_head 437 = .ok (.aload_n 0, 1) := by decide +kernel
theorem dX12_head_438 : decode cX12_head 438 = .ok (.iload 5, 2) := by decide +kernel
theorem dX12_head_440 : decode cX12_head 440 = .ok (.putfield 351, 3) := by decide +kernel
theorem dX12_head_443 : decode cX12_head 443 = .ok (.return_, 1) := by decide +kernel
theorem dX12_kindOf_0 : decode cX12_kindOf 0 = .ok (.iload_n 1, 1) := by decide +kernel
theorem dX12_kindOf_1 : decode cX12_kindOf 1 = .ok (.ifCond .ge 7, 3) := by decide +kernel
theorem dX12_kindOf_4 : decode cX12_kindOf 4 = .ok (.iconst (-1), 1) := by decide +kernel
theorem dX12_kindOf_5 : decode cX12_kindOf 5 = .ok (.goto 9, 3) := by decide +kernel
theorem dX12_kindOf_8 : decode cX12_kindOf 8 = .ok (.aload_n 0, 1) := by decide +kernel
theorem dX12_kindOf_9 : decode cX12_kindOf 9 = .ok (.getfield 76, 3) := by decide +kernel
theorem dX12_kindOf_12 : decode cX12_kindOf 12 = .ok (.iload_n 1, 1) := by decide +kernel
theorem dX12_kindOf_13 : decode cX12_kindOf 13 = .ok (.iaload, 1) := by decide +kernel
theorem dX12_kindOf_14 : decode cX12_kindOf 14 = .ok (.ireturn, 1) := by decide +kernel
theorem dX12_inside_0 : decode cX12_inside 0 = .ok (.aload_n 0, 1) := by decide +kernel
theorem dX12_inside_1 : decode cX12_inside 1 = .ok (.iload_n 2, 1) := by decide +kernel
theorem dX12_inside_2 : decode cX12_inside 2 = .ok (.aload_n 0, 1) := by decide +kernel
theorem dX12_inside_3 : decode cX12_inside 3 = .ok (.getfield 100, 3) := by decide +kernel
theorem dX12_inside_6 : decode cX12_inside 6 = .ok (.iload_n 1, 1) := by decide +kernel
theorem dX12_inside_7 : decode cX12_inside 7 = .ok (.iaload, 1) := by decide +kernel
theorem dX12_inside_8 : decode cX12_inside 8 = .ok (.iload_n 3, 1) := by decide +kernel
theorem dX12_inside_9 : decode cX12_inside 9 = .ok (.iconst 0, 1) := by decide +kernel
theorem dX12_inside_10 : decode cX12_inside 10 = .ok (.invokevirtual 342, 3) := by decide +kernel
theorem dX12_inside_13 : decode cX12_inside 13 = .ok (.ireturn, 1) := by decide +kernel
theorem dX12_compare_0 : decode cX12_compare 0 = .ok (.aload_n 0, 1) := by decide +kernel
theorem dX12_compare_1 : decode cX12_compare 1 = .ok (.iload 5, 2) := by decide +kernel
theorem dX12_compare_3 : decode cX12_compare 3 = .ok (.invokevirtual 354, 3) := by decide +kernel
theorem dX12_compare_6 : decode cX12_compare 6 = .ok (.ifCond .ne 5, 3) := by decide +kernel
theorem dX12_compare_9 : decode cX12_compare 9 = .ok (.iconst 0, 1) := by decide +kernel
theorem dX12_compare_10 : decode cX12_compare 10 = .ok (.ireturn, 1) := by decide +kernel
theorem dX12_compare_11 : decode cX12_compare 11 = .ok (.aload_n 0, 1) := by decide +kernel
theorem dX12_compare_12 : decode cX12_compare 12 = .ok (.getfield 324, 3) := by decide +kernel
theorem dX12_compare_15 : decode cX12_compare 15 = .ok (.istore 6, 2) := by decide +kernel
theorem dX12_compare_17 : decode cX12_compare 17 = .ok (.aload_n 0, 1) := by decide +kernel
theorem dX12_compare_18 : decode cX12_compare 18 = .ok (.iload_n 1, 1) := by decide +kernel
theorem dX12_compare_19 : decode cX12_compare 19 = .ok (.iload_n 2, 1) := by decide +kernel
theorem dX12_compare_20 : decode cX12_compare 20 = .ok (.invokevirtual 357, 3) := by decide +kernel
theorem dX12_compare_23 : decode cX12_compare 23 = .ok (.aload_n 0, 1) := by decide +kernel
theorem dX12_compare_24 : decode cX12_compare 24 = .ok (.getfield 348, 3) := by decide +kernel
theorem dX12_compare_27 : decode cX12_compare 27 = .ok (.istore 7, 2) := by decide +kernel
theorem dX12_compare_29 : decode cX12_compare 29 = .ok (.aload_n 0, 1) := by decide +kernel
theorem dX12_compare_30 : decode cX12_compare 30 = .ok (.getfield 351, 3) := by decide +kernel
theorem dX12_compare_33 : decode cX12_compare 33 = .ok (.istore 8, 2) := by decide +kernel
theorem dX12_compare_35 : decode cX12_compare 35 = .ok (.aload_n 0, 1) := by decide +kernel
theorem dX12_compare_36 : decode cX12_compare 36 = .ok (.getfield 324, 3) := by decide +kernel
theorem dX12_compare_39 : decode cX12_compare 39 = .ok (.istore 9, 2) := by decide +kernel
theorem dX12_compare_41 : decode cX12_compare 41 = .ok (.aload_n 0, 1) := by decide +kernel
theorem dX12_compare_42 : decode cX12_compare 42 = .ok (.iload_n 3, 1) := by decide +kernel
theorem dX12_compare_43 : decode cX12_compare 43 = .ok (.iload 4, 2) := by decide +kernel
theorem dX12_compare_45 : decode cX12_compare 45 = .ok (.invokevirtual 357, 3) := by decide +kernel
theorem dX12_compare_48 : decode cX12_compare 48 = .ok (.aload_n 0, 1) := by decide +kernel
theorem dX12_compare_49 : decode cX12_compare 49 = .ok (.getfield 348, 3) := by decide +kernel
theorem dX12_compare_52 : decode cX12_compare 52 = .ok (.istore 10, 2) := by decide +kernel
theorem dX12_compare_54 : decode cX12_compare 54 = .ok (.aload_n 0, 1) := by decide +kernel
theorem dX12_compare_55 : decode cX12_compare 55 = .ok (.getfield 351, 3) := by decide +kernel
theorem dX12_compare_58 : decode cX12_compare 58 = .ok (.istore 11, 2) := by decide +kernel
theorem dX12_compare_60 : decode cX12_compare 60 = .ok (.aload_n 0, 1) := by decide +kernel
theorem dX12_compare_61 : decode cX12_compare 61 = .ok (.getfield 150, 3) := by decide +kernel
theorem dX12_compare_64 : decode cX12_compare 64 = .ok (.ifCond .ne 28, 3) := by decide +kernel
theorem dX12_compare_67 : decode cX12_compare 67 = .ok (.aload_n 0, 1) := by decide +kernel
theorem dX12_compare_68 : decode cX12_compare 68 = .ok (.iload 7, 2) := by decide +kernel
theorem dX12_compare_70 : decode cX12_compare 70 = .ok (.iload 8, 2) := by decide +kernel
theorem dX12_compare_72 : decode cX12_compare 72 = .ok (.iload 9, 2) := by decide +kernel
theorem dX12_compare_74 : decode cX12_compare 74 = .ok (.iload 6, 2) := by decide +kernel
theorem dX12_compare_76 : decode cX12_compare 76 = .ok (.iload 10, 2) := by decide +kernel
theorem dX12_compare_78 : decode cX12_compare 78 = .ok (.iload 11, 2) := by decide +kernel
theorem dX12_compare_80 : decode cX12_compare 80 = .ok (.iload 5, 2) := by decide +kernel
theorem dX12_compare_82 : decode cX12_compare 82 = .ok (.invokevirtual 359, 3) := by decide +kernel
theorem dX12_compare_85 : decode cX12_compare 85 = .ok (.ifCond .eq 7, 3) := by decide +kernel
theorem dX12_compare_88 : decode cX12_compare 88 = .ok (.iconst 1, 1) := by decide +kernel
theorem dX12_compare_89 : decode cX12_compare 89 = .ok (.goto 4, 3) := by decide +kernel
theorem dX12_compare_92 : decode cX12_compare 92 = .ok (.iconst 0, 1) := by decide +kernel
theorem dX12_compare_93 : decode cX12_compare 93 = .ok (.istore 12, 2) := by decide +kernel
theorem dX12_compare_95 : decode cX12_compare 95 = .ok (.aload_n 0, 1) := by decide +kernel
theorem dX12_compare_96 : decode cX12_compare 96 = .ok (.iload 6, 2) := by decide +kernel
theorem dX12_compare_98 : decode cX12_compare 98 = .ok (.putfield 324, 3) := by decide +kernel
theorem dX12_compare_101 : decode cX12_compare 101 = .ok (.iload 12, 2) := by decide +kernel
theorem dX12_compare_103 : decode cX12_compare 103 = .ok (.ireturn, 1) := by decide +kernel
theorem dX12_alike_0 : decode cX12_alike 0 = .ok (.aload_n 0, 1) := by decide +kernel
theorem dX12_alike_1 : decode cX12_alike 1 = .ok (.iload_n 1, 1) := by decide +kernel
theorem dX12_alike_2 : decode cX12_alike 2 = .ok (.invokevirtual 363, 3) := by decide +kernel
theorem dX12_alike_5 : decode cX12_alike 5 = .ok (.istore 8, 2) := by decide +kernel
theorem dX12_alike_7 : decode cX12_alike 7 = .ok (.aload_n 0, 1) := by decide +kernel
theorem dX12_alike_8 : decode cX12_alike 8 = .ok (.iload 5, 2) := by decide +kernel
theorem dX12_alike_10 : decode cX12_alike 10 = .ok (.invokevirtual 363, 3) := by decide +kernel
theorem dX12_alike_13 : decode cX12_alike 13 = .ok (.istore 9, 2) := by decide +kernel
theorem dX12_alike_15 : decode cX12_alike 15 = .ok (.iload 8, 2) := by decide +kernel
theorem dX12_alike_17 : decode cX12_alike 17 = .ok (.iload 9, 2) := by decide +kernel
theorem dX12_alike_19 : decode cX12_alike 19 = .ok (.if_icmp .ne 112, 3) := by decide +kernel
theorem dX12_alike_22 : decode cX12_alike 22 = .ok (.iload 8, 2) := by decide +kernel
theorem dX12_alike_24 : decode cX12_alike 24 = .ok (.iconst 4, 1) := by decide +kernel
theorem dX12_alike_25 : decode cX12_alike 25 = .ok (.if_icmp .eq 9, 3) := by decide +kernel
theorem dX12_alike_28 : decode cX12_alike 28 = .ok (.iload 8, 2) := by decide +kernel
theorem dX12_alike_30 : decode cX12_alike 30 = .ok (.iconst 5, 1) := by decide +kernel
theorem dX12_alike_31 : decode cX12_alike 31 = .ok (.if_icmp .ne 100, 3) := by decide +kernel
theorem dX12_alike_34 : decode cX12_alike 34 = .ok (.aload_n 0, 1) := by decide +kernel
theorem dX12_alike_35 : decode cX12_alike 35 = .ok (.aload_n 0, 1) := by decide +kernel
theorem dX12_alike_36 : decode cX12_alike 36 = .ok (.getfield 82, 3) := by decide +kernel
theorem dX12_alike_39 : decode cX12_alike 39 = .ok (.iload_n 1, 1) := by decide +kernel
theorem dX12_alike_40 : decode cX12_alike 40 = .ok (.iaload, 1) := by decide +kernel
theorem dX12_alike_41 : decode cX12_alike 41 = .ok (.iload_n 2, 1) := by decide +kernel
theorem dX12_alike_42 : decode cX12_alike 42 = .ok (.aload_n 0, 1) := by decide +kernel
theorem dX12_alike_43 : decode cX12_alike 43 = .ok (.getfield 82, 3) := by decide +kernel
theorem dX12_alike_46 : decode cX12_alike 46 = .ok (.iload 5, 2) := by decide +kernel
theorem dX12_alike_48 : decode cX12_alike 48 = .ok (.iaload, 1) := by decide +kernel
theorem dX12_alike_49 : decode cX12_alike 49 = .ok (.iload 6, 2) := by decide +kernel
theorem dX12_alike_51 : decode cX12_alike 51 = .ok (.iload 7, 2) := by decide +kernel
theorem dX12_alike_53 : decode cX12_alike 53 = .ok (.iconst 1, 1) := by decide +kernel
theorem dX12_alike_54 : decode cX12_alike 54 = .ok (.iadd, 1) := by decide +kernel
theorem dX12_alike_55 : decode cX12_alike 55 = .ok (.invokevirtual 366, 3) := by decide +kernel
theorem dX12_alike_58 : decode cX12_alike 58 = .ok (.ifCond .ne 5, 3) := by decide +kernel
theorem dX12_alike_61 : decode cX12_alike 61 = .ok (.iconst 0, 1) := by decide +kernel
theorem dX12_alike_62 : decode cX12_alike 62 = .ok (.ireturn, 1) := by decide +kernel
theorem dX12_alike_63 : decode cX12_alike 63 = .ok (.ldc_w 370, 3) := by decide +kernel
theorem dX12_alike_66 : decode cX12_alike 66 = .ok (.aload_n 0, 1) := by decide +kernel
