theorem dX12_bind_30 : decode cX12_bind 30 = .ok (.iadd, 1) := by decide +kernel
theorem dX12_bind_31 : decode cX12_bind 31 = .ok (.putfield 409, 3) := by decide +kernel
theorem dX12_bind_34 : decode cX12_bind 34 = .ok (.return_, 1) := by decide +kernel
theorem dX12_judge_0 : decode cX12_judge 0 = .ok (.aload_n 0, 1) := by decide +kernel
theorem dX12_judge_1 : decode cX12_judge 1 = .ok (.getfield 150, 3) := by decide +kernel
theorem dX12_judge_4 : decode cX12_judge 4 = .ok (.ifCond .eq 4, 3) := by decide +kernel
theorem dX12_judge_7 : decode cX12_judge 7 = .ok (.return_, 1) := by decide +kernel
theorem dX12_judge_8 : decode cX12_judge 8 = .ok (.aload_n 0, 1) := by decide +kernel
theorem dX12_judge_9 : decode cX12_judge 9 = .ok (.getfield 76, 3) := by decide +kernel
theorem dX12_judge_12 : decode cX12_judge 12 = .ok (.iload_n 1, 1) := by decide +kernel
theorem dX12_judge_13 : decode cX12_judge 13 = .ok (.iaload, 1) := by decide +kernel
theorem dX12_judge_14 : decode cX12_judge 14 = .ok (.tableswitch 125 4 7 #[30, 39, 48, 116], 30) := by decide +kernel
theorem dX12_judge_44 : decode cX12_judge 44 = .ok (.aload_n 0, 1) := by decide +kernel
theorem dX12_judge_45 : decode cX12_judge 45 = .ok (.iload_n 1, 1) := by decide +kernel
theorem dX12_judge_46 : decode cX12_judge 46 = .ok (.iload_n 2, 1) := by decide +kernel
theorem dX12_judge_47 : decode cX12_judge 47 = .ok (.invokevirtual 424, 3) := by decide +kernel
theorem dX12_judge_50 : decode cX12_judge 50 = .ok (.goto 94, 3) := by decide +kernel
theorem dX12_judge_53 : decode cX12_judge 53 = .ok (.aload_n 0, 1) := by decide +kernel
theorem dX12_judge_54 : decode cX12_judge 54 = .ok (.iload_n 1, 1) := by decide +kernel
theorem dX12_judge_55 : decode cX12_judge 55 = .ok (.iload_n 2, 1) := by decide +kernel
theorem dX12_judge_56 : decode cX12_judge 56 = .ok (.invokevirtual 427, 3) := by decide +kernel
theorem dX12_judge_59 : decode cX12_judge 59 = .ok (.goto 85, 3) := by decide +kernel
theorem dX12_judge_62 : decode cX12_judge 62 = .ok (.aload_n 0, 1) := by decide +kernel
theorem dX12_judge_63 : decode cX12_judge 63 = .ok (.aload_n 0, 1) := by decide +kernel
theorem dX12_judge_64 : decode cX12_judge 64 = .ok (.getfield 82, 3) := by decide +kernel
theorem dX12_judge_67 : decode cX12_judge 67 = .ok (.iload_n 1, 1) := by decide +kernel
theorem dX12_judge_68 : decode cX12_judge 68 = .ok (.iaload, 1) := by decide +kernel
theorem dX12_judge_69 : decode cX12_judge 69 = .ok (.iload_n 2, 1) := by decide +kernel
theorem dX12_judge_70 : decode cX12_judge 70 = .ok (.invokevirtual 421, 3) := by decide +kernel
theorem dX12_judge_73 : decode cX12_judge 73 = .ok (.aload_n 0, 1) := by decide +kernel
theorem dX12_judge_74 : decode cX12_judge 74 = .ok (.getfield 150, 3) := by decide +kernel
theorem dX12_judge_77 : decode cX12_judge 77 = .ok (.ifCond .eq 4, 3) := by decide +kernel
theorem dX12_judge_80 : decode cX12_judge 80 = .ok (.return_, 1) := by decide +kernel
theorem dX12_judge_81 : decode cX12_judge 81 = .ok (.aload_n 0, 1) := by decide +kernel
theorem dX12_judge_82 : decode cX12_judge 82 = .ok (.iload_n 1, 1) := by decide +kernel
theorem dX12_judge_83 : decode cX12_judge 83 = .ok (.aload_n 0, 1) := by decide +kernel
theorem dX12_judge_84 : decode cX12_judge 84 = .ok (.getfield 403, 3) := by decide +kernel
theorem dX12_judge_87 : decode cX12_judge 87 = .ok (.aload_n 0, 1) := by decide +kernel
theorem dX12_judge_88 : decode cX12_judge 88 = .ok (.getfield 406, 3) := by decide +kernel
theorem dX12_judge_91 : decode cX12_judge 91 = .ok (.invokevirtual 430, 3) := by decide +kernel
theorem dX12_judge_94 : decode cX12_judge 94 = .ok (.aload_n 0, 1) := by decide +kernel
theorem dX12_judge_95 : decode cX12_judge 95 = .ok (.aload_n 0, 1) := by decide +kernel
theorem dX12_judge_96 : decode cX12_judge 96 = .ok (.getfield 85, 3) := by decide +kernel
theorem dX12_judge_99 : decode cX12_judge 99 = .ok (.iload_n 1, 1) := by decide +kernel
theorem dX12_judge_100 : decode cX12_judge 100 = .ok (.iaload, 1) := by decide +kernel
theorem dX12_judge_101 : decode cX12_judge 101 = .ok (.aload_n 0, 1) := by decide +kernel
theorem dX12_judge_102 : decode cX12_judge 102 = .ok (.iload_n 2, 1) := by decide +kernel
theorem dX12_judge_103 : decode cX12_judge 103 = .ok (.iload_n 1, 1) := by decide +kernel
theorem dX12_judge_104 : decode cX12_judge 104 = .ok (.aload_n 0, 1) := by decide +kernel
theorem dX12_judge_105 : decode cX12_judge 105 = .ok (.getfield 82, 3) := by decide +kernel
theorem dX12_judge_108 : decode cX12_judge 108 = .ok (.iload_n 1, 1) := by decide +kernel
theorem dX12_judge_109 : decode cX12_judge 109 = .ok (.iaload, 1) := by decide +kernel
theorem dX12_judge_110 : decode cX12_judge 110 = .ok (.iload_n 2, 1) := by decide +kernel
theorem dX12_judge_111 : decode cX12_judge 111 = .ok (.invokevirtual 342, 3) := by decide +kernel
theorem dX12_judge_114 : decode cX12_judge 114 = .ok (.invokevirtual 421, 3) := by decide +kernel
theorem dX12_judge_117 : decode cX12_judge 117 = .ok (.aload_n 0, 1) := by decide +kernel
theorem dX12_judge_118 : decode cX12_judge 118 = .ok (.dup, 1) := by decide +kernel
theorem dX12_judge_119 : decode cX12_judge 119 = .ok (.getfield 409, 3) := by decide +kernel
theorem dX12_judge_122 : decode cX12_judge 122 = .ok (.iconst 1, 1) := by decide +kernel
theorem dX12_judge_123 : decode cX12_judge 123 = .ok (.isub, 1) := by decide +kernel
theorem dX12_judge_124 : decode cX12_judge 124 = .ok (.putfield 409, 3) := by decide +kernel
theorem dX12_judge_127 : decode cX12_judge 127 = .ok (.goto 17, 3) := by decide +kernel
theorem dX12_judge_130 : decode cX12_judge 130 = .ok (.aload_n 0, 1) := by decide +kernel
theorem dX12_judge_131 : decode cX12_judge 131 = .ok (.iload_n 1, 1) := by decide +kernel
theorem dX12_judge_132 : decode cX12_judge 132 = .ok (.iload_n 2, 1) := by decide +kernel
theorem dX12_judge_133 : decode cX12_judge 133 = .ok (.invokevirtual 434, 3) := by decide +kernel
theorem dX12_judge_136 : decode cX12_judge 136 = .ok (.goto 8, 3) := by decide +kernel
theorem dX12_judge_139 : decode cX12_judge 139 = .ok (.aload_n 0, 1) := by decide +kernel
theorem dX12_judge_140 : decode cX12_judge 140 = .ok (.iload_n 1, 1) := by decide +kernel
theorem dX12_judge_141 : decode cX12_judge 141 = .ok (.invokevirtual 437, 3) := by decide +kernel
theorem dX12_judge_144 : decode cX12_judge 144 = .ok (.return_, 1) := by decide +kernel
theorem dX12_judgeProduct_0 : decode cX12_judgeProduct 0 = .ok (.aload_n 0, 1) := by decide +kernel
theorem dX12_judgeProduct_1 : decode cX12_judgeProduct 1 = .ok (.aload_n 0, 1) := by decide +kernel
theorem dX12_judgeProduct_2 : decode cX12_judgeProduct 2 = .ok (.getfield 82, 3) := by decide +kernel
theorem dX12_judgeProduct_5 : decode cX12_judgeProduct 5 = .ok (.iload_n 1, 1) := by decide +kernel
theorem dX12_judgeProduct_6 : decode cX12_judgeProduct 6 = .ok (.iaload, 1) := by decide +kernel
theorem dX12_judgeProduct_7 : decode cX12_judgeProduct 7 = .ok (.iload_n 2, 1) := by decide +kernel
theorem dX12_judgeProduct_8 : decode cX12_judgeProduct 8 = .ok (.invokevirtual 440, 3) := by decide +kernel
theorem dX12_judgeProduct_11 : decode cX12_judgeProduct 11 = .ok (.istore_n 3, 1) := by decide +kernel
theorem dX12_judgeProduct_12 : decode cX12_judgeProduct 12 = .ok (.aload_n 0, 1) := by decide +kernel
theorem dX12_judgeProduct_13 : decode cX12_judgeProduct 13 = .ok (.getfield 150, 3) := by decide +kernel
theorem dX12_judgeProduct_16 : decode cX12_judgeProduct 16 = .ok (.ifCond .ne 18, 3) := by decide +kernel
theorem dX12_judgeProduct_19 : decode cX12_judgeProduct 19 = .ok (.aload_n 0, 1) := by decide +kernel
theorem dX12_judgeProduct_20 : decode cX12_judgeProduct 20 = .ok (.aload_n 0, 1) := by decide +kernel
theorem dX12_judgeProduct_21 : decode cX12_judgeProduct 21 = .ok (.getfield 82, 3) := by decide +kernel
theorem dX12_judgeProduct_24 : decode cX12_judgeProduct 24 = .ok (.iload_n 1, 1) := by decide +kernel
theorem dX12_judgeProduct_25 : decode cX12_judgeProduct 25 = .ok (.iaload, 1) := by decide +kernel
theorem dX12_judgeProduct_26 : decode cX12_judgeProduct 26 = .ok (.iload_n 2, 1) := by decide +kernel
theorem dX12_judgeProduct_27 : decode cX12_judgeProduct 27 = .ok (.iconst 0, 1) := by decide +kernel
theorem dX12_judgeProduct_28 : decode cX12_judgeProduct 28 = .ok (.invokevirtual 396, 3) := by decide +kernel
theorem dX12_judgeProduct_31 : decode cX12_judgeProduct 31 = .ok (.goto 4, 3) := by decide +kernel
theorem dX12_judgeProduct_34 : decode cX12_judgeProduct 34 = .ok (.iconst 0, 1) := by decide +kernel
theorem dX12_judgeProduct_35 : decode cX12_judgeProduct 35 = .ok (.istore 4, 2) := by decide +kernel
theorem dX12_judgeProduct_37 : decode cX12_judgeProduct 37 = .ok (.aload_n 0, 1) := by decide +kernel
theorem dX12_judgeProduct_38 : decode cX12_judgeProduct 38 = .ok (.getfield 150, 3) := by decide +kernel
theorem dX12_judgeProduct_41 : decode cX12_judgeProduct 41 = .ok (.ifCond .eq 4, 3) := by decide +kernel
theorem dX12_judgeProduct_44 : decode cX12_judgeProduct 44 = .ok (.return_, 1) := by decide +kernel
theorem dX12_judgeProduct_45 : decode cX12_judgeProduct 45 = .ok (.aload_n 0, 1) := by decide +kernel
theorem dX12_judgeProduct_46 : decode cX12_judgeProduct 46 = .ok (.getfield 79, 3) := by decide +kernel
theorem dX12_judgeProduct_49 : decode cX12_judgeProduct 49 = .ok (.iload_n 1, 1) := by decide +kernel
theorem dX12_judgeProduct_50 : decode cX12_judgeProduct 50 = .ok (.iaload, 1) := by decide +kernel
theorem dX12_judgeProduct_51 : decode cX12_judgeProduct 51 = .ok (.ifCond .lt 7, 3) := by decide +kernel
theorem dX12_judgeProduct_54 : decode cX12_judgeProduct 54 = .ok (.iconst 1, 1) := by decide +kernel
theorem dX12_judgeProduct_55 : decode cX12_judgeProduct 55 = .ok (.goto 4, 3) := by decide +kernel
theorem dX12_judgeProduct_58 : decode cX12_judgeProduct 58 = .ok (.iconst 0, 1) := by decide +kernel
theorem dX12_judgeProduct_59 : decode cX12_judgeProduct 59 = .ok (.istore 5, 2) := by decide +kernel
theorem dX12_judgeProduct_61 : decode cX12_judgeProduct 61 = .ok (.iload 5, 2) := by decide +kernel
theorem dX12_judgeProduct_63 : decode cX12_judgeProduct 63 = .ok (.ifCond .eq 11, 3) := by decide +kernel
theorem dX12_judgeProduct_66 : decode cX12_judgeProduct 66 = .ok (.aload_n 0, 1) := by decide +kernel
theorem dX12_judgeProduct_67 : decode cX12_judgeProduct 67 = .ok (.iload_n 1, 1) := by decide +kernel
theorem dX12_judgeProduct_68 : decode cX12_judgeProduct 68 = .ok (.iload 4, 2) := by decide +kernel
theorem dX12_judgeProduct_70 : decode cX12_judgeProduct 70 = .ok (.iload_n 3, 1) := by decide +kernel
theorem dX12_judgeProduct_71 : decode cX12_judgeProduct 71 = .ok (.invokevirtual 430, 3) := by decide +kernel
theorem dX12_judgeProduct_74 : decode cX12_judgeProduct 74 = .ok (.aload_n 0, 1) := by decide +kernel
theorem dX12_judgeProduct_75 : decode cX12_judgeProduct 75 = .ok (.aload_n 0, 1) := by decide +kernel
theorem dX12_judgeProduct_76 : decode cX12_judgeProduct 76 = .ok (.getfield 85, 3) := by decide +kernel
theorem dX12_judgeProduct_79 : decode cX12_judgeProduct 79 = .ok (.iload_n 1, 1) := by decide +kernel
theorem dX12_judgeProduct_80 : decode cX12_judgeProduct 80 = .ok (.iaload, 1) := by decide +kernel
theorem dX12_judgeProduct_81 : decode cX12_judgeProduct 81 = .ok (.iload_n 2, 1) := by decide +kernel
theorem dX12_judgeProduct_82 : decode cX12_judgeProduct 82 = .ok (.invokevirtual 440, 3) := by decide +kernel
theorem dX12_judgeProduct_85 : decode cX12_judgeProduct 85 = .ok (.istore 6, 2) := by decide +kernel
theorem dX12_judgeProduct_87 : decode cX12_judgeProduct 87 = .ok (.iload 5, 2) := by decide +kernel
theorem dX12_judgeProduct_89 : decode cX12_judgeProduct 89 = .ok (.ifCond .eq 13, 3) := by decide +kernel
theorem dX12_judgeProduct_92 : decode cX12_judgeProduct 92 = .ok (.aload_n 0, 1) := by decide +kernel
theorem dX12_judgeProduct_93 : decode cX12_judgeProduct 93 = .ok (.dup, 1) := by decide +kernel
theorem dX12_judgeProduct_94 : decode cX12_judgeProduct 94 = .ok (.getfield 409, 3) := by decide +kernel
theorem dX12_judgeProduct_97 : decode cX12_judgeProduct 97 = .ok (.iconst 1, 1) := by decide +kernel
theorem dX12_judgeProduct_98 : decode cX12_judgeProduct 98 = .ok (.isub, 1) := by decide +kernel
theorem dX12_judgeProduct_99 : decode cX12_judgeProduct 99 = .ok (.putfield 409, 3) := by decide +kernel
theorem dX12_judgeProduct_102 : decode cX12_judgeProduct 102 = .ok (.aload_n 0, 1) := by decide +kernel
theorem dX12_judgeProduct_103 : decode cX12_judgeProduct 103 = .ok (.getfield 150, 3) := by decide +kernel
theorem dX12_judgeProduct_106 : decode cX12_judgeProduct 106 = .ok (.ifCond .eq 4, 3) := by decide +kernel
theorem dX12_judgeProduct_109 : decode cX12_judgeProduct 109 = .ok (.return_, 1) := by decide +kernel
theorem dX12_judgeProduct_110 : decode cX12_judgeProduct 110 = .ok (.aload_n 0, 1) := by decide +kernel
theorem dX12_judgeProduct_111 : decode cX12_judgeProduct 111 = .ok (.getfield 52, 3) := by decide +kernel
theorem dX12_judgeProduct_114 : decode cX12_judgeProduct 114 = .ok (.bipush 8, 2) := by decide +kernel
theorem dX12_judgeProduct_116 : decode cX12_judgeProduct 116 = .ok (.iload_n 3, 1) := by decide +kernel
theorem dX12_judgeProduct_117 : decode cX12_judgeProduct 117 = .ok (.imul, 1) := by decide +kernel
theorem dX12_judgeProduct_118 : decode cX12_judgeProduct 118 = .ok (.iload 6, 2) := by decide +kernel
theorem dX12_judgeProduct_120 : decode cX12_judgeProduct 120 = .ok (.iadd, 1) := by decide +kernel
theorem dX12_judgeProduct_121 : decode cX12_judgeProduct 121 = .ok (.iaload, 1) := by decide +kernel
theorem dX12_judgeProduct_122 : decode cX12_judgeProduct 122 = .ok (.istore 7, 2) := by decide +kernel
theorem dX12_judgeProduct_124 : decode cX12_judgeProduct 124 = .ok (.iload 7, 2) := by decide +kernel
theorem dX12_judgeProduct_126 : decode cX12_judgeProduct 126 = .ok (.ifCond .ge 16, 3) := by decide +kernel
theorem dX12_judgeProduct_129 : decode cX12_judgeProduct 129 = .ok (.aload_n 0, 1) := by decide +kernel
theorem dX12_judgeProduct_130 : decode cX12_judgeProduct 130 = .ok (.bipush 9, 2) := by decide +kernel
theorem dX12_judgeProduct_132 : decode cX12_judgeProduct 132 = .ok (.aload_n 0, 1) := by decide +kernel
theorem dX12_judgeProduct_133 : decode cX12_judgeProduct 133 = .ok (.getfield 91, 3) := by decide +kernel
theorem dX12_judgeProduct_136 : decode cX12_judgeProduct 136 = .ok (.iload_n 1, 1) := by decide +kernel
theorem dX12_judgeProduct_137 : decode cX12_judgeProduct 137 = .ok (.iaload, 1) := by decide +kernel
theorem dX12_judgeProduct_138 : decode cX12_judgeProduct 138 = .ok (.invokevirtual 218, 3) := by decide +kernel
theorem dX12_judgeProduct_141 : decode cX12_judgeProduct 141 = .ok (.return_, 1) := by decide +kernel
theorem dX12_judgeProduct_142 : decode cX12_judgeProduct 142 = .ok (.aload_n 0, 1) := by decide +kernel
theorem dX12_judgeProduct_143 : decode cX12_judgeProduct 143 = .ok (.getfield 94, 3) := by decide +kernel
theorem dX12_judgeProduct_146 : decode cX12_judgeProduct 146 = .ok (.iload_n 1, 1) := by decide +kernel
theorem dX12_judgeProduct_147 : decode cX12_judgeProduct 147 = .ok (.iload_n 3, 1) := by decide +kernel
theorem dX12_judgeProduct_148 : decode cX12_judgeProduct 148 = .ok (.iastore, 1) := by decide +kernel
theorem dX12_judgeProduct_149 : decode cX12_judgeProduct 149 = .ok (.aload_n 0, 1) := by decide +kernel
theorem dX12_judgeProduct_150 : decode cX12_judgeProduct 150 = .ok (.getfield 97, 3) := by decide +kernel
theorem dX12_judgeProduct_153 : decode cX12_judgeProduct 153 = .ok (.iload_n 1, 1) := by decide +kernel
theorem dX12_judgeProduct_154 : decode cX12_judgeProduct 154 = .ok (.iload 6, 2) := by decide +kernel
theorem dX12_judgeProduct_156 : decode cX12_judgeProduct 156 = .ok (.iastore, 1) := by decide +kernel
theorem dX12_judgeProduct_157 : decode cX12_judgeProduct 157 = .ok (.aload_n 0, 1) := by decide +kernel
theorem dX12_judgeProduct_158 : decode cX12_judgeProduct 158 = .ok (.iload 7, 2) := by decide +kernel
theorem dX12_judgeProduct_160 : decode cX12_judgeProduct 160 = .ok (.aload_n 0, 1) := by decide +kernel
theorem dX12_judgeProduct_161 : decode cX12_judgeProduct 161 = .ok (.getfield 50, 3) := by decide +kernel
theorem dX12_judgeProduct_164 : decode cX12_judgeProduct 164 = .ok (.iload 7, 2) := by decide +kernel
theorem dX12_judgeProduct_166 : decode cX12_judgeProduct 166 = .ok (.iaload, 1) := by decide +kernel
theorem dX12_judgeProduct_167 : decode cX12_judgeProduct 167 = .ok (.invokevirtual 412, 3) := by decide +kernel
theorem dX12_judgeProduct_170 : decode cX12_judgeProduct 170 = .ok (.return_, 1) := by decide +kernel
theorem dX12_judgeLambda_0 : decode cX12_judgeLambda 0 = .ok (.aload_n 0, 1) := by decide +kernel
theorem dX12_judgeLambda_1 : decode cX12_judgeLambda 1 = .ok (.aload_n 0, 1) := by decide +kernel
theorem dX12_judgeLambda_2 : decode cX12_judgeLambda 2 = .ok (.getfield 82, 3) := by decide +kernel
theorem dX12_judgeLambda_5 : decode cX12_judgeLambda 5 = .ok (.iload_n 1, 1) := by decide +kernel
theorem dX12_judgeLambda_6 : decode cX12_judgeLambda 6 = .ok (.iaload, 1) := by decide +kernel
theorem dX12_judgeLambda_7 : decode cX12_judgeLambda 7 = .ok (.iload_n 2, 1) := by decide +kernel
theorem dX12_judgeLambda_8 : decode cX12_judgeLambda 8 = .ok (.invokevirtual 440, 3) := by decide +kernel
theorem dX12_judgeLambda_11 : decode cX12_judgeLambda 11 = .ok (.istore_n 3, 1) := by decide +kernel
theorem dX12_judgeLambda_12 : decode cX12_judgeLambda 12 = .ok (.aload_n 0, 1) := by decide +kernel
theorem dX12_judgeLambda_13 : decode cX12_judgeLambda 13 = .ok (.getfield 150, 3) := by decide +kernel
theorem dX12_judgeLambda_16 : decode cX12_judgeLambda 16 = .ok (.ifCond .ne 18, 3) := by decide +kernel
theorem dX12_judgeLambda_19 : decode cX12_judgeLambda 19 = .ok (.aload_n 0, 1) := by decide +kernel
theorem dX12_judgeLambda_20 : decode cX12_judgeLambda 20 = .ok (.aload_n 0, 1) := by decide +kernel
theorem dX12_judgeLambda_21 : decode cX12_judgeLambda 21 = .ok (.getfield 82, 3) := by decide +kernel
theorem dX12_judgeLambda_24 : decode cX12_judgeLambda 24 = .ok (.iload_n 1, 1) := by decide +kernel
theorem dX12_judgeLambda_25 : decode cX12_judgeLambda 25 = .ok (.iaload, 1) := by decide +kernel
theorem dX12_judgeLambda_26 : decode cX12_judgeLambda 26 = .ok (.iload_n 2, 1) := by decide +kernel
theorem dX12_judgeLambda_27 : decode cX12_judgeLambda 27 = .ok (.iconst 0, 1) := by decide +kernel
theorem dX12_judgeLambda_28 : decode cX12_judgeLambda 28 = .ok (.invokevirtual 396, 3) := by decide +kernel
theorem dX12_judgeLambda_31 : decode cX12_judgeLambda 31 = .ok (.goto 4, 3) := by decide +kernel
theorem dX12_judgeLambda_34 : decode cX12_judgeLambda 34 = .ok (.iconst 0, 1) := by decide +kernel
theorem dX12_judgeLambda_35 : decode cX12_judgeLambda 35 = .ok (.istore 4, 2) := by decide +kernel
theorem dX12_judgeLambda_37 : decode cX12_judgeLambda 37 = .ok (.aload_n 0, 1) := by decide +kernel
theorem dX12_judgeLambda_38 : decode cX12_judgeLambda 38 = .ok (.getfield 150, 3) := by decide +kernel
theorem dX12_judgeLambda_41 : decode cX12_judgeLambda 41 = .ok (.ifCond .eq 4, 3) := by decide +kernel
theorem dX12_judgeLambda_44 : decode cX12_judgeLambda 44 = .ok (.return_, 1) := by decide +kernel
theorem dX12_judgeLambda_45 : decode cX12_judgeLambda 45 = .ok (.aload_n 0, 1) := by decide +kernel
theorem dX12_judgeLambda_46 : decode cX12_judgeLambda 46 = .ok (.iload_n 1, 1) := by decide +kernel
theorem dX12_judgeLambda_47 : decode cX12_judgeLambda 47 = .ok (.iload 4, 2) := by decide +kernel
theorem dX12_judgeLambda_49 : decode cX12_judgeLambda 49 = .ok (.iload_n 3, 1) := by decide +kernel
theorem dX12_judgeLambda_50 : decode cX12_judgeLambda 50 = .ok (.invokevirtual 430, 3) := by decide +kernel
theorem dX12_judgeLambda_53 : decode cX12_judgeLambda 53 = .ok (.aload_n 0, 1) := by decide +kernel
theorem dX12_judgeLambda_54 : decode cX12_judgeLambda 54 = .ok (.aload_n 0, 1) := by decide +kernel
theorem dX12_judgeLambda_55 : decode cX12_judgeLambda 55 = .ok (.getfield 85, 3) := by decide +kernel
theorem dX12_judgeLambda_58 : decode cX12_judgeLambda 58 = .ok (.iload_n 1, 1) := by decide +kernel
theorem dX12_judgeLambda_59 : decode cX12_judgeLambda 59 = .ok (.iaload, 1) := by decide +kernel
theorem dX12_judgeLambda_60 : decode cX12_judgeLambda 60 = .ok (.iload_n 2, 1) := by decide +kernel
theorem dX12_judgeLambda_61 : decode cX12_judgeLambda 61 = .ok (.invokevirtual 421, 3) := by decide +kernel
theorem dX12_judgeLambda_64 : decode cX12_judgeLambda 64 = .ok (.aload_n 0, 1) := by decide +kernel
theorem dX12_judgeLambda_65 : decode cX12_judgeLambda 65 = .ok (.dup, 1) := by decide +kernel
theorem dX12_judgeLambda_66 : decode cX12_judgeLambda 66 = .ok (.getfield 409, 3) := by decide +kernel
theorem dX12_judgeLambda_69 : decode cX12_judgeLambda 69 = .ok (.iconst 1, 1) := by decide +kernel
theorem dX12_judgeLambda_70 : decode cX12_judgeLambda 70 = .ok (.isub, 1) := by decide +kernel
theorem dX12_judgeLambda_71 : decode cX12_judgeLambda 71 = .ok (.putfield 409, 3) := by decide +kernel
theorem dX12_judgeLambda_74 : decode cX12_judgeLambda 74 = .ok (.aload_n 0, 1) := by decide +kernel
theorem dX12_judgeLambda_75 : decode cX12_judgeLambda 75 = .ok (.getfield 150, 3) := by decide +kernel
theorem dX12_judgeLambda_78 : decode cX12_judgeLambda 78 = .ok (.ifCond .eq 4, 3) := by decide +kernel
theorem dX12_judgeLambda_81 : decode cX12_judgeLambda 81 = .ok (.return_, 1) := by decide +kernel
theorem dX12_judgeLambda_82 : decode cX12_judgeLambda 82 = .ok (.aload_n 0, 1) := by decide +kernel
theorem dX12_judgeLambda_83 : decode cX12_judgeLambda 83 = .ok (.getfield 406, 3) := by decide +kernel
theorem dX12_judgeLambda_86 : decode cX12_judgeLambda 86 = .ok (.istore 5, 2) := by decide +kernel
theorem dX12_judgeLambda_88 : decode cX12_judgeLambda 88 = .ok (.iload 5, 2) := by decide +kernel
theorem dX12_judgeLambda_90 : decode cX12_judgeLambda 90 = .ok (.ifCond .ge 7, 3) := by decide +kernel
theorem dX12_judgeLambda_93 : decode cX12_judgeLambda 93 = .ok (.iconst (-1), 1) := by decide +kernel
theorem dX12_judgeLambda_94 : decode cX12_judgeLambda 94 = .ok (.goto 15, 3) := by decide +kernel
theorem dX12_judgeLambda_97 : decode cX12_judgeLambda 97 = .ok (.aload_n 0, 1) := by decide +kernel
theorem dX12_judgeLambda_98 : decode cX12_judgeLambda 98 = .ok (.getfield 52, 3) := by decide +kernel
theorem dX12_judgeLambda_101 : decode cX12_judgeLambda 101 = .ok (.bipush 8, 2) := by decide +kernel
theorem dX12_judgeLambda_103 : decode cX12_judgeLambda 103 = .ok (.iload_n 3, 1) := by decide +kernel
theorem dX12_judgeLambda_104 : decode cX12_judgeLambda 104 = .ok (.imul, 1) := by decide +kernel
theorem dX12_judgeLambda_105 : decode cX12_judgeLambda 105 = .ok (.iload 5, 2) := by decide +kernel
theorem dX12_judgeLambda_107 : decode cX12_judgeLambda 107 = .ok (.iadd, 1) := by decide +kernel
theorem dX12_judgeLambda_108 : decode cX12_judgeLambda 108 = .ok (.iaload, 1) := by decide +kernel
theorem dX12_judgeLambda_109 : decode cX12_judgeLambda 109 = .ok (.istore 6, 2) := by decide +kernel
theorem dX12_judgeLambda_111 : decode cX12_judgeLambda 111 = .ok (.iload 6, 2) := by decide +kernel
theorem dX12_judgeLambda_113 : decode cX12_judgeLambda 113 = .ok (.ifCond .ge 26, 3) := by decide +kernel
theorem dX12_judgeLambda_116 : decode cX12_judgeLambda 116 = .ok (.aload_n 0, 1) := by decide +kernel
theorem dX12_judgeLambda_117 : decode cX12_judgeLambda 117 = .ok (.iload 5, 2) := by decide +kernel
theorem dX12_judgeLambda_119 : decode cX12_judgeLambda 119 = .ok (.ifCond .ge 8, 3) := by decide +kernel
theorem dX12_judgeLambda_122 : decode cX12_judgeLambda 122 = .ok (.bipush 7, 2) := by decide +kernel
theorem dX12_judgeLambda_124 : decode cX12_judgeLambda 124 = .ok (.goto 5, 3) := by decide +kernel
theorem dX12_judgeLambda_127 : decode cX12_judgeLambda 127 = .ok (.bipush 9, 2) := by decide +kernel
theorem dX12_judgeLambda_129 : decode cX12_judgeLambda 129 = .ok (.aload_n 0, 1) := by decide +kernel
theorem dX12_judgeLambda_130 : decode cX12_judgeLambda 130 = .ok (.getfield 91, 3) := by decide +kernel
theorem dX12_judgeLambda_133 : decode cX12_judgeLambda 133 = .ok (.iload_n 1, 1) := by decide +kernel
theorem dX12_judgeLambda_134 : decode cX12_judgeLambda 134 = .ok (.iaload, 1) := by decide +kernel
theorem dX12_judgeLambda_135 : decode cX12_judgeLambda 135 = .ok (.invokevirtual 218, 3) := by decide +kernel
theorem dX12_judgeLambda_138 : decode cX12_judgeLambda 138 = .ok (.return_, 1) := by decide +kernel
theorem dX12_judgeLambda_139 : decode cX12_judgeLambda 139 = .ok (.aload_n 0, 1) := by decide +kernel
theorem dX12_judgeLambda_140 : decode cX12_judgeLambda 140 = .ok (.iconst 5, 1) := by decide +kernel
theorem dX12_judgeLambda_141 : decode cX12_judgeLambda 141 = .ok (.iconst (-1), 1) := by decide +kernel
theorem dX12_judgeLambda_142 : decode cX12_judgeLambda 142 = .ok (.iload 4, 2) := by decide +kernel
theorem dX12_judgeLambda_144 : decode cX12_judgeLambda 144 = .ok (.aload_n 0, 1) := by decide +kernel
theorem dX12_judgeLambda_145 : decode cX12_judgeLambda 145 = .ok (.getfield 403, 3) := by decide +kernel
theorem dX12_judgeLambda_148 : decode cX12_judgeLambda 148 = .ok (.iconst 0, 1) := by decide +kernel
theorem dX12_judgeLambda_149 : decode cX12_judgeLambda 149 = .ok (.invokevirtual 241, 3) := by decide +kernel
theorem dX12_judgeLambda_152 : decode cX12_judgeLambda 152 = .ok (.istore 7, 2) := by decide +kernel
theorem dX12_judgeLambda_154 : decode cX12_judgeLambda 154 = .ok (.aload_n 0, 1) := by decide +kernel
theorem dX12_judgeLambda_155 : decode cX12_judgeLambda 155 = .ok (.getfield 100, 3) := by decide +kernel
theorem dX12_judgeLambda_158 : decode cX12_judgeLambda 158 = .ok (.iload 7, 2) := by decide +kernel
theorem dX12_judgeLambda_160 : decode cX12_judgeLambda 160 = .ok (.iload_n 1, 1) := by decide +kernel
theorem dX12_judgeLambda_161 : decode cX12_judgeLambda 161 = .ok (.iastore, 1) := by decide +kernel
theorem dX12_judgeLambda_162 : decode cX12_judgeLambda 162 = .ok (.aload_n 0, 1) := by decide +kernel
theorem dX12_judgeLambda_163 : decode cX12_judgeLambda 163 = .ok (.getfield 94, 3) := by decide +kernel
theorem dX12_judgeLambda_166 : decode cX12_judgeLambda 166 = .ok (.iload 7, 2) := by decide +kernel
theorem dX12_judgeLambda_168 : decode cX12_judgeLambda 168 = .ok (.iload_n 3, 1) := by decide +kernel
theorem dX12_judgeLambda_169 : decode cX12_judgeLambda 169 = .ok (.iastore, 1) := by decide +kernel
theorem dX12_judgeLambda_170 : decode cX12_judgeLambda 170 = .ok (.aload_n 0, 1) := by decide +kernel
theorem dX12_judgeLambda_171 : decode cX12_judgeLambda 171 = .ok (.getfield 97, 3) := by decide +kernel
theorem dX12_judgeLambda_174 : decode cX12_judgeLambda 174 = .ok (.iload 7, 2) := by decide +kernel
theorem dX12_judgeLambda_176 : decode cX12_judgeLambda 176 = .ok (.iload 5, 2) := by decide +kernel
theorem dX12_judgeLambda_178 : decode cX12_judgeLambda 178 = .ok (.iastore, 1) := by decide +kernel
theorem dX12_judgeLambda_179 : decode cX12_judgeLambda 179 = .ok (.aload_n 0, 1) := by decide +kernel
theorem dX12_judgeLambda_180 : decode cX12_judgeLambda 180 = .ok (.iload 7, 2) := by decide +kernel
theorem dX12_judgeLambda_182 : decode cX12_judgeLambda 182 = .ok (.iload 6, 2) := by decide +kernel
theorem dX12_judgeLambda_184 : decode cX12_judgeLambda 184 = .ok (.invokevirtual 412, 3) := by decide +kernel
theorem dX12_judgeLambda_187 : decode cX12_judgeLambda 187 = .ok (.return_, 1) := by decide +kernel
theorem dX12_judgeUse_0 : decode cX12_judgeUse 0 = .ok (.aload_n 0, 1) := by decide +kernel
theorem dX12_judgeUse_1 : decode cX12_judgeUse 1 = .ok (.getfield 443, 3) := by decide +kernel
theorem dX12_judgeUse_4 : decode cX12_judgeUse 4 = .ok (.istore_n 3, 1) := by decide +kernel
theorem dX12_judgeUse_5 : decode cX12_judgeUse 5 = .ok (.iload_n 1, 1) := by decide +kernel
theorem dX12_judgeUse_6 : decode cX12_judgeUse 6 = .ok (.istore 4, 2) := by decide +kernel
theorem dX12_judgeUse_8 : decode cX12_judgeUse 8 = .ok (.aload_n 0, 1) := by decide +kernel
theorem dX12_judgeUse_9 : decode cX12_judgeUse 9 = .ok (.getfield 76, 3) := by decide +kernel
theorem dX12_judgeUse_12 : decode cX12_judgeUse 12 = .ok (.iload 4, 2) := by decide +kernel
theorem dX12_judgeUse_14 : decode cX12_judgeUse 14 = .ok (.iaload, 1) := by decide +kernel
theorem dX12_judgeUse_15 : decode cX12_judgeUse 15 = .ok (.bipush 7, 2) := by decide +kernel
theorem dX12_judgeUse_17 : decode cX12_judgeUse 17 = .ok (.if_icmp .ne 36, 3) := by decide +kernel
theorem dX12_judgeUse_20 : decode cX12_judgeUse 20 = .ok (.aload_n 0, 1) := by decide +kernel
theorem dX12_judgeUse_21 : decode cX12_judgeUse 21 = .ok (.getfield 134, 3) := by decide +kernel
theorem dX12_judgeUse_24 : decode cX12_judgeUse 24 = .ok (.aload_n 0, 1) := by decide +kernel
theorem dX12_judgeUse_25 : decode cX12_judgeUse 25 = .ok (.getfield 443, 3) := by decide +kernel
theorem dX12_judgeUse_28 : decode cX12_judgeUse 28 = .ok (.iload 4, 2) := by decide +kernel
theorem dX12_judgeUse_30 : decode cX12_judgeUse 30 = .ok (.iastore, 1) := by decide +kernel
theorem dX12_judgeUse_31 : decode cX12_judgeUse 31 = .ok (.aload_n 0, 1) := by decide +kernel
theorem dX12_judgeUse_32 : decode cX12_judgeUse 32 = .ok (.dup, 1) := by decide +kernel
theorem dX12_judgeUse_33 : decode cX12_judgeUse 33 = .ok (.getfield 443, 3) := by decide +kernel
theorem dX12_judgeUse_36 : decode cX12_judgeUse 36 = .ok (.iconst 1, 1) := by decide +kernel
theorem dX12_judgeUse_37 : decode cX12_judgeUse 37 = .ok (.iadd, 1) := by decide +kernel
theorem dX12_judgeUse_38 : decode cX12_judgeUse 38 = .ok (.putfield 443, 3) := by decide +kernel
theorem dX12_judgeUse_41 : decode cX12_judgeUse 41 = .ok (.aload_n 0, 1) := by decide +kernel
theorem dX12_judgeUse_42 : decode cX12_judgeUse 42 = .ok (.getfield 82, 3) := by decide +kernel
theorem dX12_judgeUse_45 : decode cX12_judgeUse 45 = .ok (.iload 4, 2) := by decide +kernel
theorem dX12_judgeUse_47 : decode cX12_judgeUse 47 = .ok (.iaload, 1) := by decide +kernel
theorem dX12_judgeUse_48 : decode cX12_judgeUse 48 = .ok (.istore 4, 2) := by decide +kernel
theorem dX12_judgeUse_50 : decode cX12_judgeUse 50 = .ok (.goto (-42), 3) := by decide +kernel
theorem dX12_judgeUse_53 : decode cX12_judgeUse 53 = .ok (.aload_n 0, 1) := by decide +kernel
theorem dX12_judgeUse_54 : decode cX12_judgeUse 54 = .ok (.iload 4, 2) := by decide +kernel
theorem dX12_judgeUse_56 : decode cX12_judgeUse 56 = .ok (.iload_n 2, 1) := by decide +kernel
theorem dX12_judgeUse_57 : decode cX12_judgeUse 57 = .ok (.invokevirtual 421, 3) := by decide +kernel
theorem dX12_judgeUse_60 : decode cX12_judgeUse 60 = .ok (.aload_n 0, 1) := by decide +kernel
theorem dX12_judgeUse_61 : decode cX12_judgeUse 61 = .ok (.getfield 443, 3) := by decide +kernel
theorem dX12_judgeUse_64 : decode cX12_judgeUse 64 = .ok (.iconst 1, 1) := by decide +kernel
theorem dX12_judgeUse_65 : decode cX12_judgeUse 65 = .ok (.isub, 1) := by decide +kernel
theorem dX12_judgeUse_66 : decode cX12_judgeUse 66 = .ok (.istore 5, 2) := by decide +kernel
theorem dX12_judgeUse_68 : decode cX12_judgeUse 68 = .ok (.aload_n 0, 1) := by decide +kernel
theorem dX12_judgeUse_69 : decode cX12_judgeUse 69 = .ok (.getfield 150, 3) := by decide +kernel
theorem dX12_judgeUse_72 : decode cX12_judgeUse 72 = .ok (.ifCond .ne 27, 3) := by decide +kernel
theorem dX12_judgeUse_75 : decode cX12_judgeUse 75 = .ok (.iload 5, 2) := by decide +kernel
theorem dX12_judgeUse_77 : decode cX12_judgeUse 77 = .ok (.iload_n 3, 1) := by decide +kernel
theorem dX12_judgeUse_78 : decode cX12_judgeUse 78 = .ok (.if_icmp .lt 21, 3) := by decide +kernel
theorem dX12_judgeUse_81 : decode cX12_judgeUse 81 = .ok (.aload_n 0, 1) := by decide +kernel
theorem dX12_judgeUse_82 : decode cX12_judgeUse 82 = .ok (.aload_n 0, 1) := by decide +kernel
theorem dX12_judgeUse_83 : decode cX12_judgeUse 83 = .ok (.getfield 134, 3) := by decide +kernel
theorem dX12_judgeUse_86 : decode cX12_judgeUse 86 = .ok (.iload 5, 2) := by decide +kernel
theorem dX12_judgeUse_88 : decode cX12_judgeUse 88 = .ok (.iaload, 1) := by decide +kernel
theorem dX12_judgeUse_89 : decode cX12_judgeUse 89 = .ok (.iload_n 2, 1) := by decide +kernel
theorem dX12_judgeUse_90 : decode cX12_judgeUse 90 = .ok (.invokevirtual 446, 3) := by decide +kernel
theorem dX12_judgeUse_93 : decode cX12_judgeUse 93 = .ok (.iinc 5 (-1), 3) := by decide +kernel
theorem dX12_judgeUse_96 : decode cX12_judgeUse 96 = .ok (.goto (-28), 3) := by decide +kernel
theorem dX12_judgeUse_99 : decode cX12_judgeUse 99 = .ok (.aload_n 0, 1) := by decide +kernel
theorem dX12_judgeUse_100 : decode cX12_judgeUse 100 = .ok (.iload_n 3, 1) := by decide +kernel
theorem dX12_judgeUse_101 : decode cX12_judgeUse 101 = .ok (.putfield 443, 3) := by decide +kernel
theorem dX12_judgeUse_104 : decode cX12_judgeUse 104 = .ok (.return_, 1) := by decide +kernel
theorem dX12_applied_0 : decode cX12_applied 0 = .ok (.aload_n 0, 1) := by decide +kernel
theorem dX12_applied_1 : decode cX12_applied 1 = .ok (.getfield 403, 3) := by decide +kernel
theorem dX12_applied_4 : decode cX12_applied 4 = .ok (.istore_n 3, 1) := by decide +kernel
theorem dX12_applied_5 : decode cX12_applied 5 = .ok (.aload_n 0, 1) := by decide +kernel
theorem dX12_applied_6 : decode cX12_applied 6 = .ok (.getfield 76, 3) := by decide +kernel
theorem dX12_applied_9 : decode cX12_applied 9 = .ok (.iload_n 3, 1) := by decide +kernel
theorem dX12_applied_10 : decode cX12_applied 10 = .ok (.iaload, 1) := by decide +kernel
theorem dX12_applied_11 : decode cX12_applied 11 = .ok (.iconst 5, 1) := by decide +kernel
theorem dX12_applied_12 : decode cX12_applied 12 = .ok (.if_icmp .eq 21, 3) := by decide +kernel
theorem dX12_applied_15 : decode cX12_applied 15 = .ok (.aload_n 0, 1) := by decide +kernel
theorem dX12_applied_16 : decode cX12_applied 16 = .ok (.bipush 10, 2) := by decide +kernel
theorem dX12_applied_18 : decode cX12_applied 18 = .ok (.aload_n 0, 1) := by decide +kernel
theorem dX12_applied_19 : decode cX12_applied 19 = .ok (.getfield 88, 3) := by decide +kernel
theorem dX12_applied_22 : decode cX12_applied 22 = .ok (.aload_n 0, 1) := by decide +kernel
theorem dX12_applied_23 : decode cX12_applied 23 = .ok (.getfield 82, 3) := by decide +kernel
theorem dX12_applied_26 : decode cX12_applied 26 = .ok (.iload_n 1, 1) := by decide +kernel
theorem dX12_applied_27 : decode cX12_applied 27 = .ok (.iaload, 1) := by decide +kernel
theorem dX12_applied_28 : decode cX12_applied 28 = .ok (.iaload, 1) := by decide +kernel
theorem dX12_applied_29 : decode cX12_applied 29 = .ok (.invokevirtual 218, 3) := by decide +kernel
theorem dX12_applied_32 : decode cX12_applied 32 = .ok (.return_, 1) := by decide +kernel
theorem dX12_applied_33 : decode cX12_applied 33 = .ok (.aload_n 0, 1) := by decide +kernel
theorem dX12_applied_34 : decode cX12_applied 34 = .ok (.getfield 85, 3) := by decide +kernel
theorem dX12_applied_37 : decode cX12_applied 37 = .ok (.iload_n 1, 1) := by decide +kernel
theorem dX12_applied_38 : decode cX12_applied 38 = .ok (.iaload, 1) := by decide +kernel
theorem dX12_applied_39 : decode cX12_applied 39 = .ok (.istore 4, 2) := by decide +kernel
theorem dX12_applied_41 : decode cX12_applied 41 = .ok (.aload_n 0, 1) := by decide +kernel
theorem dX12_applied_42 : decode cX12_applied 42 = .ok (.iload 4, 2) := by decide +kernel
theorem dX12_applied_44 : decode cX12_applied 44 = .ok (.iload_n 2, 1) := by decide +kernel
theorem dX12_applied_45 : decode cX12_applied 45 = .ok (.invokevirtual 421, 3) := by decide +kernel
theorem dX12_applied_48 : decode cX12_applied 48 = .ok (.aload_n 0, 1) := by decide +kernel
theorem dX12_applied_49 : decode cX12_applied 49 = .ok (.getfield 150, 3) := by decide +kernel
theorem dX12_applied_52 : decode cX12_applied 52 = .ok (.ifCond .eq 4, 3) := by decide +kernel
theorem dX12_applied_55 : decode cX12_applied 55 = .ok (.return_, 1) := by decide +kernel
theorem dX12_applied_56 : decode cX12_applied 56 = .ok (.aload_n 0, 1) := by decide +kernel
theorem dX12_applied_57 : decode cX12_applied 57 = .ok (.aload_n 0, 1) := by decide +kernel
theorem dX12_applied_58 : decode cX12_applied 58 = .ok (.getfield 82, 3) := by decide +kernel
theorem dX12_applied_61 : decode cX12_applied 61 = .ok (.iload_n 3, 1) := by decide +kernel
theorem dX12_applied_62 : decode cX12_applied 62 = .ok (.iaload, 1) := by decide +kernel
theorem dX12_applied_63 : decode cX12_applied 63 = .ok (.iconst 0, 1) := by decide +kernel
theorem dX12_applied_64 : decode cX12_applied 64 = .ok (.aload_n 0, 1) := by decide +kernel
theorem dX12_applied_65 : decode cX12_applied 65 = .ok (.getfield 403, 3) := by decide +kernel
theorem dX12_applied_68 : decode cX12_applied 68 = .ok (.iconst 0, 1) := by decide +kernel
theorem dX12_applied_69 : decode cX12_applied 69 = .ok (.iconst 0, 1) := by decide +kernel
theorem dX12_applied_70 : decode cX12_applied 70 = .ok (.invokevirtual 366, 3) := by decide +kernel
theorem dX12_applied_73 : decode cX12_applied 73 = .ok (.istore 5, 2) := by decide +kernel
theorem dX12_applied_75 : decode cX12_applied 75 = .ok (.iload 5, 2) := by decide +kernel
theorem dX12_applied_77 : decode cX12_applied 77 = .ok (.ifCond .ne 16, 3) := by decide +kernel
theorem dX12_applied_80 : decode cX12_applied 80 = .ok (.aload_n 0, 1) := by decide +kernel
theorem dX12_applied_81 : decode cX12_applied 81 = .ok (.bipush 11, 2) := by decide +kernel
theorem dX12_applied_83 : decode cX12_applied 83 = .ok (.aload_n 0, 1) := by decide +kernel
theorem dX12_applied_84 : decode cX12_applied 84 = .ok (.getfield 88, 3) := by decide +kernel
theorem dX12_applied_87 : decode cX12_applied 87 = .ok (.iload 4, 2) := by decide +kernel
theorem dX12_applied_89 : decode cX12_applied 89 = .ok (.iaload, 1) := by decide +kernel
theorem dX12_applied_90 : decode cX12_applied 90 = .ok (.invokevirtual 218, 3) := by decide +kernel
theorem dX12_applied_93 : decode cX12_applied 93 = .ok (.aload_n 0, 1) := by decide +kernel
theorem dX12_applied_94 : decode cX12_applied 94 = .ok (.getfield 150, 3) := by decide +kernel
theorem dX12_applied_97 : decode cX12_applied 97 = .ok (.ifCond .ne 31, 3) := by decide +kernel
theorem dX12_applied_100 : decode cX12_applied 100 = .ok (.aload_n 0, 1) := by decide +kernel
theorem dX12_applied_101 : decode cX12_applied 101 = .ok (.aload_n 0, 1) := by decide +kernel
theorem dX12_applied_102 : decode cX12_applied 102 = .ok (.getfield 85, 3) := by decide +kernel
theorem dX12_applied_105 : decode cX12_applied 105 = .ok (.iload_n 3, 1) := by decide +kernel
theorem dX12_applied_106 : decode cX12_applied 106 = .ok (.iaload, 1) := by decide +kernel
theorem dX12_applied_107 : decode cX12_applied 107 = .ok (.aload_n 0, 1) := by decide +kernel
theorem dX12_applied_108 : decode cX12_applied 108 = .ok (.iconst 0, 1) := by decide +kernel
theorem dX12_applied_109 : decode cX12_applied 109 = .ok (.aload_n 0, 1) := by decide +kernel
theorem dX12_applied_110 : decode cX12_applied 110 = .ok (.getfield 100, 3) := by decide +kernel
theorem dX12_applied_113 : decode cX12_applied 113 = .ok (.iload_n 3, 1) := by decide +kernel
theorem dX12_applied_114 : decode cX12_applied 114 = .ok (.iaload, 1) := by decide +kernel
theorem dX12_applied_115 : decode cX12_applied 115 = .ok (.iload 4, 2) := by decide +kernel
theorem dX12_applied_117 : decode cX12_applied 117 = .ok (.iload_n 2, 1) := by decide +kernel
theorem dX12_applied_118 : decode cX12_applied 118 = .ok (.invokevirtual 342, 3) := by decide +kernel
theorem dX12_applied_121 : decode cX12_applied 121 = .ok (.iconst 0, 1) := by decide +kernel
theorem dX12_applied_122 : decode cX12_applied 122 = .ok (.invokevirtual 396, 3) := by decide +kernel
theorem dX12_applied_125 : decode cX12_applied 125 = .ok (.goto 4, 3) := by decide +kernel
theorem dX12_applied_128 : decode cX12_applied 128 = .ok (.iconst 0, 1) := by decide +kernel
theorem dX12_applied_129 : decode cX12_applied 129 = .ok (.istore 6, 2) := by decide +kernel
theorem dX12_applied_131 : decode cX12_applied 131 = .ok (.aload_n 0, 1) := by decide +kernel
theorem dX12_applied_132 : decode cX12_applied 132 = .ok (.iload 6, 2) := by decide +kernel
theorem dX12_applied_134 : decode cX12_applied 134 = .ok (.aload_n 0, 1) := by decide +kernel
theorem dX12_applied_135 : decode cX12_applied 135 = .ok (.getfield 97, 3) := by decide +kernel
theorem dX12_applied_138 : decode cX12_applied 138 = .ok (.iload_n 3, 1) := by decide +kernel
theorem dX12_applied_139 : decode cX12_applied 139 = .ok (.iaload, 1) := by decide +kernel
theorem dX12_applied_140 : decode cX12_applied 140 = .ok (.invokevirtual 412, 3) := by decide +kernel
theorem dX12_applied_143 : decode cX12_applied 143 = .ok (.return_, 1) := by decide +kernel
theorem dX12_begin_0 : decode cX12_begin 0 = .ok (.aload_n 0, 1) := by decide +kernel
theorem dX12_begin_1 : decode cX12_begin 1 = .ok (.iconst 0, 1) := by decide +kernel
theorem dX12_begin_2 : decode cX12_begin 2 = .ok (.putfield 302, 3) := by decide +kernel
theorem dX12_begin_5 : decode cX12_begin 5 = .ok (.aload_n 0, 1) := by decide +kernel
theorem dX12_begin_6 : decode cX12_begin 6 = .ok (.iconst 0, 1) := by decide +kernel
theorem dX12_begin_7 : decode cX12_begin 7 = .ok (.putfield 339, 3) := by decide +kernel
theorem dX12_begin_10 : decode cX12_begin 10 = .ok (.aload_n 0, 1) := by decide +kernel
theorem dX12_begin_11 : decode cX12_begin 11 = .ok (.iconst 0, 1) := by decide +kernel
theorem dX12_begin_12 : decode cX12_begin 12 = .ok (.putfield 336, 3) := by decide +kernel
theorem dX12_begin_15 : decode cX12_begin 15 = .ok (.aload_n 0, 1) := by decide +kernel
theorem dX12_begin_16 : decode cX12_begin 16 = .ok (.iconst 0, 1) := by decide +kernel
theorem dX12_begin_17 : decode cX12_begin 17 = .ok (.putfield 345, 3) := by decide +kernel
theorem dX12_begin_20 : decode cX12_begin 20 = .ok (.aload_n 0, 1) := by decide +kernel
theorem dX12_begin_21 : decode cX12_begin 21 = .ok (.iconst 0, 1) := by decide +kernel
theorem dX12_begin_22 : decode cX12_begin 22 = .ok (.putfield 327, 3) := by decide +kernel
theorem dX12_begin_25 : decode cX12_begin 25 = .ok (.aload_n 0, 1) := by decide +kernel
theorem dX12_begin_26 : decode cX12_begin 26 = .ok (.iconst 0, 1) := by decide +kernel
theorem dX12_begin_27 : decode cX12_begin 27 = .ok (.putfield 333, 3) := by decide +kernel
theorem dX12_begin_30 : decode cX12_begin 30 = .ok (.aload_n 0, 1) := by decide +kernel
theorem dX12_begin_31 : decode cX12_begin 31 = .ok (.iconst 0, 1) := by decide +kernel
theorem dX12_begin_32 : decode cX12_begin 32 = .ok (.putfield 312, 3) := by decide +kernel
theorem dX12_begin_35 : decode cX12_begin 35 = .ok (.aload_n 0, 1) := by decide +kernel
theorem dX12_begin_36 : decode cX12_begin 36 = .ok (.iconst 0, 1) := by decide +kernel
theorem dX12_begin_37 : decode cX12_begin 37 = .ok (.putfield 324, 3) := by decide +kernel
theorem dX12_begin_40 : decode cX12_begin 40 = .ok (.aload_n 0, 1) := by decide +kernel
theorem dX12_begin_41 : decode cX12_begin 41 = .ok (.iconst 0, 1) := by decide +kernel
theorem dX12_begin_42 : decode cX12_begin 42 = .ok (.putfield 409, 3) := by decide +kernel
theorem dX12_begin_45 : decode cX12_begin 45 = .ok (.aload_n 0, 1) := by decide +kernel
theorem dX12_begin_46 : decode cX12_begin 46 = .ok (.iconst 0, 1) := by decide +kernel
theorem dX12_begin_47 : decode cX12_begin 47 = .ok (.putfield 443, 3) := by decide +kernel
theorem dX12_begin_50 : decode cX12_begin 50 = .ok (.aload_n 0, 1) := by decide +kernel
theorem dX12_begin_51 : decode cX12_begin 51 = .ok (.iconst 0, 1) := by decide +kernel
theorem dX12_begin_52 : decode cX12_begin 52 = .ok (.putfield 371, 3) := by decide +kernel
theorem dX12_begin_55 : decode cX12_begin 55 = .ok (.aload_n 0, 1) := by decide +kernel
theorem dX12_begin_56 : decode cX12_begin 56 = .ok (.aload_n 0, 1) := by decide +kernel
theorem dX12_begin_57 : decode cX12_begin 57 = .ok (.getfield 173, 3) := by decide +kernel
theorem dX12_begin_60 : decode cX12_begin 60 = .ok (.putfield 449, 3) := by decide +kernel
theorem dX12_begin_63 : decode cX12_begin 63 = .ok (.aload_n 0, 1) := by decide +kernel
theorem dX12_begin_64 : decode cX12_begin 64 = .ok (.iconst 1, 1) := by decide +kernel
theorem dX12_begin_65 : decode cX12_begin 65 = .ok (.putfield 125, 3) := by decide +kernel
theorem dX12_begin_68 : decode cX12_begin 68 = .ok (.return_, 1) := by decide +kernel
theorem dX12_drop_0 : decode cX12_drop 0 = .ok (.aload_n 0, 1) := by decide +kernel
theorem dX12_drop_1 : decode cX12_drop 1 = .ok (.aload_n 0, 1) := by decide +kernel
theorem dX12_drop_2 : decode cX12_drop 2 = .ok (.getfield 449, 3) := by decide +kernel
theorem dX12_drop_5 : decode cX12_drop 5 = .ok (.putfield 173, 3) := by decide +kernel
theorem dX12_drop_8 : decode cX12_drop 8 = .ok (.return_, 1) := by decide +kernel
theorem dX12_tables_0 : decode cX12_tables 0 = .ok (.aload_n 0, 1) := by decide +kernel
theorem dX12_tables_1 : decode cX12_tables 1 = .ok (.getfield 167, 3) := by decide +kernel
theorem dX12_tables_4 : decode cX12_tables 4 = .ok (.ifCond .le 14, 3) := by decide +kernel
theorem dX12_tables_7 : decode cX12_tables 7 = .ok (.aload_n 0, 1) := by decide +kernel
theorem dX12_tables_8 : decode cX12_tables 8 = .ok (.bipush 6, 2) := by decide +kernel
theorem dX12_tables_10 : decode cX12_tables 10 = .ok (.aload_n 0, 1) := by decide +kernel
theorem dX12_tables_11 : decode cX12_tables 11 = .ok (.getfield 275, 3) := by decide +kernel
theorem dX12_tables_14 : decode cX12_tables 14 = .ok (.invokevirtual 218, 3) := by decide +kernel
theorem dX12_tables_17 : decode cX12_tables 17 = .ok (.return_, 1) := by decide +kernel
theorem dX12_tables_18 : decode cX12_tables 18 = .ok (.aload_n 0, 1) := by decide +kernel
theorem dX12_tables_19 : decode cX12_tables 19 = .ok (.aload_n 0, 1) := by decide +kernel
theorem dX12_tables_20 : decode cX12_tables 20 = .ok (.getfield 290, 3) := by decide +kernel
theorem dX12_tables_23 : decode cX12_tables 23 = .ok (.invokevirtual 418, 3) := by decide +kernel
theorem dX12_tables_26 : decode cX12_tables 26 = .ok (.istore_n 1, 1) := by decide +kernel
theorem dX12_tables_27 : decode cX12_tables 27 = .ok (.aload_n 0, 1) := by decide +kernel
theorem dX12_tables_28 : decode cX12_tables 28 = .ok (.getfield 278, 3) := by decide +kernel
theorem dX12_tables_31 : decode cX12_tables 31 = .ok (.ifCond .ne 168, 3) := by decide +kernel
theorem dX12_tables_34 : decode cX12_tables 34 = .ok (.iload_n 1, 1) := by decide +kernel
theorem dX12_tables_35 : decode cX12_tables 35 = .ok (.ifCond .lt 20, 3) := by decide +kernel
theorem dX12_tables_38 : decode cX12_tables 38 = .ok (.aload_n 0, 1) := by decide +kernel
theorem dX12_tables_39 : decode cX12_tables 39 = .ok (.iconst 4, 1) := by decide +kernel
theorem dX12_tables_40 : decode cX12_tables 40 = .ok (.aload_n 0, 1) := by decide +kernel
theorem dX12_tables_41 : decode cX12_tables 41 = .ok (.getfield 79, 3) := by decide +kernel
theorem dX12_tables_44 : decode cX12_tables 44 = .ok (.aload_n 0, 1) := by decide +kernel
theorem dX12_tables_45 : decode cX12_tables 45 = .ok (.getfield 290, 3) := by decide +kernel
theorem dX12_tables_48 : decode cX12_tables 48 = .ok (.iaload, 1) := by decide +kernel
theorem dX12_tables_49 : decode cX12_tables 49 = .ok (.invokevirtual 218, 3) := by decide +kernel
theorem dX12_tables_52 : decode cX12_tables 52 = .ok (.goto 26, 3) := by decide +kernel
theorem dX12_tables_55 : decode cX12_tables 55 = .ok (.aload_n 0, 1) := by decide +kernel
theorem dX12_tables_56 : decode cX12_tables 56 = .ok (.getfield 160, 3) := by decide +kernel
theorem dX12_tables_59 : decode cX12_tables 59 = .ok (.bipush 8, 2) := by decide +kernel
theorem dX12_tables_61 : decode cX12_tables 61 = .ok (.if_icmp .ne 17, 3) := by decide +kernel
theorem dX12_tables_64 : decode cX12_tables 64 = .ok (.aload_n 0, 1) := by decide +kernel
theorem dX12_tables_65 : decode cX12_tables 65 = .ok (.iconst 5, 1) := by decide +kernel
theorem dX12_tables_66 : decode cX12_tables 66 = .ok (.aload_n 0, 1) := by decide +kernel
theorem dX12_tables_67 : decode cX12_tables 67 = .ok (.getfield 79, 3) := by decide +kernel
theorem dX12_tables_70 : decode cX12_tables 70 = .ok (.aload_n 0, 1) := by decide +kernel
theorem dX12_tables_71 : decode cX12_tables 71 = .ok (.getfield 290, 3) := by decide +kernel
theorem dX12_tables_74 : decode cX12_tables 74 = .ok (.iaload, 1) := by decide +kernel
theorem dX12_tables_75 : decode cX12_tables 75 = .ok (.invokevirtual 218, 3) := by decide +kernel
theorem dX12_tables_78 : decode cX12_tables 78 = .ok (.aload_n 0, 1) := by decide +kernel
theorem dX12_tables_79 : decode cX12_tables 79 = .ok (.getfield 150, 3) := by decide +kernel
theorem dX12_tables_82 : decode cX12_tables 82 = .ok (.ifCond .eq 4, 3) := by decide +kernel
theorem dX12_tables_85 : decode cX12_tables 85 = .ok (.return_, 1) := by decide +kernel
theorem dX12_tables_86 : decode cX12_tables 86 = .ok (.iconst 0, 1) := by decide +kernel
theorem dX12_tables_87 : decode cX12_tables 87 = .ok (.istore_n 2, 1) := by decide +kernel
theorem dX12_tables_88 : decode cX12_tables 88 = .ok (.iload_n 2, 1) := by decide +kernel
theorem dX12_tables_89 : decode cX12_tables 89 = .ok (.aload_n 0, 1) := by decide +kernel
theorem dX12_tables_90 : decode cX12_tables 90 = .ok (.getfield 82, 3) := by decide +kernel
theorem dX12_tables_93 : decode cX12_tables 93 = .ok (.aload_n 0, 1) := by decide +kernel
theorem dX12_tables_94 : decode cX12_tables 94 = .ok (.getfield 290, 3) := by decide +kernel
theorem dX12_tables_97 : decode cX12_tables 97 = .ok (.iaload, 1) := by decide +kernel
theorem dX12_tables_98 : decode cX12_tables 98 = .ok (.if_icmp .ge 39, 3) := by decide +kernel
theorem dX12_tables_101 : decode cX12_tables 101 = .ok (.aload_n 0, 1) := by decide +kernel
theorem dX12_tables_102 : decode cX12_tables 102 = .ok (.getfield 44, 3) := by decide +kernel
theorem dX12_tables_105 : decode cX12_tables 105 = .ok (.bipush 12, 2) := by decide +kernel
theorem dX12_tables_107 : decode cX12_tables 107 = .ok (.aload_n 0, 1) := by decide +kernel
theorem dX12_tables_108 : decode cX12_tables 108 = .ok (.getfield 160, 3) := by decide +kernel
theorem dX12_tables_111 : decode cX12_tables 111 = .ok (.imul, 1) := by decide +kernel
theorem dX12_tables_112 : decode cX12_tables 112 = .ok (.iload_n 2, 1) := by decide +kernel
theorem dX12_tables_113 : decode cX12_tables 113 = .ok (.iadd, 1) := by decide +kernel
theorem dX12_tables_114 : decode cX12_tables 114 = .ok (.aload_n 0, 1) := by decide +kernel
theorem dX12_tables_115 : decode cX12_tables 115 = .ok (.getfield 37, 3) := by decide +kernel
theorem dX12_tables_118 : decode cX12_tables 118 = .ok (.aload_n 0, 1) := by decide +kernel
theorem dX12_tables_119 : decode cX12_tables 119 = .ok (.getfield 79, 3) := by decide +kernel
theorem dX12_tables_122 : decode cX12_tables 122 = .ok (.aload_n 0, 1) := by decide +kernel
theorem dX12_tables_123 : decode cX12_tables 123 = .ok (.getfield 290, 3) := by decide +kernel
theorem dX12_tables_126 : decode cX12_tables 126 = .ok (.iaload, 1) := by decide +kernel
theorem dX12_tables_127 : decode cX12_tables 127 = .ok (.iload_n 2, 1) := by decide +kernel
theorem dX12_tables_128 : decode cX12_tables 128 = .ok (.iadd, 1) := by decide +kernel
theorem dX12_tables_129 : decode cX12_tables 129 = .ok (.iaload, 1) := by decide +kernel
theorem dX12_tables_130 : decode cX12_tables 130 = .ok (.iastore, 1) := by decide +kernel
theorem dX12_tables_131 : decode cX12_tables 131 = .ok (.iinc 2 1, 3) := by decide +kernel
theorem dX12_tables_134 : decode cX12_tables 134 = .ok (.goto (-46), 3) := by decide +kernel
theorem dX12_tables_137 : decode cX12_tables 137 = .ok (.aload_n 0, 1) := by decide +kernel
theorem dX12_tables_138 : decode cX12_tables 138 = .ok (.getfield 47, 3) := by decide +kernel
theorem dX12_tables_141 : decode cX12_tables 141 = .ok (.aload_n 0, 1) := by decide +kernel
theorem dX12_tables_142 : decode cX12_tables 142 = .ok (.getfield 160, 3) := by decide +kernel
theorem dX12_tables_145 : decode cX12_tables 145 = .ok (.aload_n 0, 1) := by decide +kernel
theorem dX12_tables_146 : decode cX12_tables 146 = .ok (.getfield 82, 3) := by decide +kernel
theorem dX12_tables_149 : decode cX12_tables 149 = .ok (.aload_n 0, 1) := by decide +kernel
theorem dX12_tables_150 : decode cX12_tables 150 = .ok (.getfield 290, 3) := by decide +kernel
theorem dX12_tables_153 : decode cX12_tables 153 = .ok (.iaload, 1) := by decide +kernel
theorem dX12_tables_154 : decode cX12_tables 154 = .ok (.iastore, 1) := by decide +kernel
theorem dX12_tables_155 : decode cX12_tables 155 = .ok (.aload_n 0, 1) := by decide +kernel
theorem dX12_tables_156 : decode cX12_tables 156 = .ok (.getfield 50, 3) := by decide +kernel
theorem dX12_tables_159 : decode cX12_tables 159 = .ok (.aload_n 0, 1) := by decide +kernel
theorem dX12_tables_160 : decode cX12_tables 160 = .ok (.getfield 160, 3) := by decide +kernel
theorem dX12_tables_163 : decode cX12_tables 163 = .ok (.iconst (-1), 1) := by decide +kernel
theorem dX12_tables_164 : decode cX12_tables 164 = .ok (.iastore, 1) := by decide +kernel
theorem dX12_tables_165 : decode cX12_tables 165 = .ok (.aload_n 0, 1) := by decide +kernel
theorem dX12_tables_166 : decode cX12_tables 166 = .ok (.getfield 76, 3) := by decide +kernel
theorem dX12_tables_169 : decode cX12_tables 169 = .ok (.aload_n 0, 1) := by decide +kernel
theorem dX12_tables_170 : decode cX12_tables 170 = .ok (.getfield 160, 3) := by decide +kernel
theorem dX12_tables_173 : decode cX12_tables 173 = .ok (.iconst 3, 1) := by decide +kernel
theorem dX12_tables_174 : decode cX12_tables 174 = .ok (.iastore, 1) := by decide +kernel
theorem dX12_tables_175 : decode cX12_tables 175 = .ok (.aload_n 0, 1) := by decide +kernel
theorem dX12_tables_176 : decode cX12_tables 176 = .ok (.getfield 79, 3) := by decide +kernel
theorem dX12_tables_179 : decode cX12_tables 179 = .ok (.aload_n 0, 1) := by decide +kernel
theorem dX12_tables_180 : decode cX12_tables 180 = .ok (.getfield 160, 3) := by decide +kernel
theorem dX12_tables_183 : decode cX12_tables 183 = .ok (.aload_n 0, 1) := by decide +kernel
theorem dX12_tables_184 : decode cX12_tables 184 = .ok (.getfield 160, 3) := by decide +kernel
theorem dX12_tables_187 : decode cX12_tables 187 = .ok (.iastore, 1) := by decide +kernel
theorem dX12_tables_188 : decode cX12_tables 188 = .ok (.aload_n 0, 1) := by decide +kernel
theorem dX12_tables_189 : decode cX12_tables 189 = .ok (.dup, 1) := by decide +kernel
theorem dX12_tables_190 : decode cX12_tables 190 = .ok (.getfield 160, 3) := by decide +kernel
theorem dX12_tables_193 : decode cX12_tables 193 = .ok (.iconst 1, 1) := by decide +kernel
theorem dX12_tables_194 : decode cX12_tables 194 = .ok (.iadd, 1) := by decide +kernel
theorem dX12_tables_195 : decode cX12_tables 195 = .ok (.putfield 160, 3) := by decide +kernel
theorem dX12_tables_198 : decode cX12_tables 198 = .ok (.return_, 1) := by decide +kernel
theorem dX12_tables_199 : decode cX12_tables 199 = .ok (.iload_n 1, 1) := by decide +kernel
theorem dX12_tables_200 : decode cX12_tables 200 = .ok (.ifCond .ge 17, 3) := by decide +kernel
theorem dX12_tables_203 : decode cX12_tables 203 = .ok (.aload_n 0, 1) := by decide +kernel
theorem dX12_tables_204 : decode cX12_tables 204 = .ok (.iconst 3, 1) := by decide +kernel
theorem dX12_tables_205 : decode cX12_tables 205 = .ok (.aload_n 0, 1) := by decide +kernel
theorem dX12_tables_206 : decode cX12_tables 206 = .ok (.getfield 79, 3) := by decide +kernel
theorem dX12_tables_209 : decode cX12_tables 209 = .ok (.aload_n 0, 1) := by decide +kernel
theorem dX12_tables_210 : decode cX12_tables 210 = .ok (.getfield 290, 3) := by decide +kernel
theorem dX12_tables_213 : decode cX12_tables 213 = .ok (.iaload, 1) := by decide +kernel
theorem dX12_tables_214 : decode cX12_tables 214 = .ok (.invokevirtual 218, 3) := by decide +kernel
theorem dX12_tables_217 : decode cX12_tables 217 = .ok (.aload_n 0, 1) := by decide +kernel
theorem dX12_tables_218 : decode cX12_tables 218 = .ok (.aload_n 0, 1) := by decide +kernel
theorem dX12_tables_219 : decode cX12_tables 219 = .ok (.getfield 293, 3) := by decide +kernel
theorem dX12_tables_222 : decode cX12_tables 222 = .ok (.invokevirtual 418, 3) := by decide +kernel
theorem dX12_tables_225 : decode cX12_tables 225 = .ok (.istore_n 2, 1) := by decide +kernel
theorem dX12_tables_226 : decode cX12_tables 226 = .ok (.iload_n 2, 1) := by decide +kernel
theorem dX12_tables_227 : decode cX12_tables 227 = .ok (.ifCond .ge 17, 3) := by decide +kernel
theorem dX12_tables_230 : decode cX12_tables 230 = .ok (.aload_n 0, 1) := by decide +kernel
theorem dX12_tables_231 : decode cX12_tables 231 = .ok (.iconst 3, 1) := by decide +kernel
theorem dX12_tables_232 : decode cX12_tables 232 = .ok (.aload_n 0, 1) := by decide +kernel
theorem dX12_tables_233 : decode cX12_tables 233 = .ok (.getfield 79, 3) := by decide +kernel
theorem dX12_tables_236 : decode cX12_tables 236 = .ok (.aload_n 0, 1) := by decide +kernel
theorem dX12_tables_237 : decode cX12_tables 237 = .ok (.getfield 293, 3) := by decide +kernel
theorem dX12_tables_240 : decode cX12_tables 240 = .ok (.iaload, 1) := by decide +kernel
theorem dX12_tables_241 : decode cX12_tables 241 = .ok (.invokevirtual 218, 3) := by decide +kernel
theorem dX12_tables_244 : decode cX12_tables 244 = .ok (.aload_n 0, 1) := by decide +kernel
theorem dX12_tables_245 : decode cX12_tables 245 = .ok (.getfield 278, 3) := by decide +kernel
theorem dX12_tables_248 : decode cX12_tables 248 = .ok (.iconst 1, 1) := by decide +kernel
theorem dX12_tables_249 : decode cX12_tables 249 = .ok (.if_icmp .ne 48, 3) := by decide +kernel
theorem dX12_tables_252 : decode cX12_tables 252 = .ok (.aload_n 0, 1) := by decide +kernel
theorem dX12_tables_253 : decode cX12_tables 253 = .ok (.getfield 150, 3) := by decide +kernel
theorem dX12_tables_256 : decode cX12_tables 256 = .ok (.ifCond .ne 26, 3) := by decide +kernel
theorem dX12_tables_259 : decode cX12_tables 259 = .ok (.aload_n 0, 1) := by decide +kernel
theorem dX12_tables_260 : decode cX12_tables 260 = .ok (.getfield 50, 3) := by decide +kernel
theorem dX12_tables_263 : decode cX12_tables 263 = .ok (.iload_n 1, 1) := by decide +kernel
theorem dX12_tables_264 : decode cX12_tables 264 = .ok (.iaload, 1) := by decide +kernel
theorem dX12_tables_265 : decode cX12_tables 265 = .ok (.ifCond .lt 17, 3) := by decide +kernel
theorem dX12_tables_268 : decode cX12_tables 268 = .ok (.aload_n 0, 1) := by decide +kernel
theorem dX12_tables_269 : decode cX12_tables 269 = .ok (.iconst 4, 1) := by decide +kernel
theorem dX12_tables_270 : decode cX12_tables 270 = .ok (.aload_n 0, 1) := by decide +kernel
theorem dX12_tables_271 : decode cX12_tables 271 = .ok (.getfield 79, 3) := by decide +kernel
theorem dX12_tables_274 : decode cX12_tables 274 = .ok (.aload_n 0, 1) := by decide +kernel
theorem dX12_tables_275 : decode cX12_tables 275 = .ok (.getfield 290, 3) := by decide +kernel
theorem dX12_tables_278 : decode cX12_tables 278 = .ok (.iaload, 1) := by decide +kernel
theorem dX12_tables_279 : decode cX12_tables 279 = .ok (.invokevirtual 218, 3) := by decide +kernel
theorem dX12_tables_282 : decode cX12_tables 282 = .ok (.aload_n 0, 1) := by decide +kernel
theorem dX12_tables_283 : decode cX12_tables 283 = .ok (.getfield 150, 3) := by decide +kernel
theorem dX12_tables_286 : decode cX12_tables 286 = .ok (.ifCond .ne 10, 3) := by decide +kernel
theorem dX12_tables_289 : decode cX12_tables 289 = .ok (.aload_n 0, 1) := by decide +kernel
theorem dX12_tables_290 : decode cX12_tables 290 = .ok (.getfield 50, 3) := by decide +kernel
theorem dX12_tables_293 : decode cX12_tables 293 = .ok (.iload_n 1, 1) := by decide +kernel
theorem dX12_tables_294 : decode cX12_tables 294 = .ok (.iload_n 2, 1) := by decide +kernel
theorem dX12_tables_295 : decode cX12_tables 295 = .ok (.iastore, 1) := by decide +kernel
theorem dX12_tables_296 : decode cX12_tables 296 = .ok (.return_, 1) := by decide +kernel
theorem dX12_tables_297 : decode cX12_tables 297 = .ok (.aload_n 0, 1) := by decide +kernel
theorem dX12_tables_298 : decode cX12_tables 298 = .ok (.aload_n 0, 1) := by decide +kernel
theorem dX12_tables_299 : decode cX12_tables 299 = .ok (.getfield 296, 3) := by decide +kernel
theorem dX12_tables_302 : decode cX12_tables 302 = .ok (.invokevirtual 418, 3) := by decide +kernel
theorem dX12_tables_305 : decode cX12_tables 305 = .ok (.istore_n 3, 1) := by decide +kernel
theorem dX12_tables_306 : decode cX12_tables 306 = .ok (.iload_n 3, 1) := by decide +kernel
theorem dX12_tables_307 : decode cX12_tables 307 = .ok (.ifCond .ge 17, 3) := by decide +kernel
theorem dX12_tables_310 : decode cX12_tables 310 = .ok (.aload_n 0, 1) := by decide +kernel
theorem dX12_tables_311 : decode cX12_tables 311 = .ok (.iconst 3, 1) := by decide +kernel
theorem dX12_tables_312 : decode cX12_tables 312 = .ok (.aload_n 0, 1) := by decide +kernel
theorem dX12_tables_313 : decode cX12_tables 313 = .ok (.getfield 79, 3) := by decide +kernel
theorem dX12_tables_316 : decode cX12_tables 316 = .ok (.aload_n 0, 1) := by decide +kernel
theorem dX12_tables_317 : decode cX12_tables 317 = .ok (.getfield 296, 3) := by decide +kernel
theorem dX12_tables_320 : decode cX12_tables 320 = .ok (.iaload, 1) := by decide +kernel
theorem dX12_tables_321 : decode cX12_tables 321 = .ok (.invokevirtual 218, 3) := by decide +kernel
theorem dX12_tables_324 : decode cX12_tables 324 = .ok (.aload_n 0, 1) := by decide +kernel
theorem dX12_tables_325 : decode cX12_tables 325 = .ok (.getfield 150, 3) := by decide +kernel
theorem dX12_tables_328 : decode cX12_tables 328 = .ok (.ifCond .ne 31, 3) := by decide +kernel
theorem dX12_tables_331 : decode cX12_tables 331 = .ok (.aload_n 0, 1) := by decide +kernel
theorem dX12_tables_332 : decode cX12_tables 332 = .ok (.getfield 52, 3) := by decide +kernel
theorem dX12_tables_335 : decode cX12_tables 335 = .ok (.bipush 8, 2) := by decide +kernel
theorem dX12_tables_337 : decode cX12_tables 337 = .ok (.iload_n 1, 1) := by decide +kernel
theorem dX12_tables_338 : decode cX12_tables 338 = .ok (.imul, 1) := by decide +kernel
theorem dX12_tables_339 : decode cX12_tables 339 = .ok (.iload_n 2, 1) := by decide +kernel
theorem dX12_tables_340 : decode cX12_tables 340 = .ok (.iadd, 1) := by decide +kernel
theorem dX12_tables_341 : decode cX12_tables 341 = .ok (.iaload, 1) := by decide +kernel
theorem dX12_tables_342 : decode cX12_tables 342 = .ok (.ifCond .lt 17, 3) := by decide +kernel
theorem dX12_tables_345 : decode cX12_tables 345 = .ok (.aload_n 0, 1) := by decide +kernel
theorem dX12_tables_346 : decode cX12_tables 346 = .ok (.iconst 4, 1) := by decide +kernel
theorem dX12_tables_347 : decode cX12_tables 347 = .ok (.aload_n 0, 1) := by decide +kernel
theorem dX12_tables_348 : decode cX12_tables 348 = .ok (.getfield 79, 3) := by decide +kernel
theorem dX12_tables_351 : decode cX12_tables 351 = .ok (.aload_n 0, 1) := by decide +kernel
theorem dX12_tables_352 : decode cX12_tables 352 = .ok (.getfield 290, 3) := by decide +kernel
theorem dX12_tables_355 : decode cX12_tables 355 = .ok (.iaload, 1) := by decide +kernel
theorem dX12_tables_356 : decode cX12_tables 356 = .ok (.invokevirtual 218, 3) := by decide +kernel
theorem dX12_tables_359 : decode cX12_tables 359 = .ok (.aload_n 0, 1) := by decide +kernel
theorem dX12_tables_360 : decode cX12_tables 360 = .ok (.getfield 150, 3) := by decide +kernel
theorem dX12_tables_363 : decode cX12_tables 363 = .ok (.ifCond .ne 15, 3) := by decide +kernel
theorem dX12_tables_366 : decode cX12_tables 366 = .ok (.aload_n 0, 1) := by decide +kernel
theorem dX12_tables_367 : decode cX12_tables 367 = .ok (.getfield 52, 3) := by decide +kernel
theorem dX12_tables_370 : decode cX12_tables 370 = .ok (.bipush 8, 2) := by decide +kernel
theorem dX12_tables_372 : decode cX12_tables 372 = .ok (.iload_n 1, 1) := by decide +kernel
theorem dX12_tables_373 : decode cX12_tables 373 = .ok (.imul, 1) := by decide +kernel
theorem dX12_tables_374 : decode cX12_tables 374 = .ok (.iload_n 2, 1) := by decide +kernel
theorem dX12_tables_375 : decode cX12_tables 375 = .ok (.iadd, 1) := by decide +kernel
theorem dX12_tables_376 : decode cX12_tables 376 = .ok (.iload_n 3, 1) := by decide +kernel
theorem dX12_tables_377 : decode cX12_tables 377 = .ok (.iastore, 1) := by decide +kernel
theorem dX12_tables_378 : decode cX12_tables 378 = .ok (.return_, 1) := by decide +kernel
theorem dX12_yes_0 : decode cX12_yes 0 = .ok (.iload_n 1, 1) := by decide +kernel
theorem dX12_yes_1 : decode cX12_yes 1 = .ok (.ifCond .eq 24, 3) := by decide +kernel
theorem dX12_yes_4 : decode cX12_yes 4 = .ok (.aload_n 0, 1) := by decide +kernel
theorem dX12_yes_5 : decode cX12_yes 5 = .ok (.bipush 121, 2) := by decide +kernel
theorem dX12_yes_7 : decode cX12_yes 7 = .ok (.invokevirtual 384, 3) := by decide +kernel
theorem dX12_yes_10 : decode cX12_yes 10 = .ok (.aload_n 0, 1) := by decide +kernel
theorem dX12_yes_11 : decode cX12_yes 11 = .ok (.bipush 101, 2) := by decide +kernel
theorem dX12_yes_13 : decode cX12_yes 13 = .ok (.invokevirtual 384, 3) := by decide +kernel
theorem dX12_yes_16 : decode cX12_yes 16 = .ok (.aload_n 0, 1) := by decide +kernel
theorem dX12_yes_17 : decode cX12_yes 17 = .ok (.bipush 115, 2) := by decide +kernel
theorem dX12_yes_19 : decode cX12_yes 19 = .ok (.invokevirtual 384, 3) := by decide +kernel
theorem dX12_yes_22 : decode cX12_yes 22 = .ok (.goto 15, 3) := by decide +kernel
theorem dX12_yes_25 : decode cX12_yes 25 = .ok (.aload_n 0, 1) := by decide +kernel
theorem dX12_yes_26 : decode cX12_yes 26 = .ok (.bipush 110, 2) := by decide +kernel
theorem dX12_yes_28 : decode cX12_yes 28 = .ok (.invokevirtual 384, 3) := by decide +kernel
theorem dX12_yes_31 : decode cX12_yes 31 = .ok (.aload_n 0, 1) := by decide +kernel
theorem dX12_yes_32 : decode cX12_yes 32 = .ok (.bipush 111, 2) := by decide +kernel
theorem dX12_yes_34 : decode cX12_yes 34 = .ok (.invokevirtual 384, 3) := by decide +kernel
theorem dX12_yes_37 : decode cX12_yes 37 = .ok (.aload_n 0, 1) := by decide +kernel
theorem dX12_yes_38 : decode cX12_yes 38 = .ok (.bipush 10, 2) := by decide +kernel
theorem dX12_yes_40 : decode cX12_yes 40 = .ok (.invokevirtual 384, 3) := by decide +kernel
theorem dX12_yes_43 : decode cX12_yes 43 = .ok (.return_, 1) := by decide +kernel
theorem dX12_told_0 : decode cX12_told 0 = .ok (.aload_n 0, 1) := by decide +kernel
theorem dX12_told_1 : decode cX12_told 1 = .ok (.aload_n 0, 1) := by decide +kernel
theorem dX12_told_2 : decode cX12_told 2 = .ok (.getfield 290, 3) := by decide +kernel
theorem dX12_told_5 : decode cX12_told 5 = .ok (.invokevirtual 415, 3) := by decide +kernel
theorem dX12_told_8 : decode cX12_told 8 = .ok (.ifCond .ge 14, 3) := by decide +kernel
theorem dX12_told_11 : decode cX12_told 11 = .ok (.aload_n 0, 1) := by decide +kernel
theorem dX12_told_12 : decode cX12_told 12 = .ok (.aload_n 0, 1) := by decide +kernel
theorem dX12_told_13 : decode cX12_told 13 = .ok (.getfield 290, 3) := by decide +kernel
theorem dX12_told_16 : decode cX12_told 16 = .ok (.invokevirtual 418, 3) := by decide +kernel
theorem dX12_told_19 : decode cX12_told 19 = .ok (.ifCond .lt 20, 3) := by decide +kernel
theorem dX12_told_22 : decode cX12_told 22 = .ok (.aload_n 0, 1) := by decide +kernel
theorem dX12_told_23 : decode cX12_told 23 = .ok (.iconst 4, 1) := by decide +kernel
theorem dX12_told_24 : decode cX12_told 24 = .ok (.aload_n 0, 1) := by decide +kernel
theorem dX12_told_25 : decode cX12_told 25 = .ok (.getfield 79, 3) := by decide +kernel
theorem dX12_told_28 : decode cX12_told 28 = .ok (.aload_n 0, 1) := by decide +kernel
theorem dX12_told_29 : decode cX12_told 29 = .ok (.getfield 290, 3) := by decide +kernel
theorem dX12_told_32 : decode cX12_told 32 = .ok (.iaload, 1) := by decide +kernel
theorem dX12_told_33 : decode cX12_told 33 = .ok (.invokevirtual 218, 3) := by decide +kernel
theorem dX12_told_36 : decode cX12_told 36 = .ok (.goto 26, 3) := by decide +kernel
theorem dX12_told_39 : decode cX12_told 39 = .ok (.aload_n 0, 1) := by decide +kernel
theorem dX12_told_40 : decode cX12_told 40 = .ok (.getfield 167, 3) := by decide +kernel
theorem dX12_told_43 : decode cX12_told 43 = .ok (.bipush 100, 2) := by decide +kernel
theorem dX12_told_45 : decode cX12_told 45 = .ok (.if_icmp .ne 17, 3) := by decide +kernel
theorem dX12_told_48 : decode cX12_told 48 = .ok (.aload_n 0, 1) := by decide +kernel
theorem dX12_told_49 : decode cX12_told 49 = .ok (.iconst 5, 1) := by decide +kernel
theorem dX12_told_50 : decode cX12_told 50 = .ok (.aload_n 0, 1) := by decide +kernel
theorem dX12_told_51 : decode cX12_told 51 = .ok (.getfield 79, 3) := by decide +kernel
theorem dX12_told_54 : decode cX12_told 54 = .ok (.aload_n 0, 1) := by decide +kernel
theorem dX12_told_55 : decode cX12_told 55 = .ok (.getfield 290, 3) := by decide +kernel
theorem dX12_told_58 : decode cX12_told 58 = .ok (.iaload, 1) := by decide +kernel
theorem dX12_told_59 : decode cX12_told 59 = .ok (.invokevirtual 218, 3) := by decide +kernel
theorem dX12_told_62 : decode cX12_told 62 = .ok (.iconst 0, 1) := by decide +kernel
theorem dX12_told_63 : decode cX12_told 63 = .ok (.istore_n 1, 1) := by decide +kernel
theorem dX12_told_64 : decode cX12_told 64 = .ok (.iconst 0, 1) := by decide +kernel
theorem dX12_told_65 : decode cX12_told 65 = .ok (.istore_n 2, 1) := by decide +kernel
theorem dX12_told_66 : decode cX12_told 66 = .ok (.aload_n 0, 1) := by decide +kernel
theorem dX12_told_67 : decode cX12_told 67 = .ok (.getfield 150, 3) := by decide +kernel
theorem dX12_told_70 : decode cX12_told 70 = .ok (.ifCond .ne 38, 3) := by decide +kernel
theorem dX12_told_73 : decode cX12_told 73 = .ok (.aload_n 0, 1) := by decide +kernel
theorem dX12_told_74 : decode cX12_told 74 = .ok (.getfield 284, 3) := by decide +kernel
theorem dX12_told_77 : decode cX12_told 77 = .ok (.ifCond .lt 31, 3) := by decide +kernel
theorem dX12_told_80 : decode cX12_told 80 = .ok (.aload_n 0, 1) := by decide +kernel
theorem dX12_told_81 : decode cX12_told 81 = .ok (.aload_n 0, 1) := by decide +kernel
theorem dX12_told_82 : decode cX12_told 82 = .ok (.getfield 284, 3) := by decide +kernel
theorem dX12_told_85 : decode cX12_told 85 = .ok (.iconst 0, 1) := by decide +kernel
theorem dX12_told_86 : decode cX12_told 86 = .ok (.invokevirtual 440, 3) := by decide +kernel
theorem dX12_told_89 : decode cX12_told 89 = .ok (.istore_n 1, 1) := by decide +kernel
theorem dX12_told_90 : decode cX12_told 90 = .ok (.aload_n 0, 1) := by decide +kernel
theorem dX12_told_91 : decode cX12_told 91 = .ok (.getfield 150, 3) := by decide +kernel
theorem dX12_told_94 : decode cX12_told 94 = .ok (.ifCond .ne 14, 3) := by decide +kernel
theorem dX12_told_97 : decode cX12_told 97 = .ok (.aload_n 0, 1) := by decide +kernel
theorem dX12_told_98 : decode cX12_told 98 = .ok (.aload_n 0, 1) := by decide +kernel
theorem dX12_told_99 : decode cX12_told 99 = .ok (.getfield 284, 3) := by decide +kernel
theorem dX12_told_102 : decode cX12_told 102 = .ok (.iconst 0, 1) := by decide +kernel
theorem dX12_told_103 : decode cX12_told 103 = .ok (.iconst 0, 1) := by decide +kernel
theorem dX12_told_104 : decode cX12_told 104 = .ok (.invokevirtual 396, 3) := by decide +kernel
theorem dX12_told_107 : decode cX12_told 107 = .ok (.istore_n 2, 1) := by decide +kernel
theorem dX12_told_108 : decode cX12_told 108 = .ok (.aload_n 0, 1) := by decide +kernel
theorem dX12_told_109 : decode cX12_told 109 = .ok (.getfield 150, 3) := by decide +kernel
theorem dX12_told_112 : decode cX12_told 112 = .ok (.ifCond .ne 63, 3) := by decide +kernel
theorem dX12_told_115 : decode cX12_told 115 = .ok (.aload_n 0, 1) := by decide +kernel
theorem dX12_told_116 : decode cX12_told 116 = .ok (.getfield 281, 3) := by decide +kernel
theorem dX12_told_119 : decode cX12_told 119 = .ok (.ifCond .lt 56, 3) := by decide +kernel
theorem dX12_told_122 : decode cX12_told 122 = .ok (.aload_n 0, 1) := by decide +kernel
theorem dX12_told_123 : decode cX12_told 123 = .ok (.aload_n 0, 1) := by decide +kernel
theorem dX12_told_124 : decode cX12_told 124 = .ok (.getfield 281, 3) := by decide +kernel
theorem dX12_told_127 : decode cX12_told 127 = .ok (.iconst 0, 1) := by decide +kernel
theorem dX12_told_128 : decode cX12_told 128 = .ok (.invokevirtual 421, 3) := by decide +kernel
theorem dX12_told_131 : decode cX12_told 131 = .ok (.aload_n 0, 1) := by decide +kernel
theorem dX12_told_132 : decode cX12_told 132 = .ok (.getfield 150, 3) := by decide +kernel
theorem dX12_told_135 : decode cX12_told 135 = .ok (.ifCond .ne 40, 3) := by decide +kernel
theorem dX12_told_138 : decode cX12_told 138 = .ok (.aload_n 0, 1) := by decide +kernel
theorem dX12_told_139 : decode cX12_told 139 = .ok (.getfield 284, 3) := by decide +kernel
theorem dX12_told_142 : decode cX12_told 142 = .ok (.ifCond .lt 33, 3) := by decide +kernel
theorem dX12_told_145 : decode cX12_told 145 = .ok (.aload_n 0, 1) := by decide +kernel
theorem dX12_told_146 : decode cX12_told 146 = .ok (.iload_n 2, 1) := by decide +kernel
theorem dX12_told_147 : decode cX12_told 147 = .ok (.iconst 0, 1) := by decide +kernel
theorem dX12_told_148 : decode cX12_told 148 = .ok (.aload_n 0, 1) := by decide +kernel
theorem dX12_told_149 : decode cX12_told 149 = .ok (.getfield 403, 3) := by decide +kernel
theorem dX12_told_152 : decode cX12_told 152 = .ok (.iconst 0, 1) := by decide +kernel
theorem dX12_told_153 : decode cX12_told 153 = .ok (.iconst 0, 1) := by decide +kernel
theorem dX12_told_154 : decode cX12_told 154 = .ok (.invokevirtual 366, 3) := by decide +kernel
theorem dX12_told_157 : decode cX12_told 157 = .ok (.ifCond .ne 18, 3) := by decide +kernel
theorem dX12_told_160 : decode cX12_told 160 = .ok (.aload_n 0, 1) := by decide +kernel
theorem dX12_told_161 : decode cX12_told 161 = .ok (.bipush 11, 2) := by decide +kernel
theorem dX12_told_163 : decode cX12_told 163 = .ok (.aload_n 0, 1) := by decide +kernel
theorem dX12_told_164 : decode cX12_told 164 = .ok (.getfield 88, 3) := by decide +kernel
theorem dX12_told_167 : decode cX12_told 167 = .ok (.aload_n 0, 1) := by decide +kernel
theorem dX12_told_168 : decode cX12_told 168 = .ok (.getfield 281, 3) := by decide +kernel
theorem dX12_told_171 : decode cX12_told 171 = .ok (.iaload, 1) := by decide +kernel
theorem dX12_told_172 : decode cX12_told 172 = .ok (.invokevirtual 218, 3) := by decide +kernel
theorem dX12_told_175 : decode cX12_told 175 = .ok (.aload_n 0, 1) := by decide +kernel
theorem dX12_told_176 : decode cX12_told 176 = .ok (.getfield 150, 3) := by decide +kernel
theorem dX12_told_179 : decode cX12_told 179 = .ok (.ifCond .eq 4, 3) := by decide +kernel
theorem dX12_told_182 : decode cX12_told 182 = .ok (.return_, 1) := by decide +kernel
theorem dX12_told_183 : decode cX12_told 183 = .ok (.aload_n 0, 1) := by decide +kernel
theorem dX12_told_184 : decode cX12_told 184 = .ok (.getfield 284, 3) := by decide +kernel
theorem dX12_told_187 : decode cX12_told 187 = .ok (.ifCond .lt 9, 3) := by decide +kernel
theorem dX12_told_190 : decode cX12_told 190 = .ok (.aload_n 0, 1) := by decide +kernel
theorem dX12_told_191 : decode cX12_told 191 = .ok (.iload_n 2, 1) := by decide +kernel
theorem dX12_told_192 : decode cX12_told 192 = .ok (.iload_n 1, 1) := by decide +kernel
theorem dX12_told_193 : decode cX12_told 193 = .ok (.invokevirtual 412, 3) := by decide +kernel
theorem dX12_told_196 : decode cX12_told 196 = .ok (.iconst 0, 1) := by decide +kernel
theorem dX12_told_197 : decode cX12_told 197 = .ok (.istore_n 3, 1) := by decide +kernel
theorem dX12_told_198 : decode cX12_told 198 = .ok (.iload_n 3, 1) := by decide +kernel
theorem dX12_told_199 : decode cX12_told 199 = .ok (.aload_n 0, 1) := by decide +kernel
theorem dX12_told_200 : decode cX12_told 200 = .ok (.getfield 82, 3) := by decide +kernel
theorem dX12_told_203 : decode cX12_told 203 = .ok (.aload_n 0, 1) := by decide +kernel
theorem dX12_told_204 : decode cX12_told 204 = .ok (.getfield 290, 3) := by decide +kernel
theorem dX12_told_207 : decode cX12_told 207 = .ok (.iaload, 1) := by decide +kernel
theorem dX12_told_208 : decode cX12_told 208 = .ok (.if_icmp .ge 39, 3) := by decide +kernel
theorem dX12_told_211 : decode cX12_told 211 = .ok (.aload_n 0, 1) := by decide +kernel
theorem dX12_told_212 : decode cX12_told 212 = .ok (.getfield 54, 3) := by decide +kernel
theorem dX12_told_215 : decode cX12_told 215 = .ok (.bipush 12, 2) := by decide +kernel
theorem dX12_told_217 : decode cX12_told 217 = .ok (.aload_n 0, 1) := by decide +kernel
theorem dX12_told_218 : decode cX12_told 218 = .ok (.getfield 167, 3) := by decide +kernel
theorem dX12_told_221 : decode cX12_told 221 = .ok (.imul, 1) := by decide +kernel
theorem dX12_told_222 : decode cX12_told 222 = .ok (.iload_n 3, 1) := by decide +kernel
theorem dX12_told_223 : decode cX12_told 223 = .ok (.iadd, 1) := by decide +kernel
theorem dX12_told_224 : decode cX12_told 224 = .ok (.aload_n 0, 1) := by decide +kernel
theorem dX12_told_225 : decode cX12_told 225 = .ok (.getfield 37, 3) := by decide +kernel
theorem dX12_told_228 : decode cX12_told 228 = .ok (.aload_n 0, 1) := by decide +kernel
theorem dX12_told_229 : decode cX12_told 229 = .ok (.getfield 79, 3) := by decide +kernel
theorem dX12_told_232 : decode cX12_told 232 = .ok (.aload_n 0, 1) := by decide +kernel
theorem dX12_told_233 : decode cX12_told 233 = .ok (.getfield 290, 3) := by decide +kernel
theorem dX12_told_236 : decode cX12_told 236 = .ok (.iaload, 1) := by decide +kernel
theorem dX12_told_237 : decode cX12_told 237 = .ok (.iload_n 3, 1) := by decide +kernel
theorem dX12_told_238 : decode cX12_told 238 = .ok (.iadd, 1) := by decide +kernel
theorem dX12_told_239 : decode cX12_told 239 = .ok (.iaload, 1) := by decide +kernel
theorem dX12_told_240 : decode cX12_told 240 = .ok (.iastore, 1) := by decide +kernel
theorem dX12_told_241 : decode cX12_told 241 = .ok (.iinc 3 1, 3) := by decide +kernel
theorem dX12_told_244 : decode cX12_told 244 = .ok (.goto (-46), 3) := by decide +kernel
theorem dX12_told_247 : decode cX12_told 247 = .ok (.aload_n 0, 1) := by decide +kernel
theorem dX12_told_248 : decode cX12_told 248 = .ok (.getfield 57, 3) := by decide +kernel
theorem dX12_told_251 : decode cX12_told 251 = .ok (.aload_n 0, 1) := by decide +kernel
theorem dX12_told_252 : decode cX12_told 252 = .ok (.getfield 167, 3) := by decide +kernel
theorem dX12_told_255 : decode cX12_told 255 = .ok (.aload_n 0, 1) := by decide +kernel
theorem dX12_told_256 : decode cX12_told 256 = .ok (.getfield 82, 3) := by decide +kernel
theorem dX12_told_259 : decode cX12_told 259 = .ok (.aload_n 0, 1) := by decide +kernel
theorem dX12_told_260 : decode cX12_told 260 = .ok (.getfield 290, 3) := by decide +kernel
theorem dX12_told_263 : decode cX12_told 263 = .ok (.iaload, 1) := by decide +kernel
theorem dX12_told_264 : decode cX12_told 264 = .ok (.iastore, 1) := by decide +kernel
theorem dX12_told_265 : decode cX12_told 265 = .ok (.aload_n 0, 1) := by decide +kernel
theorem dX12_told_266 : decode cX12_told 266 = .ok (.getfield 60, 3) := by decide +kernel
theorem dX12_told_269 : decode cX12_told 269 = .ok (.aload_n 0, 1) := by decide +kernel
theorem dX12_told_270 : decode cX12_told 270 = .ok (.getfield 167, 3) := by decide +kernel
theorem dX12_told_273 : decode cX12_told 273 = .ok (.aload_n 0, 1) := by decide +kernel
theorem dX12_told_274 : decode cX12_told 274 = .ok (.getfield 403, 3) := by decide +kernel
theorem dX12_told_277 : decode cX12_told 277 = .ok (.iastore, 1) := by decide +kernel
theorem dX12_told_278 : decode cX12_told 278 = .ok (.aload_n 0, 1) := by decide +kernel
theorem dX12_told_279 : decode cX12_told 279 = .ok (.getfield 63, 3) := by decide +kernel
theorem dX12_told_282 : decode cX12_told 282 = .ok (.aload_n 0, 1) := by decide +kernel
theorem dX12_told_283 : decode cX12_told 283 = .ok (.getfield 167, 3) := by decide +kernel
theorem dX12_told_286 : decode cX12_told 286 = .ok (.aload_n 0, 1) := by decide +kernel
theorem dX12_told_287 : decode cX12_told 287 = .ok (.getfield 406, 3) := by decide +kernel
theorem dX12_told_290 : decode cX12_told 290 = .ok (.iastore, 1) := by decide +kernel
theorem dX12_told_291 : decode cX12_told 291 = .ok (.aload_n 0, 1) := by decide +kernel
theorem dX12_told_292 : decode cX12_told 292 = .ok (.getfield 66, 3) := by decide +kernel
theorem dX12_told_295 : decode cX12_told 295 = .ok (.aload_n 0, 1) := by decide +kernel
theorem dX12_told_296 : decode cX12_told 296 = .ok (.getfield 167, 3) := by decide +kernel
theorem dX12_told_299 : decode cX12_told 299 = .ok (.aload_n 0, 1) := by decide +kernel
theorem dX12_told_300 : decode cX12_told 300 = .ok (.getfield 281, 3) := by decide +kernel
theorem dX12_told_303 : decode cX12_told 303 = .ok (.iastore, 1) := by decide +kernel
theorem dX12_told_304 : decode cX12_told 304 = .ok (.aload_n 0, 1) := by decide +kernel
theorem dX12_told_305 : decode cX12_told 305 = .ok (.getfield 69, 3) := by decide +kernel
theorem dX12_told_308 : decode cX12_told 308 = .ok (.aload_n 0, 1) := by decide +kernel
theorem dX12_told_309 : decode cX12_told 309 = .ok (.getfield 167, 3) := by decide +kernel
theorem dX12_told_312 : decode cX12_told 312 = .ok (.aload_n 0, 1) := by decide +kernel
theorem dX12_told_313 : decode cX12_told 313 = .ok (.getfield 173, 3) := by decide +kernel
theorem dX12_told_316 : decode cX12_told 316 = .ok (.iastore, 1) := by decide +kernel
theorem dX12_told_317 : decode cX12_told 317 = .ok (.aload_n 0, 1) := by decide +kernel
theorem dX12_told_318 : decode cX12_told 318 = .ok (.dup, 1) := by decide +kernel
theorem dX12_told_319 : decode cX12_told 319 = .ok (.getfield 167, 3) := by decide +kernel
theorem dX12_told_322 : decode cX12_told 322 = .ok (.iconst 1, 1) := by decide +kernel
theorem dX12_told_323 : decode cX12_told 323 = .ok (.iadd, 1) := by decide +kernel
theorem dX12_told_324 : decode cX12_told 324 = .ok (.putfield 167, 3) := by decide +kernel
theorem dX12_told_327 : decode cX12_told 327 = .ok (.aload_n 0, 1) := by decide +kernel
theorem dX12_told_328 : decode cX12_told 328 = .ok (.aload_n 0, 1) := by decide +kernel
theorem dX12_told_329 : decode cX12_told 329 = .ok (.getfield 173, 3) := by decide +kernel
theorem dX12_told_332 : decode cX12_told 332 = .ok (.putfield 449, 3) := by decide +kernel
theorem dX12_told_335 : decode cX12_told 335 = .ok (.return_, 1) := by decide +kernel
theorem dX12_doStatement_0 : decode cX12_doStatement 0 = .ok (.aload_n 0, 1) := by decide +kernel
theorem dX12_doStatement_1 : decode cX12_doStatement 1 = .ok (.getfield 278, 3) := by decide +kernel
theorem dX12_doStatement_4 : decode cX12_doStatement 4 = .ok (.ifCond .lt 16, 3) := by decide +kernel
theorem dX12_doStatement_7 : decode cX12_doStatement 7 = .ok (.aload_n 0, 1) := by decide +kernel
theorem dX12_doStatement_8 : decode cX12_doStatement 8 = .ok (.getfield 278, 3) := by decide +kernel
theorem dX12_doStatement_11 : decode cX12_doStatement 11 = .ok (.iconst 2, 1) := by decide +kernel
theorem dX12_doStatement_12 : decode cX12_doStatement 12 = .ok (.if_icmp .gt 8, 3) := by decide +kernel
theorem dX12_doStatement_15 : decode cX12_doStatement 15 = .ok (.aload_n 0, 1) := by decide +kernel
theorem dX12_doStatement_16 : decode cX12_doStatement 16 = .ok (.invokevirtual 452, 3) := by decide +kernel
theorem dX12_doStatement_19 : decode cX12_doStatement 19 = .ok (.return_, 1) := by decide +kernel
theorem dX12_doStatement_20 : decode cX12_doStatement 20 = .ok (.aload_n 0, 1) := by decide +kernel
theorem dX12_doStatement_21 : decode cX12_doStatement 21 = .ok (.getfield 278, 3) := by decide +kernel
theorem dX12_doStatement_24 : decode cX12_doStatement 24 = .ok (.tableswitch 244 3 6 #[32, 152, 188, 172], 32) := by decide +kernel
theorem dX12_doStatement_56 : decode cX12_doStatement 56 = .ok (.aload_n 0, 1) := by decide +kernel
theorem dX12_doStatement_57 : decode cX12_doStatement 57 = .ok (.getfield 284, 3) := by decide +kernel
theorem dX12_doStatement_60 : decode cX12_doStatement 60 = .ok (.ifCond .lt 96, 3) := by decide +kernel
theorem dX12_doStatement_63 : decode cX12_doStatement 63 = .ok (.aload_n 0, 1) := by decide +kernel
theorem dX12_doStatement_64 : decode cX12_doStatement 64 = .ok (.aload_n 0, 1) := by decide +kernel
theorem dX12_doStatement_65 : decode cX12_doStatement 65 = .ok (.getfield 284, 3) := by decide +kernel
theorem dX12_doStatement_68 : decode cX12_doStatement 68 = .ok (.iconst 0, 1) := by decide +kernel
theorem dX12_doStatement_69 : decode cX12_doStatement 69 = .ok (.invokevirtual 440, 3) := by decide +kernel
