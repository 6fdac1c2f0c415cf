theorem dX0_init_0 : decode cX0_init 0 = .ok (.aload_n 0, 1) := by decide +kernel
theorem dX0_init_1 : decode cX0_init 1 = .ok (.invokespecial 3, 3) := by decide +kernel
theorem dX0_init_4 : decode cX0_init 4 = .ok (.aload_n 0, 1) := by decide +kernel
theorem dX0_init_5 : decode cX0_init 5 = .ok (.new 9, 3) := by decide +kernel
theorem dX0_init_8 : decode cX0_init 8 = .ok (.dup, 1) := by decide +kernel
theorem dX0_init_9 : decode cX0_init 9 = .ok (.bipush 8, 2) := by decide +kernel
theorem dX0_init_11 : decode cX0_init 11 = .ok (.invokespecial 13, 3) := by decide +kernel
theorem dX0_init_14 : decode cX0_init 14 = .ok (.putfield 16, 3) := by decide +kernel
theorem dX0_init_17 : decode cX0_init 17 = .ok (.aload_n 0, 1) := by decide +kernel
theorem dX0_init_18 : decode cX0_init 18 = .ok (.bipush 8, 2) := by decide +kernel
theorem dX0_init_20 : decode cX0_init 20 = .ok (.newarray .int, 2) := by decide +kernel
theorem dX0_init_22 : decode cX0_init 22 = .ok (.putfield 20, 3) := by decide +kernel
theorem dX0_init_25 : decode cX0_init 25 = .ok (.aload_n 0, 1) := by decide +kernel
theorem dX0_init_26 : decode cX0_init 26 = .ok (.bipush 64, 2) := by decide +kernel
theorem dX0_init_28 : decode cX0_init 28 = .ok (.newarray .int, 2) := by decide +kernel
theorem dX0_init_30 : decode cX0_init 30 = .ok (.putfield 24, 3) := by decide +kernel
theorem dX0_init_33 : decode cX0_init 33 = .ok (.aload_n 0, 1) := by decide +kernel
theorem dX0_init_34 : decode cX0_init 34 = .ok (.iconst 0, 1) := by decide +kernel
theorem dX0_init_35 : decode cX0_init 35 = .ok (.putfield 27, 3) := by decide +kernel
theorem dX0_init_38 : decode cX0_init 38 = .ok (.aload_n 0, 1) := by decide +kernel
theorem dX0_init_39 : decode cX0_init 39 = .ok (.iconst 0, 1) := by decide +kernel
theorem dX0_init_40 : decode cX0_init 40 = .ok (.putfield 31, 3) := by decide +kernel
theorem dX0_init_43 : decode cX0_init 43 = .ok (.aload_n 0, 1) := by decide +kernel
theorem dX0_init_44 : decode cX0_init 44 = .ok (.new 9, 3) := by decide +kernel
theorem dX0_init_47 : decode cX0_init 47 = .ok (.dup, 1) := by decide +kernel
theorem dX0_init_48 : decode cX0_init 48 = .ok (.bipush 100, 2) := by decide +kernel
theorem dX0_init_50 : decode cX0_init 50 = .ok (.invokespecial 13, 3) := by decide +kernel
theorem dX0_init_53 : decode cX0_init 53 = .ok (.putfield 34, 3) := by decide +kernel
theorem dX0_init_56 : decode cX0_init 56 = .ok (.aload_n 0, 1) := by decide +kernel
theorem dX0_init_57 : decode cX0_init 57 = .ok (.bipush 100, 2) := by decide +kernel
theorem dX0_init_59 : decode cX0_init 59 = .ok (.anewarray 37, 3) := by decide +kernel
theorem dX0_init_62 : decode cX0_init 62 = .ok (.putfield 39, 3) := by decide +kernel
theorem dX0_init_65 : decode cX0_init 65 = .ok (.aload_n 0, 1) := by decide +kernel
theorem dX0_init_66 : decode cX0_init 66 = .ok (.bipush 100, 2) := by decide +kernel
theorem dX0_init_68 : decode cX0_init 68 = .ok (.anewarray 37, 3) := by decide +kernel
theorem dX0_init_71 : decode cX0_init 71 = .ok (.putfield 43, 3) := by decide +kernel
theorem dX0_init_74 : decode cX0_init 74 = .ok (.aload_n 0, 1) := by decide +kernel
theorem dX0_init_75 : decode cX0_init 75 = .ok (.bipush 100, 2) := by decide +kernel
theorem dX0_init_77 : decode cX0_init 77 = .ok (.newarray .int, 2) := by decide +kernel
theorem dX0_init_79 : decode cX0_init 79 = .ok (.putfield 46, 3) := by decide +kernel
theorem dX0_init_82 : decode cX0_init 82 = .ok (.aload_n 0, 1) := by decide +kernel
theorem dX0_init_83 : decode cX0_init 83 = .ok (.bipush 20, 2) := by decide +kernel
theorem dX0_init_85 : decode cX0_init 85 = .ok (.newarray .int, 2) := by decide +kernel
theorem dX0_init_87 : decode cX0_init 87 = .ok (.putfield 49, 3) := by decide +kernel
theorem dX0_init_90 : decode cX0_init 90 = .ok (.aload_n 0, 1) := by decide +kernel
theorem dX0_init_91 : decode cX0_init 91 = .ok (.iconst 0, 1) := by decide +kernel
theorem dX0_init_92 : decode cX0_init 92 = .ok (.putfield 52, 3) := by decide +kernel
theorem dX0_init_95 : decode cX0_init 95 = .ok (.return_, 1) := by decide +kernel
theorem dX0_loadCorner_0 : decode cX0_loadCorner 0 = .ok (.aload_n 0, 1) := by decide +kernel
theorem dX0_loadCorner_1 : decode cX0_loadCorner 1 = .ok (.invokevirtual 55, 3) := by decide +kernel
theorem dX0_loadCorner_4 : decode cX0_loadCorner 4 = .ok (.iload_n 1, 1) := by decide +kernel
theorem dX0_loadCorner_5 : decode cX0_loadCorner 5 = .ok (.bipush 8, 2) := by decide +kernel
theorem dX0_loadCorner_7 : decode cX0_loadCorner 7 = .ok (.if_icmp .ne 4, 3) := by decide +kernel
theorem dX0_loadCorner_10 : decode cX0_loadCorner 10 = .ok (.return_, 1) := by decide +kernel
theorem dX0_loadCorner_11 : decode cX0_loadCorner 11 = .ok (.aload_n 0, 1) := by decide +kernel
theorem dX0_loadCorner_12 : decode cX0_loadCorner 12 = .ok (.getfield 16, 3) := by decide +kernel
theorem dX0_loadCorner_15 : decode cX0_loadCorner 15 = .ok (.getstatic 58, 3) := by decide +kernel
theorem dX0_loadCorner_18 : decode cX0_loadCorner 18 = .ok (.iconst 0, 1) := by decide +kernel
theorem dX0_loadCorner_19 : decode cX0_loadCorner 19 = .ok (.iconst 4, 1) := by decide +kernel
theorem dX0_loadCorner_20 : decode cX0_loadCorner 20 = .ok (.invokevirtual 62, 3) := by decide +kernel
theorem dX0_loadCorner_23 : decode cX0_loadCorner 23 = .ok (.aload_n 0, 1) := by decide +kernel
theorem dX0_loadCorner_24 : decode cX0_loadCorner 24 = .ok (.getfield 16, 3) := by decide +kernel
theorem dX0_loadCorner_27 : decode cX0_loadCorner 27 = .ok (.getstatic 58, 3) := by decide +kernel
theorem dX0_loadCorner_30 : decode cX0_loadCorner 30 = .ok (.iconst 4, 1) := by decide +kernel
theorem dX0_loadCorner_31 : decode cX0_loadCorner 31 = .ok (.iconst 4, 1) := by decide +kernel
theorem dX0_loadCorner_32 : decode cX0_loadCorner 32 = .ok (.invokevirtual 62, 3) := by decide +kernel
theorem dX0_loadCorner_35 : decode cX0_loadCorner 35 = .ok (.aload_n 0, 1) := by decide +kernel
theorem dX0_loadCorner_36 : decode cX0_loadCorner 36 = .ok (.iconst 0, 1) := by decide +kernel
theorem dX0_loadCorner_37 : decode cX0_loadCorner 37 = .ok (.iconst 1, 1) := by decide +kernel
theorem dX0_loadCorner_38 : decode cX0_loadCorner 38 = .ok (.invokevirtual 66, 3) := by decide +kernel
theorem dX0_loadCorner_41 : decode cX0_loadCorner 41 = .ok (.aload_n 0, 1) := by decide +kernel
theorem dX0_loadCorner_42 : decode cX0_loadCorner 42 = .ok (.iconst 0, 1) := by decide +kernel
theorem dX0_loadCorner_43 : decode cX0_loadCorner 43 = .ok (.iconst 0, 1) := by decide +kernel
theorem dX0_loadCorner_44 : decode cX0_loadCorner 44 = .ok (.iconst 0, 1) := by decide +kernel
theorem dX0_loadCorner_45 : decode cX0_loadCorner 45 = .ok (.invokevirtual 70, 3) := by decide +kernel
theorem dX0_loadCorner_48 : decode cX0_loadCorner 48 = .ok (.iload_n 1, 1) := by decide +kernel
theorem dX0_loadCorner_49 : decode cX0_loadCorner 49 = .ok (.iconst 1, 1) := by decide +kernel
theorem dX0_loadCorner_50 : decode cX0_loadCorner 50 = .ok (.iand, 1) := by decide +kernel
theorem dX0_loadCorner_51 : decode cX0_loadCorner 51 = .ok (.ifCond .eq 10, 3) := by decide +kernel
theorem dX0_loadCorner_54 : decode cX0_loadCorner 54 = .ok (.aload_n 0, 1) := by decide +kernel
theorem dX0_loadCorner_55 : decode cX0_loadCorner 55 = .ok (.iconst 1, 1) := by decide +kernel
theorem dX0_loadCorner_56 : decode cX0_loadCorner 56 = .ok (.iconst 0, 1) := by decide +kernel
theorem dX0_loadCorner_57 : decode cX0_loadCorner 57 = .ok (.iconst 0, 1) := by decide +kernel
theorem dX0_loadCorner_58 : decode cX0_loadCorner 58 = .ok (.invokevirtual 70, 3) := by decide +kernel
theorem dX0_loadCorner_61 : decode cX0_loadCorner 61 = .ok (.iload_n 1, 1) := by decide +kernel
theorem dX0_loadCorner_62 : decode cX0_loadCorner 62 = .ok (.iconst 2, 1) := by decide +kernel
theorem dX0_loadCorner_63 : decode cX0_loadCorner 63 = .ok (.iand, 1) := by decide +kernel
theorem dX0_loadCorner_64 : decode cX0_loadCorner 64 = .ok (.ifCond .eq 10, 3) := by decide +kernel
theorem dX0_loadCorner_67 : decode cX0_loadCorner 67 = .ok (.aload_n 0, 1) := by decide +kernel
theorem dX0_loadCorner_68 : decode cX0_loadCorner 68 = .ok (.iconst 1, 1) := by decide +kernel
theorem dX0_loadCorner_69 : decode cX0_loadCorner 69 = .ok (.iconst 1, 1) := by decide +kernel
theorem dX0_loadCorner_70 : decode cX0_loadCorner 70 = .ok (.iconst 1, 1) := by decide +kernel
theorem dX0_loadCorner_71 : decode cX0_loadCorner 71 = .ok (.invokevirtual 70, 3) := by decide +kernel
theorem dX0_loadCorner_74 : decode cX0_loadCorner 74 = .ok (.iload_n 1, 1) := by decide +kernel
theorem dX0_loadCorner_75 : decode cX0_loadCorner 75 = .ok (.iconst 4, 1) := by decide +kernel
theorem dX0_loadCorner_76 : decode cX0_loadCorner 76 = .ok (.iand, 1) := by decide +kernel
theorem dX0_loadCorner_77 : decode cX0_loadCorner 77 = .ok (.ifCond .eq 10, 3) := by decide +kernel
theorem dX0_loadCorner_80 : decode cX0_loadCorner 80 = .ok (.aload_n 0, 1) := by decide +kernel
theorem dX0_loadCorner_81 : decode cX0_loadCorner 81 = .ok (.iconst 0, 1) := by decide +kernel
theorem dX0_loadCorner_82 : decode cX0_loadCorner 82 = .ok (.iconst 1, 1) := by decide +kernel
theorem dX0_loadCorner_83 : decode cX0_loadCorner 83 = .ok (.iconst 1, 1) := by decide +kernel
theorem dX0_loadCorner_84 : decode cX0_loadCorner 84 = .ok (.invokevirtual 70, 3) := by decide +kernel
theorem dX0_loadCorner_87 : decode cX0_loadCorner 87 = .ok (.return_, 1) := by decide +kernel
theorem dX0_addName_0 : decode cX0_addName 0 = .ok (.aload_n 0, 1) := by decide +kernel
theorem dX0_addName_1 : decode cX0_addName 1 = .ok (.getfield 34, 3) := by decide +kernel
theorem dX0_addName_4 : decode cX0_addName 4 = .ok (.invokevirtual 81, 3) := by decide +kernel
theorem dX0_addName_7 : decode cX0_addName 7 = .ok (.ifCond .eq 4, 3) := by decide +kernel
theorem dX0_addName_10 : decode cX0_addName 10 = .ok (.return_, 1) := by decide +kernel
theorem dX0_addName_11 : decode cX0_addName 11 = .ok (.aload_n 0, 1) := by decide +kernel
theorem dX0_addName_12 : decode cX0_addName 12 = .ok (.getfield 34, 3) := by decide +kernel
theorem dX0_addName_15 : decode cX0_addName 15 = .ok (.getfield 74, 3) := by decide +kernel
theorem dX0_addName_18 : decode cX0_addName 18 = .ok (.istore 6, 2) := by decide +kernel
theorem dX0_addName_20 : decode cX0_addName 20 = .ok (.aload_n 0, 1) := by decide +kernel
theorem dX0_addName_21 : decode cX0_addName 21 = .ok (.getfield 39, 3) := by decide +kernel
theorem dX0_addName_24 : decode cX0_addName 24 = .ok (.iload 6, 2) := by decide +kernel
theorem dX0_addName_26 : decode cX0_addName 26 = .ok (.aload_n 3, 1) := by decide +kernel
theorem dX0_addName_27 : decode cX0_addName 27 = .ok (.aastore, 1) := by decide +kernel
theorem dX0_addName_28 : decode cX0_addName 28 = .ok (.aload_n 0, 1) := by decide +kernel
theorem dX0_addName_29 : decode cX0_addName 29 = .ok (.getfield 43, 3) := by decide +kernel
theorem dX0_addName_32 : decode cX0_addName 32 = .ok (.iload 6, 2) := by decide +kernel
theorem dX0_addName_34 : decode cX0_addName 34 = .ok (.aload 5, 2) := by decide +kernel
theorem dX0_addName_36 : decode cX0_addName 36 = .ok (.aastore, 1) := by decide +kernel
theorem dX0_addName_37 : decode cX0_addName 37 = .ok (.aload_n 0, 1) := by decide +kernel
theorem dX0_addName_38 : decode cX0_addName 38 = .ok (.getfield 46, 3) := by decide +kernel
theorem dX0_addName_41 : decode cX0_addName 41 = .ok (.iload 6, 2) := by decide +kernel
theorem dX0_addName_43 : decode cX0_addName 43 = .ok (.iload 4, 2) := by decide +kernel
theorem dX0_addName_45 : decode cX0_addName 45 = .ok (.iastore, 1) := by decide +kernel
theorem dX0_addName_46 : decode cX0_addName 46 = .ok (.aload_n 0, 1) := by decide +kernel
theorem dX0_addName_47 : decode cX0_addName 47 = .ok (.getfield 34, 3) := by decide +kernel
theorem dX0_addName_50 : decode cX0_addName 50 = .ok (.aload_n 1, 1) := by decide +kernel
theorem dX0_addName_51 : decode cX0_addName 51 = .ok (.aload_n 2, 1) := by decide +kernel
theorem dX0_addName_52 : decode cX0_addName 52 = .ok (.getfield 85, 3) := by decide +kernel
theorem dX0_addName_55 : decode cX0_addName 55 = .ok (.aload_n 2, 1) := by decide +kernel
theorem dX0_addName_56 : decode cX0_addName 56 = .ok (.getfield 88, 3) := by decide +kernel
theorem dX0_addName_59 : decode cX0_addName 59 = .ok (.invokevirtual 62, 3) := by decide +kernel
theorem dX0_addName_62 : decode cX0_addName 62 = .ok (.return_, 1) := by decide +kernel
theorem dX4_normalize_0 : decode cX4_normalize 0 = .ok (.aload_n 0, 1) := by decide +kernel
theorem dX4_normalize_1 : decode cX4_normalize 1 = .ok (.iload 4, 2) := by decide +kernel
theorem dX4_normalize_3 : decode cX4_normalize 3 = .ok (.invokevirtual 149, 3) := by decide +kernel
theorem dX4_normalize_6 : decode cX4_normalize 6 = .ok (.aload_n 0, 1) := by decide +kernel
theorem dX4_normalize_7 : decode cX4_normalize 7 = .ok (.aload_n 1, 1) := by decide +kernel
theorem dX4_normalize_8 : decode cX4_normalize 8 = .ok (.aload_n 2, 1) := by decide +kernel
theorem dX4_normalize_9 : decode cX4_normalize 9 = .ok (.invokevirtual 52, 3) := by decide +kernel
theorem dX4_normalize_12 : decode cX4_normalize 12 = .ok (.astore 5, 2) := by decide +kernel
theorem dX4_normalize_14 : decode cX4_normalize 14 = .ok (.aload 5, 2) := by decide +kernel
theorem dX4_normalize_16 : decode cX4_normalize 16 = .ok (.getfield 152, 3) := by decide +kernel
theorem dX4_normalize_19 : decode cX4_normalize 19 = .ok (.astore 6, 2) := by decide +kernel
theorem dX4_normalize_21 : decode cX4_normalize 21 = .ok (.aload 5, 2) := by decide +kernel
theorem dX4_normalize_23 : decode cX4_normalize 23 = .ok (.invokevirtual 64, 3) := by decide +kernel
theorem dX4_normalize_26 : decode cX4_normalize 26 = .ok (.ifCond .eq 89, 3) := by decide +kernel
theorem dX4_normalize_29 : decode cX4_normalize 29 = .ok (.aload 5, 2) := by decide +kernel
theorem dX4_normalize_31 : decode cX4_normalize 31 = .ok (.iload_n 3, 1) := by decide +kernel
theorem dX4_normalize_32 : decode cX4_normalize 32 = .ok (.invokevirtual 156, 3) := by decide +kernel
theorem dX4_normalize_35 : decode cX4_normalize 35 = .ok (.astore 7, 2) := by decide +kernel
theorem dX4_normalize_37 : decode cX4_normalize 37 = .ok (.aload_n 0, 1) := by decide +kernel
theorem dX4_normalize_38 : decode cX4_normalize 38 = .ok (.aload 6, 2) := by decide +kernel
theorem dX4_normalize_40 : decode cX4_normalize 40 = .ok (.getfield 114, 3) := by decide +kernel
theorem dX4_normalize_43 : decode cX4_normalize 43 = .ok (.aload 5, 2) := by decide +kernel
theorem dX4_normalize_45 : decode cX4_normalize 45 = .ok (.getfield 155, 3) := by decide +kernel
theorem dX4_normalize_48 : decode cX4_normalize 48 = .ok (.iload_n 3, 1) := by decide +kernel
theorem dX4_normalize_49 : decode cX4_normalize 49 = .ok (.iload 4, 2) := by decide +kernel
theorem dX4_normalize_51 : decode cX4_normalize 51 = .ok (.iconst 1, 1) := by decide +kernel
theorem dX4_normalize_52 : decode cX4_normalize 52 = .ok (.iadd, 1) := by decide +kernel
theorem dX4_normalize_53 : decode cX4_normalize 53 = .ok (.invokevirtual 48, 3) := by decide +kernel
theorem dX4_normalize_56 : decode cX4_normalize 56 = .ok (.astore 8, 2) := by decide +kernel
theorem dX4_normalize_58 : decode cX4_normalize 58 = .ok (.aload_n 0, 1) := by decide +kernel
theorem dX4_normalize_59 : decode cX4_normalize 59 = .ok (.aload 6, 2) := by decide +kernel
theorem dX4_normalize_61 : decode cX4_normalize 61 = .ok (.getfield 121, 3) := by decide +kernel
theorem dX4_normalize_64 : decode cX4_normalize 64 = .ok (.aload 7, 2) := by decide +kernel
theorem dX4_normalize_66 : decode cX4_normalize 66 = .ok (.iload_n 3, 1) := by decide +kernel
theorem dX4_normalize_67 : decode cX4_normalize 67 = .ok (.iconst 1, 1) := by decide +kernel
theorem dX4_normalize_68 : decode cX4_normalize 68 = .ok (.iadd, 1) := by decide +kernel
theorem dX4_normalize_69 : decode cX4_normalize 69 = .ok (.iload 4, 2) := by decide +kernel
theorem dX4_normalize_71 : decode cX4_normalize 71 = .ok (.iconst 1, 1) := by decide +kernel
theorem dX4_normalize_72 : decode cX4_normalize 72 = .ok (.iadd, 1) := by decide +kernel
theorem dX4_normalize_73 : decode cX4_normalize 73 = .ok (.invokevirtual 48, 3) := by decide +kernel
theorem dX4_normalize_76 : decode cX4_normalize 76 = .ok (.astore 9, 2) := by decide +kernel
theorem dX4_normalize_78 : decode cX4_normalize 78 = .ok (.aload 6, 2) := by decide +kernel
theorem dX4_normalize_80 : decode cX4_normalize 80 = .ok (.getfield 103, 3) := by decide +kernel
theorem dX4_normalize_83 : decode cX4_normalize 83 = .ok (.aload 7, 2) := by decide +kernel
theorem dX4_normalize_85 : decode cX4_normalize 85 = .ok (.getfield 143, 3) := by decide +kernel
theorem dX4_normalize_88 : decode cX4_normalize 88 = .ok (.aload 8, 2) := by decide +kernel
theorem dX4_normalize_90 : decode cX4_normalize 90 = .ok (.aload 9, 2) := by decide +kernel
theorem dX4_normalize_92 : decode cX4_normalize 92 = .ok (.invokestatic 161, 3) := by decide +kernel
theorem dX4_normalize_95 : decode cX4_normalize 95 = .ok (.astore 10, 2) := by decide +kernel
theorem dX4_normalize_97 : decode cX4_normalize 97 = .ok (.aload 10, 2) := by decide +kernel
theorem dX4_normalize_99 : decode cX4_normalize 99 = .ok (.aload 6, 2) := by decide +kernel
theorem dX4_normalize_101 : decode cX4_normalize 101 = .ok (.getfield 165, 3) := by decide +kernel
theorem dX4_normalize_104 : decode cX4_normalize 104 = .ok (.aload 6, 2) := by decide +kernel
theorem dX4_normalize_106 : decode cX4_normalize 106 = .ok (.getfield 168, 3) := by decide +kernel
theorem dX4_normalize_109 : decode cX4_normalize 109 = .ok (.invokevirtual 171, 3) := by decide +kernel
theorem dX4_normalize_112 : decode cX4_normalize 112 = .ok (.aload 10, 2) := by decide +kernel
theorem dX4_normalize_114 : decode cX4_normalize 114 = .ok (.areturn, 1) := by decide +kernel
theorem dX4_normalize_115 : decode cX4_normalize 115 = .ok (.new 104, 3) := by decide +kernel
theorem dX4_normalize_118 : decode cX4_normalize 118 = .ok (.dup, 1) := by decide +kernel
theorem dX4_normalize_119 : decode cX4_normalize 119 = .ok (.aload 6, 2) := by decide +kernel
theorem dX4_normalize_121 : decode cX4_normalize 121 = .ok (.getfield 103, 3) := by decide +kernel
theorem dX4_normalize_124 : decode cX4_normalize 124 = .ok (.aload 5, 2) := by decide +kernel
theorem dX4_normalize_126 : decode cX4_normalize 126 = .ok (.getfield 160, 3) := by decide +kernel
theorem dX4_normalize_129 : decode cX4_normalize 129 = .ok (.invokespecial 174, 3) := by decide +kernel
theorem dX4_normalize_132 : decode cX4_normalize 132 = .ok (.astore 7, 2) := by decide +kernel
theorem dX4_normalize_134 : decode cX4_normalize 134 = .ok (.aload 5, 2) := by decide +kernel
theorem dX4_normalize_136 : decode cX4_normalize 136 = .ok (.getfield 70, 3) := by decide +kernel
theorem dX4_normalize_139 : decode cX4_normalize 139 = .ok (.ifnonnull 6, 3) := by decide +kernel
theorem dX4_normalize_142 : decode cX4_normalize 142 = .ok (.aload 7, 2) := by decide +kernel
theorem dX4_normalize_144 : decode cX4_normalize 144 = .ok (.areturn, 1) := by decide +kernel
theorem dX4_normalize_145 : decode cX4_normalize 145 = .ok (.aload 5, 2) := by decide +kernel
theorem dX4_normalize_147 : decode cX4_normalize 147 = .ok (.getfield 70, 3) := by decide +kernel
theorem dX4_normalize_150 : decode cX4_normalize 150 = .ok (.invokestatic 74, 3) := by decide +kernel
theorem dX4_normalize_153 : decode cX4_normalize 153 = .ok (.anewarray 104, 3) := by decide +kernel
theorem dX4_normalize_156 : decode cX4_normalize 156 = .ok (.astore 8, 2) := by decide +kernel
theorem dX4_normalize_158 : decode cX4_normalize 158 = .ok (.aload 5, 2) := by decide +kernel
theorem dX4_normalize_160 : decode cX4_normalize 160 = .ok (.getfield 70, 3) := by decide +kernel
theorem dX4_normalize_163 : decode cX4_normalize 163 = .ok (.astore 9, 2) := by decide +kernel
theorem dX4_normalize_165 : decode cX4_normalize 165 = .ok (.iconst 0, 1) := by decide +kernel
theorem dX4_normalize_166 : decode cX4_normalize 166 = .ok (.istore 10, 2) := by decide +kernel
theorem dX4_normalize_168 : decode cX4_normalize 168 = .ok (.iload 10, 2) := by decide +kernel
theorem dX4_normalize_170 : decode cX4_normalize 170 = .ok (.aload 8, 2) := by decide +kernel
theorem dX4_normalize_172 : decode cX4_normalize 172 = .ok (.arraylength, 1) := by decide +kernel
theorem dX4_normalize_173 : decode cX4_normalize 173 = .ok (.if_icmp .ge 45, 3) := by decide +kernel
theorem dX4_normalize_176 : decode cX4_normalize 176 = .ok (.aload 9, 2) := by decide +kernel
theorem dX4_normalize_178 : decode cX4_normalize 178 = .ok (.ifnull 40, 3) := by decide +kernel
theorem dX4_normalize_181 : decode cX4_normalize 181 = .ok (.aload 8, 2) := by decide +kernel
theorem dX4_normalize_183 : decode cX4_normalize 183 = .ok (.iload 10, 2) := by decide +kernel
theorem dX4_normalize_185 : decode cX4_normalize 185 = .ok (.aload_n 0, 1) := by decide +kernel
theorem dX4_normalize_186 : decode cX4_normalize 186 = .ok (.aload 9, 2) := by decide +kernel
theorem dX4_normalize_188 : decode cX4_normalize 188 = .ok (.getfield 124, 3) := by decide +kernel
theorem dX4_normalize_191 : decode cX4_normalize 191 = .ok (.aload 9, 2) := by decide +kernel
theorem dX4_normalize_193 : decode cX4_normalize 193 = .ok (.getfield 127, 3) := by decide +kernel
theorem dX4_normalize_196 : decode cX4_normalize 196 = .ok (.iload_n 3, 1) := by decide +kernel
theorem dX4_normalize_197 : decode cX4_normalize 197 = .ok (.iload 4, 2) := by decide +kernel
theorem dX4_normalize_199 : decode cX4_normalize 199 = .ok (.iconst 1, 1) := by decide +kernel
theorem dX4_normalize_200 : decode cX4_normalize 200 = .ok (.iadd, 1) := by decide +kernel
theorem dX4_normalize_201 : decode cX4_normalize 201 = .ok (.invokevirtual 48, 3) := by decide +kernel
theorem dX4_normalize_204 : decode cX4_normalize 204 = .ok (.aastore, 1) := by decide +kernel
theorem dX4_normalize_205 : decode cX4_normalize 205 = .ok (.aload 9, 2) := by decide +kernel
theorem dX4_normalize_207 : decode cX4_normalize 207 = .ok (.getfield 130, 3) := by decide +kernel
theorem dX4_normalize_210 : decode cX4_normalize 210 = .ok (.astore 9, 2) := by decide +kernel
theorem dX4_normalize_212 : decode cX4_normalize 212 = .ok (.iinc 10 1, 3) := by decide +kernel
theorem dX4_normalize_215 : decode cX4_normalize 215 = .ok (.goto (-47), 3) := by decide +kernel
theorem dX4_normalize_218 : decode cX4_normalize 218 = .ok (.aload 7, 2) := by decide +kernel
theorem dX4_normalize_220 : decode cX4_normalize 220 = .ok (.aload 8, 2) := by decide +kernel
theorem dX4_normalize_222 : decode cX4_normalize 222 = .ok (.invokestatic 176, 3) := by decide +kernel
theorem dX4_normalize_225 : decode cX4_normalize 225 = .ok (.areturn, 1) := by decide +kernel
theorem dX4_putAnswer_0 : decode cX4_putAnswer 0 = .ok (.iload_n 1, 1) := by decide +kernel
theorem dX4_putAnswer_1 : decode cX4_putAnswer 1 = .ok (.ifCond .eq 8, 3) := by decide +kernel
theorem dX4_putAnswer_4 : decode cX4_putAnswer 4 = .ok (.ldc 204, 2) := by decide +kernel
theorem dX4_putAnswer_6 : decode cX4_putAnswer 6 = .ok (.goto 5, 3) := by decide +kernel
theorem dX4_putAnswer_9 : decode cX4_putAnswer 9 = .ok (.ldc 206, 2) := by decide +kernel
theorem dX4_putAnswer_11 : decode cX4_putAnswer 11 = .ok (.astore_n 2, 1) := by decide +kernel
theorem dX4_putAnswer_12 : decode cX4_putAnswer 12 = .ok (.iconst 0, 1) := by decide +kernel
theorem dX4_putAnswer_13 : decode cX4_putAnswer 13 = .ok (.istore_n 3, 1) := by decide +kernel
theorem dX4_putAnswer_14 : decode cX4_putAnswer 14 = .ok (.iload_n 3, 1) := by decide +kernel
theorem dX4_putAnswer_15 : decode cX4_putAnswer 15 = .ok (.aload_n 2, 1) := by decide +kernel
theorem dX4_putAnswer_16 : decode cX4_putAnswer 16 = .ok (.invokevirtual 208, 3) := by decide +kernel
theorem dX4_putAnswer_19 : decode cX4_putAnswer 19 = .ok (.if_icmp .ge 18, 3) := by decide +kernel
theorem dX4_putAnswer_22 : decode cX4_putAnswer 22 = .ok (.aload_n 0, 1) := by decide +kernel
theorem dX4_putAnswer_23 : decode cX4_putAnswer 23 = .ok (.aload_n 2, 1) := by decide +kernel
theorem dX4_putAnswer_24 : decode cX4_putAnswer 24 = .ok (.iload_n 3, 1) := by decide +kernel
theorem dX4_putAnswer_25 : decode cX4_putAnswer 25 = .ok (.invokevirtual 214, 3) := by decide +kernel
theorem dX4_putAnswer_28 : decode cX4_putAnswer 28 = .ok (.invokevirtual 60, 3) := by decide +kernel
theorem dX4_putAnswer_31 : decode cX4_putAnswer 31 = .ok (.iinc 3 1, 3) := by decide +kernel
theorem dX4_putAnswer_34 : decode cX4_putAnswer 34 = .ok (.goto (-20), 3) := by decide +kernel
theorem dX4_putAnswer_37 : decode cX4_putAnswer 37 = .ok (.aload_n 0, 1) := by decide +kernel
theorem dX4_putAnswer_38 : decode cX4_putAnswer 38 = .ok (.bipush 10, 2) := by decide +kernel
theorem dX4_putAnswer_40 : decode cX4_putAnswer 40 = .ok (.invokevirtual 60, 3) := by decide +kernel
theorem dX4_putAnswer_43 : decode cX4_putAnswer 43 = .ok (.return_, 1) := by decide +kernel
theorem dX7_readText_0 : decode cX7_readText 0 = .ok (.aload_n 0, 1) := by decide +kernel
theorem dX7_readText_1 : decode cX7_readText 1 = .ok (.iload_n 1, 1) := by decide +kernel
theorem dX7_readText_2 : decode cX7_readText 2 = .ok (.aload_n 0, 1) := by decide +kernel
theorem dX7_readText_3 : decode cX7_readText 3 = .ok (.getfield 30, 3) := by decide +kernel
theorem dX7_readText_6 : decode cX7_readText 6 = .ok (.arraylength, 1) := by decide +kernel
theorem dX7_readText_7 : decode cX7_readText 7 = .ok (.invokestatic 48, 3) := by decide +kernel
theorem dX7_readText_10 : decode cX7_readText 10 = .ok (.putfield 9, 3) := by decide +kernel
theorem dX7_readText_13 : decode cX7_readText 13 = .ok (.aload_n 0, 1) := by decide +kernel
theorem dX7_readText_14 : decode cX7_readText 14 = .ok (.invokevirtual 54, 3) := by decide +kernel
theorem dX7_readText_17 : decode cX7_readText 17 = .ok (.aload_n 0, 1) := by decide +kernel
theorem dX7_readText_18 : decode cX7_readText 18 = .ok (.iconst 0, 1) := by decide +kernel
theorem dX7_readText_19 : decode cX7_readText 19 = .ok (.putfield 15, 3) := by decide +kernel
theorem dX7_readText_22 : decode cX7_readText 22 = .ok (.new 57, 3) := by decide +kernel
theorem dX7_readText_25 : decode cX7_readText 25 = .ok (.dup, 1) := by decide +kernel
theorem dX7_readText_26 : decode cX7_readText 26 = .ok (.invokespecial 59, 3) := by decide +kernel
theorem dX7_readText_29 : decode cX7_readText 29 = .ok (.astore_n 2, 1) := by decide +kernel
theorem dX7_readText_30 : decode cX7_readText 30 = .ok (.aload_n 0, 1) := by decide +kernel
theorem dX7_readText_31 : decode cX7_readText 31 = .ok (.invokevirtual 60, 3) := by decide +kernel
theorem dX7_readText_34 : decode cX7_readText 34 = .ok (.iconst 0, 1) := by decide +kernel
theorem dX7_readText_35 : decode cX7_readText 35 = .ok (.istore_n 3, 1) := by decide +kernel
theorem dX7_readText_36 : decode cX7_readText 36 = .ok (.iload_n 3, 1) := by decide +kernel
theorem dX7_readText_37 : decode cX7_readText 37 = .ok (.aload_n 0, 1) := by decide +kernel
theorem dX7_readText_38 : decode cX7_readText 38 = .ok (.getfield 9, 3) := by decide +kernel
theorem dX7_readText_41 : decode cX7_readText 41 = .ok (.if_icmp .ge 36, 3) := by decide +kernel
theorem dX7_readText_44 : decode cX7_readText 44 = .ok (.aload_n 0, 1) := by decide +kernel
theorem dX7_readText_45 : decode cX7_readText 45 = .ok (.getfield 18, 3) := by decide +kernel
theorem dX7_readText_48 : decode cX7_readText 48 = .ok (.sipush 261, 3) := by decide +kernel
theorem dX7_readText_51 : decode cX7_readText 51 = .ok (.if_icmp .eq 26, 3) := by decide +kernel
theorem dX7_readText_54 : decode cX7_readText 54 = .ok (.aload_n 2, 1) := by decide +kernel
theorem dX7_readText_55 : decode cX7_readText 55 = .ok (.aload_n 0, 1) := by decide +kernel
theorem dX7_readText_56 : decode cX7_readText 56 = .ok (.invokevirtual 63, 3) := by decide +kernel
theorem dX7_readText_59 : decode cX7_readText 59 = .ok (.invokeinterface 67 2, 5) := by decide +kernel
theorem dX7_readText_64 : decode cX7_readText 64 = .ok (.pop, 1) := by decide +kernel
theorem dX7_readText_65 : decode cX7_readText 65 = .ok (.aload_n 0, 1) := by decide +kernel
theorem dX7_readText_66 : decode cX7_readText 66 = .ok (.bipush 59, 2) := by decide +kernel
theorem dX7_readText_68 : decode cX7_readText 68 = .ok (.invokevirtual 73, 3) := by decide +kernel
theorem dX7_readText_71 : decode cX7_readText 71 = .ok (.iinc 3 1, 3) := by decide +kernel
theorem dX7_readText_74 : decode cX7_readText 74 = .ok (.goto (-38), 3) := by decide +kernel
theorem dX7_readText_77 : decode cX7_readText 77 = .ok (.aload_n 2, 1) := by decide +kernel
theorem dX7_readText_78 : decode cX7_readText 78 = .ok (.areturn, 1) := by decide +kernel
theorem dX7_use_0 : decode cX7_use 0 = .ok (.aload_n 0, 1) := by decide +kernel
theorem dX7_use_1 : decode cX7_use 1 = .ok (.iload_n 1, 1) := by decide +kernel
theorem dX7_use_2 : decode cX7_use 2 = .ok (.invokevirtual 143, 3) := by decide +kernel
theorem dX7_use_5 : decode cX7_use 5 = .ok (.astore_n 2, 1) := by decide +kernel
theorem dX7_use_6 : decode cX7_use 6 = .ok (.aload_n 0, 1) := by decide +kernel
theorem dX7_use_7 : decode cX7_use 7 = .ok (.invokevirtual 146, 3) := by decide +kernel
theorem dX7_use_10 : decode cX7_use 10 = .ok (.ifCond .ne 5, 3) := by decide +kernel
theorem dX7_use_13 : decode cX7_use 13 = .ok (.aload_n 2, 1) := by decide +kernel
theorem dX7_use_14 : decode cX7_use 14 = .ok (.areturn, 1) := by decide +kernel
theorem dX7_use_15 : decode cX7_use 15 = .ok (.new 57, 3) := by decide +kernel
theorem dX7_use_18 : decode cX7_use 18 = .ok (.dup, 1) := by decide +kernel
theorem dX7_use_19 : decode cX7_use 19 = .ok (.invokespecial 59, 3) := by decide +kernel
theorem dX7_use_22 : decode cX7_use 22 = .ok (.astore_n 3, 1) := by decide +kernel
theorem dX7_use_23 : decode cX7_use 23 = .ok (.iconst 0, 1) := by decide +kernel
theorem dX7_use_24 : decode cX7_use 24 = .ok (.istore 4, 2) := by decide +kernel
theorem dX7_use_26 : decode cX7_use 26 = .ok (.iload 4, 2) := by decide +kernel
theorem dX7_use_28 : decode cX7_use 28 = .ok (.aload_n 0, 1) := by decide +kernel
theorem dX7_use_29 : decode cX7_use 29 = .ok (.getfield 9, 3) := by decide +kernel
theorem dX7_use_32 : decode cX7_use 32 = .ok (.if_icmp .ge 28, 3) := by decide +kernel
theorem dX7_use_35 : decode cX7_use 35 = .ok (.aload_n 0, 1) := by decide +kernel
theorem dX7_use_36 : decode cX7_use 36 = .ok (.invokevirtual 146, 3) := by decide +kernel
theorem dX7_use_39 : decode cX7_use 39 = .ok (.ifCond .eq 21, 3) := by decide +kernel
theorem dX7_use_42 : decode cX7_use 42 = .ok (.aload_n 3, 1) := by decide +kernel
theorem dX7_use_43 : decode cX7_use 43 = .ok (.aload_n 0, 1) := by decide +kernel
theorem dX7_use_44 : decode cX7_use 44 = .ok (.iload_n 1, 1) := by decide +kernel
theorem dX7_use_45 : decode cX7_use 45 = .ok (.invokevirtual 143, 3) := by decide +kernel
theorem dX7_use_48 : decode cX7_use 48 = .ok (.invokeinterface 67 2, 5) := by decide +kernel
theorem dX7_use_53 : decode cX7_use 53 = .ok (.pop, 1) := by decide +kernel
theorem dX7_use_54 : decode cX7_use 54 = .ok (.iinc 4 1, 3) := by decide +kernel
theorem dX7_use_57 : decode cX7_use 57 = .ok (.goto (-31), 3) := by decide +kernel
theorem dX7_use_60 : decode cX7_use 60 = .ok (.aload_n 3, 1) := by decide +kernel
theorem dX7_use_61 : decode cX7_use 61 = .ok (.invokeinterface 150 1, 5) := by decide +kernel
theorem dX7_use_66 : decode cX7_use 66 = .ok (.anewarray 122, 3) := by decide +kernel
theorem dX7_use_69 : decode cX7_use 69 = .ok (.astore 4, 2) := by decide +kernel
theorem dX7_use_71 : decode cX7_use 71 = .ok (.iconst 0, 1) := by decide +kernel
theorem dX7_use_72 : decode cX7_use 72 = .ok (.istore 5, 2) := by decide +kernel
theorem dX7_use_74 : decode cX7_use 74 = .ok (.iload 5, 2) := by decide +kernel
theorem dX7_use_76 : decode cX7_use 76 = .ok (.aload 4, 2) := by decide +kernel
theorem dX7_use_78 : decode cX7_use 78 = .ok (.arraylength, 1) := by decide +kernel
theorem dX7_use_79 : decode cX7_use 79 = .ok (.if_icmp .ge 25, 3) := by decide +kernel
theorem dX7_use_82 : decode cX7_use 82 = .ok (.aload 4, 2) := by decide +kernel
theorem dX7_use_84 : decode cX7_use 84 = .ok (.iload 5, 2) := by decide +kernel
theorem dX7_use_86 : decode cX7_use 86 = .ok (.aload_n 3, 1) := by decide +kernel
theorem dX7_use_87 : decode cX7_use 87 = .ok (.iload 5, 2) := by decide +kernel
theorem dX7_use_89 : decode cX7_use 89 = .ok (.invokeinterface 153 2, 5) := by decide +kernel
theorem dX7_use_94 : decode cX7_use 94 = .ok (.checkcast 122, 3) := by decide +kernel
theorem dX7_use_97 : decode cX7_use 97 = .ok (.aastore, 1) := by decide +kernel
theorem dX7_use_98 : decode cX7_use 98 = .ok (.iinc 5 1, 3) := by decide +kernel
theorem dX7_use_101 : decode cX7_use 101 = .ok (.goto (-27), 3) := by decide +kernel
theorem dX7_use_104 : decode cX7_use 104 = .ok (.aload_n 2, 1) := by decide +kernel
theorem dX7_use_105 : decode cX7_use 105 = .ok (.aload 4, 2) := by decide +kernel
theorem dX7_use_107 : decode cX7_use 107 = .ok (.invokestatic 157, 3) := by decide +kernel
theorem dX7_use_110 : decode cX7_use 110 = .ok (.areturn, 1) := by decide +kernel
theorem dX7_isWord_0 : decode cX7_isWord 0 = .ok (.iconst 0, 1) := by decide +kernel
theorem dX7_isWord_1 : decode cX7_isWord 1 = .ok (.istore_n 2, 1) := by decide +kernel
theorem dX7_isWord_2 : decode cX7_isWord 2 = .ok (.iload_n 2, 1) := by decide +kernel
theorem dX7_isWord_3 : decode cX7_isWord 3 = .ok (.aload_n 0, 1) := by decide +kernel
theorem dX7_isWord_4 : decode cX7_isWord 4 = .ok (.getfield 24, 3) := by decide +kernel
theorem dX7_isWord_7 : decode cX7_isWord 7 = .ok (.if_icmp .ge 33, 3) := by decide +kernel
theorem dX7_isWord_10 : decode cX7_isWord 10 = .ok (.ldc 192, 2) := by decide +kernel
theorem dX7_isWord_12 : decode cX7_isWord 12 = .ok (.iload_n 1, 1) := by decide +kernel
theorem dX7_isWord_13 : decode cX7_isWord 13 = .ok (.iload_n 2, 1) := by decide +kernel
theorem dX7_isWord_14 : decode cX7_isWord 14 = .ok (.iadd, 1) := by decide +kernel
theorem dX7_isWord_15 : decode cX7_isWord 15 = .ok (.invokevirtual 194, 3) := by decide +kernel
theorem dX7_isWord_18 : decode cX7_isWord 18 = .ok (.aload_n 0, 1) := by decide +kernel
theorem dX7_isWord_19 : decode cX7_isWord 19 = .ok (.getfield 30, 3) := by decide +kernel
theorem dX7_isWord_22 : decode cX7_isWord 22 = .ok (.aload_n 0, 1) := by decide +kernel
theorem dX7_isWord_23 : decode cX7_isWord 23 = .ok (.getfield 21, 3) := by decide +kernel
theorem dX7_isWord_26 : decode cX7_isWord 26 = .ok (.iload_n 2, 1) := by decide +kernel
theorem dX7_isWord_27 : decode cX7_isWord 27 = .ok (.iadd, 1) := by decide +kernel
theorem dX7_isWord_28 : decode cX7_isWord 28 = .ok (.baload, 1) := by decide +kernel
theorem dX7_isWord_29 : decode cX7_isWord 29 = .ok (.if_icmp .eq 5, 3) := by decide +kernel
theorem dX7_isWord_32 : decode cX7_isWord 32 = .ok (.iconst 0, 1) := by decide +kernel
theorem dX7_isWord_33 : decode cX7_isWord 33 = .ok (.ireturn, 1) := by decide +kernel
theorem dX7_isWord_34 : decode cX7_isWord 34 = .ok (.iinc 2 1, 3) := by decide +kernel
theorem dX7_isWord_37 : decode cX7_isWord 37 = .ok (.goto (-35), 3) := by decide +kernel
theorem dX7_isWord_40 : decode cX7_isWord 40 = .ok (.ldc 192, 2) := by decide +kernel
theorem dX7_isWord_42 : decode cX7_isWord 42 = .ok (.iload_n 1, 1) := by decide +kernel
theorem dX7_isWord_43 : decode cX7_isWord 43 = .ok (.aload_n 0, 1) := by decide +kernel
theorem dX7_isWord_44 : decode cX7_isWord 44 = .ok (.getfield 24, 3) := by decide +kernel
theorem dX7_isWord_47 : decode cX7_isWord 47 = .ok (.iadd, 1) := by decide +kernel
theorem dX7_isWord_48 : decode cX7_isWord 48 = .ok (.invokevirtual 194, 3) := by decide +kernel
theorem dX7_isWord_51 : decode cX7_isWord 51 = .ok (.bipush 32, 2) := by decide +kernel
theorem dX7_isWord_53 : decode cX7_isWord 53 = .ok (.if_icmp .ne 7, 3) := by decide +kernel
theorem dX7_isWord_56 : decode cX7_isWord 56 = .ok (.iconst 1, 1) := by decide +kernel
theorem dX7_isWord_57 : decode cX7_isWord 57 = .ok (.goto 4, 3) := by decide +kernel
theorem dX7_isWord_60 : decode cX7_isWord 60 = .ok (.iconst 0, 1) := by decide +kernel
theorem dX7_isWord_61 : decode cX7_isWord 61 = .ok (.ireturn, 1) := by decide +kernel
theorem dX11_runText_0 : decode cX11_runText 0 = .ok (.aload_n 0, 1) := by decide +kernel
theorem dX11_runText_1 : decode cX11_runText 1 = .ok (.getfield 32, 3) := by decide +kernel
theorem dX11_runText_4 : decode cX11_runText 4 = .ok (.iconst 0, 1) := by decide +kernel
theorem dX11_runText_5 : decode cX11_runText 5 = .ok (.putfield 96, 3) := by decide +kernel
theorem dX11_runText_8 : decode cX11_runText 8 = .ok (.aload_n 0, 1) := by decide +kernel
theorem dX11_runText_9 : decode cX11_runText 9 = .ok (.getfield 16, 3) := by decide +kernel
theorem dX11_runText_12 : decode cX11_runText 12 = .ok (.invokevirtual 161, 3) := by decide +kernel
theorem dX11_runText_15 : decode cX11_runText 15 = .ok (.aload_n 0, 1) := by decide +kernel
theorem dX11_runText_16 : decode cX11_runText 16 = .ok (.iconst 0, 1) := by decide +kernel
theorem dX11_runText_17 : decode cX11_runText 17 = .ok (.putfield 64, 3) := by decide +kernel
theorem dX11_runText_20 : decode cX11_runText 20 = .ok (.aload_n 0, 1) := by decide +kernel
theorem dX11_runText_21 : decode cX11_runText 21 = .ok (.getfield 41, 3) := by decide +kernel
theorem dX11_runText_24 : decode cX11_runText 24 = .ok (.iload_n 1, 1) := by decide +kernel
theorem dX11_runText_25 : decode cX11_runText 25 = .ok (.invokevirtual 164, 3) := by decide +kernel
theorem dX11_runText_28 : decode cX11_runText 28 = .ok (.astore_n 2, 1) := by decide +kernel
theorem dX11_runText_29 : decode cX11_runText 29 = .ok (.iconst 0, 1) := by decide +kernel
theorem dX11_runText_30 : decode cX11_runText 30 = .ok (.istore_n 3, 1) := by decide +kernel
theorem dX11_runText_31 : decode cX11_runText 31 = .ok (.iload_n 3, 1) := by decide +kernel
theorem dX11_runText_32 : decode cX11_runText 32 = .ok (.aload_n 2, 1) := by decide +kernel
theorem dX11_runText_33 : decode cX11_runText 33 = .ok (.invokeinterface 168 1, 5) := by decide +kernel
theorem dX11_runText_38 : decode cX11_runText 38 = .ok (.if_icmp .ge 33, 3) := by decide +kernel
theorem dX11_runText_41 : decode cX11_runText 41 = .ok (.aload_n 0, 1) := by decide +kernel
theorem dX11_runText_42 : decode cX11_runText 42 = .ok (.aload_n 2, 1) := by decide +kernel
theorem dX11_runText_43 : decode cX11_runText 43 = .ok (.iload_n 3, 1) := by decide +kernel
theorem dX11_runText_44 : decode cX11_runText 44 = .ok (.invokeinterface 173 2, 5) := by decide +kernel
theorem dX11_runText_49 : decode cX11_runText 49 = .ok (.checkcast 177, 3) := by decide +kernel
theorem dX11_runText_52 : decode cX11_runText 52 = .ok (.invokevirtual 179, 3) := by decide +kernel
theorem dX11_runText_55 : decode cX11_runText 55 = .ok (.aload_n 0, 1) := by decide +kernel
theorem dX11_runText_56 : decode cX11_runText 56 = .ok (.dup, 1) := by decide +kernel
theorem dX11_runText_57 : decode cX11_runText 57 = .ok (.getfield 64, 3) := by decide +kernel
theorem dX11_runText_60 : decode cX11_runText 60 = .ok (.iconst 1, 1) := by decide +kernel
theorem dX11_runText_61 : decode cX11_runText 61 = .ok (.iadd, 1) := by decide +kernel
theorem dX11_runText_62 : decode cX11_runText 62 = .ok (.putfield 64, 3) := by decide +kernel
theorem dX11_runText_65 : decode cX11_runText 65 = .ok (.iinc 3 1, 3) := by decide +kernel
theorem dX11_runText_68 : decode cX11_runText 68 = .ok (.goto (-37), 3) := by decide +kernel
theorem dX11_runText_71 : decode cX11_runText 71 = .ok (.goto 4, 3) := by decide +kernel
theorem dX11_runText_74 : decode cX11_runText 74 = .ok (.astore_n 2, 1) := by decide +kernel
theorem dX11_runText_75 : decode cX11_runText 75 = .ok (.aload_n 0, 1) := by decide +kernel
theorem dX11_runText_76 : decode cX11_runText 76 = .ok (.aload_n 0, 1) := by decide +kernel
theorem dX11_runText_77 : decode cX11_runText 77 = .ok (.getfield 16, 3) := by decide +kernel
theorem dX11_runText_80 : decode cX11_runText 80 = .ok (.getfield 183, 3) := by decide +kernel
theorem dX11_runText_83 : decode cX11_runText 83 = .ok (.putfield 58, 3) := by decide +kernel
theorem dX11_runText_86 : decode cX11_runText 86 = .ok (.aload_n 0, 1) := by decide +kernel
theorem dX11_runText_87 : decode cX11_runText 87 = .ok (.aload_n 0, 1) := by decide +kernel
theorem dX11_runText_88 : decode cX11_runText 88 = .ok (.getfield 16, 3) := by decide +kernel
theorem dX11_runText_91 : decode cX11_runText 91 = .ok (.getfield 186, 3) := by decide +kernel
theorem dX11_runText_94 : decode cX11_runText 94 = .ok (.putfield 61, 3) := by decide +kernel
theorem dX11_runText_97 : decode cX11_runText 97 = .ok (.aload_n 0, 1) := by decide +kernel
theorem dX11_runText_98 : decode cX11_runText 98 = .ok (.getfield 58, 3) := by decide +kernel
theorem dX11_runText_101 : decode cX11_runText 101 = .ok (.ireturn, 1) := by decide +kernel
theorem dX11_tellTypeOf_0 : decode cX11_tellTypeOf 0 = .ok (.aload_n 0, 1) := by decide +kernel
theorem dX11_tellTypeOf_1 : decode cX11_tellTypeOf 1 = .ok (.getfield 32, 3) := by decide +kernel
theorem dX11_tellTypeOf_4 : decode cX11_tellTypeOf 4 = .ok (.iconst 0, 1) := by decide +kernel
theorem dX11_tellTypeOf_5 : decode cX11_tellTypeOf 5 = .ok (.invokevirtual 189, 3) := by decide +kernel
theorem dX11_tellTypeOf_8 : decode cX11_tellTypeOf 8 = .ok (.aload_n 0, 1) := by decide +kernel
theorem dX11_tellTypeOf_9 : decode cX11_tellTypeOf 9 = .ok (.getfield 32, 3) := by decide +kernel
theorem dX11_tellTypeOf_12 : decode cX11_tellTypeOf 12 = .ok (.iconst 0, 1) := by decide +kernel
theorem dX11_tellTypeOf_13 : decode cX11_tellTypeOf 13 = .ok (.putfield 96, 3) := by decide +kernel
theorem dX11_tellTypeOf_16 : decode cX11_tellTypeOf 16 = .ok (.aload_n 0, 1) := by decide +kernel
theorem dX11_tellTypeOf_17 : decode cX11_tellTypeOf 17 = .ok (.getfield 32, 3) := by decide +kernel
theorem dX11_tellTypeOf_20 : decode cX11_tellTypeOf 20 = .ok (.aload_n 1, 1) := by decide +kernel
theorem dX11_tellTypeOf_21 : decode cX11_tellTypeOf 21 = .ok (.invokevirtual 192, 3) := by decide +kernel
theorem dX11_tellTypeOf_24 : decode cX11_tellTypeOf 24 = .ok (.goto 13, 3) := by decide +kernel
theorem dX11_tellTypeOf_27 : decode cX11_tellTypeOf 27 = .ok (.astore_n 2, 1) := by decide +kernel
theorem dX11_tellTypeOf_28 : decode cX11_tellTypeOf 28 = .ok (.aload_n 0, 1) := by decide +kernel
theorem dX11_tellTypeOf_29 : decode cX11_tellTypeOf 29 = .ok (.getfield 16, 3) := by decide +kernel
theorem dX11_tellTypeOf_32 : decode cX11_tellTypeOf 32 = .ok (.getfield 183, 3) := by decide +kernel
theorem dX11_tellTypeOf_35 : decode cX11_tellTypeOf 35 = .ok (.ineg, 1) := by decide +kernel
theorem dX11_tellTypeOf_36 : decode cX11_tellTypeOf 36 = .ok (.ireturn, 1) := by decide +kernel
theorem dX11_tellTypeOf_37 : decode cX11_tellTypeOf 37 = .ok (.aload_n 0, 1) := by decide +kernel
theorem dX11_tellTypeOf_38 : decode cX11_tellTypeOf 38 = .ok (.getfield 32, 3) := by decide +kernel
theorem dX11_tellTypeOf_41 : decode cX11_tellTypeOf 41 = .ok (.getfield 96, 3) := by decide +kernel
theorem dX11_tellTypeOf_44 : decode cX11_tellTypeOf 44 = .ok (.ireturn, 1) := by decide +kernel
theorem dX11_compareNames_0 : decode cX11_compareNames 0 = .ok (.aload_n 0, 1) := by decide +kernel
theorem dX11_compareNames_1 : decode cX11_compareNames 1 = .ok (.getfield 32, 3) := by decide +kernel
theorem dX11_compareNames_4 : decode cX11_compareNames 4 = .ok (.iconst 0, 1) := by decide +kernel
theorem dX11_compareNames_5 : decode cX11_compareNames 5 = .ok (.invokevirtual 189, 3) := by decide +kernel
theorem dX11_compareNames_8 : decode cX11_compareNames 8 = .ok (.new 196, 3) := by decide +kernel
theorem dX11_compareNames_11 : decode cX11_compareNames 11 = .ok (.dup, 1) := by decide +kernel
theorem dX11_compareNames_12 : decode cX11_compareNames 12 = .ok (.iconst 2, 1) := by decide +kernel
theorem dX11_compareNames_13 : decode cX11_compareNames 13 = .ok (.iload_n 1, 1) := by decide +kernel
theorem dX11_compareNames_14 : decode cX11_compareNames 14 = .ok (.invokespecial 198, 3) := by decide +kernel
theorem dX11_compareNames_17 : decode cX11_compareNames 17 = .ok (.astore_n 3, 1) := by decide +kernel
theorem dX11_compareNames_18 : decode cX11_compareNames 18 = .ok (.new 196, 3) := by decide +kernel
theorem dX11_compareNames_21 : decode cX11_compareNames 21 = .ok (.dup, 1) := by decide +kernel
theorem dX11_compareNames_22 : decode cX11_compareNames 22 = .ok (.iconst 2, 1) := by decide +kernel
theorem dX11_compareNames_23 : decode cX11_compareNames 23 = .ok (.iload_n 2, 1) := by decide +kernel
theorem dX11_compareNames_24 : decode cX11_compareNames 24 = .ok (.invokespecial 198, 3) := by decide +kernel
theorem dX11_compareNames_27 : decode cX11_compareNames 27 = .ok (.astore 4, 2) := by decide +kernel
theorem dX11_compareNames_29 : decode cX11_compareNames 29 = .ok (.aload_n 0, 1) := by decide +kernel
theorem dX11_compareNames_30 : decode cX11_compareNames 30 = .ok (.getfield 32, 3) := by decide +kernel
theorem dX11_compareNames_33 : decode cX11_compareNames 33 = .ok (.aload_n 3, 1) := by decide +kernel
theorem dX11_compareNames_34 : decode cX11_compareNames 34 = .ok (.aload 4, 2) := by decide +kernel
theorem dX11_compareNames_36 : decode cX11_compareNames 36 = .ok (.invokevirtual 201, 3) := by decide +kernel
theorem dX11_compareNames_39 : decode cX11_compareNames 39 = .ok (.ifCond .eq 7, 3) := by decide +kernel
theorem dX11_compareNames_42 : decode cX11_compareNames 42 = .ok (.iconst 1, 1) := by decide +kernel
theorem dX11_compareNames_43 : decode cX11_compareNames 43 = .ok (.goto 4, 3) := by decide +kernel
theorem dX11_compareNames_46 : decode cX11_compareNames 46 = .ok (.iconst 0, 1) := by decide +kernel
theorem dX11_compareNames_47 : decode cX11_compareNames 47 = .ok (.ireturn, 1) := by decide +kernel
theorem dX11_compareNames_48 : decode cX11_compareNames 48 = .ok (.astore 5, 2) := by decide +kernel
theorem dX11_compareNames_50 : decode cX11_compareNames 50 = .ok (.aload_n 0, 1) := by decide +kernel
theorem dX11_compareNames_51 : decode cX11_compareNames 51 = .ok (.getfield 16, 3) := by decide +kernel
theorem dX11_compareNames_54 : decode cX11_compareNames 54 = .ok (.getfield 183, 3) := by decide +kernel
theorem dX11_compareNames_57 : decode cX11_compareNames 57 = .ok (.ineg, 1) := by decide +kernel
theorem dX11_compareNames_58 : decode cX11_compareNames 58 = .ok (.ireturn, 1) := by decide +kernel
theorem dJ9_max_7cf53_0 : decode cJ9_max_7cf53 0 = .ok (.iload_n 0, 1) := by decide +kernel
theorem dJ9_max_7cf53_1 : decode cJ9_max_7cf53 1 = .ok (.iload_n 1, 1) := by decide +kernel
theorem dJ9_max_7cf53_2 : decode cJ9_max_7cf53 2 = .ok (.if_icmp .lt 7, 3) := by decide +kernel
theorem dJ9_max_7cf53_5 : decode cJ9_max_7cf53 5 = .ok (.iload_n 0, 1) := by decide +kernel
theorem dJ9_max_7cf53_6 : decode cJ9_max_7cf53 6 = .ok (.goto 4, 3) := by decide +kernel
theorem dJ9_max_7cf53_9 : decode cJ9_max_7cf53 9 = .ok (.iload_n 1, 1) := by decide +kernel
theorem dJ9_max_7cf53_10 : decode cJ9_max_7cf53 10 = .ok (.ireturn, 1) := by decide +kernel
theorem dJ9_min_7cf53_0 : decode cJ9_min_7cf53 0 = .ok (.iload_n 0, 1) := by decide +kernel
theorem dJ9_min_7cf53_1 : decode cJ9_min_7cf53 1 = .ok (.iload_n 1, 1) := by decide +kernel
theorem dJ9_min_7cf53_2 : decode cJ9_min_7cf53 2 = .ok (.if_icmp .gt 7, 3) := by decide +kernel
theorem dJ9_min_7cf53_5 : decode cJ9_min_7cf53 5 = .ok (.iload_n 0, 1) := by decide +kernel
theorem dJ9_min_7cf53_6 : decode cJ9_min_7cf53 6 = .ok (.goto 4, 3) := by decide +kernel
theorem dJ9_min_7cf53_9 : decode cJ9_min_7cf53 9 = .ok (.iload_n 1, 1) := by decide +kernel
theorem dJ9_min_7cf53_10 : decode cJ9_min_7cf53 10 = .ok (.ireturn, 1) := by decide +kernel
theorem dJxa1e45_init_da8c8_0 : decode cJxa1e45_init_da8c8 0 = .ok (.aload_n 0, 1) := by decide +kernel
theorem dJxa1e45_init_da8c8_1 : decode cJxa1e45_init_da8c8 1 = .ok (.invokespecial 1, 3) := by decide +kernel
theorem dJxa1e45_init_da8c8_4 : decode cJxa1e45_init_da8c8 4 = .ok (.return_, 1) := by decide +kernel
theorem dJxc12de_init_da8c8_0 : decode cJxc12de_init_da8c8 0 = .ok (.aload_n 0, 1) := by decide +kernel
theorem dJxc12de_init_da8c8_1 : decode cJxc12de_init_da8c8 1 = .ok (.invokespecial 1, 3) := by decide +kernel
theorem dJxc12de_init_da8c8_4 : decode cJxc12de_init_da8c8 4 = .ok (.aload_n 0, 1) := by decide +kernel
theorem dJxc12de_init_da8c8_5 : decode cJxc12de_init_da8c8 5 = .ok (.iconst 0, 1) := by decide +kernel
theorem dJxc12de_init_da8c8_6 : decode cJxc12de_init_da8c8 6 = .ok (.putfield 7, 3) := by decide +kernel
theorem dJxc12de_init_da8c8_9 : decode cJxc12de_init_da8c8 9 = .ok (.return_, 1) := by decide +kernel
theorem dJx4a65c_init_da8c8_0 : decode cJx4a65c_init_da8c8 0 = .ok (.aload_n 0, 1) := by decide +kernel
theorem dJx4a65c_init_da8c8_1 : decode cJx4a65c_init_da8c8 1 = .ok (.invokespecial 1, 3) := by decide +kernel
theorem dJx4a65c_init_da8c8_4 : decode cJx4a65c_init_da8c8 4 = .ok (.aload_n 0, 1) := by decide +kernel
theorem dJx4a65c_init_da8c8_5 : decode cJx4a65c_init_da8c8 5 = .ok (.getstatic 39, 3) := by decide +kernel
theorem dJx4a65c_init_da8c8_8 : decode cJx4a65c_init_da8c8 8 = .ok (.putfield 9, 3) := by decide +kernel
theorem dJx4a65c_init_da8c8_11 : decode cJx4a65c_init_da8c8 11 = .ok (.return_, 1) := by decide +kernel
theorem dJx4a65c_grow_92f84_0 : decode cJx4a65c_grow_92f84 0 = .ok (.aload_n 0, 1) := by decide +kernel
theorem dJx4a65c_grow_92f84_1 : decode cJx4a65c_grow_92f84 1 = .ok (.getfield 9, 3) := by decide +kernel
theorem dJx4a65c_grow_92f84_4 : decode cJx4a65c_grow_92f84 4 = .ok (.arraylength, 1) := by decide +kernel
theorem dJx4a65c_grow_92f84_5 : decode cJx4a65c_grow_92f84 5 = .ok (.istore_n 2, 1) := by decide +kernel
theorem dJx4a65c_grow_92f84_6 : decode cJx4a65c_grow_92f84 6 = .ok (.iload_n 2, 1) := by decide +kernel
theorem dJx4a65c_grow_92f84_7 : decode cJx4a65c_grow_92f84 7 = .ok (.ifCond .gt 13, 3) := by decide +kernel
theorem dJx4a65c_grow_92f84_10 : decode cJx4a65c_grow_92f84 10 = .ok (.aload_n 0, 1) := by decide +kernel
theorem dJx4a65c_grow_92f84_11 : decode cJx4a65c_grow_92f84 11 = .ok (.getfield 9, 3) := by decide +kernel
theorem dJx4a65c_grow_92f84_14 : decode cJx4a65c_grow_92f84 14 = .ok (.getstatic 39, 3) := by decide +kernel
theorem dJx4a65c_grow_92f84_17 : decode cJx4a65c_grow_92f84 17 = .ok (.if_acmp .eq 28, 3) := by decide +kernel
theorem dJx4a65c_grow_92f84_20 : decode cJx4a65c_grow_92f84 20 = .ok (.iload_n 2, 1) := by decide +kernel
theorem dJx4a65c_grow_92f84_21 : decode cJx4a65c_grow_92f84 21 = .ok (.iload_n 1, 1) := by decide +kernel
theorem dJx4a65c_grow_92f84_22 : decode cJx4a65c_grow_92f84 22 = .ok (.iload_n 2, 1) := by decide +kernel
theorem dJx4a65c_grow_92f84_23 : decode cJx4a65c_grow_92f84 23 = .ok (.isub, 1) := by decide +kernel
theorem dJx4a65c_grow_92f84_24 : decode cJx4a65c_grow_92f84 24 = .ok (.iload_n 2, 1) := by decide +kernel
theorem dJx4a65c_grow_92f84_25 : decode cJx4a65c_grow_92f84 25 = .ok (.iconst 1, 1) := by decide +kernel
theorem dJx4a65c_grow_92f84_26 : decode cJx4a65c_grow_92f84 26 = .ok (.ishr, 1) := by decide +kernel
theorem dJx4a65c_grow_92f84_27 : decode cJx4a65c_grow_92f84 27 = .ok (.invokestatic 73, 3) := by decide +kernel
theorem dJx4a65c_grow_92f84_30 : decode cJx4a65c_grow_92f84 30 = .ok (.istore_n 3, 1) := by decide +kernel
theorem dJx4a65c_grow_92f84_31 : decode cJx4a65c_grow_92f84 31 = .ok (.aload_n 0, 1) := by decide +kernel
theorem dJx4a65c_grow_92f84_32 : decode cJx4a65c_grow_92f84 32 = .ok (.aload_n 0, 1) := by decide +kernel
theorem dJx4a65c_grow_92f84_33 : decode cJx4a65c_grow_92f84 33 = .ok (.getfield 9, 3) := by decide +kernel
theorem dJx4a65c_grow_92f84_36 : decode cJx4a65c_grow_92f84 36 = .ok (.iload_n 3, 1) := by decide +kernel
theorem dJx4a65c_grow_92f84_37 : decode cJx4a65c_grow_92f84 37 = .ok (.invokestatic 66, 3) := by decide +kernel
theorem dJx4a65c_grow_92f84_40 : decode cJx4a65c_grow_92f84 40 = .ok (.dup_x1, 1) := by decide +kernel
theorem dJx4a65c_grow_92f84_41 : decode cJx4a65c_grow_92f84 41 = .ok (.putfield 9, 3) := by decide +kernel
theorem dJx4a65c_grow_92f84_44 : decode cJx4a65c_grow_92f84 44 = .ok (.areturn, 1) := by decide +kernel
theorem dJx4a65c_grow_92f84_45 : decode cJx4a65c_grow_92f84 45 = .ok (.aload_n 0, 1) := by decide +kernel
theorem dJx4a65c_grow_92f84_46 : decode cJx4a65c_grow_92f84 46 = .ok (.bipush 10, 2) := by decide +kernel
theorem dJx4a65c_grow_92f84_48 : decode cJx4a65c_grow_92f84 48 = .ok (.iload_n 1, 1) := by decide +kernel
theorem dJx4a65c_grow_92f84_49 : decode cJx4a65c_grow_92f84 49 = .ok (.invokestatic 79, 3) := by decide +kernel
theorem dJx4a65c_grow_92f84_52 : decode cJx4a65c_grow_92f84 52 = .ok (.anewarray 7, 3) := by decide +kernel
theorem dJx4a65c_grow_92f84_55 : decode cJx4a65c_grow_92f84 55 = .ok (.dup_x1, 1) := by decide +kernel
theorem dJx4a65c_grow_92f84_56 : decode cJx4a65c_grow_92f84 56 = .ok (.putfield 9, 3) := by decide +kernel
theorem dJx4a65c_grow_92f84_59 : decode cJx4a65c_grow_92f84 59 = .ok (.areturn, 1) := by decide +kernel
theorem dJx4a65c_grow_d5877_0 : decode cJx4a65c_grow_d5877 0 = .ok (.aload_n 0, 1) := by decide +kernel
theorem dJx4a65c_grow_d5877_1 : decode cJx4a65c_grow_d5877 1 = .ok (.aload_n 0, 1) := by decide +kernel
theorem dJx4a65c_grow_d5877_2 : decode cJx4a65c_grow_d5877 2 = .ok (.getfield 48, 3) := by decide +kernel
theorem dJx4a65c_grow_d5877_5 : decode cJx4a65c_grow_d5877 5 = .ok (.iconst 1, 1) := by decide +kernel
theorem dJx4a65c_grow_d5877_6 : decode cJx4a65c_grow_d5877 6 = .ok (.iadd, 1) := by decide +kernel
theorem dJx4a65c_grow_d5877_7 : decode cJx4a65c_grow_d5877 7 = .ok (.invokevirtual 69, 3) := by decide +kernel
theorem dJx4a65c_grow_d5877_10 : decode cJx4a65c_grow_d5877 10 = .ok (.areturn, 1) := by decide +kernel
theorem dJx4a65c_size_8abf5_0 : decode cJx4a65c_size_8abf5 0 = .ok (.aload_n 0, 1) := by decide +kernel
theorem dJx4a65c_size_8abf5_1 : decode cJx4a65c_size_8abf5 1 = .ok (.getfield 48, 3) := by decide +kernel
theorem dJx4a65c_size_8abf5_4 : decode cJx4a65c_size_8abf5 4 = .ok (.ireturn, 1) := by decide +kernel
theorem dJx4a65c_elementData_915e3_0 : decode cJx4a65c_elementData_915e3 0 = .ok (.aload_n 0, 1) := by decide +kernel
theorem dJx4a65c_elementData_915e3_1 : decode cJx4a65c_elementData_915e3 1 = .ok (.getfield 9, 3) := by decide +kernel
theorem dJx4a65c_elementData_915e3_4 : decode cJx4a65c_elementData_915e3 4 = .ok (.iload_n 1, 1) := by decide +kernel
theorem dJx4a65c_elementData_915e3_5 : decode cJx4a65c_elementData_915e3 5 = .ok (.aaload, 1) := by decide +kernel
theorem dJx4a65c_elementData_915e3_6 : decode cJx4a65c_elementData_915e3 6 = .ok (.areturn, 1) := by decide +kernel
theorem dJx4a65c_get_915e3_0 : decode cJx4a65c_get_915e3 0 = .ok (.iload_n 1, 1) := by decide +kernel
theorem dJx4a65c_get_915e3_1 : decode cJx4a65c_get_915e3 1 = .ok (.aload_n 0, 1) := by decide +kernel
theorem dJx4a65c_get_915e3_2 : decode cJx4a65c_get_915e3 2 = .ok (.getfield 48, 3) := by decide +kernel
theorem dJx4a65c_get_915e3_5 : decode cJx4a65c_get_915e3 5 = .ok (.invokestatic 118, 3) := by decide +kernel
theorem dJx4a65c_get_915e3_8 : decode cJx4a65c_get_915e3 8 = .ok (.pop, 1) := by decide +kernel
theorem dJx4a65c_get_915e3_9 : decode cJx4a65c_get_915e3 9 = .ok (.aload_n 0, 1) := by decide +kernel
theorem dJx4a65c_get_915e3_10 : decode cJx4a65c_get_915e3 10 = .ok (.iload_n 1, 1) := by decide +kernel
theorem dJx4a65c_get_915e3_11 : decode cJx4a65c_get_915e3 11 = .ok (.invokevirtual 123, 3) := by decide +kernel
theorem dJx4a65c_get_915e3_14 : decode cJx4a65c_get_915e3 14 = .ok (.areturn, 1) := by decide +kernel
theorem dJx4a65c_add_72be8_0 : decode cJx4a65c_add_72be8 0 = .ok (.iload_n 3, 1) := by decide +kernel
theorem dJx4a65c_add_72be8_1 : decode cJx4a65c_add_72be8 1 = .ok (.aload_n 2, 1) := by decide +kernel
theorem dJx4a65c_add_72be8_2 : decode cJx4a65c_add_72be8 2 = .ok (.arraylength, 1) := by decide +kernel
theorem dJx4a65c_add_72be8_3 : decode cJx4a65c_add_72be8 3 = .ok (.if_icmp .ne 8, 3) := by decide +kernel
theorem dJx4a65c_add_72be8_6 : decode cJx4a65c_add_72be8 6 = .ok (.aload_n 0, 1) := by decide +kernel
theorem dJx4a65c_add_72be8_7 : decode cJx4a65c_add_72be8 7 = .ok (.invokevirtual 129, 3) := by decide +kernel
theorem dJx4a65c_add_72be8_10 : decode cJx4a65c_add_72be8 10 = .ok (.astore_n 2, 1) := by decide +kernel
theorem dJx4a65c_add_72be8_11 : decode cJx4a65c_add_72be8 11 = .ok (.aload_n 2, 1) := by decide +kernel
theorem dJx4a65c_add_72be8_12 : decode cJx4a65c_add_72be8 12 = .ok (.iload_n 3, 1) := by decide +kernel
theorem dJx4a65c_add_72be8_13 : decode cJx4a65c_add_72be8 13 = .ok (.aload_n 1, 1) := by decide +kernel
theorem dJx4a65c_add_72be8_14 : decode cJx4a65c_add_72be8 14 = .ok (.aastore, 1) := by decide +kernel
theorem dJx4a65c_add_72be8_15 : decode cJx4a65c_add_72be8 15 = .ok (.aload_n 0, 1) := by decide +kernel
theorem dJx4a65c_add_72be8_16 : decode cJx4a65c_add_72be8 16 = .ok (.iload_n 3, 1) := by decide +kernel
theorem dJx4a65c_add_72be8_17 : decode cJx4a65c_add_72be8 17 = .ok (.iconst 1, 1) := by decide +kernel
theorem dJx4a65c_add_72be8_18 : decode cJx4a65c_add_72be8 18 = .ok (.iadd, 1) := by decide +kernel
theorem dJx4a65c_add_72be8_19 : decode cJx4a65c_add_72be8 19 = .ok (.putfield 48, 3) := by decide +kernel
theorem dJx4a65c_add_72be8_22 : decode cJx4a65c_add_72be8 22 = .ok (.return_, 1) := by decide +kernel
theorem dJx4a65c_add_9ea2d_0 : decode cJx4a65c_add_9ea2d 0 = .ok (.aload_n 0, 1) := by decide +kernel
theorem dJx4a65c_add_9ea2d_1 : decode cJx4a65c_add_9ea2d 1 = .ok (.dup, 1) := by decide +kernel
theorem dJx4a65c_add_9ea2d_2 : decode cJx4a65c_add_9ea2d 2 = .ok (.getfield 63, 3) := by decide +kernel
theorem dJx4a65c_add_9ea2d_5 : decode cJx4a65c_add_9ea2d 5 = .ok (.iconst 1, 1) := by decide +kernel
theorem dJx4a65c_add_9ea2d_6 : decode cJx4a65c_add_9ea2d 6 = .ok (.iadd, 1) := by decide +kernel
theorem dJx4a65c_add_9ea2d_7 : decode cJx4a65c_add_9ea2d 7 = .ok (.putfield 63, 3) := by decide +kernel
theorem dJx4a65c_add_9ea2d_10 : decode cJx4a65c_add_9ea2d 10 = .ok (.aload_n 0, 1) := by decide +kernel
theorem dJx4a65c_add_9ea2d_11 : decode cJx4a65c_add_9ea2d 11 = .ok (.aload_n 1, 1) := by decide +kernel
theorem dJx4a65c_add_9ea2d_12 : decode cJx4a65c_add_9ea2d 12 = .ok (.aload_n 0, 1) := by decide +kernel
theorem dJx4a65c_add_9ea2d_13 : decode cJx4a65c_add_9ea2d 13 = .ok (.getfield 9, 3) := by decide +kernel
theorem dJx4a65c_add_9ea2d_16 : decode cJx4a65c_add_9ea2d 16 = .ok (.aload_n 0, 1) := by decide +kernel
theorem dJx4a65c_add_9ea2d_17 : decode cJx4a65c_add_9ea2d 17 = .ok (.getfield 48, 3) := by decide +kernel
theorem dJx4a65c_add_9ea2d_20 : decode cJx4a65c_add_9ea2d 20 = .ok (.invokevirtual 131, 3) := by decide +kernel
theorem dJx4a65c_add_9ea2d_23 : decode cJx4a65c_add_9ea2d 23 = .ok (.iconst 1, 1) := by decide +kernel
theorem dJx4a65c_add_9ea2d_24 : decode cJx4a65c_add_9ea2d 24 = .ok (.ireturn, 1) := by decide +kernel
theorem dJ7_copyOf_1904c_0 : decode cJ7_copyOf_1904c 0 = .ok (.aload_n 0, 1) := by decide +kernel
theorem dJ7_copyOf_1904c_1 : decode cJ7_copyOf_1904c 1 = .ok (.iload_n 1, 1) := by decide +kernel
theorem dJ7_copyOf_1904c_2 : decode cJ7_copyOf_1904c 2 = .ok (.aload_n 0, 1) := by decide +kernel
theorem dJ7_copyOf_1904c_3 : decode cJ7_copyOf_1904c 3 = .ok (.invokevirtual 86, 3) := by decide +kernel
theorem dJ7_copyOf_1904c_6 : decode cJ7_copyOf_1904c 6 = .ok (.invokestatic 300, 3) := by decide +kernel
theorem dJ7_copyOf_1904c_9 : decode cJ7_copyOf_1904c 9 = .ok (.areturn, 1) := by decide +kernel
theorem dJ7_copyOf_6403c_0 : decode cJ7_copyOf_6403c 0 = .ok (.aload_n 2, 1) := by decide +kernel
theorem dJ7_copyOf_6403c_1 : decode cJ7_copyOf_6403c 1 = .ok (.ldc 110, 2) := by decide +kernel
theorem dJ7_copyOf_6403c_3 : decode cJ7_copyOf_6403c 3 = .ok (.if_acmp .ne 10, 3) := by decide +kernel
theorem dJ7_copyOf_6403c_6 : decode cJ7_copyOf_6403c 6 = .ok (.iload_n 1, 1) := by decide +kernel
theorem dJ7_copyOf_6403c_7 : decode cJ7_copyOf_6403c 7 = .ok (.anewarray 2, 3) := by decide +kernel
theorem dJ7_copyOf_6403c_10 : decode cJ7_copyOf_6403c 10 = .ok (.goto 14, 3) := by decide +kernel
theorem dJ7_copyOf_6403c_13 : decode cJ7_copyOf_6403c 13 = .ok (.aload_n 2, 1) := by decide +kernel
theorem dJ7_copyOf_6403c_24 : decode cJ7_copyOf_6403c 24 = .ok (.astore_n 3, 1) := by decide +kernel
theorem dJ7_copyOf_6403c_25 : decode cJ7_copyOf_6403c 25 = .ok (.aload_n 0, 1) := by decide +kernel
theorem dJ7_copyOf_6403c_26 : decode cJ7_copyOf_6403c 26 = .ok (.iconst 0, 1) := by decide +kernel
theorem dJ7_copyOf_6403c_27 : decode cJ7_copyOf_6403c 27 = .ok (.aload_n 3, 1) := by decide +kernel
theorem dJ7_copyOf_6403c_28 : decode cJ7_copyOf_6403c 28 = .ok (.iconst 0, 1) := by decide +kernel
theorem dJ7_copyOf_6403c_29 : decode cJ7_copyOf_6403c 29 = .ok (.aload_n 0, 1) := by decide +kernel
theorem dJ7_copyOf_6403c_30 : decode cJ7_copyOf_6403c 30 = .ok (.arraylength, 1) := by decide +kernel
theorem dJ7_copyOf_6403c_31 : decode cJ7_copyOf_6403c 31 = .ok (.iload_n 1, 1) := by decide +kernel
theorem dJ7_copyOf_6403c_32 : decode cJ7_copyOf_6403c 32 = .ok (.invokestatic 304, 3) := by decide +kernel
theorem dJ7_copyOf_6403c_35 : decode cJ7_copyOf_6403c 35 = .ok (.invokestatic 150, 3) := by decide +kernel
theorem dJ7_copyOf_6403c_38 : decode cJ7_copyOf_6403c 38 = .ok (.aload_n 3, 1) := by decide +kernel
theorem dJ7_copyOf_6403c_39 : decode cJ7_copyOf_6403c 39 = .ok (.areturn, 1) := by decide +kernel
theorem dJ15_checkIndex_7cf53_0 : decode cJ15_checkIndex_7cf53 0 = .ok (.iload_n 0, 1) := by decide +kernel
theorem dJ15_checkIndex_7cf53_1 : decode cJ15_checkIndex_7cf53 1 = .ok (.iload_n 1, 1) := by decide +kernel
theorem dJ15_checkIndex_7cf53_2 : decode cJ15_checkIndex_7cf53 2 = .ok (.aconst_null, 1) := by decide +kernel
theorem dJ15_checkIndex_7cf53_3 : decode cJ15_checkIndex_7cf53 3 = .ok (.invokestatic 105, 3) := by decide +kernel
theorem dJ15_checkIndex_7cf53_6 : decode cJ15_checkIndex_7cf53 6 = .ok (.ireturn, 1) := by decide +kernel
theorem dJ8_newLength_cabcc_0 : decode cJ8_newLength_cabcc 0 = .ok (.iload_n 0, 1) := by decide +kernel
theorem dJ8_newLength_cabcc_1 : decode cJ8_newLength_cabcc 1 = .ok (.iload_n 1, 1) := by decide +kernel
theorem dJ8_newLength_cabcc_2 : decode cJ8_newLength_cabcc 2 = .ok (.iload_n 2, 1) := by decide +kernel
theorem dJ8_newLength_cabcc_3 : decode cJ8_newLength_cabcc 3 = .ok (.invokestatic 194, 3) := by decide +kernel
theorem dJ8_newLength_cabcc_6 : decode cJ8_newLength_cabcc 6 = .ok (.iadd, 1) := by decide +kernel
theorem dJ8_newLength_cabcc_7 : decode cJ8_newLength_cabcc 7 = .ok (.istore_n 3, 1) := by decide +kernel
theorem dJ8_newLength_cabcc_8 : decode cJ8_newLength_cabcc 8 = .ok (.iconst 0, 1) := by decide +kernel
theorem dJ8_newLength_cabcc_9 : decode cJ8_newLength_cabcc 9 = .ok (.iload_n 3, 1) := by decide +kernel
theorem dJ8_newLength_cabcc_10 : decode cJ8_newLength_cabcc 10 = .ok (.if_icmp .ge 11, 3) := by decide +kernel
theorem dJ8_newLength_cabcc_13 : decode cJ8_newLength_cabcc 13 = .ok (.iload_n 3, 1) := by decide +kernel
theorem dJ8_newLength_cabcc_14 : decode cJ8_newLength_cabcc 14 = .ok (.ldc 200, 2) := by decide +kernel
theorem dJ8_newLength_cabcc_16 : decode cJ8_newLength_cabcc 16 = .ok (.if_icmp .gt 5, 3) := by decide +kernel
theorem dJ8_newLength_cabcc_19 : decode cJ8_newLength_cabcc 19 = .ok (.iload_n 3, 1) := by decide +kernel
theorem dJ8_newLength_cabcc_20 : decode cJ8_newLength_cabcc 20 = .ok (.ireturn, 1) := by decide +kernel
theorem dJ8_newLength_cabcc_21 : decode cJ8_newLength_cabcc 21 = .ok (.iload_n 0, 1) := by decide +kernel
theorem dJ8_newLength_cabcc_22 : decode cJ8_newLength_cabcc 22 = .ok (.iload_n 1, 1) := by decide +kernel
theorem dJ8_newLength_cabcc_23 : decode cJ8_newLength_cabcc 23 = .ok (.invokestatic 201, 3) := by decide +kernel
theorem dJ8_newLength_cabcc_26 : decode cJ8_newLength_cabcc 26 = .ok (.ireturn, 1) := by decide +kernel
theorem dJ8_hugeLength_7cf53_0 : decode cJ8_hugeLength_7cf53 0 = .ok (.iload_n 0, 1) := by decide +kernel
theorem dJ8_hugeLength_7cf53_1 : decode cJ8_hugeLength_7cf53 1 = .ok (.iload_n 1, 1) := by decide +kernel
theorem dJ8_hugeLength_7cf53_2 : decode cJ8_hugeLength_7cf53 2 = .ok (.iadd, 1) := by decide +kernel
theorem dJ8_hugeLength_7cf53_3 : decode cJ8_hugeLength_7cf53 3 = .ok (.istore_n 2, 1) := by decide +kernel
theorem dJ8_hugeLength_7cf53_4 : decode cJ8_hugeLength_7cf53 4 = .ok (.iload_n 2, 1) := by decide +kernel
theorem dJ8_hugeLength_7cf53_5 : decode cJ8_hugeLength_7cf53 5 = .ok (.ifCond .ge 44, 3) := by decide +kernel
theorem dJ8_hugeLength_7cf53_49 : decode cJ8_hugeLength_7cf53 49 = .ok (.iload_n 2, 1) := by decide +kernel
theorem dJ8_hugeLength_7cf53_50 : decode cJ8_hugeLength_7cf53 50 = .ok (.ldc 200, 2) := by decide +kernel
theorem dJ8_hugeLength_7cf53_52 : decode cJ8_hugeLength_7cf53 52 = .ok (.if_icmp .gt 6, 3) := by decide +kernel
theorem dJ8_hugeLength_7cf53_55 : decode cJ8_hugeLength_7cf53 55 = .ok (.ldc 200, 2) := by decide +kernel
theorem dJ8_hugeLength_7cf53_57 : decode cJ8_hugeLength_7cf53 57 = .ok (.ireturn, 1) := by decide +kernel
theorem dJ8_hugeLength_7cf53_58 : decode cJ8_hugeLength_7cf53 58 = .ok (.iload_n 2, 1) := by decide +kernel
theorem dJ8_hugeLength_7cf53_59 : decode cJ8_hugeLength_7cf53 59 = .ok (.ireturn, 1) := by decide +kernel
