theorem dX7_atom_27 : decode cX7_atom 27 = .ok (.invokevirtual 103, 3) := by decide +kernel
theorem dX7_atom_30 : decode cX7_atom 30 = .ok (.astore_n 3, 1) := by decide +kernel
theorem dX7_atom_31 : decode cX7_atom 31 = .ok (.aload_n 0, 1) := by decide +kernel
theorem dX7_atom_32 : decode cX7_atom 32 = .ok (.bipush 41, 2) := by decide +kernel
theorem dX7_atom_34 : decode cX7_atom 34 = .ok (.invokevirtual 73, 3) := by decide +kernel
theorem dX7_atom_37 : decode cX7_atom 37 = .ok (.aload_n 3, 1) := by decide +kernel
theorem dX7_atom_38 : decode cX7_atom 38 = .ok (.iload_n 2, 1) := by decide +kernel
theorem dX7_atom_39 : decode cX7_atom 39 = .ok (.putfield 134, 3) := by decide +kernel
theorem dX7_atom_42 : decode cX7_atom 42 = .ok (.aload_n 3, 1) := by decide +kernel
theorem dX7_atom_43 : decode cX7_atom 43 = .ok (.areturn, 1) := by decide +kernel
theorem dX7_newId_0 : decode cX7_newId 0 = .ok (.aload_n 0, 1) := by decide +kernel
theorem dX7_newId_1 : decode cX7_newId 1 = .ok (.dup, 1) := by decide +kernel
theorem dX7_newId_2 : decode cX7_newId 2 = .ok (.getfield 27, 3) := by decide +kernel
theorem dX7_newId_5 : decode cX7_newId 5 = .ok (.iconst 1, 1) := by decide +kernel
theorem dX7_newId_6 : decode cX7_newId 6 = .ok (.iadd, 1) := by decide +kernel
theorem dX7_newId_7 : decode cX7_newId 7 = .ok (.putfield 27, 3) := by decide +kernel
theorem dX7_newId_10 : decode cX7_newId 10 = .ok (.aload_n 0, 1) := by decide +kernel
theorem dX7_newId_11 : decode cX7_newId 11 = .ok (.getfield 27, 3) := by decide +kernel
theorem dX7_newId_14 : decode cX7_newId 14 = .ok (.ireturn, 1) := by decide +kernel
theorem dX7_takeName_0 : decode cX7_takeName 0 = .ok (.aload_n 0, 1) := by decide +kernel
theorem dX7_takeName_1 : decode cX7_takeName 1 = .ok (.getfield 18, 3) := by decide +kernel
theorem dX7_takeName_4 : decode cX7_takeName 4 = .ok (.sipush 256, 3) := by decide +kernel
theorem dX7_takeName_7 : decode cX7_takeName 7 = .ok (.if_icmp .eq 7, 3) := by decide +kernel
theorem dX7_takeName_10 : decode cX7_takeName 10 = .ok (.aload_n 0, 1) := by decide +kernel
theorem dX7_takeName_11 : decode cX7_takeName 11 = .ok (.invokevirtual 83, 3) := by decide +kernel
theorem dX7_takeName_14 : decode cX7_takeName 14 = .ok (.aload_n 0, 1) := by decide +kernel
theorem dX7_takeName_15 : decode cX7_takeName 15 = .ok (.getfield 21, 3) := by decide +kernel
theorem dX7_takeName_18 : decode cX7_takeName 18 = .ok (.aload_n 0, 1) := by decide +kernel
theorem dX7_takeName_19 : decode cX7_takeName 19 = .ok (.getfield 24, 3) := by decide +kernel
theorem dX7_takeName_22 : decode cX7_takeName 22 = .ok (.invokestatic 160, 3) := by decide +kernel
theorem dX7_takeName_25 : decode cX7_takeName 25 = .ok (.astore_n 1, 1) := by decide +kernel
theorem dX7_takeName_26 : decode cX7_takeName 26 = .ok (.aload_n 0, 1) := by decide +kernel
theorem dX7_takeName_27 : decode cX7_takeName 27 = .ok (.invokevirtual 60, 3) := by decide +kernel
theorem dX7_takeName_30 : decode cX7_takeName 30 = .ok (.aload_n 1, 1) := by decide +kernel
theorem dX7_takeName_31 : decode cX7_takeName 31 = .ok (.areturn, 1) := by decide +kernel
theorem dX7_expect_0 : decode cX7_expect 0 = .ok (.aload_n 0, 1) := by decide +kernel
theorem dX7_expect_1 : decode cX7_expect 1 = .ok (.getfield 18, 3) := by decide +kernel
theorem dX7_expect_4 : decode cX7_expect 4 = .ok (.iload_n 1, 1) := by decide +kernel
theorem dX7_expect_5 : decode cX7_expect 5 = .ok (.if_icmp .eq 7, 3) := by decide +kernel
theorem dX7_expect_8 : decode cX7_expect 8 = .ok (.aload_n 0, 1) := by decide +kernel
theorem dX7_expect_9 : decode cX7_expect 9 = .ok (.invokevirtual 83, 3) := by decide +kernel
theorem dX7_expect_12 : decode cX7_expect 12 = .ok (.aload_n 0, 1) := by decide +kernel
theorem dX7_expect_13 : decode cX7_expect 13 = .ok (.invokevirtual 60, 3) := by decide +kernel
theorem dX7_expect_16 : decode cX7_expect 16 = .ok (.return_, 1) := by decide +kernel
theorem dX7_refuse_0 : decode cX7_refuse 0 = .ok (.aload_n 0, 1) := by decide +kernel
theorem dX7_refuse_1 : decode cX7_refuse 1 = .ok (.getfield 34, 3) := by decide +kernel
theorem dX7_refuse_4 : decode cX7_refuse 4 = .ok (.aload_n 0, 1) := by decide +kernel
theorem dX7_refuse_5 : decode cX7_refuse 5 = .ok (.getfield 18, 3) := by decide +kernel
theorem dX7_refuse_8 : decode cX7_refuse 8 = .ok (.sipush 257, 3) := by decide +kernel
theorem dX7_refuse_11 : decode cX7_refuse 11 = .ok (.if_icmp .ne 7, 3) := by decide +kernel
theorem dX7_refuse_14 : decode cX7_refuse 14 = .ok (.iconst 2, 1) := by decide +kernel
theorem dX7_refuse_15 : decode cX7_refuse 15 = .ok (.goto 4, 3) := by decide +kernel
theorem dX7_refuse_18 : decode cX7_refuse 18 = .ok (.iconst 1, 1) := by decide +kernel
theorem dX7_refuse_19 : decode cX7_refuse 19 = .ok (.aload_n 0, 1) := by decide +kernel
theorem dX7_refuse_20 : decode cX7_refuse 20 = .ok (.getfield 21, 3) := by decide +kernel
theorem dX7_refuse_23 : decode cX7_refuse 23 = .ok (.invokevirtual 107, 3) := by decide +kernel
theorem dX7_refuse_26 : decode cX7_refuse 26 = .ok (.new 113, 3) := by decide +kernel
theorem dX7_refuse_29 : decode cX7_refuse 29 = .ok (.dup, 1) := by decide +kernel
theorem dX7_refuse_30 : decode cX7_refuse 30 = .ok (.invokespecial 115, 3) := by decide +kernel
theorem dX7_refuse_33 : decode cX7_refuse 33 = .ok (.athrow, 1) := by decide +kernel
theorem dX7_advance_0 : decode cX7_advance 0 = .ok (.aload_n 0, 1) := by decide +kernel
theorem dX7_advance_1 : decode cX7_advance 1 = .ok (.getfield 15, 3) := by decide +kernel
theorem dX7_advance_4 : decode cX7_advance 4 = .ok (.aload_n 0, 1) := by decide +kernel
theorem dX7_advance_5 : decode cX7_advance 5 = .ok (.getfield 38, 3) := by decide +kernel
theorem dX7_advance_8 : decode cX7_advance 8 = .ok (.arraylength, 1) := by decide +kernel
theorem dX7_advance_9 : decode cX7_advance 9 = .ok (.if_icmp .lt 4, 3) := by decide +kernel
theorem dX7_advance_12 : decode cX7_advance 12 = .ok (.return_, 1) := by decide +kernel
theorem dX7_advance_13 : decode cX7_advance 13 = .ok (.aload_n 0, 1) := by decide +kernel
theorem dX7_advance_14 : decode cX7_advance 14 = .ok (.aload_n 0, 1) := by decide +kernel
theorem dX7_advance_15 : decode cX7_advance 15 = .ok (.getfield 38, 3) := by decide +kernel
theorem dX7_advance_18 : decode cX7_advance 18 = .ok (.aload_n 0, 1) := by decide +kernel
theorem dX7_advance_19 : decode cX7_advance 19 = .ok (.getfield 15, 3) := by decide +kernel
theorem dX7_advance_22 : decode cX7_advance 22 = .ok (.iaload, 1) := by decide +kernel
theorem dX7_advance_23 : decode cX7_advance 23 = .ok (.putfield 18, 3) := by decide +kernel
theorem dX7_advance_26 : decode cX7_advance 26 = .ok (.aload_n 0, 1) := by decide +kernel
theorem dX7_advance_27 : decode cX7_advance 27 = .ok (.aload_n 0, 1) := by decide +kernel
theorem dX7_advance_28 : decode cX7_advance 28 = .ok (.getfield 42, 3) := by decide +kernel
theorem dX7_advance_31 : decode cX7_advance 31 = .ok (.aload_n 0, 1) := by decide +kernel
theorem dX7_advance_32 : decode cX7_advance 32 = .ok (.getfield 15, 3) := by decide +kernel
theorem dX7_advance_35 : decode cX7_advance 35 = .ok (.iaload, 1) := by decide +kernel
theorem dX7_advance_36 : decode cX7_advance 36 = .ok (.putfield 21, 3) := by decide +kernel
theorem dX7_advance_39 : decode cX7_advance 39 = .ok (.aload_n 0, 1) := by decide +kernel
theorem dX7_advance_40 : decode cX7_advance 40 = .ok (.aload_n 0, 1) := by decide +kernel
theorem dX7_advance_41 : decode cX7_advance 41 = .ok (.getfield 45, 3) := by decide +kernel
theorem dX7_advance_44 : decode cX7_advance 44 = .ok (.aload_n 0, 1) := by decide +kernel
theorem dX7_advance_45 : decode cX7_advance 45 = .ok (.getfield 15, 3) := by decide +kernel
theorem dX7_advance_48 : decode cX7_advance 48 = .ok (.iaload, 1) := by decide +kernel
theorem dX7_advance_49 : decode cX7_advance 49 = .ok (.putfield 24, 3) := by decide +kernel
theorem dX7_advance_52 : decode cX7_advance 52 = .ok (.aload_n 0, 1) := by decide +kernel
theorem dX7_advance_53 : decode cX7_advance 53 = .ok (.dup, 1) := by decide +kernel
theorem dX7_advance_54 : decode cX7_advance 54 = .ok (.getfield 15, 3) := by decide +kernel
theorem dX7_advance_57 : decode cX7_advance 57 = .ok (.iconst 1, 1) := by decide +kernel
theorem dX7_advance_58 : decode cX7_advance 58 = .ok (.iadd, 1) := by decide +kernel
theorem dX7_advance_59 : decode cX7_advance 59 = .ok (.putfield 15, 3) := by decide +kernel
theorem dX7_advance_62 : decode cX7_advance 62 = .ok (.return_, 1) := by decide +kernel
theorem dX7_scan_0 : decode cX7_scan 0 = .ok (.iconst 0, 1) := by decide +kernel
theorem dX7_scan_1 : decode cX7_scan 1 = .ok (.istore_n 1, 1) := by decide +kernel
theorem dX7_scan_2 : decode cX7_scan 2 = .ok (.iconst 0, 1) := by decide +kernel
theorem dX7_scan_3 : decode cX7_scan 3 = .ok (.istore_n 2, 1) := by decide +kernel
theorem dX7_scan_4 : decode cX7_scan 4 = .ok (.iload_n 2, 1) := by decide +kernel
theorem dX7_scan_5 : decode cX7_scan 5 = .ok (.aload_n 0, 1) := by decide +kernel
theorem dX7_scan_6 : decode cX7_scan 6 = .ok (.getfield 38, 3) := by decide +kernel
theorem dX7_scan_9 : decode cX7_scan 9 = .ok (.arraylength, 1) := by decide +kernel
theorem dX7_scan_10 : decode cX7_scan 10 = .ok (.if_icmp .ge 131, 3) := by decide +kernel
theorem dX7_scan_13 : decode cX7_scan 13 = .ok (.aload_n 0, 1) := by decide +kernel
theorem dX7_scan_14 : decode cX7_scan 14 = .ok (.iload_n 1, 1) := by decide +kernel
theorem dX7_scan_15 : decode cX7_scan 15 = .ok (.invokevirtual 164, 3) := by decide +kernel
theorem dX7_scan_18 : decode cX7_scan 18 = .ok (.istore_n 1, 1) := by decide +kernel
theorem dX7_scan_19 : decode cX7_scan 19 = .ok (.aload_n 0, 1) := by decide +kernel
theorem dX7_scan_20 : decode cX7_scan 20 = .ok (.iload_n 1, 1) := by decide +kernel
theorem dX7_scan_21 : decode cX7_scan 21 = .ok (.putfield 21, 3) := by decide +kernel
theorem dX7_scan_24 : decode cX7_scan 24 = .ok (.aload_n 0, 1) := by decide +kernel
theorem dX7_scan_25 : decode cX7_scan 25 = .ok (.iconst 1, 1) := by decide +kernel
theorem dX7_scan_26 : decode cX7_scan 26 = .ok (.putfield 24, 3) := by decide +kernel
theorem dX7_scan_29 : decode cX7_scan 29 = .ok (.iload_n 1, 1) := by decide +kernel
theorem dX7_scan_30 : decode cX7_scan 30 = .ok (.aload_n 0, 1) := by decide +kernel
theorem dX7_scan_31 : decode cX7_scan 31 = .ok (.getfield 9, 3) := by decide +kernel
theorem dX7_scan_34 : decode cX7_scan 34 = .ok (.if_icmp .lt 13, 3) := by decide +kernel
theorem dX7_scan_37 : decode cX7_scan 37 = .ok (.aload_n 0, 1) := by decide +kernel
theorem dX7_scan_38 : decode cX7_scan 38 = .ok (.sipush 261, 3) := by decide +kernel
theorem dX7_scan_41 : decode cX7_scan 41 = .ok (.putfield 18, 3) := by decide +kernel
theorem dX7_scan_44 : decode cX7_scan 44 = .ok (.goto 36, 3) := by decide +kernel
theorem dX7_scan_47 : decode cX7_scan 47 = .ok (.aload_n 0, 1) := by decide +kernel
theorem dX7_scan_48 : decode cX7_scan 48 = .ok (.aload_n 0, 1) := by decide +kernel
theorem dX7_scan_49 : decode cX7_scan 49 = .ok (.getfield 30, 3) := by decide +kernel
theorem dX7_scan_52 : decode cX7_scan 52 = .ok (.iload_n 1, 1) := by decide +kernel
theorem dX7_scan_53 : decode cX7_scan 53 = .ok (.baload, 1) := by decide +kernel
theorem dX7_scan_54 : decode cX7_scan 54 = .ok (.invokestatic 168, 3) := by decide +kernel
theorem dX7_scan_57 : decode cX7_scan 57 = .ok (.ifCond .eq 10, 3) := by decide +kernel
theorem dX7_scan_60 : decode cX7_scan 60 = .ok (.aload_n 0, 1) := by decide +kernel
theorem dX7_scan_61 : decode cX7_scan 61 = .ok (.invokevirtual 172, 3) := by decide +kernel
theorem dX7_scan_64 : decode cX7_scan 64 = .ok (.goto 13, 3) := by decide +kernel
theorem dX7_scan_67 : decode cX7_scan 67 = .ok (.aload_n 0, 1) := by decide +kernel
theorem dX7_scan_68 : decode cX7_scan 68 = .ok (.aload_n 0, 1) := by decide +kernel
theorem dX7_scan_69 : decode cX7_scan 69 = .ok (.getfield 30, 3) := by decide +kernel
theorem dX7_scan_72 : decode cX7_scan 72 = .ok (.iload_n 1, 1) := by decide +kernel
theorem dX7_scan_73 : decode cX7_scan 73 = .ok (.baload, 1) := by decide +kernel
theorem dX7_scan_74 : decode cX7_scan 74 = .ok (.invokevirtual 175, 3) := by decide +kernel
theorem dX7_scan_77 : decode cX7_scan 77 = .ok (.putfield 18, 3) := by decide +kernel
theorem dX7_scan_80 : decode cX7_scan 80 = .ok (.aload_n 0, 1) := by decide +kernel
theorem dX7_scan_81 : decode cX7_scan 81 = .ok (.getfield 38, 3) := by decide +kernel
theorem dX7_scan_84 : decode cX7_scan 84 = .ok (.iload_n 2, 1) := by decide +kernel
theorem dX7_scan_85 : decode cX7_scan 85 = .ok (.aload_n 0, 1) := by decide +kernel
theorem dX7_scan_86 : decode cX7_scan 86 = .ok (.getfield 18, 3) := by decide +kernel
theorem dX7_scan_89 : decode cX7_scan 89 = .ok (.iastore, 1) := by decide +kernel
theorem dX7_scan_90 : decode cX7_scan 90 = .ok (.aload_n 0, 1) := by decide +kernel
theorem dX7_scan_91 : decode cX7_scan 91 = .ok (.getfield 42, 3) := by decide +kernel
theorem dX7_scan_94 : decode cX7_scan 94 = .ok (.iload_n 2, 1) := by decide +kernel
theorem dX7_scan_95 : decode cX7_scan 95 = .ok (.iload_n 1, 1) := by decide +kernel
theorem dX7_scan_96 : decode cX7_scan 96 = .ok (.iastore, 1) := by decide +kernel
theorem dX7_scan_97 : decode cX7_scan 97 = .ok (.aload_n 0, 1) := by decide +kernel
theorem dX7_scan_98 : decode cX7_scan 98 = .ok (.getfield 45, 3) := by decide +kernel
theorem dX7_scan_101 : decode cX7_scan 101 = .ok (.iload_n 2, 1) := by decide +kernel
theorem dX7_scan_102 : decode cX7_scan 102 = .ok (.aload_n 0, 1) := by decide +kernel
theorem dX7_scan_103 : decode cX7_scan 103 = .ok (.getfield 24, 3) := by decide +kernel
theorem dX7_scan_106 : decode cX7_scan 106 = .ok (.iastore, 1) := by decide +kernel
theorem dX7_scan_107 : decode cX7_scan 107 = .ok (.aload_n 0, 1) := by decide +kernel
theorem dX7_scan_108 : decode cX7_scan 108 = .ok (.getfield 18, 3) := by decide +kernel
theorem dX7_scan_111 : decode cX7_scan 111 = .ok (.sipush 261, 3) := by decide +kernel
theorem dX7_scan_114 : decode cX7_scan 114 = .ok (.if_icmp .eq 13, 3) := by decide +kernel
theorem dX7_scan_117 : decode cX7_scan 117 = .ok (.aload_n 0, 1) := by decide +kernel
theorem dX7_scan_118 : decode cX7_scan 118 = .ok (.getfield 18, 3) := by decide +kernel
theorem dX7_scan_121 : decode cX7_scan 121 = .ok (.sipush 260, 3) := by decide +kernel
theorem dX7_scan_124 : decode cX7_scan 124 = .ok (.if_icmp .ne 4, 3) := by decide +kernel
theorem dX7_scan_127 : decode cX7_scan 127 = .ok (.return_, 1) := by decide +kernel
theorem dX7_scan_128 : decode cX7_scan 128 = .ok (.iload_n 1, 1) := by decide +kernel
theorem dX7_scan_129 : decode cX7_scan 129 = .ok (.aload_n 0, 1) := by decide +kernel
theorem dX7_scan_130 : decode cX7_scan 130 = .ok (.getfield 24, 3) := by decide +kernel
theorem dX7_scan_133 : decode cX7_scan 133 = .ok (.iadd, 1) := by decide +kernel
theorem dX7_scan_134 : decode cX7_scan 134 = .ok (.istore_n 1, 1) := by decide +kernel
theorem dX7_scan_135 : decode cX7_scan 135 = .ok (.iinc 2 1, 3) := by decide +kernel
theorem dX7_scan_138 : decode cX7_scan 138 = .ok (.goto (-134), 3) := by decide +kernel
theorem dX7_scan_141 : decode cX7_scan 141 = .ok (.return_, 1) := by decide +kernel
theorem dX7_behindBlanks_0 : decode cX7_behindBlanks 0 = .ok (.iload_n 1, 1) := by decide +kernel
theorem dX7_behindBlanks_1 : decode cX7_behindBlanks 1 = .ok (.istore_n 2, 1) := by decide +kernel
theorem dX7_behindBlanks_2 : decode cX7_behindBlanks 2 = .ok (.iload_n 2, 1) := by decide +kernel
theorem dX7_behindBlanks_3 : decode cX7_behindBlanks 3 = .ok (.aload_n 0, 1) := by decide +kernel
theorem dX7_behindBlanks_4 : decode cX7_behindBlanks 4 = .ok (.getfield 9, 3) := by decide +kernel
theorem dX7_behindBlanks_7 : decode cX7_behindBlanks 7 = .ok (.if_icmp .ge 57, 3) := by decide +kernel
theorem dX7_behindBlanks_10 : decode cX7_behindBlanks 10 = .ok (.aload_n 0, 1) := by decide +kernel
theorem dX7_behindBlanks_11 : decode cX7_behindBlanks 11 = .ok (.getfield 30, 3) := by decide +kernel
theorem dX7_behindBlanks_14 : decode cX7_behindBlanks 14 = .ok (.iload_n 2, 1) := by decide +kernel
theorem dX7_behindBlanks_15 : decode cX7_behindBlanks 15 = .ok (.baload, 1) := by decide +kernel
theorem dX7_behindBlanks_16 : decode cX7_behindBlanks 16 = .ok (.istore_n 3, 1) := by decide +kernel
theorem dX7_behindBlanks_17 : decode cX7_behindBlanks 17 = .ok (.iload_n 3, 1) := by decide +kernel
theorem dX7_behindBlanks_18 : decode cX7_behindBlanks 18 = .ok (.bipush 123, 2) := by decide +kernel
theorem dX7_behindBlanks_20 : decode cX7_behindBlanks 20 = .ok (.if_icmp .ne 24, 3) := by decide +kernel
theorem dX7_behindBlanks_23 : decode cX7_behindBlanks 23 = .ok (.aload_n 0, 1) := by decide +kernel
theorem dX7_behindBlanks_24 : decode cX7_behindBlanks 24 = .ok (.iload_n 2, 1) := by decide +kernel
theorem dX7_behindBlanks_25 : decode cX7_behindBlanks 25 = .ok (.invokevirtual 178, 3) := by decide +kernel
theorem dX7_behindBlanks_28 : decode cX7_behindBlanks 28 = .ok (.istore 4, 2) := by decide +kernel
theorem dX7_behindBlanks_30 : decode cX7_behindBlanks 30 = .ok (.iload 4, 2) := by decide +kernel
theorem dX7_behindBlanks_32 : decode cX7_behindBlanks 32 = .ok (.iconst (-1), 1) := by decide +kernel
theorem dX7_behindBlanks_33 : decode cX7_behindBlanks 33 = .ok (.if_icmp .ne 5, 3) := by decide +kernel
theorem dX7_behindBlanks_36 : decode cX7_behindBlanks 36 = .ok (.iload_n 2, 1) := by decide +kernel
theorem dX7_behindBlanks_37 : decode cX7_behindBlanks 37 = .ok (.ireturn, 1) := by decide +kernel
theorem dX7_behindBlanks_38 : decode cX7_behindBlanks 38 = .ok (.iload 4, 2) := by decide +kernel
theorem dX7_behindBlanks_40 : decode cX7_behindBlanks 40 = .ok (.istore_n 2, 1) := by decide +kernel
theorem dX7_behindBlanks_41 : decode cX7_behindBlanks 41 = .ok (.goto 17, 3) := by decide +kernel
theorem dX7_behindBlanks_44 : decode cX7_behindBlanks 44 = .ok (.iload_n 3, 1) := by decide +kernel
theorem dX7_behindBlanks_45 : decode cX7_behindBlanks 45 = .ok (.bipush 10, 2) := by decide +kernel
theorem dX7_behindBlanks_47 : decode cX7_behindBlanks 47 = .ok (.if_icmp .eq 11, 3) := by decide +kernel
theorem dX7_behindBlanks_50 : decode cX7_behindBlanks 50 = .ok (.iload_n 3, 1) := by decide +kernel
theorem dX7_behindBlanks_51 : decode cX7_behindBlanks 51 = .ok (.bipush 32, 2) := by decide +kernel
theorem dX7_behindBlanks_53 : decode cX7_behindBlanks 53 = .ok (.if_icmp .eq 5, 3) := by decide +kernel
theorem dX7_behindBlanks_56 : decode cX7_behindBlanks 56 = .ok (.iload_n 2, 1) := by decide +kernel
theorem dX7_behindBlanks_57 : decode cX7_behindBlanks 57 = .ok (.ireturn, 1) := by decide +kernel
theorem dX7_behindBlanks_58 : decode cX7_behindBlanks 58 = .ok (.iinc 2 1, 3) := by decide +kernel
theorem dX7_behindBlanks_61 : decode cX7_behindBlanks 61 = .ok (.goto (-59), 3) := by decide +kernel
theorem dX7_behindBlanks_64 : decode cX7_behindBlanks 64 = .ok (.iload_n 2, 1) := by decide +kernel
theorem dX7_behindBlanks_65 : decode cX7_behindBlanks 65 = .ok (.ireturn, 1) := by decide +kernel
theorem dX7_closeOf_0 : decode cX7_closeOf 0 = .ok (.iload_n 1, 1) := by decide +kernel
theorem dX7_closeOf_1 : decode cX7_closeOf 1 = .ok (.iconst 1, 1) := by decide +kernel
theorem dX7_closeOf_2 : decode cX7_closeOf 2 = .ok (.iadd, 1) := by decide +kernel
theorem dX7_closeOf_3 : decode cX7_closeOf 3 = .ok (.istore_n 2, 1) := by decide +kernel
theorem dX7_closeOf_4 : decode cX7_closeOf 4 = .ok (.iload_n 2, 1) := by decide +kernel
theorem dX7_closeOf_5 : decode cX7_closeOf 5 = .ok (.aload_n 0, 1) := by decide +kernel
theorem dX7_closeOf_6 : decode cX7_closeOf 6 = .ok (.getfield 9, 3) := by decide +kernel
theorem dX7_closeOf_9 : decode cX7_closeOf 9 = .ok (.if_icmp .ge 22, 3) := by decide +kernel
theorem dX7_closeOf_12 : decode cX7_closeOf 12 = .ok (.aload_n 0, 1) := by decide +kernel
theorem dX7_closeOf_13 : decode cX7_closeOf 13 = .ok (.getfield 30, 3) := by decide +kernel
theorem dX7_closeOf_16 : decode cX7_closeOf 16 = .ok (.iload_n 2, 1) := by decide +kernel
theorem dX7_closeOf_17 : decode cX7_closeOf 17 = .ok (.baload, 1) := by decide +kernel
theorem dX7_closeOf_18 : decode cX7_closeOf 18 = .ok (.bipush 125, 2) := by decide +kernel
theorem dX7_closeOf_20 : decode cX7_closeOf 20 = .ok (.if_icmp .ne 5, 3) := by decide +kernel
theorem dX7_closeOf_23 : decode cX7_closeOf 23 = .ok (.iload_n 2, 1) := by decide +kernel
theorem dX7_closeOf_24 : decode cX7_closeOf 24 = .ok (.ireturn, 1) := by decide +kernel
theorem dX7_closeOf_25 : decode cX7_closeOf 25 = .ok (.iinc 2 1, 3) := by decide +kernel
theorem dX7_closeOf_28 : decode cX7_closeOf 28 = .ok (.goto (-24), 3) := by decide +kernel
theorem dX7_closeOf_31 : decode cX7_closeOf 31 = .ok (.iconst (-1), 1) := by decide +kernel
theorem dX7_closeOf_32 : decode cX7_closeOf 32 = .ok (.ireturn, 1) := by decide +kernel
theorem dX7_nameToken_0 : decode cX7_nameToken 0 = .ok (.aload_n 0, 1) := by decide +kernel
theorem dX7_nameToken_1 : decode cX7_nameToken 1 = .ok (.getfield 21, 3) := by decide +kernel
theorem dX7_nameToken_4 : decode cX7_nameToken 4 = .ok (.iconst 1, 1) := by decide +kernel
theorem dX7_nameToken_5 : decode cX7_nameToken 5 = .ok (.iadd, 1) := by decide +kernel
theorem dX7_nameToken_6 : decode cX7_nameToken 6 = .ok (.istore_n 1, 1) := by decide +kernel
theorem dX7_nameToken_7 : decode cX7_nameToken 7 = .ok (.iload_n 1, 1) := by decide +kernel
theorem dX7_nameToken_8 : decode cX7_nameToken 8 = .ok (.aload_n 0, 1) := by decide +kernel
theorem dX7_nameToken_9 : decode cX7_nameToken 9 = .ok (.getfield 9, 3) := by decide +kernel
theorem dX7_nameToken_12 : decode cX7_nameToken 12 = .ok (.if_icmp .ge 21, 3) := by decide +kernel
theorem dX7_nameToken_15 : decode cX7_nameToken 15 = .ok (.aload_n 0, 1) := by decide +kernel
theorem dX7_nameToken_16 : decode cX7_nameToken 16 = .ok (.getfield 30, 3) := by decide +kernel
theorem dX7_nameToken_19 : decode cX7_nameToken 19 = .ok (.iload_n 1, 1) := by decide +kernel
theorem dX7_nameToken_20 : decode cX7_nameToken 20 = .ok (.baload, 1) := by decide +kernel
theorem dX7_nameToken_21 : decode cX7_nameToken 21 = .ok (.invokestatic 181, 3) := by decide +kernel
theorem dX7_nameToken_24 : decode cX7_nameToken 24 = .ok (.ifCond .eq 9, 3) := by decide +kernel
theorem dX7_nameToken_27 : decode cX7_nameToken 27 = .ok (.iinc 1 1, 3) := by decide +kernel
theorem dX7_nameToken_30 : decode cX7_nameToken 30 = .ok (.goto (-23), 3) := by decide +kernel
theorem dX7_nameToken_33 : decode cX7_nameToken 33 = .ok (.aload_n 0, 1) := by decide +kernel
theorem dX7_nameToken_34 : decode cX7_nameToken 34 = .ok (.iload_n 1, 1) := by decide +kernel
theorem dX7_nameToken_35 : decode cX7_nameToken 35 = .ok (.aload_n 0, 1) := by decide +kernel
theorem dX7_nameToken_36 : decode cX7_nameToken 36 = .ok (.getfield 21, 3) := by decide +kernel
theorem dX7_nameToken_39 : decode cX7_nameToken 39 = .ok (.isub, 1) := by decide +kernel
theorem dX7_nameToken_40 : decode cX7_nameToken 40 = .ok (.putfield 24, 3) := by decide +kernel
theorem dX7_nameToken_43 : decode cX7_nameToken 43 = .ok (.aload_n 0, 1) := by decide +kernel
theorem dX7_nameToken_44 : decode cX7_nameToken 44 = .ok (.invokevirtual 184, 3) := by decide +kernel
theorem dX7_nameToken_47 : decode cX7_nameToken 47 = .ok (.istore_n 2, 1) := by decide +kernel
theorem dX7_nameToken_48 : decode cX7_nameToken 48 = .ok (.iload_n 2, 1) := by decide +kernel
theorem dX7_nameToken_49 : decode cX7_nameToken 49 = .ok (.iconst (-1), 1) := by decide +kernel
theorem dX7_nameToken_50 : decode cX7_nameToken 50 = .ok (.if_icmp .eq 5, 3) := by decide +kernel
theorem dX7_nameToken_53 : decode cX7_nameToken 53 = .ok (.iload_n 2, 1) := by decide +kernel
theorem dX7_nameToken_54 : decode cX7_nameToken 54 = .ok (.ireturn, 1) := by decide +kernel
theorem dX7_nameToken_55 : decode cX7_nameToken 55 = .ok (.aload_n 0, 1) := by decide +kernel
theorem dX7_nameToken_56 : decode cX7_nameToken 56 = .ok (.getfield 24, 3) := by decide +kernel
theorem dX7_nameToken_59 : decode cX7_nameToken 59 = .ok (.bipush 12, 2) := by decide +kernel
theorem dX7_nameToken_61 : decode cX7_nameToken 61 = .ok (.if_icmp .le 9, 3) := by decide +kernel
theorem dX7_nameToken_64 : decode cX7_nameToken 64 = .ok (.sipush 257, 3) := by decide +kernel
theorem dX7_nameToken_67 : decode cX7_nameToken 67 = .ok (.goto 6, 3) := by decide +kernel
theorem dX7_nameToken_70 : decode cX7_nameToken 70 = .ok (.sipush 256, 3) := by decide +kernel
theorem dX7_nameToken_73 : decode cX7_nameToken 73 = .ok (.ireturn, 1) := by decide +kernel
theorem dX7_wordNumber_0 : decode cX7_wordNumber 0 = .ok (.aload_n 0, 1) := by decide +kernel
theorem dX7_wordNumber_1 : decode cX7_wordNumber 1 = .ok (.getfield 24, 3) := by decide +kernel
theorem dX7_wordNumber_4 : decode cX7_wordNumber 4 = .ok (.bipush 6, 2) := by decide +kernel
theorem dX7_wordNumber_6 : decode cX7_wordNumber 6 = .ok (.if_icmp .lt 5, 3) := by decide +kernel
theorem dX7_wordNumber_9 : decode cX7_wordNumber 9 = .ok (.iconst (-1), 1) := by decide +kernel
theorem dX7_wordNumber_10 : decode cX7_wordNumber 10 = .ok (.ireturn, 1) := by decide +kernel
theorem dX7_wordNumber_11 : decode cX7_wordNumber 11 = .ok (.iconst 0, 1) := by decide +kernel
theorem dX7_wordNumber_12 : decode cX7_wordNumber 12 = .ok (.istore_n 1, 1) := by decide +kernel
theorem dX7_wordNumber_13 : decode cX7_wordNumber 13 = .ok (.iload_n 1, 1) := by decide +kernel
theorem dX7_wordNumber_14 : decode cX7_wordNumber 14 = .ok (.bipush 9, 2) := by decide +kernel
theorem dX7_wordNumber_16 : decode cX7_wordNumber 16 = .ok (.if_icmp .ge 22, 3) := by decide +kernel
theorem dX7_wordNumber_19 : decode cX7_wordNumber 19 = .ok (.aload_n 0, 1) := by decide +kernel
theorem dX7_wordNumber_20 : decode cX7_wordNumber 20 = .ok (.iload_n 1, 1) := by decide +kernel
theorem dX7_wordNumber_21 : decode cX7_wordNumber 21 = .ok (.bipush 6, 2) := by decide +kernel
theorem dX7_wordNumber_23 : decode cX7_wordNumber 23 = .ok (.imul, 1) := by decide +kernel
theorem dX7_wordNumber_24 : decode cX7_wordNumber 24 = .ok (.invokevirtual 189, 3) := by decide +kernel
theorem dX7_wordNumber_27 : decode cX7_wordNumber 27 = .ok (.ifCond .eq 5, 3) := by decide +kernel
theorem dX7_wordNumber_30 : decode cX7_wordNumber 30 = .ok (.iload_n 1, 1) := by decide +kernel
theorem dX7_wordNumber_31 : decode cX7_wordNumber 31 = .ok (.ireturn, 1) := by decide +kernel
theorem dX7_wordNumber_32 : decode cX7_wordNumber 32 = .ok (.iinc 1 1, 3) := by decide +kernel
theorem dX7_wordNumber_35 : decode cX7_wordNumber 35 = .ok (.goto (-22), 3) := by decide +kernel
theorem dX7_wordNumber_38 : decode cX7_wordNumber 38 = .ok (.iconst (-1), 1) := by decide +kernel
theorem dX7_wordNumber_39 : decode cX7_wordNumber 39 = .ok (.ireturn, 1) := by decide +kernel
theorem dX7_isWord_0 : decode cX7_isWord 0 = .ok (.iconst 0, 1) := by decide +kernel
theorem dX7_isWord_1 : decode cX7_isWord 1 = .ok (.istore_n 2, 1) := by decide +kernel
theorem dX7_isWord_2 : decode cX7_isWord 2 = .ok (.iload_n 2, 1) := by decide +kernel
theorem dX7_isWord_3 : decode cX7_isWord 3 = .ok (.aload_n 0, 1) := by decide +kernel
theorem dX7_isWord_4 : decode cX7_isWord 4 = .ok (.getfield 24, 3) := by decide +kernel
theorem dX7_isWord_7 : decode cX7_isWord 7 = .ok (.if_icmp .ge 33, 3) := by decide +kernel
theorem dX7_isWord_10 : decode cX7_isWord 10 = .ok (.ldc 192, 2) := by decide +kernel
theorem dX7_isWord_12 : decode cX7_isWord 12 = .ok (.iload_n 1, 1) := by decide +kernel
theorem dX7_isWord_13 : decode cX7_isWord 13 = .ok (.iload_n 2, 1) := by decide +kernel
theorem dX7_isWord_14 : decode cX7_isWord 14 = .ok (.iadd, 1) := by decide +kernel
theorem dX7_isWord_15 : decode cX7_isWord 15 = .ok (.invokevirtual 194, 3) := by decide +kernel
theorem dX7_isWord_18 : decode cX7_isWord 18 = .ok (.aload_n 0, 1) := by decide +kernel
theorem dX7_isWord_19 : decode cX7_isWord 19 = .ok (.getfield 30, 3) := by decide +kernel
theorem dX7_isWord_22 : decode cX7_isWord 22 = .ok (.aload_n 0, 1) := by decide +kernel
theorem dX7_isWord_23 : decode cX7_isWord 23 = .ok (.getfield 21, 3) := by decide +kernel
theorem dX7_isWord_26 : decode cX7_isWord 26 = .ok (.iload_n 2, 1) := by decide +kernel
theorem dX7_isWord_27 : decode cX7_isWord 27 = .ok (.iadd, 1) := by decide +kernel
theorem dX7_isWord_28 : decode cX7_isWord 28 = .ok (.baload, 1) := by decide +kernel
theorem dX7_isWord_29 : decode cX7_isWord 29 = .ok (.if_icmp .eq 5, 3) := by decide +kernel
theorem dX7_isWord_32 : decode cX7_isWord 32 = .ok (.iconst 0, 1) := by decide +kernel
theorem dX7_isWord_33 : decode cX7_isWord 33 = .ok (.ireturn, 1) := by decide +kernel
theorem dX7_isWord_34 : decode cX7_isWord 34 = .ok (.iinc 2 1, 3) := by decide +kernel
theorem dX7_isWord_37 : decode cX7_isWord 37 = .ok (.goto (-35), 3) := by decide +kernel
theorem dX7_isWord_40 : decode cX7_isWord 40 = .ok (.ldc 192, 2) := by decide +kernel
theorem dX7_isWord_42 : decode cX7_isWord 42 = .ok (.iload_n 1, 1) := by decide +kernel
theorem dX7_isWord_43 : decode cX7_isWord 43 = .ok (.aload_n 0, 1) := by decide +kernel
theorem dX7_isWord_44 : decode cX7_isWord 44 = .ok (.getfield 24, 3) := by decide +kernel
theorem dX7_isWord_47 : decode cX7_isWord 47 = .ok (.iadd, 1) := by decide +kernel
theorem dX7_isWord_48 : decode cX7_isWord 48 = .ok (.invokevirtual 194, 3) := by decide +kernel
theorem dX7_isWord_51 : decode cX7_isWord 51 = .ok (.bipush 32, 2) := by decide +kernel
theorem dX7_isWord_53 : decode cX7_isWord 53 = .ok (.if_icmp .ne 7, 3) := by decide +kernel
theorem dX7_isWord_56 : decode cX7_isWord 56 = .ok (.iconst 1, 1) := by decide +kernel
theorem dX7_isWord_57 : decode cX7_isWord 57 = .ok (.goto 4, 3) := by decide +kernel
theorem dX7_isWord_60 : decode cX7_isWord 60 = .ok (.iconst 0, 1) := by decide +kernel
theorem dX7_isWord_61 : decode cX7_isWord 61 = .ok (.ireturn, 1) := by decide +kernel
theorem dX7_signToken_0 : decode cX7_signToken 0 = .ok (.aload_n 0, 1) := by decide +kernel
theorem dX7_signToken_1 : decode cX7_signToken 1 = .ok (.getfield 21, 3) := by decide +kernel
theorem dX7_signToken_4 : decode cX7_signToken 4 = .ok (.iconst 1, 1) := by decide +kernel
theorem dX7_signToken_5 : decode cX7_signToken 5 = .ok (.iadd, 1) := by decide +kernel
theorem dX7_signToken_6 : decode cX7_signToken 6 = .ok (.aload_n 0, 1) := by decide +kernel
theorem dX7_signToken_7 : decode cX7_signToken 7 = .ok (.getfield 9, 3) := by decide +kernel
theorem dX7_signToken_10 : decode cX7_signToken 10 = .ok (.if_icmp .ge 17, 3) := by decide +kernel
theorem dX7_signToken_13 : decode cX7_signToken 13 = .ok (.aload_n 0, 1) := by decide +kernel
theorem dX7_signToken_14 : decode cX7_signToken 14 = .ok (.getfield 30, 3) := by decide +kernel
theorem dX7_signToken_17 : decode cX7_signToken 17 = .ok (.aload_n 0, 1) := by decide +kernel
theorem dX7_signToken_18 : decode cX7_signToken 18 = .ok (.getfield 21, 3) := by decide +kernel
theorem dX7_signToken_21 : decode cX7_signToken 21 = .ok (.iconst 1, 1) := by decide +kernel
theorem dX7_signToken_22 : decode cX7_signToken 22 = .ok (.iadd, 1) := by decide +kernel
theorem dX7_signToken_23 : decode cX7_signToken 23 = .ok (.baload, 1) := by decide +kernel
theorem dX7_signToken_24 : decode cX7_signToken 24 = .ok (.goto 4, 3) := by decide +kernel
theorem dX7_signToken_27 : decode cX7_signToken 27 = .ok (.iconst (-1), 1) := by decide +kernel
theorem dX7_signToken_28 : decode cX7_signToken 28 = .ok (.istore_n 2, 1) := by decide +kernel
theorem dX7_signToken_29 : decode cX7_signToken 29 = .ok (.iload_n 1, 1) := by decide +kernel
theorem dX7_signToken_30 : decode cX7_signToken 30 = .ok (.bipush 58, 2) := by decide +kernel
theorem dX7_signToken_32 : decode cX7_signToken 32 = .ok (.if_icmp .ne 18, 3) := by decide +kernel
theorem dX7_signToken_35 : decode cX7_signToken 35 = .ok (.iload_n 2, 1) := by decide +kernel
theorem dX7_signToken_36 : decode cX7_signToken 36 = .ok (.bipush 61, 2) := by decide +kernel
theorem dX7_signToken_38 : decode cX7_signToken 38 = .ok (.if_icmp .ne 12, 3) := by decide +kernel
theorem dX7_signToken_41 : decode cX7_signToken 41 = .ok (.aload_n 0, 1) := by decide +kernel
theorem dX7_signToken_42 : decode cX7_signToken 42 = .ok (.iconst 2, 1) := by decide +kernel
theorem dX7_signToken_43 : decode cX7_signToken 43 = .ok (.putfield 24, 3) := by decide +kernel
theorem dX7_signToken_46 : decode cX7_signToken 46 = .ok (.sipush 258, 3) := by decide +kernel
theorem dX7_signToken_49 : decode cX7_signToken 49 = .ok (.ireturn, 1) := by decide +kernel
theorem dX7_signToken_50 : decode cX7_signToken 50 = .ok (.iload_n 1, 1) := by decide +kernel
theorem dX7_signToken_51 : decode cX7_signToken 51 = .ok (.bipush 45, 2) := by decide +kernel
theorem dX7_signToken_53 : decode cX7_signToken 53 = .ok (.if_icmp .ne 18, 3) := by decide +kernel
theorem dX7_signToken_56 : decode cX7_signToken 56 = .ok (.iload_n 2, 1) := by decide +kernel
theorem dX7_signToken_57 : decode cX7_signToken 57 = .ok (.bipush 62, 2) := by decide +kernel
theorem dX7_signToken_59 : decode cX7_signToken 59 = .ok (.if_icmp .ne 12, 3) := by decide +kernel
theorem dX7_signToken_62 : decode cX7_signToken 62 = .ok (.aload_n 0, 1) := by decide +kernel
theorem dX7_signToken_63 : decode cX7_signToken 63 = .ok (.iconst 2, 1) := by decide +kernel
theorem dX7_signToken_64 : decode cX7_signToken 64 = .ok (.putfield 24, 3) := by decide +kernel
theorem dX7_signToken_67 : decode cX7_signToken 67 = .ok (.sipush 259, 3) := by decide +kernel
theorem dX7_signToken_70 : decode cX7_signToken 70 = .ok (.ireturn, 1) := by decide +kernel
theorem dX7_signToken_71 : decode cX7_signToken 71 = .ok (.iload_n 1, 1) := by decide +kernel
theorem dX7_signToken_72 : decode cX7_signToken 72 = .ok (.lookupswitch 86 #[(33, 84), (40, 84), (41, 84), (44, 84), (46, 84), (58, 84), (59, 84), (61, 84), (92, 84)], 84) := by decide +kernel
theorem dX7_signToken_156 : decode cX7_signToken 156 = .ok (.iload_n 1, 1) := by decide +kernel
theorem dX7_signToken_157 : decode cX7_signToken 157 = .ok (.ireturn, 1) := by decide +kernel
theorem dX7_signToken_158 : decode cX7_signToken 158 = .ok (.sipush 260, 3) := by decide +kernel
theorem dX7_signToken_161 : decode cX7_signToken 161 = .ok (.ireturn, 1) := by decide +kernel
theorem dX7_isLetter_0 : decode cX7_isLetter 0 = .ok (.iload_n 0, 1) := by decide +kernel
theorem dX7_isLetter_1 : decode cX7_isLetter 1 = .ok (.bipush 97, 2) := by decide +kernel
theorem dX7_isLetter_3 : decode cX7_isLetter 3 = .ok (.if_icmp .lt 9, 3) := by decide +kernel
theorem dX7_isLetter_6 : decode cX7_isLetter 6 = .ok (.iload_n 0, 1) := by decide +kernel
theorem dX7_isLetter_7 : decode cX7_isLetter 7 = .ok (.bipush 122, 2) := by decide +kernel
theorem dX7_isLetter_9 : decode cX7_isLetter 9 = .ok (.if_icmp .le 15, 3) := by decide +kernel
theorem dX7_isLetter_12 : decode cX7_isLetter 12 = .ok (.iload_n 0, 1) := by decide +kernel
theorem dX7_isLetter_13 : decode cX7_isLetter 13 = .ok (.bipush 65, 2) := by decide +kernel
theorem dX7_isLetter_15 : decode cX7_isLetter 15 = .ok (.if_icmp .lt 13, 3) := by decide +kernel
theorem dX7_isLetter_18 : decode cX7_isLetter 18 = .ok (.iload_n 0, 1) := by decide +kernel
theorem dX7_isLetter_19 : decode cX7_isLetter 19 = .ok (.bipush 90, 2) := by decide +kernel
theorem dX7_isLetter_21 : decode cX7_isLetter 21 = .ok (.if_icmp .gt 7, 3) := by decide +kernel
theorem dX7_isLetter_24 : decode cX7_isLetter 24 = .ok (.iconst 1, 1) := by decide +kernel
theorem dX7_isLetter_25 : decode cX7_isLetter 25 = .ok (.goto 4, 3) := by decide +kernel
theorem dX7_isLetter_28 : decode cX7_isLetter 28 = .ok (.iconst 0, 1) := by decide +kernel
theorem dX7_isLetter_29 : decode cX7_isLetter 29 = .ok (.ireturn, 1) := by decide +kernel
theorem dX7_isNameSign_0 : decode cX7_isNameSign 0 = .ok (.iload_n 0, 1) := by decide +kernel
theorem dX7_isNameSign_1 : decode cX7_isNameSign 1 = .ok (.invokestatic 168, 3) := by decide +kernel
theorem dX7_isNameSign_4 : decode cX7_isNameSign 4 = .ok (.ifCond .ne 21, 3) := by decide +kernel
theorem dX7_isNameSign_7 : decode cX7_isNameSign 7 = .ok (.iload_n 0, 1) := by decide +kernel
theorem dX7_isNameSign_8 : decode cX7_isNameSign 8 = .ok (.bipush 48, 2) := by decide +kernel
theorem dX7_isNameSign_10 : decode cX7_isNameSign 10 = .ok (.if_icmp .lt 9, 3) := by decide +kernel
theorem dX7_isNameSign_13 : decode cX7_isNameSign 13 = .ok (.iload_n 0, 1) := by decide +kernel
theorem dX7_isNameSign_14 : decode cX7_isNameSign 14 = .ok (.bipush 57, 2) := by decide +kernel
theorem dX7_isNameSign_16 : decode cX7_isNameSign 16 = .ok (.if_icmp .le 9, 3) := by decide +kernel
theorem dX7_isNameSign_19 : decode cX7_isNameSign 19 = .ok (.iload_n 0, 1) := by decide +kernel
theorem dX7_isNameSign_20 : decode cX7_isNameSign 20 = .ok (.bipush 39, 2) := by decide +kernel
theorem dX7_isNameSign_22 : decode cX7_isNameSign 22 = .ok (.if_icmp .ne 7, 3) := by decide +kernel
theorem dX7_isNameSign_25 : decode cX7_isNameSign 25 = .ok (.iconst 1, 1) := by decide +kernel
theorem dX7_isNameSign_26 : decode cX7_isNameSign 26 = .ok (.goto 4, 3) := by decide +kernel
theorem dX7_isNameSign_29 : decode cX7_isNameSign 29 = .ok (.iconst 0, 1) := by decide +kernel
theorem dX7_isNameSign_30 : decode cX7_isNameSign 30 = .ok (.ireturn, 1) := by decide +kernel
theorem dX8_init_0 : decode cX8_init 0 = .ok (.aload_n 0, 1) := by decide +kernel
theorem dX8_init_1 : decode cX8_init 1 = .ok (.invokespecial 1, 3) := by decide +kernel
theorem dX8_init_4 : decode cX8_init 4 = .ok (.aload_n 0, 1) := by decide +kernel
theorem dX8_init_5 : decode cX8_init 5 = .ok (.aload_n 1, 1) := by decide +kernel
theorem dX8_init_6 : decode cX8_init 6 = .ok (.putfield 7, 3) := by decide +kernel
theorem dX8_init_9 : decode cX8_init 9 = .ok (.aload_n 0, 1) := by decide +kernel
theorem dX8_init_10 : decode cX8_init 10 = .ok (.aload_n 2, 1) := by decide +kernel
theorem dX8_init_11 : decode cX8_init 11 = .ok (.putfield 13, 3) := by decide +kernel
theorem dX8_init_14 : decode cX8_init 14 = .ok (.aload_n 0, 1) := by decide +kernel
theorem dX8_init_15 : decode cX8_init 15 = .ok (.iload_n 3, 1) := by decide +kernel
theorem dX8_init_16 : decode cX8_init 16 = .ok (.putfield 16, 3) := by decide +kernel
theorem dX8_init_19 : decode cX8_init 19 = .ok (.aload_n 0, 1) := by decide +kernel
theorem dX8_init_20 : decode cX8_init 20 = .ok (.aload 4, 2) := by decide +kernel
theorem dX8_init_22 : decode cX8_init 22 = .ok (.putfield 20, 3) := by decide +kernel
theorem dX8_init_25 : decode cX8_init 25 = .ok (.aload 4, 2) := by decide +kernel
theorem dX8_init_27 : decode cX8_init 27 = .ok (.invokestatic 24, 3) := by decide +kernel
theorem dX8_init_30 : decode cX8_init 30 = .ok (.astore 5, 2) := by decide +kernel
theorem dX8_init_32 : decode cX8_init 32 = .ok (.aload_n 1, 1) := by decide +kernel
theorem dX8_init_33 : decode cX8_init 33 = .ok (.getfield 28, 3) := by decide +kernel
theorem dX8_init_36 : decode cX8_init 36 = .ok (.bipush 6, 2) := by decide +kernel
theorem dX8_init_38 : decode cX8_init 38 = .ok (.if_icmp .ne 7, 3) := by decide +kernel
theorem dX8_init_41 : decode cX8_init 41 = .ok (.iconst 1, 1) := by decide +kernel
theorem dX8_init_42 : decode cX8_init 42 = .ok (.goto 4, 3) := by decide +kernel
theorem dX8_init_45 : decode cX8_init 45 = .ok (.iconst 0, 1) := by decide +kernel
theorem dX8_init_46 : decode cX8_init 46 = .ok (.istore 6, 2) := by decide +kernel
theorem dX8_init_48 : decode cX8_init 48 = .ok (.aload_n 0, 1) := by decide +kernel
theorem dX8_init_49 : decode cX8_init 49 = .ok (.iload 6, 2) := by decide +kernel
theorem dX8_init_51 : decode cX8_init 51 = .ok (.ifCond .eq 25, 3) := by decide +kernel
theorem dX8_init_54 : decode cX8_init 54 = .ok (.new 33, 3) := by decide +kernel
theorem dX8_init_57 : decode cX8_init 57 = .ok (.dup, 1) := by decide +kernel
theorem dX8_init_58 : decode cX8_init 58 = .ok (.aload_n 1, 1) := by decide +kernel
theorem dX8_init_59 : decode cX8_init 59 = .ok (.getfield 35, 3) := by decide +kernel
theorem dX8_init_62 : decode cX8_init 62 = .ok (.aload_n 1, 1) := by decide +kernel
theorem dX8_init_63 : decode cX8_init 63 = .ok (.getfield 38, 3) := by decide +kernel
theorem dX8_init_66 : decode cX8_init 66 = .ok (.aload 5, 2) := by decide +kernel
theorem dX8_init_68 : decode cX8_init 68 = .ok (.aload 5, 2) := by decide +kernel
theorem dX8_init_70 : decode cX8_init 70 = .ok (.invokespecial 41, 3) := by decide +kernel
theorem dX8_init_73 : decode cX8_init 73 = .ok (.goto 5, 3) := by decide +kernel
theorem dX8_init_76 : decode cX8_init 76 = .ok (.aload 5, 2) := by decide +kernel
theorem dX8_init_78 : decode cX8_init 78 = .ok (.putfield 44, 3) := by decide +kernel
theorem dX8_init_81 : decode cX8_init 81 = .ok (.return_, 1) := by decide +kernel
theorem dX8_letsOf_0 : decode cX8_letsOf 0 = .ok (.aload_n 0, 1) := by decide +kernel
theorem dX8_letsOf_1 : decode cX8_letsOf 1 = .ok (.ifnonnull 7, 3) := by decide +kernel
theorem dX8_letsOf_4 : decode cX8_letsOf 4 = .ok (.aconst_null, 1) := by decide +kernel
theorem dX8_letsOf_5 : decode cX8_letsOf 5 = .ok (.goto 7, 3) := by decide +kernel
theorem dX8_letsOf_8 : decode cX8_letsOf 8 = .ok (.aload_n 0, 1) := by decide +kernel
theorem dX8_letsOf_9 : decode cX8_letsOf 9 = .ok (.getfield 44, 3) := by decide +kernel
theorem dX8_letsOf_12 : decode cX8_letsOf 12 = .ok (.areturn, 1) := by decide +kernel
theorem dX9_init_0 : decode cX9_init 0 = .ok (.aload_n 0, 1) := by decide +kernel
theorem dX9_init_1 : decode cX9_init 1 = .ok (.invokespecial 1, 3) := by decide +kernel
theorem dX9_init_4 : decode cX9_init 4 = .ok (.aload_n 0, 1) := by decide +kernel
theorem dX9_init_5 : decode cX9_init 5 = .ok (.iload_n 1, 1) := by decide +kernel
theorem dX9_init_6 : decode cX9_init 6 = .ok (.putfield 7, 3) := by decide +kernel
theorem dX9_init_9 : decode cX9_init 9 = .ok (.aload_n 0, 1) := by decide +kernel
theorem dX9_init_10 : decode cX9_init 10 = .ok (.iload_n 2, 1) := by decide +kernel
theorem dX9_init_11 : decode cX9_init 11 = .ok (.putfield 13, 3) := by decide +kernel
theorem dX9_init_14 : decode cX9_init 14 = .ok (.aload_n 0, 1) := by decide +kernel
theorem dX9_init_15 : decode cX9_init 15 = .ok (.aload_n 3, 1) := by decide +kernel
theorem dX9_init_16 : decode cX9_init 16 = .ok (.putfield 16, 3) := by decide +kernel
theorem dX9_init_19 : decode cX9_init 19 = .ok (.aload_n 0, 1) := by decide +kernel
theorem dX9_init_20 : decode cX9_init 20 = .ok (.aload 4, 2) := by decide +kernel
theorem dX9_init_22 : decode cX9_init 22 = .ok (.putfield 20, 3) := by decide +kernel
theorem dX9_init_25 : decode cX9_init 25 = .ok (.aload_n 0, 1) := by decide +kernel
theorem dX9_init_26 : decode cX9_init 26 = .ok (.aload 5, 2) := by decide +kernel
theorem dX9_init_28 : decode cX9_init 28 = .ok (.putfield 23, 3) := by decide +kernel
theorem dX9_init_31 : decode cX9_init 31 = .ok (.return_, 1) := by decide +kernel
theorem dX10_init_0 : decode cX10_init 0 = .ok (.aload_n 0, 1) := by decide +kernel
theorem dX10_init_1 : decode cX10_init 1 = .ok (.invokespecial 3, 3) := by decide +kernel
theorem dX10_init_4 : decode cX10_init 4 = .ok (.aload_n 0, 1) := by decide +kernel
theorem dX10_init_5 : decode cX10_init 5 = .ok (.iconst 0, 1) := by decide +kernel
theorem dX10_init_6 : decode cX10_init 6 = .ok (.putfield 9, 3) := by decide +kernel
theorem dX10_init_9 : decode cX10_init 9 = .ok (.aload_n 0, 1) := by decide +kernel
theorem dX10_init_10 : decode cX10_init 10 = .ok (.iconst (-1), 1) := by decide +kernel
theorem dX10_init_11 : decode cX10_init 11 = .ok (.putfield 15, 3) := by decide +kernel
theorem dX10_init_14 : decode cX10_init 14 = .ok (.return_, 1) := by decide +kernel
theorem dX10_clear_0 : decode cX10_clear 0 = .ok (.aload_n 0, 1) := by decide +kernel
theorem dX10_clear_1 : decode cX10_clear 1 = .ok (.iconst 0, 1) := by decide +kernel
theorem dX10_clear_2 : decode cX10_clear 2 = .ok (.putfield 9, 3) := by decide +kernel
theorem dX10_clear_5 : decode cX10_clear 5 = .ok (.aload_n 0, 1) := by decide +kernel
theorem dX10_clear_6 : decode cX10_clear 6 = .ok (.iconst (-1), 1) := by decide +kernel
theorem dX10_clear_7 : decode cX10_clear 7 = .ok (.putfield 15, 3) := by decide +kernel
theorem dX10_clear_10 : decode cX10_clear 10 = .ok (.return_, 1) := by decide +kernel
theorem dX10_set_0 : decode cX10_set 0 = .ok (.aload_n 0, 1) := by decide +kernel
theorem dX10_set_1 : decode cX10_set 1 = .ok (.iload_n 1, 1) := by decide +kernel
theorem dX10_set_2 : decode cX10_set 2 = .ok (.putfield 9, 3) := by decide +kernel
theorem dX10_set_5 : decode cX10_set 5 = .ok (.aload_n 0, 1) := by decide +kernel
theorem dX10_set_6 : decode cX10_set 6 = .ok (.iload_n 2, 1) := by decide +kernel
theorem dX10_set_7 : decode cX10_set 7 = .ok (.putfield 15, 3) := by decide +kernel
theorem dX10_set_10 : decode cX10_set 10 = .ok (.return_, 1) := by decide +kernel
theorem dX11_init_0 : decode cX11_init 0 = .ok (.aload_n 0, 1) := by decide +kernel
theorem dX11_init_1 : decode cX11_init 1 = .ok (.invokespecial 1, 3) := by decide +kernel
theorem dX11_init_4 : decode cX11_init 4 = .ok (.aload_n 0, 1) := by decide +kernel
theorem dX11_init_5 : decode cX11_init 5 = .ok (.sipush 4000, 3) := by decide +kernel
theorem dX11_init_8 : decode cX11_init 8 = .ok (.newarray .byte, 2) := by decide +kernel
theorem dX11_init_10 : decode cX11_init 10 = .ok (.putfield 9, 3) := by decide +kernel
theorem dX11_init_13 : decode cX11_init 13 = .ok (.aload_n 0, 1) := by decide +kernel
theorem dX11_init_14 : decode cX11_init 14 = .ok (.new 13, 3) := by decide +kernel
theorem dX11_init_17 : decode cX11_init 17 = .ok (.dup, 1) := by decide +kernel
theorem dX11_init_18 : decode cX11_init 18 = .ok (.invokespecial 15, 3) := by decide +kernel
theorem dX11_init_21 : decode cX11_init 21 = .ok (.putfield 16, 3) := by decide +kernel
theorem dX11_init_24 : decode cX11_init 24 = .ok (.aload_n 0, 1) := by decide +kernel
theorem dX11_init_25 : decode cX11_init 25 = .ok (.new 20, 3) := by decide +kernel
theorem dX11_init_28 : decode cX11_init 28 = .ok (.dup, 1) := by decide +kernel
theorem dX11_init_29 : decode cX11_init 29 = .ok (.invokespecial 22, 3) := by decide +kernel
theorem dX11_init_32 : decode cX11_init 32 = .ok (.putfield 23, 3) := by decide +kernel
theorem dX11_init_35 : decode cX11_init 35 = .ok (.aload_n 0, 1) := by decide +kernel
theorem dX11_init_36 : decode cX11_init 36 = .ok (.new 27, 3) := by decide +kernel
theorem dX11_init_39 : decode cX11_init 39 = .ok (.dup, 1) := by decide +kernel
theorem dX11_init_40 : decode cX11_init 40 = .ok (.aload_n 0, 1) := by decide +kernel
theorem dX11_init_41 : decode cX11_init 41 = .ok (.getfield 23, 3) := by decide +kernel
theorem dX11_init_44 : decode cX11_init 44 = .ok (.aload_n 0, 1) := by decide +kernel
theorem dX11_init_45 : decode cX11_init 45 = .ok (.getfield 16, 3) := by decide +kernel
theorem dX11_init_48 : decode cX11_init 48 = .ok (.invokespecial 29, 3) := by decide +kernel
theorem dX11_init_51 : decode cX11_init 51 = .ok (.putfield 32, 3) := by decide +kernel
theorem dX11_init_54 : decode cX11_init 54 = .ok (.aload_n 0, 1) := by decide +kernel
theorem dX11_init_55 : decode cX11_init 55 = .ok (.new 36, 3) := by decide +kernel
theorem dX11_init_58 : decode cX11_init 58 = .ok (.dup, 1) := by decide +kernel
theorem dX11_init_59 : decode cX11_init 59 = .ok (.aload_n 0, 1) := by decide +kernel
theorem dX11_init_60 : decode cX11_init 60 = .ok (.getfield 9, 3) := by decide +kernel
theorem dX11_init_63 : decode cX11_init 63 = .ok (.aload_n 0, 1) := by decide +kernel
theorem dX11_init_64 : decode cX11_init 64 = .ok (.getfield 16, 3) := by decide +kernel
theorem dX11_init_67 : decode cX11_init 67 = .ok (.invokespecial 38, 3) := by decide +kernel
theorem dX11_init_70 : decode cX11_init 70 = .ok (.putfield 41, 3) := by decide +kernel
theorem dX11_init_73 : decode cX11_init 73 = .ok (.aload_n 0, 1) := by decide +kernel
theorem dX11_init_74 : decode cX11_init 74 = .ok (.new 45, 3) := by decide +kernel
theorem dX11_init_77 : decode cX11_init 77 = .ok (.dup, 1) := by decide +kernel
theorem dX11_init_78 : decode cX11_init 78 = .ok (.aload_n 0, 1) := by decide +kernel
theorem dX11_init_79 : decode cX11_init 79 = .ok (.getfield 9, 3) := by decide +kernel
theorem dX11_init_82 : decode cX11_init 82 = .ok (.aload_n 0, 1) := by decide +kernel
theorem dX11_init_83 : decode cX11_init 83 = .ok (.getfield 23, 3) := by decide +kernel
theorem dX11_init_86 : decode cX11_init 86 = .ok (.aload_n 0, 1) := by decide +kernel
theorem dX11_init_87 : decode cX11_init 87 = .ok (.getfield 32, 3) := by decide +kernel
theorem dX11_init_90 : decode cX11_init 90 = .ok (.aload_n 0, 1) := by decide +kernel
theorem dX11_init_91 : decode cX11_init 91 = .ok (.getfield 16, 3) := by decide +kernel
theorem dX11_init_94 : decode cX11_init 94 = .ok (.invokespecial 47, 3) := by decide +kernel
theorem dX11_init_97 : decode cX11_init 97 = .ok (.putfield 50, 3) := by decide +kernel
theorem dX11_init_100 : decode cX11_init 100 = .ok (.aload_n 0, 1) := by decide +kernel
theorem dX11_init_101 : decode cX11_init 101 = .ok (.iconst 0, 1) := by decide +kernel
theorem dX11_init_102 : decode cX11_init 102 = .ok (.putfield 54, 3) := by decide +kernel
theorem dX11_init_105 : decode cX11_init 105 = .ok (.aload_n 0, 1) := by decide +kernel
theorem dX11_init_106 : decode cX11_init 106 = .ok (.iconst 0, 1) := by decide +kernel
theorem dX11_init_107 : decode cX11_init 107 = .ok (.putfield 58, 3) := by decide +kernel
theorem dX11_init_110 : decode cX11_init 110 = .ok (.aload_n 0, 1) := by decide +kernel
theorem dX11_init_111 : decode cX11_init 111 = .ok (.iconst (-1), 1) := by decide +kernel
theorem dX11_init_112 : decode cX11_init 112 = .ok (.putfield 61, 3) := by decide +kernel
theorem dX11_init_115 : decode cX11_init 115 = .ok (.aload_n 0, 1) := by decide +kernel
theorem dX11_init_116 : decode cX11_init 116 = .ok (.iconst 0, 1) := by decide +kernel
theorem dX11_init_117 : decode cX11_init 117 = .ok (.putfield 64, 3) := by decide +kernel
theorem dX11_init_120 : decode cX11_init 120 = .ok (.aload_n 0, 1) := by decide +kernel
theorem dX11_init_121 : decode cX11_init 121 = .ok (.getfield 23, 3) := by decide +kernel
theorem dX11_init_124 : decode cX11_init 124 = .ok (.bipush 7, 2) := by decide +kernel
theorem dX11_init_126 : decode cX11_init 126 = .ok (.invokevirtual 67, 3) := by decide +kernel
theorem dX11_init_129 : decode cX11_init 129 = .ok (.return_, 1) := by decide +kernel
theorem dX11_feed_0 : decode cX11_feed 0 = .ok (.aload_n 0, 1) := by decide +kernel
theorem dX11_feed_1 : decode cX11_feed 1 = .ok (.getfield 54, 3) := by decide +kernel
theorem dX11_feed_4 : decode cX11_feed 4 = .ok (.bipush 20, 2) := by decide +kernel
theorem dX11_feed_6 : decode cX11_feed 6 = .ok (.iadd, 1) := by decide +kernel
theorem dX11_feed_7 : decode cX11_feed 7 = .ok (.sipush 4000, 3) := by decide +kernel
theorem dX11_feed_10 : decode cX11_feed 10 = .ok (.if_icmp .le 5, 3) := by decide +kernel
theorem dX11_feed_13 : decode cX11_feed 13 = .ok (.iconst (-1), 1) := by decide +kernel
theorem dX11_feed_14 : decode cX11_feed 14 = .ok (.ireturn, 1) := by decide +kernel
theorem dX11_feed_15 : decode cX11_feed 15 = .ok (.aload_n 0, 1) := by decide +kernel
theorem dX11_feed_16 : decode cX11_feed 16 = .ok (.iload_n 1, 1) := by decide +kernel
theorem dX11_feed_17 : decode cX11_feed 17 = .ok (.invokevirtual 71, 3) := by decide +kernel
theorem dX11_feed_20 : decode cX11_feed 20 = .ok (.aload_n 0, 1) := by decide +kernel
theorem dX11_feed_21 : decode cX11_feed 21 = .ok (.iload_n 2, 1) := by decide +kernel
theorem dX11_feed_22 : decode cX11_feed 22 = .ok (.invokevirtual 71, 3) := by decide +kernel
theorem dX11_feed_25 : decode cX11_feed 25 = .ok (.aload_n 0, 1) := by decide +kernel
theorem dX11_feed_26 : decode cX11_feed 26 = .ok (.iload_n 3, 1) := by decide +kernel
theorem dX11_feed_27 : decode cX11_feed 27 = .ok (.invokevirtual 71, 3) := by decide +kernel
theorem dX11_feed_30 : decode cX11_feed 30 = .ok (.aload_n 0, 1) := by decide +kernel
theorem dX11_feed_31 : decode cX11_feed 31 = .ok (.iload 4, 2) := by decide +kernel
theorem dX11_feed_33 : decode cX11_feed 33 = .ok (.invokevirtual 71, 3) := by decide +kernel
theorem dX11_feed_36 : decode cX11_feed 36 = .ok (.aload_n 0, 1) := by decide +kernel
theorem dX11_feed_37 : decode cX11_feed 37 = .ok (.iload 5, 2) := by decide +kernel
theorem dX11_feed_39 : decode cX11_feed 39 = .ok (.invokevirtual 71, 3) := by decide +kernel
theorem dX11_feed_42 : decode cX11_feed 42 = .ok (.aload_n 0, 1) := by decide +kernel
theorem dX11_feed_43 : decode cX11_feed 43 = .ok (.getfield 54, 3) := by decide +kernel
theorem dX11_feed_46 : decode cX11_feed 46 = .ok (.ireturn, 1) := by decide +kernel
theorem dX11_text_0 : decode cX11_text 0 = .ok (.iload_n 1, 1) := by decide +kernel
theorem dX11_text_1 : decode cX11_text 1 = .ok (.ifCond .lt 11, 3) := by decide +kernel
theorem dX11_text_4 : decode cX11_text 4 = .ok (.iload_n 1, 1) := by decide +kernel
theorem dX11_text_5 : decode cX11_text 5 = .ok (.aload_n 0, 1) := by decide +kernel
theorem dX11_text_6 : decode cX11_text 6 = .ok (.getfield 54, 3) := by decide +kernel
theorem dX11_text_9 : decode cX11_text 9 = .ok (.if_icmp .le 11, 3) := by decide +kernel
theorem dX11_text_12 : decode cX11_text 12 = .ok (.new 74, 3) := by decide +kernel
theorem dX11_text_15 : decode cX11_text 15 = .ok (.dup, 1) := by decide +kernel
theorem dX11_text_16 : decode cX11_text 16 = .ok (.invokespecial 76, 3) := by decide +kernel
theorem dX11_text_19 : decode cX11_text 19 = .ok (.athrow, 1) := by decide +kernel
theorem dX11_text_20 : decode cX11_text 20 = .ok (.aload_n 0, 1) := by decide +kernel
theorem dX11_text_21 : decode cX11_text 21 = .ok (.iconst 0, 1) := by decide +kernel
theorem dX11_text_22 : decode cX11_text 22 = .ok (.putfield 54, 3) := by decide +kernel
theorem dX11_text_25 : decode cX11_text 25 = .ok (.aload_n 0, 1) := by decide +kernel
theorem dX11_text_26 : decode cX11_text 26 = .ok (.iload_n 1, 1) := by decide +kernel
theorem dX11_text_27 : decode cX11_text 27 = .ok (.invokevirtual 77, 3) := by decide +kernel
theorem dX11_text_30 : decode cX11_text 30 = .ok (.ireturn, 1) := by decide +kernel
theorem dX11_fault_0 : decode cX11_fault 0 = .ok (.iload_n 1, 1) := by decide +kernel
theorem dX11_fault_1 : decode cX11_fault 1 = .ok (.tableswitch 42 0 2 #[27, 32, 37], 27) := by decide +kernel
theorem dX11_fault_28 : decode cX11_fault 28 = .ok (.aload_n 0, 1) := by decide +kernel
theorem dX11_fault_29 : decode cX11_fault 29 = .ok (.getfield 58, 3) := by decide +kernel
theorem dX11_fault_32 : decode cX11_fault 32 = .ok (.ireturn, 1) := by decide +kernel
theorem dX11_fault_33 : decode cX11_fault 33 = .ok (.aload_n 0, 1) := by decide +kernel
theorem dX11_fault_34 : decode cX11_fault 34 = .ok (.getfield 61, 3) := by decide +kernel
theorem dX11_fault_37 : decode cX11_fault 37 = .ok (.ireturn, 1) := by decide +kernel
theorem dX11_fault_38 : decode cX11_fault 38 = .ok (.aload_n 0, 1) := by decide +kernel
theorem dX11_fault_39 : decode cX11_fault 39 = .ok (.getfield 64, 3) := by decide +kernel
theorem dX11_fault_42 : decode cX11_fault 42 = .ok (.ireturn, 1) := by decide +kernel
theorem dX11_fault_43 : decode cX11_fault 43 = .ok (.new 81, 3) := by decide +kernel
theorem dX11_fault_46 : decode cX11_fault 46 = .ok (.dup, 1) := by decide +kernel
theorem dX11_fault_47 : decode cX11_fault 47 = .ok (.invokespecial 83, 3) := by decide +kernel
theorem dX11_fault_50 : decode cX11_fault 50 = .ok (.athrow, 1) := by decide +kernel
theorem dX11_corner_0 : decode cX11_corner 0 = .ok (.iload_n 1, 1) := by decide +kernel
theorem dX11_corner_1 : decode cX11_corner 1 = .ok (.ifCond .lt 9, 3) := by decide +kernel
theorem dX11_corner_4 : decode cX11_corner 4 = .ok (.iload_n 1, 1) := by decide +kernel
theorem dX11_corner_5 : decode cX11_corner 5 = .ok (.bipush 8, 2) := by decide +kernel
theorem dX11_corner_7 : decode cX11_corner 7 = .ok (.if_icmp .le 11, 3) := by decide +kernel
theorem dX11_corner_10 : decode cX11_corner 10 = .ok (.new 74, 3) := by decide +kernel
theorem dX11_corner_13 : decode cX11_corner 13 = .ok (.dup, 1) := by decide +kernel
theorem dX11_corner_14 : decode cX11_corner 14 = .ok (.invokespecial 76, 3) := by decide +kernel
theorem dX11_corner_17 : decode cX11_corner 17 = .ok (.athrow, 1) := by decide +kernel
theorem dX11_corner_18 : decode cX11_corner 18 = .ok (.aload_n 0, 1) := by decide +kernel
theorem dX11_corner_19 : decode cX11_corner 19 = .ok (.getfield 23, 3) := by decide +kernel
theorem dX11_corner_22 : decode cX11_corner 22 = .ok (.getfield 84, 3) := by decide +kernel
theorem dX11_corner_25 : decode cX11_corner 25 = .ok (.getfield 88, 3) := by decide +kernel
theorem dX11_corner_28 : decode cX11_corner 28 = .ok (.istore_n 2, 1) := by decide +kernel
theorem dX11_corner_29 : decode cX11_corner 29 = .ok (.aload_n 0, 1) := by decide +kernel
theorem dX11_corner_30 : decode cX11_corner 30 = .ok (.getfield 23, 3) := by decide +kernel
theorem dX11_corner_33 : decode cX11_corner 33 = .ok (.iload_n 1, 1) := by decide +kernel
theorem dX11_corner_34 : decode cX11_corner 34 = .ok (.invokevirtual 67, 3) := by decide +kernel
theorem dX11_corner_37 : decode cX11_corner 37 = .ok (.iload_n 2, 1) := by decide +kernel
theorem dX11_corner_38 : decode cX11_corner 38 = .ok (.ireturn, 1) := by decide +kernel
theorem dX11_limit_0 : decode cX11_limit 0 = .ok (.iload_n 1, 1) := by decide +kernel
theorem dX11_limit_1 : decode cX11_limit 1 = .ok (.iconst 1, 1) := by decide +kernel
theorem dX11_limit_2 : decode cX11_limit 2 = .ok (.if_icmp .lt 10, 3) := by decide +kernel
theorem dX11_limit_5 : decode cX11_limit 5 = .ok (.iload_n 1, 1) := by decide +kernel
theorem dX11_limit_6 : decode cX11_limit 6 = .ok (.sipush 20000, 3) := by decide +kernel
theorem dX11_limit_9 : decode cX11_limit 9 = .ok (.if_icmp .le 11, 3) := by decide +kernel
theorem dX11_limit_12 : decode cX11_limit 12 = .ok (.new 74, 3) := by decide +kernel
theorem dX11_limit_15 : decode cX11_limit 15 = .ok (.dup, 1) := by decide +kernel
theorem dX11_limit_16 : decode cX11_limit 16 = .ok (.invokespecial 76, 3) := by decide +kernel
theorem dX11_limit_19 : decode cX11_limit 19 = .ok (.athrow, 1) := by decide +kernel
theorem dX11_limit_20 : decode cX11_limit 20 = .ok (.aload_n 0, 1) := by decide +kernel
theorem dX11_limit_21 : decode cX11_limit 21 = .ok (.getfield 32, 3) := by decide +kernel
theorem dX11_limit_24 : decode cX11_limit 24 = .ok (.getfield 93, 3) := by decide +kernel
theorem dX11_limit_27 : decode cX11_limit 27 = .ok (.istore_n 2, 1) := by decide +kernel
theorem dX11_limit_28 : decode cX11_limit 28 = .ok (.aload_n 0, 1) := by decide +kernel
theorem dX11_limit_29 : decode cX11_limit 29 = .ok (.getfield 32, 3) := by decide +kernel
theorem dX11_limit_32 : decode cX11_limit 32 = .ok (.iload_n 1, 1) := by decide +kernel
theorem dX11_limit_33 : decode cX11_limit 33 = .ok (.putfield 93, 3) := by decide +kernel
theorem dX11_limit_36 : decode cX11_limit 36 = .ok (.iload_n 2, 1) := by decide +kernel
theorem dX11_limit_37 : decode cX11_limit 37 = .ok (.ireturn, 1) := by decide +kernel
theorem dX11_outs_0 : decode cX11_outs 0 = .ok (.aload_n 0, 1) := by decide +kernel
theorem dX11_outs_1 : decode cX11_outs 1 = .ok (.getfield 32, 3) := by decide +kernel
theorem dX11_outs_4 : decode cX11_outs 4 = .ok (.getfield 96, 3) := by decide +kernel
theorem dX11_outs_7 : decode cX11_outs 7 = .ok (.ireturn, 1) := by decide +kernel
theorem dX11_out_0 : decode cX11_out 0 = .ok (.iload_n 1, 1) := by decide +kernel
theorem dX11_out_1 : decode cX11_out 1 = .ok (.ifCond .lt 26, 3) := by decide +kernel
theorem dX11_out_4 : decode cX11_out 4 = .ok (.iload_n 1, 1) := by decide +kernel
theorem dX11_out_5 : decode cX11_out 5 = .ok (.aload_n 0, 1) := by decide +kernel
theorem dX11_out_6 : decode cX11_out 6 = .ok (.getfield 32, 3) := by decide +kernel
theorem dX11_out_9 : decode cX11_out 9 = .ok (.getfield 96, 3) := by decide +kernel
theorem dX11_out_12 : decode cX11_out 12 = .ok (.if_icmp .ge 15, 3) := by decide +kernel
theorem dX11_out_15 : decode cX11_out 15 = .ok (.iload_n 1, 1) := by decide +kernel
theorem dX11_out_16 : decode cX11_out 16 = .ok (.aload_n 0, 1) := by decide +kernel
theorem dX11_out_17 : decode cX11_out 17 = .ok (.getfield 32, 3) := by decide +kernel
theorem dX11_out_20 : decode cX11_out 20 = .ok (.getfield 99, 3) := by decide +kernel
theorem dX11_out_23 : decode cX11_out 23 = .ok (.arraylength, 1) := by decide +kernel
theorem dX11_out_24 : decode cX11_out 24 = .ok (.if_icmp .lt 11, 3) := by decide +kernel
theorem dX11_out_27 : decode cX11_out 27 = .ok (.new 81, 3) := by decide +kernel
theorem dX11_out_30 : decode cX11_out 30 = .ok (.dup, 1) := by decide +kernel
theorem dX11_out_31 : decode cX11_out 31 = .ok (.invokespecial 83, 3) := by decide +kernel
theorem dX11_out_34 : decode cX11_out 34 = .ok (.athrow, 1) := by decide +kernel
theorem dX11_out_35 : decode cX11_out 35 = .ok (.aload_n 0, 1) := by decide +kernel
theorem dX11_out_36 : decode cX11_out 36 = .ok (.getfield 32, 3) := by decide +kernel
theorem dX11_out_39 : decode cX11_out 39 = .ok (.getfield 99, 3) := by decide +kernel
theorem dX11_out_42 : decode cX11_out 42 = .ok (.iload_n 1, 1) := by decide +kernel
theorem dX11_out_43 : decode cX11_out 43 = .ok (.baload, 1) := by decide +kernel
theorem dX11_out_44 : decode cX11_out 44 = .ok (.ireturn, 1) := by decide +kernel
theorem dX11_count_0 : decode cX11_count 0 = .ok (.iload_n 1, 1) := by decide +kernel
theorem dX11_count_1 : decode cX11_count 1 = .ok (.ifCond .lt 25, 3) := by decide +kernel
theorem dX11_count_4 : decode cX11_count 4 = .ok (.iload_n 1, 1) := by decide +kernel
theorem dX11_count_5 : decode cX11_count 5 = .ok (.aload_n 0, 1) := by decide +kernel
theorem dX11_count_6 : decode cX11_count 6 = .ok (.getfield 32, 3) := by decide +kernel
theorem dX11_count_9 : decode cX11_count 9 = .ok (.getfield 102, 3) := by decide +kernel
theorem dX11_count_12 : decode cX11_count 12 = .ok (.arraylength, 1) := by decide +kernel
theorem dX11_count_13 : decode cX11_count 13 = .ok (.if_icmp .ge 13, 3) := by decide +kernel
theorem dX11_count_16 : decode cX11_count 16 = .ok (.aload_n 0, 1) := by decide +kernel
theorem dX11_count_17 : decode cX11_count 17 = .ok (.getfield 32, 3) := by decide +kernel
theorem dX11_count_20 : decode cX11_count 20 = .ok (.getfield 102, 3) := by decide +kernel
theorem dX11_count_23 : decode cX11_count 23 = .ok (.iload_n 1, 1) := by decide +kernel
theorem dX11_count_24 : decode cX11_count 24 = .ok (.iaload, 1) := by decide +kernel
theorem dX11_count_25 : decode cX11_count 25 = .ok (.ireturn, 1) := by decide +kernel
theorem dX11_count_26 : decode cX11_count 26 = .ok (.iload_n 1, 1) := by decide +kernel
theorem dX11_count_27 : decode cX11_count 27 = .ok (.tableswitch 100 7 13 #[41, 49, 60, 71, 79, 87, 95], 41) := by decide +kernel
theorem dX11_count_68 : decode cX11_count 68 = .ok (.aload_n 0, 1) := by decide +kernel
theorem dX11_count_69 : decode cX11_count 69 = .ok (.getfield 32, 3) := by decide +kernel
theorem dX11_count_72 : decode cX11_count 72 = .ok (.getfield 106, 3) := by decide +kernel
theorem dX11_count_75 : decode cX11_count 75 = .ok (.ireturn, 1) := by decide +kernel
theorem dX11_count_76 : decode cX11_count 76 = .ok (.aload_n 0, 1) := by decide +kernel
theorem dX11_count_77 : decode cX11_count 77 = .ok (.getfield 23, 3) := by decide +kernel
theorem dX11_count_80 : decode cX11_count 80 = .ok (.getfield 84, 3) := by decide +kernel
theorem dX11_count_83 : decode cX11_count 83 = .ok (.getfield 88, 3) := by decide +kernel
theorem dX11_count_86 : decode cX11_count 86 = .ok (.ireturn, 1) := by decide +kernel
theorem dX11_count_87 : decode cX11_count 87 = .ok (.aload_n 0, 1) := by decide +kernel
theorem dX11_count_88 : decode cX11_count 88 = .ok (.getfield 23, 3) := by decide +kernel
theorem dX11_count_91 : decode cX11_count 91 = .ok (.getfield 109, 3) := by decide +kernel
theorem dX11_count_94 : decode cX11_count 94 = .ok (.getfield 88, 3) := by decide +kernel
theorem dX11_count_97 : decode cX11_count 97 = .ok (.ireturn, 1) := by decide +kernel
theorem dX11_count_98 : decode cX11_count 98 = .ok (.aload_n 0, 1) := by decide +kernel
theorem dX11_count_99 : decode cX11_count 99 = .ok (.getfield 23, 3) := by decide +kernel
theorem dX11_count_102 : decode cX11_count 102 = .ok (.getfield 112, 3) := by decide +kernel
theorem dX11_count_105 : decode cX11_count 105 = .ok (.ireturn, 1) := by decide +kernel
theorem dX11_count_106 : decode cX11_count 106 = .ok (.aload_n 0, 1) := by decide +kernel
theorem dX11_count_107 : decode cX11_count 107 = .ok (.getfield 23, 3) := by decide +kernel
theorem dX11_count_110 : decode cX11_count 110 = .ok (.getfield 115, 3) := by decide +kernel
theorem dX11_count_113 : decode cX11_count 113 = .ok (.ireturn, 1) := by decide +kernel
theorem dX11_count_114 : decode cX11_count 114 = .ok (.aload_n 0, 1) := by decide +kernel
theorem dX11_count_115 : decode cX11_count 115 = .ok (.getfield 23, 3) := by decide +kernel
theorem dX11_count_118 : decode cX11_count 118 = .ok (.getfield 118, 3) := by decide +kernel
theorem dX11_count_121 : decode cX11_count 121 = .ok (.ireturn, 1) := by decide +kernel
theorem dX11_count_122 : decode cX11_count 122 = .ok (.aload_n 0, 1) := by decide +kernel
theorem dX11_count_123 : decode cX11_count 123 = .ok (.getfield 54, 3) := by decide +kernel
theorem dX11_count_126 : decode cX11_count 126 = .ok (.ireturn, 1) := by decide +kernel
theorem dX11_count_127 : decode cX11_count 127 = .ok (.new 81, 3) := by decide +kernel
theorem dX11_count_130 : decode cX11_count 130 = .ok (.dup, 1) := by decide +kernel
theorem dX11_count_131 : decode cX11_count 131 = .ok (.invokespecial 83, 3) := by decide +kernel
theorem dX11_count_134 : decode cX11_count 134 = .ok (.athrow, 1) := by decide +kernel
theorem dX11_name_0 : decode cX11_name 0 = .ok (.aload_n 0, 1) := by decide +kernel
theorem dX11_name_1 : decode cX11_name 1 = .ok (.getfield 23, 3) := by decide +kernel
theorem dX11_name_4 : decode cX11_name 4 = .ok (.getfield 84, 3) := by decide +kernel
theorem dX11_name_7 : decode cX11_name 7 = .ok (.iload_n 1, 1) := by decide +kernel
theorem dX11_name_8 : decode cX11_name 8 = .ok (.invokevirtual 121, 3) := by decide +kernel
theorem dX11_name_11 : decode cX11_name 11 = .ok (.ifCond .eq 7, 3) := by decide +kernel
theorem dX11_name_14 : decode cX11_name 14 = .ok (.iload_n 2, 1) := by decide +kernel
theorem dX11_name_15 : decode cX11_name 15 = .ok (.ifCond .ge 11, 3) := by decide +kernel
theorem dX11_name_18 : decode cX11_name 18 = .ok (.new 81, 3) := by decide +kernel
theorem dX11_name_21 : decode cX11_name 21 = .ok (.dup, 1) := by decide +kernel
theorem dX11_name_22 : decode cX11_name 22 = .ok (.invokespecial 83, 3) := by decide +kernel
theorem dX11_name_25 : decode cX11_name 25 = .ok (.athrow, 1) := by decide +kernel
theorem dX11_name_26 : decode cX11_name 26 = .ok (.iload_n 2, 1) := by decide +kernel
theorem dX11_name_27 : decode cX11_name 27 = .ok (.tableswitch 66 0 2 #[25, 43, 53], 25) := by decide +kernel
theorem dX11_name_52 : decode cX11_name 52 = .ok (.aload_n 0, 1) := by decide +kernel
theorem dX11_name_53 : decode cX11_name 53 = .ok (.getfield 23, 3) := by decide +kernel
theorem dX11_name_56 : decode cX11_name 56 = .ok (.getfield 125, 3) := by decide +kernel
theorem dX11_name_59 : decode cX11_name 59 = .ok (.iload_n 1, 1) := by decide +kernel
theorem dX11_name_60 : decode cX11_name 60 = .ok (.aaload, 1) := by decide +kernel
theorem dX11_name_61 : decode cX11_name 61 = .ok (.ifnull 7, 3) := by decide +kernel
theorem dX11_name_64 : decode cX11_name 64 = .ok (.iconst 1, 1) := by decide +kernel
theorem dX11_name_65 : decode cX11_name 65 = .ok (.goto 4, 3) := by decide +kernel
theorem dX11_name_68 : decode cX11_name 68 = .ok (.iconst 0, 1) := by decide +kernel
theorem dX11_name_69 : decode cX11_name 69 = .ok (.ireturn, 1) := by decide +kernel
theorem dX11_name_70 : decode cX11_name 70 = .ok (.aload_n 0, 1) := by decide +kernel
theorem dX11_name_71 : decode cX11_name 71 = .ok (.getfield 23, 3) := by decide +kernel
theorem dX11_name_74 : decode cX11_name 74 = .ok (.getfield 129, 3) := by decide +kernel
theorem dX11_name_77 : decode cX11_name 77 = .ok (.iload_n 1, 1) := by decide +kernel
theorem dX11_name_78 : decode cX11_name 78 = .ok (.iaload, 1) := by decide +kernel
theorem dX11_name_79 : decode cX11_name 79 = .ok (.ireturn, 1) := by decide +kernel
theorem dX11_name_80 : decode cX11_name 80 = .ok (.aload_n 0, 1) := by decide +kernel
theorem dX11_name_81 : decode cX11_name 81 = .ok (.getfield 23, 3) := by decide +kernel
theorem dX11_name_84 : decode cX11_name 84 = .ok (.getfield 84, 3) := by decide +kernel
theorem dX11_name_87 : decode cX11_name 87 = .ok (.getfield 132, 3) := by decide +kernel
theorem dX11_name_90 : decode cX11_name 90 = .ok (.iload_n 1, 1) := by decide +kernel
theorem dX11_name_91 : decode cX11_name 91 = .ok (.iaload, 1) := by decide +kernel
theorem dX11_name_92 : decode cX11_name 92 = .ok (.ireturn, 1) := by decide +kernel
theorem dX11_name_93 : decode cX11_name 93 = .ok (.aload_n 0, 1) := by decide +kernel
theorem dX11_name_94 : decode cX11_name 94 = .ok (.getfield 23, 3) := by decide +kernel
theorem dX11_name_97 : decode cX11_name 97 = .ok (.getfield 84, 3) := by decide +kernel
theorem dX11_name_100 : decode cX11_name 100 = .ok (.iload_n 1, 1) := by decide +kernel
theorem dX11_name_101 : decode cX11_name 101 = .ok (.iload_n 2, 1) := by decide +kernel
theorem dX11_name_102 : decode cX11_name 102 = .ok (.iconst 3, 1) := by decide +kernel
theorem dX11_name_103 : decode cX11_name 103 = .ok (.isub, 1) := by decide +kernel
theorem dX11_name_104 : decode cX11_name 104 = .ok (.invokevirtual 135, 3) := by decide +kernel
theorem dX11_name_107 : decode cX11_name 107 = .ok (.ireturn, 1) := by decide +kernel
theorem dX11_sort_0 : decode cX11_sort 0 = .ok (.aload_n 0, 1) := by decide +kernel
theorem dX11_sort_1 : decode cX11_sort 1 = .ok (.getfield 23, 3) := by decide +kernel
theorem dX11_sort_4 : decode cX11_sort 4 = .ok (.getfield 109, 3) := by decide +kernel
theorem dX11_sort_7 : decode cX11_sort 7 = .ok (.iload_n 1, 1) := by decide +kernel
theorem dX11_sort_8 : decode cX11_sort 8 = .ok (.invokevirtual 121, 3) := by decide +kernel
theorem dX11_sort_11 : decode cX11_sort 11 = .ok (.ifCond .eq 7, 3) := by decide +kernel
theorem dX11_sort_14 : decode cX11_sort 14 = .ok (.iload_n 2, 1) := by decide +kernel
theorem dX11_sort_15 : decode cX11_sort 15 = .ok (.ifCond .ge 11, 3) := by decide +kernel
theorem dX11_sort_18 : decode cX11_sort 18 = .ok (.new 81, 3) := by decide +kernel
theorem dX11_sort_21 : decode cX11_sort 21 = .ok (.dup, 1) := by decide +kernel
theorem dX11_sort_22 : decode cX11_sort 22 = .ok (.invokespecial 83, 3) := by decide +kernel
theorem dX11_sort_25 : decode cX11_sort 25 = .ok (.athrow, 1) := by decide +kernel
theorem dX11_sort_26 : decode cX11_sort 26 = .ok (.iload_n 2, 1) := by decide +kernel
theorem dX11_sort_27 : decode cX11_sort 27 = .ok (.lookupswitch 47 #[(0, 25), (1, 34)], 25) := by decide +kernel
theorem dX11_sort_52 : decode cX11_sort 52 = .ok (.aload_n 0, 1) := by decide +kernel
theorem dX11_sort_53 : decode cX11_sort 53 = .ok (.getfield 23, 3) := by decide +kernel
theorem dX11_sort_56 : decode cX11_sort 56 = .ok (.iload_n 1, 1) := by decide +kernel
theorem dX11_sort_57 : decode cX11_sort 57 = .ok (.invokevirtual 139, 3) := by decide +kernel
theorem dX11_sort_60 : decode cX11_sort 60 = .ok (.ireturn, 1) := by decide +kernel
theorem dX11_sort_61 : decode cX11_sort 61 = .ok (.aload_n 0, 1) := by decide +kernel
theorem dX11_sort_62 : decode cX11_sort 62 = .ok (.getfield 23, 3) := by decide +kernel
theorem dX11_sort_65 : decode cX11_sort 65 = .ok (.getfield 109, 3) := by decide +kernel
