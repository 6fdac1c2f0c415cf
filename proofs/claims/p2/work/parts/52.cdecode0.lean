theorem dX0_init_0 : decode cX0_init 0 = .ok (.aload_n 0, 1) := by decide +kernel
theorem dX0_init_1 : decode cX0_init 1 = .ok (.invokespecial 3, 3) := by decide +kernel
theorem dX0_init_4 : decode cX0_init 4 = .ok (.aload_n 0, 1) := by decide +kernel
theorem dX0_init_5 : decode cX0_init 5 = .ok (.new 9, 3) := by decide +kernel
theorem dX0_init_8 : decode cX0_init 8 = .ok (.dup, 1) := by decide +kernel
theorem dX0_init_9 : decode cX0_init 9 = .ok (.bipush 8, 2) := by decide +kernel
theorem dX0_init_11 : decode cX0_init 11 = .ok (.invokespecial 13, 3) := by decide +kernel
theorem dX0_init_14 : decode cX0_init 14 = .ok (.putfield 16, 3) := by decide +kernel
theorem dX0_init_17 : decode cX0_init 17 = .ok (.aload_n 0, 1) := by decide +kernel
theorem dX0_init_18 : decode cX0_init 18 = .ok (.bipush 8, 2) := by decide +kernel
theorem dX0_init_20 : decode cX0_init 20 = .ok (.newarray .int, 2) := by decide +kernel
theorem dX0_init_22 : decode cX0_init 22 = .ok (.putfield 20, 3) := by decide +kernel
theorem dX0_init_25 : decode cX0_init 25 = .ok (.aload_n 0, 1) := by decide +kernel
theorem dX0_init_26 : decode cX0_init 26 = .ok (.bipush 64, 2) := by decide +kernel
theorem dX0_init_28 : decode cX0_init 28 = .ok (.newarray .int, 2) := by decide +kernel
theorem dX0_init_30 : decode cX0_init 30 = .ok (.putfield 24, 3) := by decide +kernel
theorem dX0_init_33 : decode cX0_init 33 = .ok (.aload_n 0, 1) := by decide +kernel
theorem dX0_init_34 : decode cX0_init 34 = .ok (.iconst 0, 1) := by decide +kernel
theorem dX0_init_35 : decode cX0_init 35 = .ok (.putfield 27, 3) := by decide +kernel
theorem dX0_init_38 : decode cX0_init 38 = .ok (.aload_n 0, 1) := by decide +kernel
theorem dX0_init_39 : decode cX0_init 39 = .ok (.iconst 0, 1) := by decide +kernel
theorem dX0_init_40 : decode cX0_init 40 = .ok (.putfield 31, 3) := by decide +kernel
theorem dX0_init_43 : decode cX0_init 43 = .ok (.aload_n 0, 1) := by decide +kernel
theorem dX0_init_44 : decode cX0_init 44 = .ok (.new 9, 3) := by decide +kernel
theorem dX0_init_47 : decode cX0_init 47 = .ok (.dup, 1) := by decide +kernel
theorem dX0_init_48 : decode cX0_init 48 = .ok (.bipush 100, 2) := by decide +kernel
theorem dX0_init_50 : decode cX0_init 50 = .ok (.invokespecial 13, 3) := by decide +kernel
theorem dX0_init_53 : decode cX0_init 53 = .ok (.putfield 34, 3) := by decide +kernel
theorem dX0_init_56 : decode cX0_init 56 = .ok (.aload_n 0, 1) := by decide +kernel
theorem dX0_init_57 : decode cX0_init 57 = .ok (.bipush 100, 2) := by decide +kernel
theorem dX0_init_59 : decode cX0_init 59 = .ok (.anewarray 37, 3) := by decide +kernel
theorem dX0_init_62 : decode cX0_init 62 = .ok (.putfield 39, 3) := by decide +kernel
theorem dX0_init_65 : decode cX0_init 65 = .ok (.aload_n 0, 1) := by decide +kernel
theorem dX0_init_66 : decode cX0_init 66 = .ok (.bipush 100, 2) := by decide +kernel
theorem dX0_init_68 : decode cX0_init 68 = .ok (.anewarray 37, 3) := by decide +kernel
theorem dX0_init_71 : decode cX0_init 71 = .ok (.putfield 43, 3) := by decide +kernel
theorem dX0_init_74 : decode cX0_init 74 = .ok (.aload_n 0, 1) := by decide +kernel
theorem dX0_init_75 : decode cX0_init 75 = .ok (.bipush 100, 2) := by decide +kernel
theorem dX0_init_77 : decode cX0_init 77 = .ok (.newarray .int, 2) := by decide +kernel
theorem dX0_init_79 : decode cX0_init 79 = .ok (.putfield 46, 3) := by decide +kernel
theorem dX0_init_82 : decode cX0_init 82 = .ok (.aload_n 0, 1) := by decide +kernel
theorem dX0_init_83 : decode cX0_init 83 = .ok (.bipush 20, 2) := by decide +kernel
theorem dX0_init_85 : decode cX0_init 85 = .ok (.newarray .int, 2) := by decide +kernel
theorem dX0_init_87 : decode cX0_init 87 = .ok (.putfield 49, 3) := by decide +kernel
theorem dX0_init_90 : decode cX0_init 90 = .ok (.aload_n 0, 1) := by decide +kernel
theorem dX0_init_91 : decode cX0_init 91 = .ok (.iconst 0, 1) := by decide +kernel
theorem dX0_init_92 : decode cX0_init 92 = .ok (.putfield 52, 3) := by decide +kernel
theorem dX0_init_95 : decode cX0_init 95 = .ok (.return_, 1) := by decide +kernel
theorem dX0_loadCorner_0 : decode cX0_loadCorner 0 = .ok (.aload_n 0, 1) := by decide +kernel
theorem dX0_loadCorner_1 : decode cX0_loadCorner 1 = .ok (.invokevirtual 55, 3) := by decide +kernel
theorem dX0_loadCorner_4 : decode cX0_loadCorner 4 = .ok (.iload_n 1, 1) := by decide +kernel
theorem dX0_loadCorner_5 : decode cX0_loadCorner 5 = .ok (.bipush 8, 2) := by decide +kernel
theorem dX0_loadCorner_7 : decode cX0_loadCorner 7 = .ok (.if_icmp .ne 4, 3) := by decide +kernel
theorem dX0_loadCorner_10 : decode cX0_loadCorner 10 = .ok (.return_, 1) := by decide +kernel
theorem dX0_loadCorner_11 : decode cX0_loadCorner 11 = .ok (.aload_n 0, 1) := by decide +kernel
theorem dX0_loadCorner_12 : decode cX0_loadCorner 12 = .ok (.getfield 16, 3) := by decide +kernel
theorem dX0_loadCorner_15 : decode cX0_loadCorner 15 = .ok (.getstatic 58, 3) := by decide +kernel
theorem dX0_loadCorner_18 : decode cX0_loadCorner 18 = .ok (.iconst 0, 1) := by decide +kernel
theorem dX0_loadCorner_19 : decode cX0_loadCorner 19 = .ok (.iconst 4, 1) := by decide +kernel
theorem dX0_loadCorner_20 : decode cX0_loadCorner 20 = .ok (.invokevirtual 62, 3) := by decide +kernel
theorem dX0_loadCorner_23 : decode cX0_loadCorner 23 = .ok (.aload_n 0, 1) := by decide +kernel
theorem dX0_loadCorner_24 : decode cX0_loadCorner 24 = .ok (.getfield 16, 3) := by decide +kernel
theorem dX0_loadCorner_27 : decode cX0_loadCorner 27 = .ok (.getstatic 58, 3) := by decide +kernel
theorem dX0_loadCorner_30 : decode cX0_loadCorner 30 = .ok (.iconst 4, 1) := by decide +kernel
theorem dX0_loadCorner_31 : decode cX0_loadCorner 31 = .ok (.iconst 4, 1) := by decide +kernel
theorem dX0_loadCorner_32 : decode cX0_loadCorner 32 = .ok (.invokevirtual 62, 3) := by decide +kernel
theorem dX0_loadCorner_35 : decode cX0_loadCorner 35 = .ok (.aload_n 0, 1) := by decide +kernel
theorem dX0_loadCorner_36 : decode cX0_loadCorner 36 = .ok (.iconst 0, 1) := by decide +kernel
theorem dX0_loadCorner_37 : decode cX0_loadCorner 37 = .ok (.iconst 1, 1) := by decide +kernel
theorem dX0_loadCorner_38 : decode cX0_loadCorner 38 = .ok (.invokevirtual 66, 3) := by decide +kernel
theorem dX0_loadCorner_41 : decode cX0_loadCorner 41 = .ok (.aload_n 0, 1) := by decide +kernel
theorem dX0_loadCorner_42 : decode cX0_loadCorner 42 = .ok (.iconst 0, 1) := by decide +kernel
theorem dX0_loadCorner_43 : decode cX0_loadCorner 43 = .ok (.iconst 0, 1) := by decide +kernel
theorem dX0_loadCorner_44 : decode cX0_loadCorner 44 = .ok (.iconst 0, 1) := by decide +kernel
theorem dX0_loadCorner_45 : decode cX0_loadCorner 45 = .ok (.invokevirtual 70, 3) := by decide +kernel
theorem dX0_loadCorner_48 : decode cX0_loadCorner 48 = .ok (.iload_n 1, 1) := by decide +kernel
theorem dX0_loadCorner_49 : decode cX0_loadCorner 49 = .ok (.iconst 1, 1) := by decide +kernel
theorem dX0_loadCorner_50 : decode cX0_loadCorner 50 = .ok (.iand, 1) := by decide +kernel
theorem dX0_loadCorner_51 : decode cX0_loadCorner 51 = .ok (.ifCond .eq 10, 3) := by decide +kernel
theorem dX0_loadCorner_54 : decode cX0_loadCorner 54 = .ok (.aload_n 0, 1) := by decide +kernel
theorem dX0_loadCorner_55 : decode cX0_loadCorner 55 = .ok (.iconst 1, 1) := by decide +kernel
theorem dX0_loadCorner_56 : decode cX0_loadCorner 56 = .ok (.iconst 0, 1) := by decide +kernel
theorem dX0_loadCorner_57 : decode cX0_loadCorner 57 = .ok (.iconst 0, 1) := by decide +kernel
theorem dX0_loadCorner_58 : decode cX0_loadCorner 58 = .ok (.invokevirtual 70, 3) := by decide +kernel
theorem dX0_loadCorner_61 : decode cX0_loadCorner 61 = .ok (.iload_n 1, 1) := by decide +kernel
theorem dX0_loadCorner_62 : decode cX0_loadCorner 62 = .ok (.iconst 2, 1) := by decide +kernel
theorem dX0_loadCorner_63 : decode cX0_loadCorner 63 = .ok (.iand, 1) := by decide +kernel
theorem dX0_loadCorner_64 : decode cX0_loadCorner 64 = .ok (.ifCond .eq 10, 3) := by decide +kernel
theorem dX0_loadCorner_67 : decode cX0_loadCorner 67 = .ok (.aload_n 0, 1) := by decide +kernel
theorem dX0_loadCorner_68 : decode cX0_loadCorner 68 = .ok (.iconst 1, 1) := by decide +kernel
theorem dX0_loadCorner_69 : decode cX0_loadCorner 69 = .ok (.iconst 1, 1) := by decide +kernel
theorem dX0_loadCorner_70 : decode cX0_loadCorner 70 = .ok (.iconst 1, 1) := by decide +kernel
theorem dX0_loadCorner_71 : decode cX0_loadCorner 71 = .ok (.invokevirtual 70, 3) := by decide +kernel
theorem dX0_loadCorner_74 : decode cX0_loadCorner 74 = .ok (.iload_n 1, 1) := by decide +kernel
theorem dX0_loadCorner_75 : decode cX0_loadCorner 75 = .ok (.iconst 4, 1) := by decide +kernel
theorem dX0_loadCorner_76 : decode cX0_loadCorner 76 = .ok (.iand, 1) := by decide +kernel
theorem dX0_loadCorner_77 : decode cX0_loadCorner 77 = .ok (.ifCond .eq 10, 3) := by decide +kernel
theorem dX0_loadCorner_80 : decode cX0_loadCorner 80 = .ok (.aload_n 0, 1) := by decide +kernel
theorem dX0_loadCorner_81 : decode cX0_loadCorner 81 = .ok (.iconst 0, 1) := by decide +kernel
theorem dX0_loadCorner_82 : decode cX0_loadCorner 82 = .ok (.iconst 1, 1) := by decide +kernel
theorem dX0_loadCorner_83 : decode cX0_loadCorner 83 = .ok (.iconst 1, 1) := by decide +kernel
theorem dX0_loadCorner_84 : decode cX0_loadCorner 84 = .ok (.invokevirtual 70, 3) := by decide +kernel
theorem dX0_loadCorner_87 : decode cX0_loadCorner 87 = .ok (.return_, 1) := by decide +kernel
theorem dX0_clear_0 : decode cX0_clear 0 = .ok (.aload_n 0, 1) := by decide +kernel
theorem dX0_clear_1 : decode cX0_clear 1 = .ok (.getfield 16, 3) := by decide +kernel
theorem dX0_clear_4 : decode cX0_clear 4 = .ok (.iconst 0, 1) := by decide +kernel
theorem dX0_clear_5 : decode cX0_clear 5 = .ok (.putfield 74, 3) := by decide +kernel
theorem dX0_clear_8 : decode cX0_clear 8 = .ok (.aload_n 0, 1) := by decide +kernel
theorem dX0_clear_9 : decode cX0_clear 9 = .ok (.getfield 34, 3) := by decide +kernel
theorem dX0_clear_12 : decode cX0_clear 12 = .ok (.iconst 0, 1) := by decide +kernel
theorem dX0_clear_13 : decode cX0_clear 13 = .ok (.putfield 74, 3) := by decide +kernel
theorem dX0_clear_16 : decode cX0_clear 16 = .ok (.aload_n 0, 1) := by decide +kernel
theorem dX0_clear_17 : decode cX0_clear 17 = .ok (.iconst 0, 1) := by decide +kernel
theorem dX0_clear_18 : decode cX0_clear 18 = .ok (.putfield 52, 3) := by decide +kernel
theorem dX0_clear_21 : decode cX0_clear 21 = .ok (.aload_n 0, 1) := by decide +kernel
theorem dX0_clear_22 : decode cX0_clear 22 = .ok (.iconst 0, 1) := by decide +kernel
theorem dX0_clear_23 : decode cX0_clear 23 = .ok (.putfield 27, 3) := by decide +kernel
theorem dX0_clear_26 : decode cX0_clear 26 = .ok (.aload_n 0, 1) := by decide +kernel
theorem dX0_clear_27 : decode cX0_clear 27 = .ok (.iconst 0, 1) := by decide +kernel
theorem dX0_clear_28 : decode cX0_clear 28 = .ok (.putfield 31, 3) := by decide +kernel
theorem dX0_clear_31 : decode cX0_clear 31 = .ok (.iconst 0, 1) := by decide +kernel
theorem dX0_clear_32 : decode cX0_clear 32 = .ok (.istore_n 1, 1) := by decide +kernel
theorem dX0_clear_33 : decode cX0_clear 33 = .ok (.iload_n 1, 1) := by decide +kernel
theorem dX0_clear_34 : decode cX0_clear 34 = .ok (.aload_n 0, 1) := by decide +kernel
theorem dX0_clear_35 : decode cX0_clear 35 = .ok (.getfield 20, 3) := by decide +kernel
theorem dX0_clear_38 : decode cX0_clear 38 = .ok (.arraylength, 1) := by decide +kernel
theorem dX0_clear_39 : decode cX0_clear 39 = .ok (.if_icmp .ge 16, 3) := by decide +kernel
theorem dX0_clear_42 : decode cX0_clear 42 = .ok (.aload_n 0, 1) := by decide +kernel
theorem dX0_clear_43 : decode cX0_clear 43 = .ok (.getfield 20, 3) := by decide +kernel
theorem dX0_clear_46 : decode cX0_clear 46 = .ok (.iload_n 1, 1) := by decide +kernel
theorem dX0_clear_47 : decode cX0_clear 47 = .ok (.iconst (-1), 1) := by decide +kernel
theorem dX0_clear_48 : decode cX0_clear 48 = .ok (.iastore, 1) := by decide +kernel
theorem dX0_clear_49 : decode cX0_clear 49 = .ok (.iinc 1 1, 3) := by decide +kernel
theorem dX0_clear_52 : decode cX0_clear 52 = .ok (.goto (-19), 3) := by decide +kernel
theorem dX0_clear_55 : decode cX0_clear 55 = .ok (.iconst 0, 1) := by decide +kernel
theorem dX0_clear_56 : decode cX0_clear 56 = .ok (.istore_n 1, 1) := by decide +kernel
theorem dX0_clear_57 : decode cX0_clear 57 = .ok (.iload_n 1, 1) := by decide +kernel
theorem dX0_clear_58 : decode cX0_clear 58 = .ok (.aload_n 0, 1) := by decide +kernel
theorem dX0_clear_59 : decode cX0_clear 59 = .ok (.getfield 24, 3) := by decide +kernel
theorem dX0_clear_62 : decode cX0_clear 62 = .ok (.arraylength, 1) := by decide +kernel
theorem dX0_clear_63 : decode cX0_clear 63 = .ok (.if_icmp .ge 16, 3) := by decide +kernel
theorem dX0_clear_66 : decode cX0_clear 66 = .ok (.aload_n 0, 1) := by decide +kernel
theorem dX0_clear_67 : decode cX0_clear 67 = .ok (.getfield 24, 3) := by decide +kernel
theorem dX0_clear_70 : decode cX0_clear 70 = .ok (.iload_n 1, 1) := by decide +kernel
theorem dX0_clear_71 : decode cX0_clear 71 = .ok (.iconst (-1), 1) := by decide +kernel
theorem dX0_clear_72 : decode cX0_clear 72 = .ok (.iastore, 1) := by decide +kernel
theorem dX0_clear_73 : decode cX0_clear 73 = .ok (.iinc 1 1, 3) := by decide +kernel
theorem dX0_clear_76 : decode cX0_clear 76 = .ok (.goto (-19), 3) := by decide +kernel
theorem dX0_clear_79 : decode cX0_clear 79 = .ok (.return_, 1) := by decide +kernel
theorem dX0_axiomOf_0 : decode cX0_axiomOf 0 = .ok (.aload_n 0, 1) := by decide +kernel
theorem dX0_axiomOf_1 : decode cX0_axiomOf 1 = .ok (.getfield 16, 3) := by decide +kernel
theorem dX0_axiomOf_4 : decode cX0_axiomOf 4 = .ok (.iload_n 1, 1) := by decide +kernel
theorem dX0_axiomOf_5 : decode cX0_axiomOf 5 = .ok (.invokevirtual 77, 3) := by decide +kernel
theorem dX0_axiomOf_8 : decode cX0_axiomOf 8 = .ok (.ifCond .eq 12, 3) := by decide +kernel
theorem dX0_axiomOf_11 : decode cX0_axiomOf 11 = .ok (.aload_n 0, 1) := by decide +kernel
theorem dX0_axiomOf_12 : decode cX0_axiomOf 12 = .ok (.getfield 20, 3) := by decide +kernel
theorem dX0_axiomOf_15 : decode cX0_axiomOf 15 = .ok (.iload_n 1, 1) := by decide +kernel
theorem dX0_axiomOf_16 : decode cX0_axiomOf 16 = .ok (.iaload, 1) := by decide +kernel
theorem dX0_axiomOf_17 : decode cX0_axiomOf 17 = .ok (.goto 4, 3) := by decide +kernel
theorem dX0_axiomOf_20 : decode cX0_axiomOf 20 = .ok (.iconst (-1), 1) := by decide +kernel
theorem dX0_axiomOf_21 : decode cX0_axiomOf 21 = .ok (.ireturn, 1) := by decide +kernel
theorem dX0_setAxiom_0 : decode cX0_setAxiom 0 = .ok (.aload_n 0, 1) := by decide +kernel
theorem dX0_setAxiom_1 : decode cX0_setAxiom 1 = .ok (.getfield 16, 3) := by decide +kernel
theorem dX0_setAxiom_4 : decode cX0_setAxiom 4 = .ok (.iload_n 1, 1) := by decide +kernel
theorem dX0_setAxiom_5 : decode cX0_setAxiom 5 = .ok (.invokevirtual 77, 3) := by decide +kernel
theorem dX0_setAxiom_8 : decode cX0_setAxiom 8 = .ok (.ifCond .eq 20, 3) := by decide +kernel
theorem dX0_setAxiom_11 : decode cX0_setAxiom 11 = .ok (.aload_n 0, 1) := by decide +kernel
theorem dX0_setAxiom_12 : decode cX0_setAxiom 12 = .ok (.getfield 20, 3) := by decide +kernel
theorem dX0_setAxiom_15 : decode cX0_setAxiom 15 = .ok (.iload_n 1, 1) := by decide +kernel
theorem dX0_setAxiom_16 : decode cX0_setAxiom 16 = .ok (.iload_n 2, 1) := by decide +kernel
theorem dX0_setAxiom_17 : decode cX0_setAxiom 17 = .ok (.iastore, 1) := by decide +kernel
theorem dX0_setAxiom_18 : decode cX0_setAxiom 18 = .ok (.aload_n 0, 1) := by decide +kernel
theorem dX0_setAxiom_19 : decode cX0_setAxiom 19 = .ok (.dup, 1) := by decide +kernel
theorem dX0_setAxiom_20 : decode cX0_setAxiom 20 = .ok (.getfield 27, 3) := by decide +kernel
theorem dX0_setAxiom_23 : decode cX0_setAxiom 23 = .ok (.iconst 1, 1) := by decide +kernel
theorem dX0_setAxiom_24 : decode cX0_setAxiom 24 = .ok (.iadd, 1) := by decide +kernel
theorem dX0_setAxiom_25 : decode cX0_setAxiom 25 = .ok (.putfield 27, 3) := by decide +kernel
theorem dX0_setAxiom_28 : decode cX0_setAxiom 28 = .ok (.return_, 1) := by decide +kernel
theorem dX0_ruleOf_0 : decode cX0_ruleOf 0 = .ok (.iload_n 1, 1) := by decide +kernel
theorem dX0_ruleOf_1 : decode cX0_ruleOf 1 = .ok (.ifCond .lt 19, 3) := by decide +kernel
theorem dX0_ruleOf_4 : decode cX0_ruleOf 4 = .ok (.iload_n 1, 1) := by decide +kernel
theorem dX0_ruleOf_5 : decode cX0_ruleOf 5 = .ok (.bipush 8, 2) := by decide +kernel
theorem dX0_ruleOf_7 : decode cX0_ruleOf 7 = .ok (.if_icmp .ge 13, 3) := by decide +kernel
theorem dX0_ruleOf_10 : decode cX0_ruleOf 10 = .ok (.iload_n 2, 1) := by decide +kernel
theorem dX0_ruleOf_11 : decode cX0_ruleOf 11 = .ok (.ifCond .lt 9, 3) := by decide +kernel
theorem dX0_ruleOf_14 : decode cX0_ruleOf 14 = .ok (.iload_n 2, 1) := by decide +kernel
theorem dX0_ruleOf_15 : decode cX0_ruleOf 15 = .ok (.bipush 8, 2) := by decide +kernel
theorem dX0_ruleOf_17 : decode cX0_ruleOf 17 = .ok (.if_icmp .lt 5, 3) := by decide +kernel
theorem dX0_ruleOf_20 : decode cX0_ruleOf 20 = .ok (.iconst (-1), 1) := by decide +kernel
theorem dX0_ruleOf_21 : decode cX0_ruleOf 21 = .ok (.ireturn, 1) := by decide +kernel
theorem dX0_ruleOf_22 : decode cX0_ruleOf 22 = .ok (.aload_n 0, 1) := by decide +kernel
theorem dX0_ruleOf_23 : decode cX0_ruleOf 23 = .ok (.getfield 24, 3) := by decide +kernel
theorem dX0_ruleOf_26 : decode cX0_ruleOf 26 = .ok (.iload_n 1, 1) := by decide +kernel
theorem dX0_ruleOf_27 : decode cX0_ruleOf 27 = .ok (.bipush 8, 2) := by decide +kernel
theorem dX0_ruleOf_29 : decode cX0_ruleOf 29 = .ok (.imul, 1) := by decide +kernel
theorem dX0_ruleOf_30 : decode cX0_ruleOf 30 = .ok (.iload_n 2, 1) := by decide +kernel
theorem dX0_ruleOf_31 : decode cX0_ruleOf 31 = .ok (.iadd, 1) := by decide +kernel
theorem dX0_ruleOf_32 : decode cX0_ruleOf 32 = .ok (.iaload, 1) := by decide +kernel
theorem dX0_ruleOf_33 : decode cX0_ruleOf 33 = .ok (.ireturn, 1) := by decide +kernel
theorem dX0_setRule_0 : decode cX0_setRule 0 = .ok (.aload_n 0, 1) := by decide +kernel
theorem dX0_setRule_1 : decode cX0_setRule 1 = .ok (.getfield 16, 3) := by decide +kernel
theorem dX0_setRule_4 : decode cX0_setRule 4 = .ok (.iload_n 1, 1) := by decide +kernel
theorem dX0_setRule_5 : decode cX0_setRule 5 = .ok (.invokevirtual 77, 3) := by decide +kernel
theorem dX0_setRule_8 : decode cX0_setRule 8 = .ok (.ifCond .eq 36, 3) := by decide +kernel
theorem dX0_setRule_11 : decode cX0_setRule 11 = .ok (.aload_n 0, 1) := by decide +kernel
theorem dX0_setRule_12 : decode cX0_setRule 12 = .ok (.getfield 16, 3) := by decide +kernel
theorem dX0_setRule_15 : decode cX0_setRule 15 = .ok (.iload_n 2, 1) := by decide +kernel
theorem dX0_setRule_16 : decode cX0_setRule 16 = .ok (.invokevirtual 77, 3) := by decide +kernel
theorem dX0_setRule_19 : decode cX0_setRule 19 = .ok (.ifCond .eq 25, 3) := by decide +kernel
theorem dX0_setRule_22 : decode cX0_setRule 22 = .ok (.aload_n 0, 1) := by decide +kernel
theorem dX0_setRule_23 : decode cX0_setRule 23 = .ok (.getfield 24, 3) := by decide +kernel
theorem dX0_setRule_26 : decode cX0_setRule 26 = .ok (.iload_n 1, 1) := by decide +kernel
theorem dX0_setRule_27 : decode cX0_setRule 27 = .ok (.bipush 8, 2) := by decide +kernel
theorem dX0_setRule_29 : decode cX0_setRule 29 = .ok (.imul, 1) := by decide +kernel
theorem dX0_setRule_30 : decode cX0_setRule 30 = .ok (.iload_n 2, 1) := by decide +kernel
theorem dX0_setRule_31 : decode cX0_setRule 31 = .ok (.iadd, 1) := by decide +kernel
theorem dX0_setRule_32 : decode cX0_setRule 32 = .ok (.iload_n 3, 1) := by decide +kernel
theorem dX0_setRule_33 : decode cX0_setRule 33 = .ok (.iastore, 1) := by decide +kernel
theorem dX0_setRule_34 : decode cX0_setRule 34 = .ok (.aload_n 0, 1) := by decide +kernel
theorem dX0_setRule_35 : decode cX0_setRule 35 = .ok (.dup, 1) := by decide +kernel
theorem dX0_setRule_36 : decode cX0_setRule 36 = .ok (.getfield 31, 3) := by decide +kernel
theorem dX0_setRule_39 : decode cX0_setRule 39 = .ok (.iconst 1, 1) := by decide +kernel
theorem dX0_setRule_40 : decode cX0_setRule 40 = .ok (.iadd, 1) := by decide +kernel
theorem dX0_setRule_41 : decode cX0_setRule 41 = .ok (.putfield 31, 3) := by decide +kernel
theorem dX0_setRule_44 : decode cX0_setRule 44 = .ok (.return_, 1) := by decide +kernel
theorem dX0_addName_0 : decode cX0_addName 0 = .ok (.aload_n 0, 1) := by decide +kernel
theorem dX0_addName_1 : decode cX0_addName 1 = .ok (.getfield 34, 3) := by decide +kernel
theorem dX0_addName_4 : decode cX0_addName 4 = .ok (.invokevirtual 81, 3) := by decide +kernel
theorem dX0_addName_7 : decode cX0_addName 7 = .ok (.ifCond .eq 4, 3) := by decide +kernel
theorem dX0_addName_10 : decode cX0_addName 10 = .ok (.return_, 1) := by decide +kernel
theorem dX0_addName_11 : decode cX0_addName 11 = .ok (.aload_n 0, 1) := by decide +kernel
theorem dX0_addName_12 : decode cX0_addName 12 = .ok (.getfield 34, 3) := by decide +kernel
theorem dX0_addName_15 : decode cX0_addName 15 = .ok (.getfield 74, 3) := by decide +kernel
theorem dX0_addName_18 : decode cX0_addName 18 = .ok (.istore 6, 2) := by decide +kernel
theorem dX0_addName_20 : decode cX0_addName 20 = .ok (.aload_n 0, 1) := by decide +kernel
theorem dX0_addName_21 : decode cX0_addName 21 = .ok (.getfield 39, 3) := by decide +kernel
theorem dX0_addName_24 : decode cX0_addName 24 = .ok (.iload 6, 2) := by decide +kernel
theorem dX0_addName_26 : decode cX0_addName 26 = .ok (.aload_n 3, 1) := by decide +kernel
theorem dX0_addName_27 : decode cX0_addName 27 = .ok (.aastore, 1) := by decide +kernel
theorem dX0_addName_28 : decode cX0_addName 28 = .ok (.aload_n 0, 1) := by decide +kernel
theorem dX0_addName_29 : decode cX0_addName 29 = .ok (.getfield 43, 3) := by decide +kernel
theorem dX0_addName_32 : decode cX0_addName 32 = .ok (.iload 6, 2) := by decide +kernel
theorem dX0_addName_34 : decode cX0_addName 34 = .ok (.aload 5, 2) := by decide +kernel
theorem dX0_addName_36 : decode cX0_addName 36 = .ok (.aastore, 1) := by decide +kernel
theorem dX0_addName_37 : decode cX0_addName 37 = .ok (.aload_n 0, 1) := by decide +kernel
theorem dX0_addName_38 : decode cX0_addName 38 = .ok (.getfield 46, 3) := by decide +kernel
theorem dX0_addName_41 : decode cX0_addName 41 = .ok (.iload 6, 2) := by decide +kernel
theorem dX0_addName_43 : decode cX0_addName 43 = .ok (.iload 4, 2) := by decide +kernel
theorem dX0_addName_45 : decode cX0_addName 45 = .ok (.iastore, 1) := by decide +kernel
theorem dX0_addName_46 : decode cX0_addName 46 = .ok (.aload_n 0, 1) := by decide +kernel
theorem dX0_addName_47 : decode cX0_addName 47 = .ok (.getfield 34, 3) := by decide +kernel
theorem dX0_addName_50 : decode cX0_addName 50 = .ok (.aload_n 1, 1) := by decide +kernel
theorem dX0_addName_51 : decode cX0_addName 51 = .ok (.aload_n 2, 1) := by decide +kernel
theorem dX0_addName_52 : decode cX0_addName 52 = .ok (.getfield 85, 3) := by decide +kernel
theorem dX0_addName_55 : decode cX0_addName 55 = .ok (.aload_n 2, 1) := by decide +kernel
theorem dX0_addName_56 : decode cX0_addName 56 = .ok (.getfield 88, 3) := by decide +kernel
theorem dX0_addName_59 : decode cX0_addName 59 = .ok (.invokevirtual 62, 3) := by decide +kernel
theorem dX0_addName_62 : decode cX0_addName 62 = .ok (.return_, 1) := by decide +kernel
theorem dX0_valueOf_0 : decode cX0_valueOf 0 = .ok (.iload_n 1, 1) := by decide +kernel
theorem dX0_valueOf_1 : decode cX0_valueOf 1 = .ok (.ifCond .lt 23, 3) := by decide +kernel
theorem dX0_valueOf_4 : decode cX0_valueOf 4 = .ok (.iload_n 1, 1) := by decide +kernel
theorem dX0_valueOf_5 : decode cX0_valueOf 5 = .ok (.aload_n 0, 1) := by decide +kernel
theorem dX0_valueOf_6 : decode cX0_valueOf 6 = .ok (.getfield 34, 3) := by decide +kernel
theorem dX0_valueOf_9 : decode cX0_valueOf 9 = .ok (.getfield 74, 3) := by decide +kernel
theorem dX0_valueOf_12 : decode cX0_valueOf 12 = .ok (.if_icmp .ge 12, 3) := by decide +kernel
theorem dX0_valueOf_15 : decode cX0_valueOf 15 = .ok (.aload_n 0, 1) := by decide +kernel
theorem dX0_valueOf_16 : decode cX0_valueOf 16 = .ok (.getfield 43, 3) := by decide +kernel
theorem dX0_valueOf_19 : decode cX0_valueOf 19 = .ok (.iload_n 1, 1) := by decide +kernel
theorem dX0_valueOf_20 : decode cX0_valueOf 20 = .ok (.aaload, 1) := by decide +kernel
theorem dX0_valueOf_21 : decode cX0_valueOf 21 = .ok (.goto 4, 3) := by decide +kernel
theorem dX0_valueOf_24 : decode cX0_valueOf 24 = .ok (.aconst_null, 1) := by decide +kernel
theorem dX0_valueOf_25 : decode cX0_valueOf 25 = .ok (.areturn, 1) := by decide +kernel
theorem dX1_init_0 : decode cX1_init 0 = .ok (.aload_n 0, 1) := by decide +kernel
theorem dX1_init_1 : decode cX1_init 1 = .ok (.invokespecial 1, 3) := by decide +kernel
theorem dX1_init_4 : decode cX1_init 4 = .ok (.aload_n 0, 1) := by decide +kernel
theorem dX1_init_5 : decode cX1_init 5 = .ok (.aload_n 1, 1) := by decide +kernel
theorem dX1_init_6 : decode cX1_init 6 = .ok (.putfield 7, 3) := by decide +kernel
theorem dX1_init_9 : decode cX1_init 9 = .ok (.aload_n 0, 1) := by decide +kernel
theorem dX1_init_10 : decode cX1_init 10 = .ok (.iload_n 2, 1) := by decide +kernel
theorem dX1_init_11 : decode cX1_init 11 = .ok (.putfield 13, 3) := by decide +kernel
theorem dX1_init_14 : decode cX1_init 14 = .ok (.aload_n 0, 1) := by decide +kernel
theorem dX1_init_15 : decode cX1_init 15 = .ok (.aload_n 3, 1) := by decide +kernel
theorem dX1_init_16 : decode cX1_init 16 = .ok (.putfield 17, 3) := by decide +kernel
theorem dX1_init_19 : decode cX1_init 19 = .ok (.aload_n 0, 1) := by decide +kernel
theorem dX1_init_20 : decode cX1_init 20 = .ok (.aload 4, 2) := by decide +kernel
theorem dX1_init_22 : decode cX1_init 22 = .ok (.putfield 21, 3) := by decide +kernel
theorem dX1_init_25 : decode cX1_init 25 = .ok (.return_, 1) := by decide +kernel
theorem dX1_isBinder_0 : decode cX1_isBinder 0 = .ok (.aload_n 0, 1) := by decide +kernel
theorem dX1_isBinder_1 : decode cX1_isBinder 1 = .ok (.getfield 7, 3) := by decide +kernel
theorem dX1_isBinder_4 : decode cX1_isBinder 4 = .ok (.getfield 24, 3) := by decide +kernel
theorem dX1_isBinder_7 : decode cX1_isBinder 7 = .ok (.iconst 4, 1) := by decide +kernel
theorem dX1_isBinder_8 : decode cX1_isBinder 8 = .ok (.if_icmp .eq 14, 3) := by decide +kernel
theorem dX1_isBinder_11 : decode cX1_isBinder 11 = .ok (.aload_n 0, 1) := by decide +kernel
theorem dX1_isBinder_12 : decode cX1_isBinder 12 = .ok (.getfield 7, 3) := by decide +kernel
theorem dX1_isBinder_15 : decode cX1_isBinder 15 = .ok (.getfield 24, 3) := by decide +kernel
theorem dX1_isBinder_18 : decode cX1_isBinder 18 = .ok (.iconst 5, 1) := by decide +kernel
theorem dX1_isBinder_19 : decode cX1_isBinder 19 = .ok (.if_icmp .ne 7, 3) := by decide +kernel
theorem dX1_isBinder_22 : decode cX1_isBinder 22 = .ok (.iconst 1, 1) := by decide +kernel
theorem dX1_isBinder_23 : decode cX1_isBinder 23 = .ok (.goto 4, 3) := by decide +kernel
theorem dX1_isBinder_26 : decode cX1_isBinder 26 = .ok (.iconst 0, 1) := by decide +kernel
theorem dX1_isBinder_27 : decode cX1_isBinder 27 = .ok (.ireturn, 1) := by decide +kernel
theorem dX1_envOfSecond_0 : decode cX1_envOfSecond 0 = .ok (.new 29, 3) := by decide +kernel
theorem dX1_envOfSecond_3 : decode cX1_envOfSecond 3 = .ok (.dup, 1) := by decide +kernel
theorem dX1_envOfSecond_4 : decode cX1_envOfSecond 4 = .ok (.aload_n 0, 1) := by decide +kernel
theorem dX1_envOfSecond_5 : decode cX1_envOfSecond 5 = .ok (.getfield 7, 3) := by decide +kernel
theorem dX1_envOfSecond_8 : decode cX1_envOfSecond 8 = .ok (.getfield 31, 3) := by decide +kernel
theorem dX1_envOfSecond_11 : decode cX1_envOfSecond 11 = .ok (.iload_n 1, 1) := by decide +kernel
theorem dX1_envOfSecond_12 : decode cX1_envOfSecond 12 = .ok (.aload_n 0, 1) := by decide +kernel
theorem dX1_envOfSecond_13 : decode cX1_envOfSecond 13 = .ok (.getfield 17, 3) := by decide +kernel
theorem dX1_envOfSecond_16 : decode cX1_envOfSecond 16 = .ok (.invokespecial 32, 3) := by decide +kernel
theorem dX1_envOfSecond_19 : decode cX1_envOfSecond 19 = .ok (.areturn, 1) := by decide +kernel
theorem dX2_init_0 : decode cX2_init 0 = .ok (.aload_n 0, 1) := by decide +kernel
theorem dX2_init_1 : decode cX2_init 1 = .ok (.invokespecial 3, 3) := by decide +kernel
theorem dX2_init_4 : decode cX2_init 4 = .ok (.aload_n 0, 1) := by decide +kernel
theorem dX2_init_5 : decode cX2_init 5 = .ok (.iconst (-1), 1) := by decide +kernel
theorem dX2_init_6 : decode cX2_init 6 = .ok (.putfield 9, 3) := by decide +kernel
theorem dX2_init_9 : decode cX2_init 9 = .ok (.aload_n 0, 1) := by decide +kernel
theorem dX2_init_10 : decode cX2_init 10 = .ok (.aload_n 1, 1) := by decide +kernel
theorem dX2_init_11 : decode cX2_init 11 = .ok (.putfield 15, 3) := by decide +kernel
theorem dX2_init_14 : decode cX2_init 14 = .ok (.aload_n 0, 1) := by decide +kernel
theorem dX2_init_15 : decode cX2_init 15 = .ok (.aload_n 2, 1) := by decide +kernel
theorem dX2_init_16 : decode cX2_init 16 = .ok (.putfield 19, 3) := by decide +kernel
theorem dX2_init_19 : decode cX2_init 19 = .ok (.aload_n 0, 1) := by decide +kernel
theorem dX2_init_20 : decode cX2_init 20 = .ok (.aload_n 3, 1) := by decide +kernel
theorem dX2_init_21 : decode cX2_init 21 = .ok (.putfield 23, 3) := by decide +kernel
theorem dX2_init_24 : decode cX2_init 24 = .ok (.aload_n 0, 1) := by decide +kernel
theorem dX2_init_25 : decode cX2_init 25 = .ok (.aload 4, 2) := by decide +kernel
theorem dX2_init_27 : decode cX2_init 27 = .ok (.putfield 27, 3) := by decide +kernel
theorem dX2_init_30 : decode cX2_init 30 = .ok (.return_, 1) := by decide +kernel
theorem dX2_typeOf_0 : decode cX2_typeOf 0 = .ok (.aload_n 0, 1) := by decide +kernel
theorem dX2_typeOf_1 : decode cX2_typeOf 1 = .ok (.aload_n 1, 1) := by decide +kernel
theorem dX2_typeOf_2 : decode cX2_typeOf 2 = .ok (.aconst_null, 1) := by decide +kernel
theorem dX2_typeOf_3 : decode cX2_typeOf 3 = .ok (.invokevirtual 31, 3) := by decide +kernel
theorem dX2_typeOf_6 : decode cX2_typeOf 6 = .ok (.areturn, 1) := by decide +kernel
theorem dX2_sortAsType_0 : decode cX2_sortAsType 0 = .ok (.aload_n 0, 1) := by decide +kernel
theorem dX2_sortAsType_1 : decode cX2_sortAsType 1 = .ok (.aload_n 0, 1) := by decide +kernel
theorem dX2_sortAsType_2 : decode cX2_sortAsType 2 = .ok (.aload_n 1, 1) := by decide +kernel
theorem dX2_sortAsType_3 : decode cX2_sortAsType 3 = .ok (.aconst_null, 1) := by decide +kernel
theorem dX2_sortAsType_4 : decode cX2_sortAsType 4 = .ok (.invokevirtual 31, 3) := by decide +kernel
theorem dX2_sortAsType_7 : decode cX2_sortAsType 7 = .ok (.aload_n 1, 1) := by decide +kernel
theorem dX2_sortAsType_8 : decode cX2_sortAsType 8 = .ok (.invokevirtual 35, 3) := by decide +kernel
theorem dX2_sortAsType_11 : decode cX2_sortAsType 11 = .ok (.ireturn, 1) := by decide +kernel
theorem dX2_judge_0 : decode cX2_judge 0 = .ok (.aload_n 1, 1) := by decide +kernel
theorem dX2_judge_1 : decode cX2_judge 1 = .ok (.getfield 39, 3) := by decide +kernel
theorem dX2_judge_4 : decode cX2_judge 4 = .ok (.ifnonnull 10, 3) := by decide +kernel
theorem dX2_judge_7 : decode cX2_judge 7 = .ok (.aload_n 0, 1) := by decide +kernel
theorem dX2_judge_8 : decode cX2_judge 8 = .ok (.aload_n 1, 1) := by decide +kernel
theorem dX2_judge_9 : decode cX2_judge 9 = .ok (.aload_n 2, 1) := by decide +kernel
theorem dX2_judge_10 : decode cX2_judge 10 = .ok (.invokevirtual 45, 3) := by decide +kernel
theorem dX2_judge_13 : decode cX2_judge 13 = .ok (.areturn, 1) := by decide +kernel
theorem dX2_judge_14 : decode cX2_judge 14 = .ok (.aload_n 0, 1) := by decide +kernel
theorem dX2_judge_15 : decode cX2_judge 15 = .ok (.aload_n 1, 1) := by decide +kernel
theorem dX2_judge_16 : decode cX2_judge 16 = .ok (.getfield 39, 3) := by decide +kernel
theorem dX2_judge_19 : decode cX2_judge 19 = .ok (.aload_n 2, 1) := by decide +kernel
theorem dX2_judge_20 : decode cX2_judge 20 = .ok (.invokevirtual 31, 3) := by decide +kernel
theorem dX2_judge_23 : decode cX2_judge 23 = .ok (.astore_n 3, 1) := by decide +kernel
theorem dX2_judge_24 : decode cX2_judge 24 = .ok (.aload_n 1, 1) := by decide +kernel
theorem dX2_judge_25 : decode cX2_judge 25 = .ok (.getfield 48, 3) := by decide +kernel
theorem dX2_judge_28 : decode cX2_judge 28 = .ok (.bipush 6, 2) := by decide +kernel
theorem dX2_judge_30 : decode cX2_judge 30 = .ok (.if_icmp .ne 26, 3) := by decide +kernel
theorem dX2_judge_33 : decode cX2_judge 33 = .ok (.aload_n 0, 1) := by decide +kernel
theorem dX2_judge_34 : decode cX2_judge 34 = .ok (.aload_n 1, 1) := by decide +kernel
theorem dX2_judge_35 : decode cX2_judge 35 = .ok (.getfield 51, 3) := by decide +kernel
theorem dX2_judge_38 : decode cX2_judge 38 = .ok (.new 54, 3) := by decide +kernel
theorem dX2_judge_41 : decode cX2_judge 41 = .ok (.dup, 1) := by decide +kernel
theorem dX2_judge_42 : decode cX2_judge 42 = .ok (.aload_n 1, 1) := by decide +kernel
theorem dX2_judge_43 : decode cX2_judge 43 = .ok (.aload_n 3, 1) := by decide +kernel
theorem dX2_judge_44 : decode cX2_judge 44 = .ok (.aload_n 0, 1) := by decide +kernel
theorem dX2_judge_45 : decode cX2_judge 45 = .ok (.getfield 9, 3) := by decide +kernel
theorem dX2_judge_48 : decode cX2_judge 48 = .ok (.aload_n 2, 1) := by decide +kernel
theorem dX2_judge_49 : decode cX2_judge 49 = .ok (.invokespecial 56, 3) := by decide +kernel
theorem dX2_judge_52 : decode cX2_judge 52 = .ok (.invokevirtual 31, 3) := by decide +kernel
theorem dX2_judge_55 : decode cX2_judge 55 = .ok (.areturn, 1) := by decide +kernel
theorem dX2_judge_56 : decode cX2_judge 56 = .ok (.aload_n 1, 1) := by decide +kernel
theorem dX2_judge_57 : decode cX2_judge 57 = .ok (.getfield 48, 3) := by decide +kernel
theorem dX2_judge_60 : decode cX2_judge 60 = .ok (.bipush 7, 2) := by decide +kernel
theorem dX2_judge_62 : decode cX2_judge 62 = .ok (.if_icmp .ne 131, 3) := by decide +kernel
theorem dX2_judge_65 : decode cX2_judge 65 = .ok (.iconst 0, 1) := by decide +kernel
theorem dX2_judge_66 : decode cX2_judge 66 = .ok (.istore 4, 2) := by decide +kernel
theorem dX2_judge_68 : decode cX2_judge 68 = .ok (.iload 4, 2) := by decide +kernel
theorem dX2_judge_70 : decode cX2_judge 70 = .ok (.aload_n 1, 1) := by decide +kernel
theorem dX2_judge_71 : decode cX2_judge 71 = .ok (.getfield 59, 3) := by decide +kernel
theorem dX2_judge_74 : decode cX2_judge 74 = .ok (.arraylength, 1) := by decide +kernel
theorem dX2_judge_75 : decode cX2_judge 75 = .ok (.if_icmp .ge 116, 3) := by decide +kernel
theorem dX2_judge_78 : decode cX2_judge 78 = .ok (.aload_n 0, 1) := by decide +kernel
theorem dX2_judge_79 : decode cX2_judge 79 = .ok (.aload_n 3, 1) := by decide +kernel
theorem dX2_judge_80 : decode cX2_judge 80 = .ok (.aload_n 1, 1) := by decide +kernel
theorem dX2_judge_81 : decode cX2_judge 81 = .ok (.getfield 39, 3) := by decide +kernel
theorem dX2_judge_84 : decode cX2_judge 84 = .ok (.invokevirtual 63, 3) := by decide +kernel
theorem dX2_judge_87 : decode cX2_judge 87 = .ok (.aload_n 1, 1) := by decide +kernel
theorem dX2_judge_88 : decode cX2_judge 88 = .ok (.getfield 59, 3) := by decide +kernel
theorem dX2_judge_91 : decode cX2_judge 91 = .ok (.iload 4, 2) := by decide +kernel
theorem dX2_judge_93 : decode cX2_judge 93 = .ok (.aaload, 1) := by decide +kernel
theorem dX2_judge_94 : decode cX2_judge 94 = .ok (.astore 5, 2) := by decide +kernel
theorem dX2_judge_96 : decode cX2_judge 96 = .ok (.aload_n 0, 1) := by decide +kernel
theorem dX2_judge_97 : decode cX2_judge 97 = .ok (.aload 5, 2) := by decide +kernel
theorem dX2_judge_99 : decode cX2_judge 99 = .ok (.aload_n 2, 1) := by decide +kernel
theorem dX2_judge_100 : decode cX2_judge 100 = .ok (.invokevirtual 31, 3) := by decide +kernel
theorem dX2_judge_103 : decode cX2_judge 103 = .ok (.astore 6, 2) := by decide +kernel
theorem dX2_judge_105 : decode cX2_judge 105 = .ok (.aload_n 0, 1) := by decide +kernel
theorem dX2_judge_106 : decode cX2_judge 106 = .ok (.getfield 23, 3) := by decide +kernel
theorem dX2_judge_109 : decode cX2_judge 109 = .ok (.aload_n 3, 1) := by decide +kernel
theorem dX2_judge_110 : decode cX2_judge 110 = .ok (.getfield 39, 3) := by decide +kernel
theorem dX2_judge_113 : decode cX2_judge 113 = .ok (.aload 6, 2) := by decide +kernel
theorem dX2_judge_115 : decode cX2_judge 115 = .ok (.invokevirtual 67, 3) := by decide +kernel
theorem dX2_judge_118 : decode cX2_judge 118 = .ok (.ifCond .ne 25, 3) := by decide +kernel
theorem dX2_judge_121 : decode cX2_judge 121 = .ok (.aload_n 0, 1) := by decide +kernel
theorem dX2_judge_122 : decode cX2_judge 122 = .ok (.getfield 27, 3) := by decide +kernel
theorem dX2_judge_125 : decode cX2_judge 125 = .ok (.bipush 11, 2) := by decide +kernel
theorem dX2_judge_127 : decode cX2_judge 127 = .ok (.aload 5, 2) := by decide +kernel
theorem dX2_judge_129 : decode cX2_judge 129 = .ok (.getfield 73, 3) := by decide +kernel
theorem dX2_judge_132 : decode cX2_judge 132 = .ok (.invokevirtual 76, 3) := by decide +kernel
theorem dX2_judge_135 : decode cX2_judge 135 = .ok (.new 82, 3) := by decide +kernel
theorem dX2_judge_138 : decode cX2_judge 138 = .ok (.dup, 1) := by decide +kernel
theorem dX2_judge_139 : decode cX2_judge 139 = .ok (.invokespecial 84, 3) := by decide +kernel
theorem dX2_judge_142 : decode cX2_judge 142 = .ok (.athrow, 1) := by decide +kernel
theorem dX2_judge_143 : decode cX2_judge 143 = .ok (.aload_n 0, 1) := by decide +kernel
theorem dX2_judge_144 : decode cX2_judge 144 = .ok (.aload_n 3, 1) := by decide +kernel
theorem dX2_judge_145 : decode cX2_judge 145 = .ok (.getfield 85, 3) := by decide +kernel
theorem dX2_judge_148 : decode cX2_judge 148 = .ok (.putfield 9, 3) := by decide +kernel
theorem dX2_judge_151 : decode cX2_judge 151 = .ok (.new 88, 3) := by decide +kernel
theorem dX2_judge_154 : decode cX2_judge 154 = .ok (.dup, 1) := by decide +kernel
theorem dX2_judge_155 : decode cX2_judge 155 = .ok (.aload_n 3, 1) := by decide +kernel
theorem dX2_judge_156 : decode cX2_judge 156 = .ok (.getfield 90, 3) := by decide +kernel
theorem dX2_judge_159 : decode cX2_judge 159 = .ok (.aload 5, 2) := by decide +kernel
theorem dX2_judge_161 : decode cX2_judge 161 = .ok (.aload_n 2, 1) := by decide +kernel
theorem dX2_judge_162 : decode cX2_judge 162 = .ok (.invokestatic 93, 3) := by decide +kernel
theorem dX2_judge_165 : decode cX2_judge 165 = .ok (.aconst_null, 1) := by decide +kernel
theorem dX2_judge_166 : decode cX2_judge 166 = .ok (.invokespecial 97, 3) := by decide +kernel
theorem dX2_judge_169 : decode cX2_judge 169 = .ok (.astore 7, 2) := by decide +kernel
theorem dX2_judge_171 : decode cX2_judge 171 = .ok (.aload_n 0, 1) := by decide +kernel
theorem dX2_judge_172 : decode cX2_judge 172 = .ok (.getfield 23, 3) := by decide +kernel
theorem dX2_judge_175 : decode cX2_judge 175 = .ok (.aload_n 3, 1) := by decide +kernel
theorem dX2_judge_176 : decode cX2_judge 176 = .ok (.getfield 51, 3) := by decide +kernel
theorem dX2_judge_179 : decode cX2_judge 179 = .ok (.aload 7, 2) := by decide +kernel
theorem dX2_judge_181 : decode cX2_judge 181 = .ok (.invokevirtual 100, 3) := by decide +kernel
theorem dX2_judge_184 : decode cX2_judge 184 = .ok (.astore_n 3, 1) := by decide +kernel
theorem dX2_judge_185 : decode cX2_judge 185 = .ok (.iinc 4 1, 3) := by decide +kernel
theorem dX2_judge_188 : decode cX2_judge 188 = .ok (.goto (-120), 3) := by decide +kernel
theorem dX2_judge_191 : decode cX2_judge 191 = .ok (.aload_n 3, 1) := by decide +kernel
theorem dX2_judge_192 : decode cX2_judge 192 = .ok (.areturn, 1) := by decide +kernel
theorem dX2_judge_193 : decode cX2_judge 193 = .ok (.aload_n 0, 1) := by decide +kernel
theorem dX2_judge_194 : decode cX2_judge 194 = .ok (.aload_n 3, 1) := by decide +kernel
theorem dX2_judge_195 : decode cX2_judge 195 = .ok (.aload_n 1, 1) := by decide +kernel
theorem dX2_judge_196 : decode cX2_judge 196 = .ok (.getfield 39, 3) := by decide +kernel
theorem dX2_judge_199 : decode cX2_judge 199 = .ok (.invokevirtual 35, 3) := by decide +kernel
theorem dX2_judge_202 : decode cX2_judge 202 = .ok (.istore 4, 2) := by decide +kernel
theorem dX2_judge_204 : decode cX2_judge 204 = .ok (.aload_n 0, 1) := by decide +kernel
theorem dX2_judge_205 : decode cX2_judge 205 = .ok (.getfield 23, 3) := by decide +kernel
theorem dX2_judge_208 : decode cX2_judge 208 = .ok (.aload_n 1, 1) := by decide +kernel
theorem dX2_judge_209 : decode cX2_judge 209 = .ok (.getfield 39, 3) := by decide +kernel
theorem dX2_judge_212 : decode cX2_judge 212 = .ok (.aload_n 2, 1) := by decide +kernel
theorem dX2_judge_213 : decode cX2_judge 213 = .ok (.invokestatic 93, 3) := by decide +kernel
theorem dX2_judge_216 : decode cX2_judge 216 = .ok (.invokevirtual 100, 3) := by decide +kernel
theorem dX2_judge_219 : decode cX2_judge 219 = .ok (.astore 5, 2) := by decide +kernel
theorem dX2_judge_221 : decode cX2_judge 221 = .ok (.aload_n 0, 1) := by decide +kernel
theorem dX2_judge_222 : decode cX2_judge 222 = .ok (.aload_n 1, 1) := by decide +kernel
theorem dX2_judge_223 : decode cX2_judge 223 = .ok (.getfield 51, 3) := by decide +kernel
theorem dX2_judge_226 : decode cX2_judge 226 = .ok (.new 54, 3) := by decide +kernel
theorem dX2_judge_229 : decode cX2_judge 229 = .ok (.dup, 1) := by decide +kernel
theorem dX2_judge_230 : decode cX2_judge 230 = .ok (.aload_n 1, 1) := by decide +kernel
theorem dX2_judge_231 : decode cX2_judge 231 = .ok (.aload 5, 2) := by decide +kernel
theorem dX2_judge_233 : decode cX2_judge 233 = .ok (.iload 4, 2) := by decide +kernel
theorem dX2_judge_235 : decode cX2_judge 235 = .ok (.aload_n 2, 1) := by decide +kernel
theorem dX2_judge_236 : decode cX2_judge 236 = .ok (.invokespecial 56, 3) := by decide +kernel
theorem dX2_judge_239 : decode cX2_judge 239 = .ok (.invokevirtual 31, 3) := by decide +kernel
theorem dX2_judge_242 : decode cX2_judge 242 = .ok (.astore 6, 2) := by decide +kernel
theorem dX2_judge_244 : decode cX2_judge 244 = .ok (.aload_n 1, 1) := by decide +kernel
theorem dX2_judge_245 : decode cX2_judge 245 = .ok (.getfield 48, 3) := by decide +kernel
theorem dX2_judge_248 : decode cX2_judge 248 = .ok (.iconst 5, 1) := by decide +kernel
theorem dX2_judge_249 : decode cX2_judge 249 = .ok (.if_icmp .ne 21, 3) := by decide +kernel
theorem dX2_judge_252 : decode cX2_judge 252 = .ok (.aload_n 0, 1) := by decide +kernel
theorem dX2_judge_253 : decode cX2_judge 253 = .ok (.aload_n 1, 1) := by decide +kernel
theorem dX2_judge_254 : decode cX2_judge 254 = .ok (.iload 4, 2) := by decide +kernel
theorem dX2_judge_256 : decode cX2_judge 256 = .ok (.aload_n 0, 1) := by decide +kernel
theorem dX2_judge_257 : decode cX2_judge 257 = .ok (.aload 6, 2) := by decide +kernel
theorem dX2_judge_259 : decode cX2_judge 259 = .ok (.aload_n 1, 1) := by decide +kernel
theorem dX2_judge_260 : decode cX2_judge 260 = .ok (.getfield 51, 3) := by decide +kernel
theorem dX2_judge_263 : decode cX2_judge 263 = .ok (.invokevirtual 35, 3) := by decide +kernel
theorem dX2_judge_266 : decode cX2_judge 266 = .ok (.invokevirtual 104, 3) := by decide +kernel
theorem dX2_judge_269 : decode cX2_judge 269 = .ok (.areturn, 1) := by decide +kernel
theorem dX2_judge_270 : decode cX2_judge 270 = .ok (.aload_n 0, 1) := by decide +kernel
theorem dX2_judge_271 : decode cX2_judge 271 = .ok (.aload_n 1, 1) := by decide +kernel
theorem dX2_judge_272 : decode cX2_judge 272 = .ok (.aload 5, 2) := by decide +kernel
theorem dX2_judge_274 : decode cX2_judge 274 = .ok (.iload 4, 2) := by decide +kernel
theorem dX2_judge_276 : decode cX2_judge 276 = .ok (.aload 6, 2) := by decide +kernel
theorem dX2_judge_278 : decode cX2_judge 278 = .ok (.invokevirtual 108, 3) := by decide +kernel
theorem dX2_judge_281 : decode cX2_judge 281 = .ok (.areturn, 1) := by decide +kernel
theorem dX2_judgeName_0 : decode cX2_judgeName 0 = .ok (.aload_n 2, 1) := by decide +kernel
theorem dX2_judgeName_1 : decode cX2_judgeName 1 = .ok (.astore_n 3, 1) := by decide +kernel
theorem dX2_judgeName_2 : decode cX2_judgeName 2 = .ok (.aload_n 3, 1) := by decide +kernel
theorem dX2_judgeName_3 : decode cX2_judgeName 3 = .ok (.ifnull 45, 3) := by decide +kernel
theorem dX2_judgeName_6 : decode cX2_judgeName 6 = .ok (.aload_n 0, 1) := by decide +kernel
theorem dX2_judgeName_7 : decode cX2_judgeName 7 = .ok (.aload_n 3, 1) := by decide +kernel
theorem dX2_judgeName_8 : decode cX2_judgeName 8 = .ok (.getfield 112, 3) := by decide +kernel
theorem dX2_judgeName_11 : decode cX2_judgeName 11 = .ok (.aload_n 1, 1) := by decide +kernel
theorem dX2_judgeName_12 : decode cX2_judgeName 12 = .ok (.invokevirtual 115, 3) := by decide +kernel
theorem dX2_judgeName_15 : decode cX2_judgeName 15 = .ok (.ifCond .eq 25, 3) := by decide +kernel
theorem dX2_judgeName_18 : decode cX2_judgeName 18 = .ok (.aload_n 0, 1) := by decide +kernel
theorem dX2_judgeName_19 : decode cX2_judgeName 19 = .ok (.aload_n 1, 1) := by decide +kernel
theorem dX2_judgeName_20 : decode cX2_judgeName 20 = .ok (.iconst 3, 1) := by decide +kernel
theorem dX2_judgeName_21 : decode cX2_judgeName 21 = .ok (.aload_n 3, 1) := by decide +kernel
theorem dX2_judgeName_22 : decode cX2_judgeName 22 = .ok (.getfield 112, 3) := by decide +kernel
theorem dX2_judgeName_25 : decode cX2_judgeName 25 = .ok (.getfield 90, 3) := by decide +kernel
theorem dX2_judgeName_28 : decode cX2_judgeName 28 = .ok (.aload_n 3, 1) := by decide +kernel
theorem dX2_judgeName_29 : decode cX2_judgeName 29 = .ok (.getfield 118, 3) := by decide +kernel
theorem dX2_judgeName_32 : decode cX2_judgeName 32 = .ok (.invokevirtual 121, 3) := by decide +kernel
theorem dX2_judgeName_35 : decode cX2_judgeName 35 = .ok (.aload_n 3, 1) := by decide +kernel
theorem dX2_judgeName_36 : decode cX2_judgeName 36 = .ok (.getfield 125, 3) := by decide +kernel
theorem dX2_judgeName_39 : decode cX2_judgeName 39 = .ok (.areturn, 1) := by decide +kernel
theorem dX2_judgeName_40 : decode cX2_judgeName 40 = .ok (.aload_n 3, 1) := by decide +kernel
theorem dX2_judgeName_41 : decode cX2_judgeName 41 = .ok (.getfield 128, 3) := by decide +kernel
theorem dX2_judgeName_44 : decode cX2_judgeName 44 = .ok (.astore_n 3, 1) := by decide +kernel
theorem dX2_judgeName_45 : decode cX2_judgeName 45 = .ok (.goto (-43), 3) := by decide +kernel
theorem dX2_judgeName_48 : decode cX2_judgeName 48 = .ok (.aload_n 0, 1) := by decide +kernel
theorem dX2_judgeName_49 : decode cX2_judgeName 49 = .ok (.getfield 19, 3) := by decide +kernel
theorem dX2_judgeName_52 : decode cX2_judgeName 52 = .ok (.getfield 132, 3) := by decide +kernel
theorem dX2_judgeName_55 : decode cX2_judgeName 55 = .ok (.aload_n 0, 1) := by decide +kernel
theorem dX2_judgeName_56 : decode cX2_judgeName 56 = .ok (.getfield 15, 3) := by decide +kernel
theorem dX2_judgeName_59 : decode cX2_judgeName 59 = .ok (.aload_n 1, 1) := by decide +kernel
theorem dX2_judgeName_60 : decode cX2_judgeName 60 = .ok (.getfield 138, 3) := by decide +kernel
theorem dX2_judgeName_63 : decode cX2_judgeName 63 = .ok (.aload_n 1, 1) := by decide +kernel
theorem dX2_judgeName_64 : decode cX2_judgeName 64 = .ok (.getfield 141, 3) := by decide +kernel
theorem dX2_judgeName_67 : decode cX2_judgeName 67 = .ok (.invokevirtual 144, 3) := by decide +kernel
theorem dX2_judgeName_70 : decode cX2_judgeName 70 = .ok (.istore_n 3, 1) := by decide +kernel
theorem dX2_judgeName_71 : decode cX2_judgeName 71 = .ok (.iload_n 3, 1) := by decide +kernel
theorem dX2_judgeName_72 : decode cX2_judgeName 72 = .ok (.iconst (-1), 1) := by decide +kernel
theorem dX2_judgeName_73 : decode cX2_judgeName 73 = .ok (.if_icmp .eq 29, 3) := by decide +kernel
theorem dX2_judgeName_76 : decode cX2_judgeName 76 = .ok (.aload_n 0, 1) := by decide +kernel
theorem dX2_judgeName_77 : decode cX2_judgeName 77 = .ok (.aload_n 1, 1) := by decide +kernel
theorem dX2_judgeName_78 : decode cX2_judgeName 78 = .ok (.iconst 2, 1) := by decide +kernel
theorem dX2_judgeName_79 : decode cX2_judgeName 79 = .ok (.iload_n 3, 1) := by decide +kernel
theorem dX2_judgeName_80 : decode cX2_judgeName 80 = .ok (.aload_n 0, 1) := by decide +kernel
theorem dX2_judgeName_81 : decode cX2_judgeName 81 = .ok (.getfield 19, 3) := by decide +kernel
theorem dX2_judgeName_84 : decode cX2_judgeName 84 = .ok (.getfield 150, 3) := by decide +kernel
theorem dX2_judgeName_87 : decode cX2_judgeName 87 = .ok (.iload_n 3, 1) := by decide +kernel
theorem dX2_judgeName_88 : decode cX2_judgeName 88 = .ok (.iaload, 1) := by decide +kernel
theorem dX2_judgeName_89 : decode cX2_judgeName 89 = .ok (.invokevirtual 121, 3) := by decide +kernel
theorem dX2_judgeName_92 : decode cX2_judgeName 92 = .ok (.aload_n 0, 1) := by decide +kernel
theorem dX2_judgeName_93 : decode cX2_judgeName 93 = .ok (.getfield 19, 3) := by decide +kernel
theorem dX2_judgeName_96 : decode cX2_judgeName 96 = .ok (.getfield 154, 3) := by decide +kernel
theorem dX2_judgeName_99 : decode cX2_judgeName 99 = .ok (.iload_n 3, 1) := by decide +kernel
theorem dX2_judgeName_100 : decode cX2_judgeName 100 = .ok (.aaload, 1) := by decide +kernel
theorem dX2_judgeName_101 : decode cX2_judgeName 101 = .ok (.areturn, 1) := by decide +kernel
theorem dX2_judgeName_102 : decode cX2_judgeName 102 = .ok (.aload_n 0, 1) := by decide +kernel
theorem dX2_judgeName_103 : decode cX2_judgeName 103 = .ok (.getfield 19, 3) := by decide +kernel
theorem dX2_judgeName_106 : decode cX2_judgeName 106 = .ok (.getfield 157, 3) := by decide +kernel
theorem dX2_judgeName_109 : decode cX2_judgeName 109 = .ok (.aload_n 0, 1) := by decide +kernel
theorem dX2_judgeName_110 : decode cX2_judgeName 110 = .ok (.getfield 15, 3) := by decide +kernel
theorem dX2_judgeName_113 : decode cX2_judgeName 113 = .ok (.aload_n 1, 1) := by decide +kernel
theorem dX2_judgeName_114 : decode cX2_judgeName 114 = .ok (.getfield 138, 3) := by decide +kernel
theorem dX2_judgeName_117 : decode cX2_judgeName 117 = .ok (.aload_n 1, 1) := by decide +kernel
theorem dX2_judgeName_118 : decode cX2_judgeName 118 = .ok (.getfield 141, 3) := by decide +kernel
theorem dX2_judgeName_121 : decode cX2_judgeName 121 = .ok (.invokevirtual 144, 3) := by decide +kernel
theorem dX2_judgeName_124 : decode cX2_judgeName 124 = .ok (.istore 4, 2) := by decide +kernel
theorem dX2_judgeName_126 : decode cX2_judgeName 126 = .ok (.iload 4, 2) := by decide +kernel
theorem dX2_judgeName_128 : decode cX2_judgeName 128 = .ok (.iconst (-1), 1) := by decide +kernel
theorem dX2_judgeName_129 : decode cX2_judgeName 129 = .ok (.if_icmp .ne 23, 3) := by decide +kernel
theorem dX2_judgeName_132 : decode cX2_judgeName 132 = .ok (.aload_n 0, 1) := by decide +kernel
theorem dX2_judgeName_133 : decode cX2_judgeName 133 = .ok (.getfield 27, 3) := by decide +kernel
theorem dX2_judgeName_136 : decode cX2_judgeName 136 = .ok (.iconst 3, 1) := by decide +kernel
theorem dX2_judgeName_137 : decode cX2_judgeName 137 = .ok (.aload_n 1, 1) := by decide +kernel
theorem dX2_judgeName_138 : decode cX2_judgeName 138 = .ok (.getfield 160, 3) := by decide +kernel
theorem dX2_judgeName_141 : decode cX2_judgeName 141 = .ok (.invokevirtual 76, 3) := by decide +kernel
theorem dX2_judgeName_144 : decode cX2_judgeName 144 = .ok (.new 82, 3) := by decide +kernel
theorem dX2_judgeName_147 : decode cX2_judgeName 147 = .ok (.dup, 1) := by decide +kernel
theorem dX2_judgeName_148 : decode cX2_judgeName 148 = .ok (.invokespecial 84, 3) := by decide +kernel
theorem dX2_judgeName_151 : decode cX2_judgeName 151 = .ok (.athrow, 1) := by decide +kernel
theorem dX2_judgeName_152 : decode cX2_judgeName 152 = .ok (.aload_n 0, 1) := by decide +kernel
theorem dX2_judgeName_153 : decode cX2_judgeName 153 = .ok (.getfield 19, 3) := by decide +kernel
theorem dX2_judgeName_156 : decode cX2_judgeName 156 = .ok (.iload 4, 2) := by decide +kernel
theorem dX2_judgeName_158 : decode cX2_judgeName 158 = .ok (.invokevirtual 163, 3) := by decide +kernel
theorem dX2_judgeName_161 : decode cX2_judgeName 161 = .ok (.istore 5, 2) := by decide +kernel
theorem dX2_judgeName_163 : decode cX2_judgeName 163 = .ok (.iload 5, 2) := by decide +kernel
theorem dX2_judgeName_165 : decode cX2_judgeName 165 = .ok (.iconst (-1), 1) := by decide +kernel
theorem dX2_judgeName_166 : decode cX2_judgeName 166 = .ok (.if_icmp .ne 24, 3) := by decide +kernel
theorem dX2_judgeName_169 : decode cX2_judgeName 169 = .ok (.aload_n 0, 1) := by decide +kernel
theorem dX2_judgeName_170 : decode cX2_judgeName 170 = .ok (.getfield 27, 3) := by decide +kernel
theorem dX2_judgeName_173 : decode cX2_judgeName 173 = .ok (.bipush 7, 2) := by decide +kernel
theorem dX2_judgeName_175 : decode cX2_judgeName 175 = .ok (.aload_n 1, 1) := by decide +kernel
theorem dX2_judgeName_176 : decode cX2_judgeName 176 = .ok (.getfield 160, 3) := by decide +kernel
theorem dX2_judgeName_179 : decode cX2_judgeName 179 = .ok (.invokevirtual 76, 3) := by decide +kernel
theorem dX2_judgeName_182 : decode cX2_judgeName 182 = .ok (.new 82, 3) := by decide +kernel
theorem dX2_judgeName_185 : decode cX2_judgeName 185 = .ok (.dup, 1) := by decide +kernel
theorem dX2_judgeName_186 : decode cX2_judgeName 186 = .ok (.invokespecial 84, 3) := by decide +kernel
theorem dX2_judgeName_189 : decode cX2_judgeName 189 = .ok (.athrow, 1) := by decide +kernel
theorem dX2_judgeName_190 : decode cX2_judgeName 190 = .ok (.aload_n 0, 1) := by decide +kernel
theorem dX2_judgeName_191 : decode cX2_judgeName 191 = .ok (.aload_n 1, 1) := by decide +kernel
theorem dX2_judgeName_192 : decode cX2_judgeName 192 = .ok (.iconst 1, 1) := by decide +kernel
theorem dX2_judgeName_193 : decode cX2_judgeName 193 = .ok (.iload 4, 2) := by decide +kernel
theorem dX2_judgeName_195 : decode cX2_judgeName 195 = .ok (.aload_n 0, 1) := by decide +kernel
theorem dX2_judgeName_196 : decode cX2_judgeName 196 = .ok (.getfield 19, 3) := by decide +kernel
theorem dX2_judgeName_199 : decode cX2_judgeName 199 = .ok (.iload 5, 2) := by decide +kernel
theorem dX2_judgeName_201 : decode cX2_judgeName 201 = .ok (.invokevirtual 163, 3) := by decide +kernel
theorem dX2_judgeName_204 : decode cX2_judgeName 204 = .ok (.invokevirtual 121, 3) := by decide +kernel
theorem dX2_judgeName_207 : decode cX2_judgeName 207 = .ok (.new 40, 3) := by decide +kernel
theorem dX2_judgeName_210 : decode cX2_judgeName 210 = .ok (.dup, 1) := by decide +kernel
theorem dX2_judgeName_211 : decode cX2_judgeName 211 = .ok (.iconst 1, 1) := by decide +kernel
theorem dX2_judgeName_212 : decode cX2_judgeName 212 = .ok (.iload 5, 2) := by decide +kernel
theorem dX2_judgeName_214 : decode cX2_judgeName 214 = .ok (.invokespecial 167, 3) := by decide +kernel
theorem dX2_judgeName_217 : decode cX2_judgeName 217 = .ok (.areturn, 1) := by decide +kernel
theorem dX2_isNameOf_0 : decode cX2_isNameOf 0 = .ok (.aload_n 1, 1) := by decide +kernel
theorem dX2_isNameOf_1 : decode cX2_isNameOf 1 = .ok (.getfield 141, 3) := by decide +kernel
theorem dX2_isNameOf_4 : decode cX2_isNameOf 4 = .ok (.aload_n 2, 1) := by decide +kernel
theorem dX2_isNameOf_5 : decode cX2_isNameOf 5 = .ok (.getfield 141, 3) := by decide +kernel
theorem dX2_isNameOf_8 : decode cX2_isNameOf 8 = .ok (.if_icmp .ne 33, 3) := by decide +kernel
theorem dX2_isNameOf_11 : decode cX2_isNameOf 11 = .ok (.aload_n 0, 1) := by decide +kernel
theorem dX2_isNameOf_12 : decode cX2_isNameOf 12 = .ok (.getfield 15, 3) := by decide +kernel
theorem dX2_isNameOf_15 : decode cX2_isNameOf 15 = .ok (.aload_n 1, 1) := by decide +kernel
theorem dX2_isNameOf_16 : decode cX2_isNameOf 16 = .ok (.getfield 138, 3) := by decide +kernel
theorem dX2_isNameOf_19 : decode cX2_isNameOf 19 = .ok (.aload_n 0, 1) := by decide +kernel
theorem dX2_isNameOf_20 : decode cX2_isNameOf 20 = .ok (.getfield 15, 3) := by decide +kernel
theorem dX2_isNameOf_23 : decode cX2_isNameOf 23 = .ok (.aload_n 2, 1) := by decide +kernel
theorem dX2_isNameOf_24 : decode cX2_isNameOf 24 = .ok (.getfield 138, 3) := by decide +kernel
theorem dX2_isNameOf_27 : decode cX2_isNameOf 27 = .ok (.aload_n 2, 1) := by decide +kernel
theorem dX2_isNameOf_28 : decode cX2_isNameOf 28 = .ok (.getfield 141, 3) := by decide +kernel
theorem dX2_isNameOf_31 : decode cX2_isNameOf 31 = .ok (.invokestatic 169, 3) := by decide +kernel
theorem dX2_isNameOf_34 : decode cX2_isNameOf 34 = .ok (.ifCond .eq 7, 3) := by decide +kernel
theorem dX2_isNameOf_37 : decode cX2_isNameOf 37 = .ok (.iconst 1, 1) := by decide +kernel
theorem dX2_isNameOf_38 : decode cX2_isNameOf 38 = .ok (.goto 4, 3) := by decide +kernel
theorem dX2_isNameOf_41 : decode cX2_isNameOf 41 = .ok (.iconst 0, 1) := by decide +kernel
theorem dX2_isNameOf_42 : decode cX2_isNameOf 42 = .ok (.ireturn, 1) := by decide +kernel
theorem dX2_resolve_0 : decode cX2_resolve 0 = .ok (.aload_n 1, 1) := by decide +kernel
theorem dX2_resolve_1 : decode cX2_resolve 1 = .ok (.iload_n 2, 1) := by decide +kernel
theorem dX2_resolve_2 : decode cX2_resolve 2 = .ok (.putfield 48, 3) := by decide +kernel
theorem dX2_resolve_5 : decode cX2_resolve 5 = .ok (.aload_n 1, 1) := by decide +kernel
theorem dX2_resolve_6 : decode cX2_resolve 6 = .ok (.iload_n 3, 1) := by decide +kernel
theorem dX2_resolve_7 : decode cX2_resolve 7 = .ok (.putfield 90, 3) := by decide +kernel
theorem dX2_resolve_10 : decode cX2_resolve 10 = .ok (.aload_n 0, 1) := by decide +kernel
theorem dX2_resolve_11 : decode cX2_resolve 11 = .ok (.iload 4, 2) := by decide +kernel
theorem dX2_resolve_13 : decode cX2_resolve 13 = .ok (.putfield 9, 3) := by decide +kernel
theorem dX2_resolve_16 : decode cX2_resolve 16 = .ok (.return_, 1) := by decide +kernel
theorem dX2_neededSort_0 : decode cX2_neededSort 0 = .ok (.aload_n 1, 1) := by decide +kernel
theorem dX2_neededSort_1 : decode cX2_neededSort 1 = .ok (.getfield 48, 3) := by decide +kernel
theorem dX2_neededSort_4 : decode cX2_neededSort 4 = .ok (.iconst 1, 1) := by decide +kernel
theorem dX2_neededSort_5 : decode cX2_neededSort 5 = .ok (.if_icmp .eq 24, 3) := by decide +kernel
theorem dX2_neededSort_8 : decode cX2_neededSort 8 = .ok (.aload_n 0, 1) := by decide +kernel
theorem dX2_neededSort_9 : decode cX2_neededSort 9 = .ok (.getfield 27, 3) := by decide +kernel
theorem dX2_neededSort_12 : decode cX2_neededSort 12 = .ok (.bipush 8, 2) := by decide +kernel
theorem dX2_neededSort_14 : decode cX2_neededSort 14 = .ok (.aload_n 2, 1) := by decide +kernel
theorem dX2_neededSort_15 : decode cX2_neededSort 15 = .ok (.getfield 73, 3) := by decide +kernel
theorem dX2_neededSort_18 : decode cX2_neededSort 18 = .ok (.invokevirtual 76, 3) := by decide +kernel
theorem dX2_neededSort_21 : decode cX2_neededSort 21 = .ok (.new 82, 3) := by decide +kernel
theorem dX2_neededSort_24 : decode cX2_neededSort 24 = .ok (.dup, 1) := by decide +kernel
theorem dX2_neededSort_25 : decode cX2_neededSort 25 = .ok (.invokespecial 84, 3) := by decide +kernel
theorem dX2_neededSort_28 : decode cX2_neededSort 28 = .ok (.athrow, 1) := by decide +kernel
theorem dX2_neededSort_29 : decode cX2_neededSort 29 = .ok (.aload_n 1, 1) := by decide +kernel
theorem dX2_neededSort_30 : decode cX2_neededSort 30 = .ok (.getfield 90, 3) := by decide +kernel
theorem dX2_neededSort_33 : decode cX2_neededSort 33 = .ok (.ireturn, 1) := by decide +kernel
theorem dX2_needProduct_0 : decode cX2_needProduct 0 = .ok (.aload_n 1, 1) := by decide +kernel
theorem dX2_needProduct_1 : decode cX2_needProduct 1 = .ok (.getfield 48, 3) := by decide +kernel
theorem dX2_needProduct_4 : decode cX2_needProduct 4 = .ok (.iconst 5, 1) := by decide +kernel
theorem dX2_needProduct_5 : decode cX2_needProduct 5 = .ok (.if_icmp .eq 24, 3) := by decide +kernel
theorem dX2_needProduct_8 : decode cX2_needProduct 8 = .ok (.aload_n 0, 1) := by decide +kernel
theorem dX2_needProduct_9 : decode cX2_needProduct 9 = .ok (.getfield 27, 3) := by decide +kernel
theorem dX2_needProduct_12 : decode cX2_needProduct 12 = .ok (.bipush 10, 2) := by decide +kernel
theorem dX2_needProduct_14 : decode cX2_needProduct 14 = .ok (.aload_n 2, 1) := by decide +kernel
theorem dX2_needProduct_15 : decode cX2_needProduct 15 = .ok (.getfield 73, 3) := by decide +kernel
theorem dX2_needProduct_18 : decode cX2_needProduct 18 = .ok (.invokevirtual 76, 3) := by decide +kernel
theorem dX2_needProduct_21 : decode cX2_needProduct 21 = .ok (.new 82, 3) := by decide +kernel
theorem dX2_needProduct_24 : decode cX2_needProduct 24 = .ok (.dup, 1) := by decide +kernel
theorem dX2_needProduct_25 : decode cX2_needProduct 25 = .ok (.invokespecial 84, 3) := by decide +kernel
theorem dX2_needProduct_28 : decode cX2_needProduct 28 = .ok (.athrow, 1) := by decide +kernel
theorem dX2_needProduct_29 : decode cX2_needProduct 29 = .ok (.return_, 1) := by decide +kernel
theorem dX2_typeOfProduct_0 : decode cX2_typeOfProduct 0 = .ok (.aload_n 0, 1) := by decide +kernel
theorem dX2_typeOfProduct_1 : decode cX2_typeOfProduct 1 = .ok (.iload_n 2, 1) := by decide +kernel
theorem dX2_typeOfProduct_2 : decode cX2_typeOfProduct 2 = .ok (.iload_n 3, 1) := by decide +kernel
theorem dX2_typeOfProduct_3 : decode cX2_typeOfProduct 3 = .ok (.aload_n 1, 1) := by decide +kernel
theorem dX2_typeOfProduct_4 : decode cX2_typeOfProduct 4 = .ok (.invokevirtual 173, 3) := by decide +kernel
theorem dX2_typeOfProduct_7 : decode cX2_typeOfProduct 7 = .ok (.istore 4, 2) := by decide +kernel
theorem dX2_typeOfProduct_9 : decode cX2_typeOfProduct 9 = .ok (.aload_n 1, 1) := by decide +kernel
theorem dX2_typeOfProduct_10 : decode cX2_typeOfProduct 10 = .ok (.iload_n 2, 1) := by decide +kernel
theorem dX2_typeOfProduct_11 : decode cX2_typeOfProduct 11 = .ok (.iload_n 3, 1) := by decide +kernel
theorem dX2_typeOfProduct_12 : decode cX2_typeOfProduct 12 = .ok (.invokevirtual 177, 3) := by decide +kernel
theorem dX2_typeOfProduct_15 : decode cX2_typeOfProduct 15 = .ok (.aload_n 0, 1) := by decide +kernel
theorem dX2_typeOfProduct_16 : decode cX2_typeOfProduct 16 = .ok (.aload_n 0, 1) := by decide +kernel
theorem dX2_typeOfProduct_17 : decode cX2_typeOfProduct 17 = .ok (.getfield 19, 3) := by decide +kernel
theorem dX2_typeOfProduct_20 : decode cX2_typeOfProduct 20 = .ok (.iload 4, 2) := by decide +kernel
theorem dX2_typeOfProduct_22 : decode cX2_typeOfProduct 22 = .ok (.invokevirtual 163, 3) := by decide +kernel
theorem dX2_typeOfProduct_25 : decode cX2_typeOfProduct 25 = .ok (.putfield 9, 3) := by decide +kernel
theorem dX2_typeOfProduct_28 : decode cX2_typeOfProduct 28 = .ok (.new 40, 3) := by decide +kernel
theorem dX2_typeOfProduct_31 : decode cX2_typeOfProduct 31 = .ok (.dup, 1) := by decide +kernel
theorem dX2_typeOfProduct_32 : decode cX2_typeOfProduct 32 = .ok (.iconst 1, 1) := by decide +kernel
theorem dX2_typeOfProduct_33 : decode cX2_typeOfProduct 33 = .ok (.iload 4, 2) := by decide +kernel
theorem dX2_typeOfProduct_35 : decode cX2_typeOfProduct 35 = .ok (.invokespecial 167, 3) := by decide +kernel
theorem dX2_typeOfProduct_38 : decode cX2_typeOfProduct 38 = .ok (.areturn, 1) := by decide +kernel
theorem dX2_typeOfLambda_0 : decode cX2_typeOfLambda 0 = .ok (.aload_n 0, 1) := by decide +kernel
theorem dX2_typeOfLambda_1 : decode cX2_typeOfLambda 1 = .ok (.getfield 9, 3) := by decide +kernel
theorem dX2_typeOfLambda_4 : decode cX2_typeOfLambda 4 = .ok (.istore 5, 2) := by decide +kernel
theorem dX2_typeOfLambda_6 : decode cX2_typeOfLambda 6 = .ok (.iload 5, 2) := by decide +kernel
theorem dX2_typeOfLambda_8 : decode cX2_typeOfLambda 8 = .ok (.iconst (-1), 1) := by decide +kernel
theorem dX2_typeOfLambda_9 : decode cX2_typeOfLambda 9 = .ok (.if_icmp .ne 24, 3) := by decide +kernel
theorem dX2_typeOfLambda_12 : decode cX2_typeOfLambda 12 = .ok (.aload_n 0, 1) := by decide +kernel
theorem dX2_typeOfLambda_13 : decode cX2_typeOfLambda 13 = .ok (.getfield 27, 3) := by decide +kernel
theorem dX2_typeOfLambda_16 : decode cX2_typeOfLambda 16 = .ok (.bipush 7, 2) := by decide +kernel
theorem dX2_typeOfLambda_18 : decode cX2_typeOfLambda 18 = .ok (.aload_n 1, 1) := by decide +kernel
theorem dX2_typeOfLambda_19 : decode cX2_typeOfLambda 19 = .ok (.getfield 160, 3) := by decide +kernel
theorem dX2_typeOfLambda_22 : decode cX2_typeOfLambda 22 = .ok (.invokevirtual 76, 3) := by decide +kernel
theorem dX2_typeOfLambda_25 : decode cX2_typeOfLambda 25 = .ok (.new 82, 3) := by decide +kernel
theorem dX2_typeOfLambda_28 : decode cX2_typeOfLambda 28 = .ok (.dup, 1) := by decide +kernel
theorem dX2_typeOfLambda_29 : decode cX2_typeOfLambda 29 = .ok (.invokespecial 84, 3) := by decide +kernel
theorem dX2_typeOfLambda_32 : decode cX2_typeOfLambda 32 = .ok (.athrow, 1) := by decide +kernel
theorem dX2_typeOfLambda_33 : decode cX2_typeOfLambda 33 = .ok (.aload_n 0, 1) := by decide +kernel
theorem dX2_typeOfLambda_34 : decode cX2_typeOfLambda 34 = .ok (.aload_n 0, 1) := by decide +kernel
theorem dX2_typeOfLambda_35 : decode cX2_typeOfLambda 35 = .ok (.iload_n 3, 1) := by decide +kernel
theorem dX2_typeOfLambda_36 : decode cX2_typeOfLambda 36 = .ok (.iload 5, 2) := by decide +kernel
theorem dX2_typeOfLambda_38 : decode cX2_typeOfLambda 38 = .ok (.aload_n 1, 1) := by decide +kernel
theorem dX2_typeOfLambda_39 : decode cX2_typeOfLambda 39 = .ok (.invokevirtual 173, 3) := by decide +kernel
theorem dX2_typeOfLambda_42 : decode cX2_typeOfLambda 42 = .ok (.putfield 9, 3) := by decide +kernel
theorem dX2_typeOfLambda_45 : decode cX2_typeOfLambda 45 = .ok (.iconst 5, 1) := by decide +kernel
theorem dX2_typeOfLambda_46 : decode cX2_typeOfLambda 46 = .ok (.aload_n 1, 1) := by decide +kernel
theorem dX2_typeOfLambda_47 : decode cX2_typeOfLambda 47 = .ok (.getfield 90, 3) := by decide +kernel
theorem dX2_typeOfLambda_50 : decode cX2_typeOfLambda 50 = .ok (.aload_n 2, 1) := by decide +kernel
theorem dX2_typeOfLambda_51 : decode cX2_typeOfLambda 51 = .ok (.aload 4, 2) := by decide +kernel
theorem dX2_typeOfLambda_53 : decode cX2_typeOfLambda 53 = .ok (.invokestatic 180, 3) := by decide +kernel
theorem dX2_typeOfLambda_56 : decode cX2_typeOfLambda 56 = .ok (.astore 6, 2) := by decide +kernel
theorem dX2_typeOfLambda_58 : decode cX2_typeOfLambda 58 = .ok (.aload 6, 2) := by decide +kernel
theorem dX2_typeOfLambda_60 : decode cX2_typeOfLambda 60 = .ok (.iload_n 3, 1) := by decide +kernel
theorem dX2_typeOfLambda_61 : decode cX2_typeOfLambda 61 = .ok (.iload 5, 2) := by decide +kernel
theorem dX2_typeOfLambda_63 : decode cX2_typeOfLambda 63 = .ok (.invokevirtual 177, 3) := by decide +kernel
theorem dX2_typeOfLambda_66 : decode cX2_typeOfLambda 66 = .ok (.aload 6, 2) := by decide +kernel
theorem dX2_typeOfLambda_68 : decode cX2_typeOfLambda 68 = .ok (.areturn, 1) := by decide +kernel
theorem dX2_neededRule_0 : decode cX2_neededRule 0 = .ok (.aload_n 0, 1) := by decide +kernel
theorem dX2_neededRule_1 : decode cX2_neededRule 1 = .ok (.getfield 19, 3) := by decide +kernel
theorem dX2_neededRule_4 : decode cX2_neededRule 4 = .ok (.iload_n 1, 1) := by decide +kernel
theorem dX2_neededRule_5 : decode cX2_neededRule 5 = .ok (.iload_n 2, 1) := by decide +kernel
theorem dX2_neededRule_6 : decode cX2_neededRule 6 = .ok (.invokevirtual 183, 3) := by decide +kernel
theorem dX2_neededRule_9 : decode cX2_neededRule 9 = .ok (.istore 4, 2) := by decide +kernel
theorem dX2_neededRule_11 : decode cX2_neededRule 11 = .ok (.iload 4, 2) := by decide +kernel
theorem dX2_neededRule_13 : decode cX2_neededRule 13 = .ok (.iconst (-1), 1) := by decide +kernel
theorem dX2_neededRule_14 : decode cX2_neededRule 14 = .ok (.if_icmp .ne 24, 3) := by decide +kernel
theorem dX2_neededRule_17 : decode cX2_neededRule 17 = .ok (.aload_n 0, 1) := by decide +kernel
theorem dX2_neededRule_18 : decode cX2_neededRule 18 = .ok (.getfield 27, 3) := by decide +kernel
theorem dX2_neededRule_21 : decode cX2_neededRule 21 = .ok (.bipush 9, 2) := by decide +kernel
theorem dX2_neededRule_23 : decode cX2_neededRule 23 = .ok (.aload_n 3, 1) := by decide +kernel
theorem dX2_neededRule_24 : decode cX2_neededRule 24 = .ok (.getfield 160, 3) := by decide +kernel
theorem dX2_neededRule_27 : decode cX2_neededRule 27 = .ok (.invokevirtual 76, 3) := by decide +kernel
theorem dX2_neededRule_30 : decode cX2_neededRule 30 = .ok (.new 82, 3) := by decide +kernel
theorem dX2_neededRule_33 : decode cX2_neededRule 33 = .ok (.dup, 1) := by decide +kernel
theorem dX2_neededRule_34 : decode cX2_neededRule 34 = .ok (.invokespecial 84, 3) := by decide +kernel
theorem dX2_neededRule_37 : decode cX2_neededRule 37 = .ok (.athrow, 1) := by decide +kernel
theorem dX2_neededRule_38 : decode cX2_neededRule 38 = .ok (.iload 4, 2) := by decide +kernel
theorem dX2_neededRule_40 : decode cX2_neededRule 40 = .ok (.ireturn, 1) := by decide +kernel
theorem dX3_init_0 : decode cX3_init 0 = .ok (.aload_n 0, 1) := by decide +kernel
theorem dX3_init_1 : decode cX3_init 1 = .ok (.invokespecial 1, 3) := by decide +kernel
theorem dX3_init_4 : decode cX3_init 4 = .ok (.aload_n 0, 1) := by decide +kernel
theorem dX3_init_5 : decode cX3_init 5 = .ok (.iload_n 1, 1) := by decide +kernel
theorem dX3_init_6 : decode cX3_init 6 = .ok (.putfield 7, 3) := by decide +kernel
theorem dX3_init_9 : decode cX3_init 9 = .ok (.aload_n 0, 1) := by decide +kernel
theorem dX3_init_10 : decode cX3_init 10 = .ok (.aload_n 2, 1) := by decide +kernel
theorem dX3_init_11 : decode cX3_init 11 = .ok (.putfield 13, 3) := by decide +kernel
theorem dX3_init_14 : decode cX3_init 14 = .ok (.aload_n 0, 1) := by decide +kernel
theorem dX3_init_15 : decode cX3_init 15 = .ok (.aload_n 3, 1) := by decide +kernel
theorem dX3_init_16 : decode cX3_init 16 = .ok (.putfield 17, 3) := by decide +kernel
theorem dX3_init_19 : decode cX3_init 19 = .ok (.aload_n 0, 1) := by decide +kernel
theorem dX3_init_20 : decode cX3_init 20 = .ok (.iconst 0, 1) := by decide +kernel
theorem dX3_init_21 : decode cX3_init 21 = .ok (.putfield 21, 3) := by decide +kernel
theorem dX3_init_24 : decode cX3_init 24 = .ok (.aload_n 0, 1) := by decide +kernel
theorem dX3_init_25 : decode cX3_init 25 = .ok (.aload 4, 2) := by decide +kernel
theorem dX3_init_27 : decode cX3_init 27 = .ok (.putfield 24, 3) := by decide +kernel
theorem dX3_init_30 : decode cX3_init 30 = .ok (.return_, 1) := by decide +kernel
theorem dX3_init__0 : decode cX3_init_ 0 = .ok (.aload_n 0, 1) := by decide +kernel
theorem dX3_init__1 : decode cX3_init_ 1 = .ok (.invokespecial 1, 3) := by decide +kernel
theorem dX3_init__4 : decode cX3_init_ 4 = .ok (.aload_n 0, 1) := by decide +kernel
theorem dX3_init__5 : decode cX3_init_ 5 = .ok (.iload_n 1, 1) := by decide +kernel
theorem dX3_init__6 : decode cX3_init_ 6 = .ok (.putfield 7, 3) := by decide +kernel
theorem dX3_init__9 : decode cX3_init_ 9 = .ok (.aload_n 0, 1) := by decide +kernel
theorem dX3_init__10 : decode cX3_init_ 10 = .ok (.aconst_null, 1) := by decide +kernel
theorem dX3_init__11 : decode cX3_init_ 11 = .ok (.putfield 13, 3) := by decide +kernel
theorem dX3_init__14 : decode cX3_init_ 14 = .ok (.aload_n 0, 1) := by decide +kernel
theorem dX3_init__15 : decode cX3_init_ 15 = .ok (.aconst_null, 1) := by decide +kernel
theorem dX3_init__16 : decode cX3_init_ 16 = .ok (.putfield 17, 3) := by decide +kernel
theorem dX3_init__19 : decode cX3_init_ 19 = .ok (.aload_n 0, 1) := by decide +kernel
theorem dX3_init__20 : decode cX3_init_ 20 = .ok (.iconst (-1), 1) := by decide +kernel
theorem dX3_init__21 : decode cX3_init_ 21 = .ok (.iload_n 2, 1) := by decide +kernel
theorem dX3_init__22 : decode cX3_init_ 22 = .ok (.isub, 1) := by decide +kernel
theorem dX3_init__23 : decode cX3_init_ 23 = .ok (.putfield 21, 3) := by decide +kernel
theorem dX3_init__26 : decode cX3_init_ 26 = .ok (.aload_n 0, 1) := by decide +kernel
theorem dX3_init__27 : decode cX3_init_ 27 = .ok (.aload_n 3, 1) := by decide +kernel
theorem dX3_init__28 : decode cX3_init_ 28 = .ok (.putfield 24, 3) := by decide +kernel
theorem dX3_init__31 : decode cX3_init_ 31 = .ok (.return_, 1) := by decide +kernel
theorem dX3_find_0 : decode cX3_find 0 = .ok (.aload_n 1, 1) := by decide +kernel
theorem dX3_find_1 : decode cX3_find 1 = .ok (.astore_n 2, 1) := by decide +kernel
theorem dX3_find_2 : decode cX3_find 2 = .ok (.aload_n 2, 1) := by decide +kernel
theorem dX3_find_3 : decode cX3_find 3 = .ok (.ifnull 21, 3) := by decide +kernel
theorem dX3_find_6 : decode cX3_find 6 = .ok (.aload_n 2, 1) := by decide +kernel
theorem dX3_find_7 : decode cX3_find 7 = .ok (.getfield 7, 3) := by decide +kernel
theorem dX3_find_10 : decode cX3_find 10 = .ok (.iload_n 0, 1) := by decide +kernel
theorem dX3_find_11 : decode cX3_find 11 = .ok (.if_icmp .ne 5, 3) := by decide +kernel
theorem dX3_find_14 : decode cX3_find 14 = .ok (.aload_n 2, 1) := by decide +kernel
theorem dX3_find_15 : decode cX3_find 15 = .ok (.areturn, 1) := by decide +kernel
theorem dX3_find_16 : decode cX3_find 16 = .ok (.aload_n 2, 1) := by decide +kernel
theorem dX3_find_17 : decode cX3_find 17 = .ok (.getfield 24, 3) := by decide +kernel
theorem dX3_find_20 : decode cX3_find 20 = .ok (.astore_n 2, 1) := by decide +kernel
theorem dX3_find_21 : decode cX3_find 21 = .ok (.goto (-19), 3) := by decide +kernel
theorem dX3_find_24 : decode cX3_find 24 = .ok (.aconst_null, 1) := by decide +kernel
theorem dX3_find_25 : decode cX3_find 25 = .ok (.areturn, 1) := by decide +kernel
theorem dX3_lengthOf_0 : decode cX3_lengthOf 0 = .ok (.iconst 0, 1) := by decide +kernel
theorem dX3_lengthOf_1 : decode cX3_lengthOf 1 = .ok (.istore_n 1, 1) := by decide +kernel
theorem dX3_lengthOf_2 : decode cX3_lengthOf 2 = .ok (.aload_n 0, 1) := by decide +kernel
