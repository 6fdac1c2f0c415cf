theorem dX3_lengthOf_3 : decode cX3_lengthOf 3 = .ok (.astore_n 2, 1) := by decide +kernel
theorem dX3_lengthOf_4 : decode cX3_lengthOf 4 = .ok (.aload_n 2, 1) := by decide +kernel
theorem dX3_lengthOf_5 : decode cX3_lengthOf 5 = .ok (.ifnull 14, 3) := by decide +kernel
theorem dX3_lengthOf_8 : decode cX3_lengthOf 8 = .ok (.iinc 1 1, 3) := by decide +kernel
theorem dX3_lengthOf_11 : decode cX3_lengthOf 11 = .ok (.aload_n 2, 1) := by decide +kernel
theorem dX3_lengthOf_12 : decode cX3_lengthOf 12 = .ok (.getfield 24, 3) := by decide +kernel
theorem dX3_lengthOf_15 : decode cX3_lengthOf 15 = .ok (.astore_n 2, 1) := by decide +kernel
theorem dX3_lengthOf_16 : decode cX3_lengthOf 16 = .ok (.goto (-12), 3) := by decide +kernel
theorem dX3_lengthOf_19 : decode cX3_lengthOf 19 = .ok (.iload_n 1, 1) := by decide +kernel
theorem dX3_lengthOf_20 : decode cX3_lengthOf 20 = .ok (.ireturn, 1) := by decide +kernel
theorem dX4_init_0 : decode cX4_init 0 = .ok (.aload_n 0, 1) := by decide +kernel
theorem dX4_init_1 : decode cX4_init 1 = .ok (.invokespecial 3, 3) := by decide +kernel
theorem dX4_init_4 : decode cX4_init 4 = .ok (.aload_n 0, 1) := by decide +kernel
theorem dX4_init_5 : decode cX4_init 5 = .ok (.bipush 7, 2) := by decide +kernel
theorem dX4_init_7 : decode cX4_init 7 = .ok (.newarray .int, 2) := by decide +kernel
theorem dX4_init_9 : decode cX4_init 9 = .ok (.putfield 9, 3) := by decide +kernel
theorem dX4_init_12 : decode cX4_init 12 = .ok (.aload_n 0, 1) := by decide +kernel
theorem dX4_init_13 : decode cX4_init 13 = .ok (.iconst 0, 1) := by decide +kernel
theorem dX4_init_14 : decode cX4_init 14 = .ok (.putfield 15, 3) := by decide +kernel
theorem dX4_init_17 : decode cX4_init 17 = .ok (.aload_n 0, 1) := by decide +kernel
theorem dX4_init_18 : decode cX4_init 18 = .ok (.sipush 5000, 3) := by decide +kernel
theorem dX4_init_21 : decode cX4_init 21 = .ok (.putfield 19, 3) := by decide +kernel
theorem dX4_init_24 : decode cX4_init 24 = .ok (.aload_n 0, 1) := by decide +kernel
theorem dX4_init_25 : decode cX4_init 25 = .ok (.iconst 0, 1) := by decide +kernel
theorem dX4_init_26 : decode cX4_init 26 = .ok (.putfield 22, 3) := by decide +kernel
theorem dX4_init_29 : decode cX4_init 29 = .ok (.aload_n 0, 1) := by decide +kernel
theorem dX4_init_30 : decode cX4_init 30 = .ok (.sipush 3000, 3) := by decide +kernel
theorem dX4_init_33 : decode cX4_init 33 = .ok (.newarray .byte, 2) := by decide +kernel
theorem dX4_init_35 : decode cX4_init 35 = .ok (.putfield 25, 3) := by decide +kernel
theorem dX4_init_38 : decode cX4_init 38 = .ok (.aload_n 0, 1) := by decide +kernel
theorem dX4_init_39 : decode cX4_init 39 = .ok (.iconst 0, 1) := by decide +kernel
theorem dX4_init_40 : decode cX4_init 40 = .ok (.putfield 29, 3) := by decide +kernel
theorem dX4_init_43 : decode cX4_init 43 = .ok (.aload_n 0, 1) := by decide +kernel
theorem dX4_init_44 : decode cX4_init 44 = .ok (.aload_n 1, 1) := by decide +kernel
theorem dX4_init_45 : decode cX4_init 45 = .ok (.putfield 32, 3) := by decide +kernel
theorem dX4_init_48 : decode cX4_init 48 = .ok (.aload_n 0, 1) := by decide +kernel
theorem dX4_init_49 : decode cX4_init 49 = .ok (.aload_n 2, 1) := by decide +kernel
theorem dX4_init_50 : decode cX4_init 50 = .ok (.putfield 36, 3) := by decide +kernel
theorem dX4_init_53 : decode cX4_init 53 = .ok (.return_, 1) := by decide +kernel
theorem dX4_begin_0 : decode cX4_begin 0 = .ok (.iconst 0, 1) := by decide +kernel
theorem dX4_begin_1 : decode cX4_begin 1 = .ok (.istore_n 2, 1) := by decide +kernel
theorem dX4_begin_2 : decode cX4_begin 2 = .ok (.iload_n 2, 1) := by decide +kernel
theorem dX4_begin_3 : decode cX4_begin 3 = .ok (.aload_n 0, 1) := by decide +kernel
theorem dX4_begin_4 : decode cX4_begin 4 = .ok (.getfield 9, 3) := by decide +kernel
theorem dX4_begin_7 : decode cX4_begin 7 = .ok (.arraylength, 1) := by decide +kernel
theorem dX4_begin_8 : decode cX4_begin 8 = .ok (.if_icmp .ge 16, 3) := by decide +kernel
theorem dX4_begin_11 : decode cX4_begin 11 = .ok (.aload_n 0, 1) := by decide +kernel
theorem dX4_begin_12 : decode cX4_begin 12 = .ok (.getfield 9, 3) := by decide +kernel
theorem dX4_begin_15 : decode cX4_begin 15 = .ok (.iload_n 2, 1) := by decide +kernel
theorem dX4_begin_16 : decode cX4_begin 16 = .ok (.iconst 0, 1) := by decide +kernel
theorem dX4_begin_17 : decode cX4_begin 17 = .ok (.iastore, 1) := by decide +kernel
theorem dX4_begin_18 : decode cX4_begin 18 = .ok (.iinc 2 1, 3) := by decide +kernel
theorem dX4_begin_21 : decode cX4_begin 21 = .ok (.goto (-19), 3) := by decide +kernel
theorem dX4_begin_24 : decode cX4_begin 24 = .ok (.aload_n 0, 1) := by decide +kernel
theorem dX4_begin_25 : decode cX4_begin 25 = .ok (.iload_n 1, 1) := by decide +kernel
theorem dX4_begin_26 : decode cX4_begin 26 = .ok (.putfield 22, 3) := by decide +kernel
theorem dX4_begin_29 : decode cX4_begin 29 = .ok (.return_, 1) := by decide +kernel
theorem dX4_areSame_0 : decode cX4_areSame 0 = .ok (.aload_n 0, 1) := by decide +kernel
theorem dX4_areSame_1 : decode cX4_areSame 1 = .ok (.aload_n 1, 1) := by decide +kernel
theorem dX4_areSame_2 : decode cX4_areSame 2 = .ok (.aconst_null, 1) := by decide +kernel
theorem dX4_areSame_3 : decode cX4_areSame 3 = .ok (.aload_n 2, 1) := by decide +kernel
theorem dX4_areSame_4 : decode cX4_areSame 4 = .ok (.aconst_null, 1) := by decide +kernel
theorem dX4_areSame_5 : decode cX4_areSame 5 = .ok (.iconst 0, 1) := by decide +kernel
theorem dX4_areSame_6 : decode cX4_areSame 6 = .ok (.iconst 0, 1) := by decide +kernel
theorem dX4_areSame_7 : decode cX4_areSame 7 = .ok (.invokevirtual 40, 3) := by decide +kernel
theorem dX4_areSame_10 : decode cX4_areSame 10 = .ok (.ireturn, 1) := by decide +kernel
theorem dX4_tellWhole_0 : decode cX4_tellWhole 0 = .ok (.aload_n 0, 1) := by decide +kernel
theorem dX4_tellWhole_1 : decode cX4_tellWhole 1 = .ok (.aload_n 1, 1) := by decide +kernel
theorem dX4_tellWhole_2 : decode cX4_tellWhole 2 = .ok (.aconst_null, 1) := by decide +kernel
theorem dX4_tellWhole_3 : decode cX4_tellWhole 3 = .ok (.iconst 0, 1) := by decide +kernel
theorem dX4_tellWhole_4 : decode cX4_tellWhole 4 = .ok (.iconst 0, 1) := by decide +kernel
theorem dX4_tellWhole_5 : decode cX4_tellWhole 5 = .ok (.iconst 0, 1) := by decide +kernel
theorem dX4_tellWhole_6 : decode cX4_tellWhole 6 = .ok (.invokevirtual 44, 3) := by decide +kernel
theorem dX4_tellWhole_9 : decode cX4_tellWhole 9 = .ok (.return_, 1) := by decide +kernel
theorem dX4_normalForm_0 : decode cX4_normalForm 0 = .ok (.aload_n 0, 1) := by decide +kernel
theorem dX4_normalForm_1 : decode cX4_normalForm 1 = .ok (.aload_n 1, 1) := by decide +kernel
theorem dX4_normalForm_2 : decode cX4_normalForm 2 = .ok (.aload_n 2, 1) := by decide +kernel
theorem dX4_normalForm_3 : decode cX4_normalForm 3 = .ok (.iconst 0, 1) := by decide +kernel
theorem dX4_normalForm_4 : decode cX4_normalForm 4 = .ok (.iconst 0, 1) := by decide +kernel
theorem dX4_normalForm_5 : decode cX4_normalForm 5 = .ok (.invokevirtual 48, 3) := by decide +kernel
theorem dX4_normalForm_8 : decode cX4_normalForm 8 = .ok (.areturn, 1) := by decide +kernel
theorem dX4_tellHead_0 : decode cX4_tellHead 0 = .ok (.aload_n 0, 1) := by decide +kernel
theorem dX4_tellHead_1 : decode cX4_tellHead 1 = .ok (.aload_n 1, 1) := by decide +kernel
theorem dX4_tellHead_2 : decode cX4_tellHead 2 = .ok (.aconst_null, 1) := by decide +kernel
theorem dX4_tellHead_3 : decode cX4_tellHead 3 = .ok (.invokevirtual 52, 3) := by decide +kernel
theorem dX4_tellHead_6 : decode cX4_tellHead 6 = .ok (.astore_n 2, 1) := by decide +kernel
theorem dX4_tellHead_7 : decode cX4_tellHead 7 = .ok (.aload_n 0, 1) := by decide +kernel
theorem dX4_tellHead_8 : decode cX4_tellHead 8 = .ok (.aload_n 2, 1) := by decide +kernel
theorem dX4_tellHead_9 : decode cX4_tellHead 9 = .ok (.invokevirtual 56, 3) := by decide +kernel
theorem dX4_tellHead_12 : decode cX4_tellHead 12 = .ok (.aload_n 0, 1) := by decide +kernel
theorem dX4_tellHead_13 : decode cX4_tellHead 13 = .ok (.bipush 32, 2) := by decide +kernel
theorem dX4_tellHead_15 : decode cX4_tellHead 15 = .ok (.invokevirtual 60, 3) := by decide +kernel
theorem dX4_tellHead_18 : decode cX4_tellHead 18 = .ok (.aload_n 0, 1) := by decide +kernel
theorem dX4_tellHead_19 : decode cX4_tellHead 19 = .ok (.aload_n 2, 1) := by decide +kernel
theorem dX4_tellHead_20 : decode cX4_tellHead 20 = .ok (.invokevirtual 64, 3) := by decide +kernel
theorem dX4_tellHead_23 : decode cX4_tellHead 23 = .ok (.ifCond .eq 7, 3) := by decide +kernel
theorem dX4_tellHead_26 : decode cX4_tellHead 26 = .ok (.iconst 0, 1) := by decide +kernel
theorem dX4_tellHead_27 : decode cX4_tellHead 27 = .ok (.goto 10, 3) := by decide +kernel
theorem dX4_tellHead_30 : decode cX4_tellHead 30 = .ok (.aload_n 2, 1) := by decide +kernel
theorem dX4_tellHead_31 : decode cX4_tellHead 31 = .ok (.getfield 70, 3) := by decide +kernel
theorem dX4_tellHead_34 : decode cX4_tellHead 34 = .ok (.invokestatic 74, 3) := by decide +kernel
theorem dX4_tellHead_37 : decode cX4_tellHead 37 = .ok (.invokevirtual 80, 3) := by decide +kernel
theorem dX4_tellHead_40 : decode cX4_tellHead 40 = .ok (.return_, 1) := by decide +kernel
theorem dX4_spend_0 : decode cX4_spend 0 = .ok (.aload_n 0, 1) := by decide +kernel
theorem dX4_spend_1 : decode cX4_spend 1 = .ok (.getfield 9, 3) := by decide +kernel
theorem dX4_spend_4 : decode cX4_spend 4 = .ok (.iconst 0, 1) := by decide +kernel
theorem dX4_spend_5 : decode cX4_spend 5 = .ok (.iaload, 1) := by decide +kernel
theorem dX4_spend_6 : decode cX4_spend 6 = .ok (.aload_n 0, 1) := by decide +kernel
theorem dX4_spend_7 : decode cX4_spend 7 = .ok (.getfield 19, 3) := by decide +kernel
theorem dX4_spend_10 : decode cX4_spend 10 = .ok (.if_icmp .lt 7, 3) := by decide +kernel
theorem dX4_spend_13 : decode cX4_spend 13 = .ok (.iconst 1, 1) := by decide +kernel
theorem dX4_spend_14 : decode cX4_spend 14 = .ok (.goto 4, 3) := by decide +kernel
theorem dX4_spend_17 : decode cX4_spend 17 = .ok (.iconst 0, 1) := by decide +kernel
theorem dX4_spend_18 : decode cX4_spend 18 = .ok (.istore_n 2, 1) := by decide +kernel
theorem dX4_spend_19 : decode cX4_spend 19 = .ok (.iload_n 2, 1) := by decide +kernel
theorem dX4_spend_20 : decode cX4_spend 20 = .ok (.ifCond .ne 12, 3) := by decide +kernel
theorem dX4_spend_23 : decode cX4_spend 23 = .ok (.aload_n 0, 1) := by decide +kernel
theorem dX4_spend_24 : decode cX4_spend 24 = .ok (.getfield 15, 3) := by decide +kernel
theorem dX4_spend_27 : decode cX4_spend 27 = .ok (.ldc 83, 2) := by decide +kernel
theorem dX4_spend_29 : decode cX4_spend 29 = .ok (.if_icmp .lt 40, 3) := by decide +kernel
theorem dX4_spend_32 : decode cX4_spend 32 = .ok (.aload_n 0, 1) := by decide +kernel
theorem dX4_spend_33 : decode cX4_spend 33 = .ok (.getfield 36, 3) := by decide +kernel
theorem dX4_spend_36 : decode cX4_spend 36 = .ok (.iload_n 2, 1) := by decide +kernel
theorem dX4_spend_37 : decode cX4_spend 37 = .ok (.ifCond .eq 8, 3) := by decide +kernel
theorem dX4_spend_40 : decode cX4_spend 40 = .ok (.bipush 12, 2) := by decide +kernel
theorem dX4_spend_42 : decode cX4_spend 42 = .ok (.goto 5, 3) := by decide +kernel
theorem dX4_spend_45 : decode cX4_spend 45 = .ok (.bipush 14, 2) := by decide +kernel
theorem dX4_spend_47 : decode cX4_spend 47 = .ok (.putfield 84, 3) := by decide +kernel
theorem dX4_spend_50 : decode cX4_spend 50 = .ok (.aload_n 0, 1) := by decide +kernel
theorem dX4_spend_51 : decode cX4_spend 51 = .ok (.getfield 36, 3) := by decide +kernel
theorem dX4_spend_54 : decode cX4_spend 54 = .ok (.aload_n 0, 1) := by decide +kernel
theorem dX4_spend_55 : decode cX4_spend 55 = .ok (.getfield 22, 3) := by decide +kernel
theorem dX4_spend_58 : decode cX4_spend 58 = .ok (.putfield 89, 3) := by decide +kernel
theorem dX4_spend_61 : decode cX4_spend 61 = .ok (.new 92, 3) := by decide +kernel
theorem dX4_spend_64 : decode cX4_spend 64 = .ok (.dup, 1) := by decide +kernel
theorem dX4_spend_65 : decode cX4_spend 65 = .ok (.invokespecial 94, 3) := by decide +kernel
theorem dX4_spend_68 : decode cX4_spend 68 = .ok (.athrow, 1) := by decide +kernel
theorem dX4_spend_69 : decode cX4_spend 69 = .ok (.aload_n 0, 1) := by decide +kernel
theorem dX4_spend_70 : decode cX4_spend 70 = .ok (.getfield 9, 3) := by decide +kernel
theorem dX4_spend_73 : decode cX4_spend 73 = .ok (.iconst 0, 1) := by decide +kernel
theorem dX4_spend_74 : decode cX4_spend 74 = .ok (.dup2, 1) := by decide +kernel
theorem dX4_spend_75 : decode cX4_spend 75 = .ok (.iaload, 1) := by decide +kernel
theorem dX4_spend_76 : decode cX4_spend 76 = .ok (.iconst 1, 1) := by decide +kernel
theorem dX4_spend_77 : decode cX4_spend 77 = .ok (.iadd, 1) := by decide +kernel
theorem dX4_spend_78 : decode cX4_spend 78 = .ok (.iastore, 1) := by decide +kernel
theorem dX4_spend_79 : decode cX4_spend 79 = .ok (.aload_n 0, 1) := by decide +kernel
theorem dX4_spend_80 : decode cX4_spend 80 = .ok (.getfield 9, 3) := by decide +kernel
theorem dX4_spend_83 : decode cX4_spend 83 = .ok (.iload_n 1, 1) := by decide +kernel
theorem dX4_spend_84 : decode cX4_spend 84 = .ok (.dup2, 1) := by decide +kernel
theorem dX4_spend_85 : decode cX4_spend 85 = .ok (.iaload, 1) := by decide +kernel
theorem dX4_spend_86 : decode cX4_spend 86 = .ok (.iconst 1, 1) := by decide +kernel
theorem dX4_spend_87 : decode cX4_spend 87 = .ok (.iadd, 1) := by decide +kernel
theorem dX4_spend_88 : decode cX4_spend 88 = .ok (.iastore, 1) := by decide +kernel
theorem dX4_spend_89 : decode cX4_spend 89 = .ok (.aload_n 0, 1) := by decide +kernel
theorem dX4_spend_90 : decode cX4_spend 90 = .ok (.dup, 1) := by decide +kernel
theorem dX4_spend_91 : decode cX4_spend 91 = .ok (.getfield 15, 3) := by decide +kernel
theorem dX4_spend_94 : decode cX4_spend 94 = .ok (.iconst 1, 1) := by decide +kernel
theorem dX4_spend_95 : decode cX4_spend 95 = .ok (.iadd, 1) := by decide +kernel
theorem dX4_spend_96 : decode cX4_spend 96 = .ok (.putfield 15, 3) := by decide +kernel
theorem dX4_spend_99 : decode cX4_spend 99 = .ok (.return_, 1) := by decide +kernel
theorem dX4_look_0 : decode cX4_look 0 = .ok (.iload_n 1, 1) := by decide +kernel
theorem dX4_look_1 : decode cX4_look 1 = .ok (.bipush 100, 2) := by decide +kernel
theorem dX4_look_3 : decode cX4_look 3 = .ok (.if_icmp .lt 7, 3) := by decide +kernel
theorem dX4_look_6 : decode cX4_look 6 = .ok (.iconst 1, 1) := by decide +kernel
theorem dX4_look_7 : decode cX4_look 7 = .ok (.goto 4, 3) := by decide +kernel
theorem dX4_look_10 : decode cX4_look 10 = .ok (.iconst 0, 1) := by decide +kernel
theorem dX4_look_11 : decode cX4_look 11 = .ok (.istore_n 2, 1) := by decide +kernel
theorem dX4_look_12 : decode cX4_look 12 = .ok (.iload_n 2, 1) := by decide +kernel
theorem dX4_look_13 : decode cX4_look 13 = .ok (.ifCond .eq 25, 3) := by decide +kernel
theorem dX4_look_16 : decode cX4_look 16 = .ok (.aload_n 0, 1) := by decide +kernel
theorem dX4_look_17 : decode cX4_look 17 = .ok (.getfield 9, 3) := by decide +kernel
theorem dX4_look_20 : decode cX4_look 20 = .ok (.iconst 0, 1) := by decide +kernel
theorem dX4_look_21 : decode cX4_look 21 = .ok (.iaload, 1) := by decide +kernel
theorem dX4_look_22 : decode cX4_look 22 = .ok (.aload_n 0, 1) := by decide +kernel
theorem dX4_look_23 : decode cX4_look 23 = .ok (.getfield 19, 3) := by decide +kernel
theorem dX4_look_26 : decode cX4_look 26 = .ok (.if_icmp .ge 18, 3) := by decide +kernel
theorem dX4_look_29 : decode cX4_look 29 = .ok (.aload_n 0, 1) := by decide +kernel
theorem dX4_look_30 : decode cX4_look 30 = .ok (.getfield 15, 3) := by decide +kernel
theorem dX4_look_33 : decode cX4_look 33 = .ok (.ldc 83, 2) := by decide +kernel
theorem dX4_look_35 : decode cX4_look 35 = .ok (.if_icmp .ge 9, 3) := by decide +kernel
theorem dX4_look_38 : decode cX4_look 38 = .ok (.aload_n 0, 1) := by decide +kernel
theorem dX4_look_39 : decode cX4_look 39 = .ok (.bipush 6, 2) := by decide +kernel
theorem dX4_look_41 : decode cX4_look 41 = .ok (.invokevirtual 95, 3) := by decide +kernel
theorem dX4_look_44 : decode cX4_look 44 = .ok (.iload_n 2, 1) := by decide +kernel
theorem dX4_look_45 : decode cX4_look 45 = .ok (.ifCond .eq 24, 3) := by decide +kernel
theorem dX4_look_48 : decode cX4_look 48 = .ok (.aload_n 0, 1) := by decide +kernel
theorem dX4_look_49 : decode cX4_look 49 = .ok (.getfield 36, 3) := by decide +kernel
theorem dX4_look_52 : decode cX4_look 52 = .ok (.bipush 13, 2) := by decide +kernel
theorem dX4_look_54 : decode cX4_look 54 = .ok (.aload_n 0, 1) := by decide +kernel
theorem dX4_look_55 : decode cX4_look 55 = .ok (.getfield 22, 3) := by decide +kernel
theorem dX4_look_58 : decode cX4_look 58 = .ok (.invokevirtual 98, 3) := by decide +kernel
theorem dX4_look_61 : decode cX4_look 61 = .ok (.new 92, 3) := by decide +kernel
theorem dX4_look_64 : decode cX4_look 64 = .ok (.dup, 1) := by decide +kernel
theorem dX4_look_65 : decode cX4_look 65 = .ok (.invokespecial 94, 3) := by decide +kernel
theorem dX4_look_68 : decode cX4_look 68 = .ok (.athrow, 1) := by decide +kernel
theorem dX4_look_69 : decode cX4_look 69 = .ok (.return_, 1) := by decide +kernel
theorem dX4_head_0 : decode cX4_head 0 = .ok (.aload_n 1, 1) := by decide +kernel
theorem dX4_head_1 : decode cX4_head 1 = .ok (.astore_n 3, 1) := by decide +kernel
theorem dX4_head_2 : decode cX4_head 2 = .ok (.aload_n 2, 1) := by decide +kernel
theorem dX4_head_3 : decode cX4_head 3 = .ok (.astore 4, 2) := by decide +kernel
theorem dX4_head_5 : decode cX4_head 5 = .ok (.aconst_null, 1) := by decide +kernel
theorem dX4_head_6 : decode cX4_head 6 = .ok (.astore 5, 2) := by decide +kernel
theorem dX4_head_8 : decode cX4_head 8 = .ok (.iconst 0, 1) := by decide +kernel
theorem dX4_head_9 : decode cX4_head 9 = .ok (.istore 6, 2) := by decide +kernel
theorem dX4_head_11 : decode cX4_head 11 = .ok (.iload 6, 2) := by decide +kernel
theorem dX4_head_13 : decode cX4_head 13 = .ok (.ldc 102, 2) := by decide +kernel
theorem dX4_head_15 : decode cX4_head 15 = .ok (.if_icmp .ge 322, 3) := by decide +kernel
theorem dX4_head_18 : decode cX4_head 18 = .ok (.aload_n 3, 1) := by decide +kernel
theorem dX4_head_19 : decode cX4_head 19 = .ok (.getfield 103, 3) := by decide +kernel
theorem dX4_head_22 : decode cX4_head 22 = .ok (.bipush 7, 2) := by decide +kernel
theorem dX4_head_24 : decode cX4_head 24 = .ok (.if_icmp .ne 57, 3) := by decide +kernel
theorem dX4_head_27 : decode cX4_head 27 = .ok (.aload_n 3, 1) := by decide +kernel
theorem dX4_head_28 : decode cX4_head 28 = .ok (.getfield 108, 3) := by decide +kernel
theorem dX4_head_31 : decode cX4_head 31 = .ok (.arraylength, 1) := by decide +kernel
theorem dX4_head_32 : decode cX4_head 32 = .ok (.iconst 1, 1) := by decide +kernel
theorem dX4_head_33 : decode cX4_head 33 = .ok (.isub, 1) := by decide +kernel
theorem dX4_head_34 : decode cX4_head 34 = .ok (.istore 7, 2) := by decide +kernel
theorem dX4_head_36 : decode cX4_head 36 = .ok (.iload 7, 2) := by decide +kernel
theorem dX4_head_38 : decode cX4_head 38 = .ok (.ifCond .lt 35, 3) := by decide +kernel
theorem dX4_head_41 : decode cX4_head 41 = .ok (.aload_n 0, 1) := by decide +kernel
theorem dX4_head_42 : decode cX4_head 42 = .ok (.iconst 4, 1) := by decide +kernel
theorem dX4_head_43 : decode cX4_head 43 = .ok (.invokevirtual 95, 3) := by decide +kernel
theorem dX4_head_46 : decode cX4_head 46 = .ok (.new 75, 3) := by decide +kernel
theorem dX4_head_49 : decode cX4_head 49 = .ok (.dup, 1) := by decide +kernel
theorem dX4_head_50 : decode cX4_head 50 = .ok (.iconst 0, 1) := by decide +kernel
theorem dX4_head_51 : decode cX4_head 51 = .ok (.aload_n 3, 1) := by decide +kernel
theorem dX4_head_52 : decode cX4_head 52 = .ok (.getfield 108, 3) := by decide +kernel
theorem dX4_head_55 : decode cX4_head 55 = .ok (.iload 7, 2) := by decide +kernel
theorem dX4_head_57 : decode cX4_head 57 = .ok (.aaload, 1) := by decide +kernel
theorem dX4_head_58 : decode cX4_head 58 = .ok (.aload 4, 2) := by decide +kernel
theorem dX4_head_60 : decode cX4_head 60 = .ok (.aload 5, 2) := by decide +kernel
theorem dX4_head_62 : decode cX4_head 62 = .ok (.invokespecial 111, 3) := by decide +kernel
theorem dX4_head_65 : decode cX4_head 65 = .ok (.astore 5, 2) := by decide +kernel
theorem dX4_head_67 : decode cX4_head 67 = .ok (.iinc 7 (-1), 3) := by decide +kernel
theorem dX4_head_70 : decode cX4_head 70 = .ok (.goto (-34), 3) := by decide +kernel
theorem dX4_head_73 : decode cX4_head 73 = .ok (.aload_n 3, 1) := by decide +kernel
theorem dX4_head_74 : decode cX4_head 74 = .ok (.getfield 114, 3) := by decide +kernel
theorem dX4_head_77 : decode cX4_head 77 = .ok (.astore_n 3, 1) := by decide +kernel
theorem dX4_head_78 : decode cX4_head 78 = .ok (.goto 253, 3) := by decide +kernel
theorem dX4_head_81 : decode cX4_head 81 = .ok (.aload_n 3, 1) := by decide +kernel
theorem dX4_head_82 : decode cX4_head 82 = .ok (.getfield 103, 3) := by decide +kernel
theorem dX4_head_85 : decode cX4_head 85 = .ok (.bipush 6, 2) := by decide +kernel
theorem dX4_head_87 : decode cX4_head 87 = .ok (.if_icmp .ne 37, 3) := by decide +kernel
theorem dX4_head_90 : decode cX4_head 90 = .ok (.aload_n 0, 1) := by decide +kernel
theorem dX4_head_91 : decode cX4_head 91 = .ok (.iconst 3, 1) := by decide +kernel
theorem dX4_head_92 : decode cX4_head 92 = .ok (.invokevirtual 95, 3) := by decide +kernel
theorem dX4_head_95 : decode cX4_head 95 = .ok (.new 75, 3) := by decide +kernel
theorem dX4_head_98 : decode cX4_head 98 = .ok (.dup, 1) := by decide +kernel
theorem dX4_head_99 : decode cX4_head 99 = .ok (.aload_n 3, 1) := by decide +kernel
theorem dX4_head_100 : decode cX4_head 100 = .ok (.getfield 118, 3) := by decide +kernel
theorem dX4_head_103 : decode cX4_head 103 = .ok (.aload_n 3, 1) := by decide +kernel
theorem dX4_head_104 : decode cX4_head 104 = .ok (.getfield 114, 3) := by decide +kernel
theorem dX4_head_107 : decode cX4_head 107 = .ok (.aload 4, 2) := by decide +kernel
theorem dX4_head_109 : decode cX4_head 109 = .ok (.aload 4, 2) := by decide +kernel
theorem dX4_head_111 : decode cX4_head 111 = .ok (.invokespecial 111, 3) := by decide +kernel
theorem dX4_head_114 : decode cX4_head 114 = .ok (.astore 4, 2) := by decide +kernel
theorem dX4_head_116 : decode cX4_head 116 = .ok (.aload_n 3, 1) := by decide +kernel
theorem dX4_head_117 : decode cX4_head 117 = .ok (.getfield 121, 3) := by decide +kernel
theorem dX4_head_120 : decode cX4_head 120 = .ok (.astore_n 3, 1) := by decide +kernel
theorem dX4_head_121 : decode cX4_head 121 = .ok (.goto 210, 3) := by decide +kernel
theorem dX4_head_124 : decode cX4_head 124 = .ok (.aload_n 3, 1) := by decide +kernel
theorem dX4_head_125 : decode cX4_head 125 = .ok (.getfield 103, 3) := by decide +kernel
theorem dX4_head_128 : decode cX4_head 128 = .ok (.iconst 4, 1) := by decide +kernel
theorem dX4_head_129 : decode cX4_head 129 = .ok (.if_icmp .ne 53, 3) := by decide +kernel
theorem dX4_head_132 : decode cX4_head 132 = .ok (.aload 5, 2) := by decide +kernel
theorem dX4_head_134 : decode cX4_head 134 = .ok (.ifnull 48, 3) := by decide +kernel
theorem dX4_head_137 : decode cX4_head 137 = .ok (.aload_n 0, 1) := by decide +kernel
theorem dX4_head_138 : decode cX4_head 138 = .ok (.iconst 1, 1) := by decide +kernel
theorem dX4_head_139 : decode cX4_head 139 = .ok (.invokevirtual 95, 3) := by decide +kernel
theorem dX4_head_142 : decode cX4_head 142 = .ok (.new 75, 3) := by decide +kernel
theorem dX4_head_145 : decode cX4_head 145 = .ok (.dup, 1) := by decide +kernel
theorem dX4_head_146 : decode cX4_head 146 = .ok (.aload_n 3, 1) := by decide +kernel
theorem dX4_head_147 : decode cX4_head 147 = .ok (.getfield 118, 3) := by decide +kernel
theorem dX4_head_150 : decode cX4_head 150 = .ok (.aload 5, 2) := by decide +kernel
theorem dX4_head_152 : decode cX4_head 152 = .ok (.getfield 124, 3) := by decide +kernel
theorem dX4_head_155 : decode cX4_head 155 = .ok (.aload 5, 2) := by decide +kernel
theorem dX4_head_157 : decode cX4_head 157 = .ok (.getfield 127, 3) := by decide +kernel
theorem dX4_head_160 : decode cX4_head 160 = .ok (.aload 4, 2) := by decide +kernel
theorem dX4_head_162 : decode cX4_head 162 = .ok (.invokespecial 111, 3) := by decide +kernel
theorem dX4_head_165 : decode cX4_head 165 = .ok (.astore 4, 2) := by decide +kernel
theorem dX4_head_167 : decode cX4_head 167 = .ok (.aload 5, 2) := by decide +kernel
theorem dX4_head_169 : decode cX4_head 169 = .ok (.getfield 130, 3) := by decide +kernel
theorem dX4_head_172 : decode cX4_head 172 = .ok (.astore 5, 2) := by decide +kernel
theorem dX4_head_174 : decode cX4_head 174 = .ok (.aload_n 3, 1) := by decide +kernel
theorem dX4_head_175 : decode cX4_head 175 = .ok (.getfield 121, 3) := by decide +kernel
theorem dX4_head_178 : decode cX4_head 178 = .ok (.astore_n 3, 1) := by decide +kernel
theorem dX4_head_179 : decode cX4_head 179 = .ok (.goto 152, 3) := by decide +kernel
theorem dX4_head_182 : decode cX4_head 182 = .ok (.aload_n 3, 1) := by decide +kernel
theorem dX4_head_183 : decode cX4_head 183 = .ok (.getfield 103, 3) := by decide +kernel
theorem dX4_head_186 : decode cX4_head 186 = .ok (.iconst 2, 1) := by decide +kernel
theorem dX4_head_187 : decode cX4_head 187 = .ok (.if_icmp .ne 40, 3) := by decide +kernel
theorem dX4_head_190 : decode cX4_head 190 = .ok (.aload_n 0, 1) := by decide +kernel
theorem dX4_head_191 : decode cX4_head 191 = .ok (.getfield 32, 3) := by decide +kernel
theorem dX4_head_194 : decode cX4_head 194 = .ok (.aload_n 3, 1) := by decide +kernel
theorem dX4_head_195 : decode cX4_head 195 = .ok (.getfield 118, 3) := by decide +kernel
theorem dX4_head_198 : decode cX4_head 198 = .ok (.invokevirtual 133, 3) := by decide +kernel
theorem dX4_head_201 : decode cX4_head 201 = .ok (.ifnull 26, 3) := by decide +kernel
theorem dX4_head_204 : decode cX4_head 204 = .ok (.aload_n 0, 1) := by decide +kernel
theorem dX4_head_205 : decode cX4_head 205 = .ok (.iconst 2, 1) := by decide +kernel
theorem dX4_head_206 : decode cX4_head 206 = .ok (.invokevirtual 95, 3) := by decide +kernel
theorem dX4_head_209 : decode cX4_head 209 = .ok (.aload_n 0, 1) := by decide +kernel
theorem dX4_head_210 : decode cX4_head 210 = .ok (.getfield 32, 3) := by decide +kernel
theorem dX4_head_213 : decode cX4_head 213 = .ok (.aload_n 3, 1) := by decide +kernel
theorem dX4_head_214 : decode cX4_head 214 = .ok (.getfield 118, 3) := by decide +kernel
theorem dX4_head_217 : decode cX4_head 217 = .ok (.invokevirtual 133, 3) := by decide +kernel
theorem dX4_head_220 : decode cX4_head 220 = .ok (.astore_n 3, 1) := by decide +kernel
theorem dX4_head_221 : decode cX4_head 221 = .ok (.aconst_null, 1) := by decide +kernel
theorem dX4_head_222 : decode cX4_head 222 = .ok (.astore 4, 2) := by decide +kernel
theorem dX4_head_224 : decode cX4_head 224 = .ok (.goto 107, 3) := by decide +kernel
theorem dX4_head_227 : decode cX4_head 227 = .ok (.aload_n 3, 1) := by decide +kernel
theorem dX4_head_228 : decode cX4_head 228 = .ok (.getfield 103, 3) := by decide +kernel
theorem dX4_head_231 : decode cX4_head 231 = .ok (.iconst 3, 1) := by decide +kernel
theorem dX4_head_232 : decode cX4_head 232 = .ok (.if_icmp .ne 82, 3) := by decide +kernel
theorem dX4_head_235 : decode cX4_head 235 = .ok (.aload_n 3, 1) := by decide +kernel
theorem dX4_head_236 : decode cX4_head 236 = .ok (.getfield 118, 3) := by decide +kernel
theorem dX4_head_239 : decode cX4_head 239 = .ok (.aload 4, 2) := by decide +kernel
theorem dX4_head_241 : decode cX4_head 241 = .ok (.invokestatic 139, 3) := by decide +kernel
theorem dX4_head_244 : decode cX4_head 244 = .ok (.astore 7, 2) := by decide +kernel
theorem dX4_head_246 : decode cX4_head 246 = .ok (.aload 7, 2) := by decide +kernel
theorem dX4_head_248 : decode cX4_head 248 = .ok (.ifnull 11, 3) := by decide +kernel
theorem dX4_head_251 : decode cX4_head 251 = .ok (.aload 7, 2) := by decide +kernel
theorem dX4_head_253 : decode cX4_head 253 = .ok (.getfield 124, 3) := by decide +kernel
theorem dX4_head_256 : decode cX4_head 256 = .ok (.ifnonnull 37, 3) := by decide +kernel
theorem dX4_head_259 : decode cX4_head 259 = .ok (.aload 7, 2) := by decide +kernel
theorem dX4_head_261 : decode cX4_head 261 = .ok (.ifnonnull 10, 3) := by decide +kernel
theorem dX4_head_264 : decode cX4_head 264 = .ok (.aload_n 3, 1) := by decide +kernel
theorem dX4_head_265 : decode cX4_head 265 = .ok (.getfield 118, 3) := by decide +kernel
theorem dX4_head_268 : decode cX4_head 268 = .ok (.goto 8, 3) := by decide +kernel
theorem dX4_head_271 : decode cX4_head 271 = .ok (.aload 7, 2) := by decide +kernel
theorem dX4_head_273 : decode cX4_head 273 = .ok (.getfield 143, 3) := by decide +kernel
theorem dX4_head_276 : decode cX4_head 276 = .ok (.istore 8, 2) := by decide +kernel
theorem dX4_head_278 : decode cX4_head 278 = .ok (.new 65, 3) := by decide +kernel
theorem dX4_head_281 : decode cX4_head 281 = .ok (.dup, 1) := by decide +kernel
theorem dX4_head_282 : decode cX4_head 282 = .ok (.aload_n 3, 1) := by decide +kernel
theorem dX4_head_283 : decode cX4_head 283 = .ok (.iload 8, 2) := by decide +kernel
theorem dX4_head_285 : decode cX4_head 285 = .ok (.aload 4, 2) := by decide +kernel
theorem dX4_head_287 : decode cX4_head 287 = .ok (.aload 5, 2) := by decide +kernel
theorem dX4_head_289 : decode cX4_head 289 = .ok (.invokespecial 146, 3) := by decide +kernel
theorem dX4_head_292 : decode cX4_head 292 = .ok (.areturn, 1) := by decide +kernel
theorem dX4_head_293 : decode cX4_head 293 = .ok (.aload_n 0, 1) := by decide +kernel
theorem dX4_head_294 : decode cX4_head 294 = .ok (.iconst 5, 1) := by decide +kernel
theorem dX4_head_295 : decode cX4_head 295 = .ok (.invokevirtual 95, 3) := by decide +kernel
theorem dX4_head_298 : decode cX4_head 298 = .ok (.aload 7, 2) := by decide +kernel
theorem dX4_head_300 : decode cX4_head 300 = .ok (.getfield 124, 3) := by decide +kernel
theorem dX4_head_303 : decode cX4_head 303 = .ok (.astore_n 3, 1) := by decide +kernel
theorem dX4_head_304 : decode cX4_head 304 = .ok (.aload 7, 2) := by decide +kernel
theorem dX4_head_306 : decode cX4_head 306 = .ok (.getfield 127, 3) := by decide +kernel
theorem dX4_head_309 : decode cX4_head 309 = .ok (.astore 4, 2) := by decide +kernel
theorem dX4_head_311 : decode cX4_head 311 = .ok (.goto 20, 3) := by decide +kernel
theorem dX4_head_314 : decode cX4_head 314 = .ok (.new 65, 3) := by decide +kernel
theorem dX4_head_317 : decode cX4_head 317 = .ok (.dup, 1) := by decide +kernel
theorem dX4_head_318 : decode cX4_head 318 = .ok (.aload_n 3, 1) := by decide +kernel
theorem dX4_head_319 : decode cX4_head 319 = .ok (.aload_n 3, 1) := by decide +kernel
theorem dX4_head_320 : decode cX4_head 320 = .ok (.getfield 118, 3) := by decide +kernel
theorem dX4_head_323 : decode cX4_head 323 = .ok (.aload 4, 2) := by decide +kernel
theorem dX4_head_325 : decode cX4_head 325 = .ok (.aload 5, 2) := by decide +kernel
theorem dX4_head_327 : decode cX4_head 327 = .ok (.invokespecial 146, 3) := by decide +kernel
theorem dX4_head_330 : decode cX4_head 330 = .ok (.areturn, 1) := by decide +kernel
theorem dX4_head_331 : decode cX4_head 331 = .ok (.iinc 6 1, 3) := by decide +kernel
theorem dX4_head_334 : decode cX4_head 334 = .ok (.goto (-323), 3) := by decide +kernel
theorem dX4_head_337 : decode cX4_head 337 = .ok (.new 65, 3) := by decide +kernel
theorem dX4_head_340 : decode cX4_head 340 = .ok (.dup, 1) := by decide +kernel
theorem dX4_head_341 : decode cX4_head 341 = .ok (.aload_n 3, 1) := by decide +kernel
theorem dX4_head_342 : decode cX4_head 342 = .ok (.aload_n 3, 1) := by decide +kernel
theorem dX4_head_343 : decode cX4_head 343 = .ok (.getfield 118, 3) := by decide +kernel
theorem dX4_head_346 : decode cX4_head 346 = .ok (.aload 4, 2) := by decide +kernel
theorem dX4_head_348 : decode cX4_head 348 = .ok (.aload 5, 2) := by decide +kernel
theorem dX4_head_350 : decode cX4_head 350 = .ok (.invokespecial 146, 3) := by decide +kernel
theorem dX4_head_353 : decode cX4_head 353 = .ok (.areturn, 1) := by decide +kernel
theorem dX4_compare_0 : decode cX4_compare 0 = .ok (.aload_n 0, 1) := by decide +kernel
theorem dX4_compare_1 : decode cX4_compare 1 = .ok (.iload 6, 2) := by decide +kernel
theorem dX4_compare_3 : decode cX4_compare 3 = .ok (.invokevirtual 149, 3) := by decide +kernel
theorem dX4_compare_6 : decode cX4_compare 6 = .ok (.aload_n 0, 1) := by decide +kernel
theorem dX4_compare_7 : decode cX4_compare 7 = .ok (.aload_n 1, 1) := by decide +kernel
theorem dX4_compare_8 : decode cX4_compare 8 = .ok (.aload_n 2, 1) := by decide +kernel
theorem dX4_compare_9 : decode cX4_compare 9 = .ok (.invokevirtual 52, 3) := by decide +kernel
theorem dX4_compare_12 : decode cX4_compare 12 = .ok (.astore 7, 2) := by decide +kernel
theorem dX4_compare_14 : decode cX4_compare 14 = .ok (.aload_n 0, 1) := by decide +kernel
theorem dX4_compare_15 : decode cX4_compare 15 = .ok (.aload_n 3, 1) := by decide +kernel
theorem dX4_compare_16 : decode cX4_compare 16 = .ok (.aload 4, 2) := by decide +kernel
theorem dX4_compare_18 : decode cX4_compare 18 = .ok (.invokevirtual 52, 3) := by decide +kernel
theorem dX4_compare_21 : decode cX4_compare 21 = .ok (.astore 8, 2) := by decide +kernel
theorem dX4_compare_23 : decode cX4_compare 23 = .ok (.aload 7, 2) := by decide +kernel
theorem dX4_compare_25 : decode cX4_compare 25 = .ok (.getfield 152, 3) := by decide +kernel
theorem dX4_compare_28 : decode cX4_compare 28 = .ok (.getfield 103, 3) := by decide +kernel
theorem dX4_compare_31 : decode cX4_compare 31 = .ok (.aload 8, 2) := by decide +kernel
theorem dX4_compare_33 : decode cX4_compare 33 = .ok (.getfield 152, 3) := by decide +kernel
theorem dX4_compare_36 : decode cX4_compare 36 = .ok (.getfield 103, 3) := by decide +kernel
theorem dX4_compare_39 : decode cX4_compare 39 = .ok (.if_icmp .eq 5, 3) := by decide +kernel
theorem dX4_compare_42 : decode cX4_compare 42 = .ok (.iconst 0, 1) := by decide +kernel
theorem dX4_compare_43 : decode cX4_compare 43 = .ok (.ireturn, 1) := by decide +kernel
theorem dX4_compare_44 : decode cX4_compare 44 = .ok (.aload 7, 2) := by decide +kernel
theorem dX4_compare_46 : decode cX4_compare 46 = .ok (.invokevirtual 64, 3) := by decide +kernel
theorem dX4_compare_49 : decode cX4_compare 49 = .ok (.ifCond .eq 93, 3) := by decide +kernel
theorem dX4_compare_52 : decode cX4_compare 52 = .ok (.aload_n 0, 1) := by decide +kernel
theorem dX4_compare_53 : decode cX4_compare 53 = .ok (.aload 7, 2) := by decide +kernel
theorem dX4_compare_55 : decode cX4_compare 55 = .ok (.getfield 152, 3) := by decide +kernel
theorem dX4_compare_58 : decode cX4_compare 58 = .ok (.getfield 114, 3) := by decide +kernel
theorem dX4_compare_61 : decode cX4_compare 61 = .ok (.aload 7, 2) := by decide +kernel
theorem dX4_compare_63 : decode cX4_compare 63 = .ok (.getfield 155, 3) := by decide +kernel
theorem dX4_compare_66 : decode cX4_compare 66 = .ok (.aload 8, 2) := by decide +kernel
theorem dX4_compare_68 : decode cX4_compare 68 = .ok (.getfield 152, 3) := by decide +kernel
theorem dX4_compare_71 : decode cX4_compare 71 = .ok (.getfield 114, 3) := by decide +kernel
theorem dX4_compare_74 : decode cX4_compare 74 = .ok (.aload 8, 2) := by decide +kernel
theorem dX4_compare_76 : decode cX4_compare 76 = .ok (.getfield 155, 3) := by decide +kernel
theorem dX4_compare_79 : decode cX4_compare 79 = .ok (.iload 5, 2) := by decide +kernel
theorem dX4_compare_81 : decode cX4_compare 81 = .ok (.iload 6, 2) := by decide +kernel
theorem dX4_compare_83 : decode cX4_compare 83 = .ok (.iconst 1, 1) := by decide +kernel
theorem dX4_compare_84 : decode cX4_compare 84 = .ok (.iadd, 1) := by decide +kernel
theorem dX4_compare_85 : decode cX4_compare 85 = .ok (.invokevirtual 40, 3) := by decide +kernel
theorem dX4_compare_88 : decode cX4_compare 88 = .ok (.ifCond .eq 52, 3) := by decide +kernel
theorem dX4_compare_91 : decode cX4_compare 91 = .ok (.aload_n 0, 1) := by decide +kernel
theorem dX4_compare_92 : decode cX4_compare 92 = .ok (.aload 7, 2) := by decide +kernel
theorem dX4_compare_94 : decode cX4_compare 94 = .ok (.getfield 152, 3) := by decide +kernel
theorem dX4_compare_97 : decode cX4_compare 97 = .ok (.getfield 121, 3) := by decide +kernel
theorem dX4_compare_100 : decode cX4_compare 100 = .ok (.aload 7, 2) := by decide +kernel
theorem dX4_compare_102 : decode cX4_compare 102 = .ok (.iload 5, 2) := by decide +kernel
theorem dX4_compare_104 : decode cX4_compare 104 = .ok (.invokevirtual 156, 3) := by decide +kernel
theorem dX4_compare_107 : decode cX4_compare 107 = .ok (.aload 8, 2) := by decide +kernel
theorem dX4_compare_109 : decode cX4_compare 109 = .ok (.getfield 152, 3) := by decide +kernel
theorem dX4_compare_112 : decode cX4_compare 112 = .ok (.getfield 121, 3) := by decide +kernel
theorem dX4_compare_115 : decode cX4_compare 115 = .ok (.aload 8, 2) := by decide +kernel
theorem dX4_compare_117 : decode cX4_compare 117 = .ok (.iload 5, 2) := by decide +kernel
theorem dX4_compare_119 : decode cX4_compare 119 = .ok (.invokevirtual 156, 3) := by decide +kernel
theorem dX4_compare_122 : decode cX4_compare 122 = .ok (.iload 5, 2) := by decide +kernel
theorem dX4_compare_124 : decode cX4_compare 124 = .ok (.iconst 1, 1) := by decide +kernel
theorem dX4_compare_125 : decode cX4_compare 125 = .ok (.iadd, 1) := by decide +kernel
theorem dX4_compare_126 : decode cX4_compare 126 = .ok (.iload 6, 2) := by decide +kernel
theorem dX4_compare_128 : decode cX4_compare 128 = .ok (.iconst 1, 1) := by decide +kernel
theorem dX4_compare_129 : decode cX4_compare 129 = .ok (.iadd, 1) := by decide +kernel
theorem dX4_compare_130 : decode cX4_compare 130 = .ok (.invokevirtual 40, 3) := by decide +kernel
theorem dX4_compare_133 : decode cX4_compare 133 = .ok (.ifCond .eq 7, 3) := by decide +kernel
theorem dX4_compare_136 : decode cX4_compare 136 = .ok (.iconst 1, 1) := by decide +kernel
theorem dX4_compare_137 : decode cX4_compare 137 = .ok (.goto 4, 3) := by decide +kernel
theorem dX4_compare_140 : decode cX4_compare 140 = .ok (.iconst 0, 1) := by decide +kernel
theorem dX4_compare_141 : decode cX4_compare 141 = .ok (.ireturn, 1) := by decide +kernel
theorem dX4_compare_142 : decode cX4_compare 142 = .ok (.aload 7, 2) := by decide +kernel
theorem dX4_compare_144 : decode cX4_compare 144 = .ok (.getfield 160, 3) := by decide +kernel
theorem dX4_compare_147 : decode cX4_compare 147 = .ok (.aload 8, 2) := by decide +kernel
theorem dX4_compare_149 : decode cX4_compare 149 = .ok (.getfield 160, 3) := by decide +kernel
theorem dX4_compare_152 : decode cX4_compare 152 = .ok (.if_icmp .ne 22, 3) := by decide +kernel
theorem dX4_compare_155 : decode cX4_compare 155 = .ok (.aload 7, 2) := by decide +kernel
theorem dX4_compare_157 : decode cX4_compare 157 = .ok (.getfield 70, 3) := by decide +kernel
theorem dX4_compare_160 : decode cX4_compare 160 = .ok (.invokestatic 74, 3) := by decide +kernel
theorem dX4_compare_163 : decode cX4_compare 163 = .ok (.aload 8, 2) := by decide +kernel
theorem dX4_compare_165 : decode cX4_compare 165 = .ok (.getfield 70, 3) := by decide +kernel
theorem dX4_compare_168 : decode cX4_compare 168 = .ok (.invokestatic 74, 3) := by decide +kernel
theorem dX4_compare_171 : decode cX4_compare 171 = .ok (.if_icmp .eq 5, 3) := by decide +kernel
theorem dX4_compare_174 : decode cX4_compare 174 = .ok (.iconst 0, 1) := by decide +kernel
theorem dX4_compare_175 : decode cX4_compare 175 = .ok (.ireturn, 1) := by decide +kernel
theorem dX4_compare_176 : decode cX4_compare 176 = .ok (.aload 8, 2) := by decide +kernel
theorem dX4_compare_178 : decode cX4_compare 178 = .ok (.getfield 70, 3) := by decide +kernel
theorem dX4_compare_181 : decode cX4_compare 181 = .ok (.astore 9, 2) := by decide +kernel
theorem dX4_compare_183 : decode cX4_compare 183 = .ok (.aload 7, 2) := by decide +kernel
theorem dX4_compare_185 : decode cX4_compare 185 = .ok (.getfield 70, 3) := by decide +kernel
theorem dX4_compare_188 : decode cX4_compare 188 = .ok (.astore 10, 2) := by decide +kernel
theorem dX4_compare_190 : decode cX4_compare 190 = .ok (.aload 10, 2) := by decide +kernel
theorem dX4_compare_192 : decode cX4_compare 192 = .ok (.ifnull 60, 3) := by decide +kernel
theorem dX4_compare_195 : decode cX4_compare 195 = .ok (.aload 9, 2) := by decide +kernel
theorem dX4_compare_197 : decode cX4_compare 197 = .ok (.ifnull 55, 3) := by decide +kernel
theorem dX4_compare_200 : decode cX4_compare 200 = .ok (.aload_n 0, 1) := by decide +kernel
theorem dX4_compare_201 : decode cX4_compare 201 = .ok (.aload 10, 2) := by decide +kernel
theorem dX4_compare_203 : decode cX4_compare 203 = .ok (.getfield 124, 3) := by decide +kernel
theorem dX4_compare_206 : decode cX4_compare 206 = .ok (.aload 10, 2) := by decide +kernel
theorem dX4_compare_208 : decode cX4_compare 208 = .ok (.getfield 127, 3) := by decide +kernel
theorem dX4_compare_211 : decode cX4_compare 211 = .ok (.aload 9, 2) := by decide +kernel
theorem dX4_compare_213 : decode cX4_compare 213 = .ok (.getfield 124, 3) := by decide +kernel
theorem dX4_compare_216 : decode cX4_compare 216 = .ok (.aload 9, 2) := by decide +kernel
theorem dX4_compare_218 : decode cX4_compare 218 = .ok (.getfield 127, 3) := by decide +kernel
theorem dX4_compare_221 : decode cX4_compare 221 = .ok (.iload 5, 2) := by decide +kernel
theorem dX4_compare_223 : decode cX4_compare 223 = .ok (.iload 6, 2) := by decide +kernel
theorem dX4_compare_225 : decode cX4_compare 225 = .ok (.iconst 1, 1) := by decide +kernel
theorem dX4_compare_226 : decode cX4_compare 226 = .ok (.iadd, 1) := by decide +kernel
theorem dX4_compare_227 : decode cX4_compare 227 = .ok (.invokevirtual 40, 3) := by decide +kernel
theorem dX4_compare_230 : decode cX4_compare 230 = .ok (.ifCond .ne 5, 3) := by decide +kernel
theorem dX4_compare_233 : decode cX4_compare 233 = .ok (.iconst 0, 1) := by decide +kernel
theorem dX4_compare_234 : decode cX4_compare 234 = .ok (.ireturn, 1) := by decide +kernel
theorem dX4_compare_235 : decode cX4_compare 235 = .ok (.aload 9, 2) := by decide +kernel
theorem dX4_compare_237 : decode cX4_compare 237 = .ok (.getfield 130, 3) := by decide +kernel
theorem dX4_compare_240 : decode cX4_compare 240 = .ok (.astore 9, 2) := by decide +kernel
theorem dX4_compare_242 : decode cX4_compare 242 = .ok (.aload 10, 2) := by decide +kernel
theorem dX4_compare_244 : decode cX4_compare 244 = .ok (.getfield 130, 3) := by decide +kernel
theorem dX4_compare_247 : decode cX4_compare 247 = .ok (.astore 10, 2) := by decide +kernel
theorem dX4_compare_249 : decode cX4_compare 249 = .ok (.goto (-59), 3) := by decide +kernel
theorem dX4_compare_252 : decode cX4_compare 252 = .ok (.iconst 1, 1) := by decide +kernel
theorem dX4_compare_253 : decode cX4_compare 253 = .ok (.ireturn, 1) := by decide +kernel
theorem dX4_tell_0 : decode cX4_tell 0 = .ok (.aload_n 0, 1) := by decide +kernel
theorem dX4_tell_1 : decode cX4_tell 1 = .ok (.iload 4, 2) := by decide +kernel
theorem dX4_tell_3 : decode cX4_tell 3 = .ok (.invokevirtual 149, 3) := by decide +kernel
theorem dX4_tell_6 : decode cX4_tell 6 = .ok (.aload_n 0, 1) := by decide +kernel
theorem dX4_tell_7 : decode cX4_tell 7 = .ok (.aload_n 1, 1) := by decide +kernel
theorem dX4_tell_8 : decode cX4_tell 8 = .ok (.aload_n 2, 1) := by decide +kernel
theorem dX4_tell_9 : decode cX4_tell 9 = .ok (.invokevirtual 52, 3) := by decide +kernel
theorem dX4_tell_12 : decode cX4_tell 12 = .ok (.astore 6, 2) := by decide +kernel
theorem dX4_tell_14 : decode cX4_tell 14 = .ok (.aload 6, 2) := by decide +kernel
theorem dX4_tell_16 : decode cX4_tell 16 = .ok (.invokevirtual 64, 3) := by decide +kernel
theorem dX4_tell_19 : decode cX4_tell 19 = .ok (.istore 7, 2) := by decide +kernel
theorem dX4_tell_21 : decode cX4_tell 21 = .ok (.iload 7, 2) := by decide +kernel
theorem dX4_tell_23 : decode cX4_tell 23 = .ok (.ifCond .eq 16, 3) := by decide +kernel
theorem dX4_tell_26 : decode cX4_tell 26 = .ok (.iload 5, 2) := by decide +kernel
theorem dX4_tell_28 : decode cX4_tell 28 = .ok (.ifCond .eq 7, 3) := by decide +kernel
theorem dX4_tell_31 : decode cX4_tell 31 = .ok (.iconst 1, 1) := by decide +kernel
theorem dX4_tell_32 : decode cX4_tell 32 = .ok (.goto 26, 3) := by decide +kernel
theorem dX4_tell_35 : decode cX4_tell 35 = .ok (.iconst 0, 1) := by decide +kernel
theorem dX4_tell_36 : decode cX4_tell 36 = .ok (.goto 22, 3) := by decide +kernel
theorem dX4_tell_39 : decode cX4_tell 39 = .ok (.iload 5, 2) := by decide +kernel
theorem dX4_tell_41 : decode cX4_tell 41 = .ok (.iconst 2, 1) := by decide +kernel
theorem dX4_tell_42 : decode cX4_tell 42 = .ok (.if_icmp .ne 15, 3) := by decide +kernel
theorem dX4_tell_45 : decode cX4_tell 45 = .ok (.aload 6, 2) := by decide +kernel
theorem dX4_tell_47 : decode cX4_tell 47 = .ok (.getfield 70, 3) := by decide +kernel
theorem dX4_tell_50 : decode cX4_tell 50 = .ok (.ifnull 7, 3) := by decide +kernel
theorem dX4_tell_53 : decode cX4_tell 53 = .ok (.iconst 1, 1) := by decide +kernel
theorem dX4_tell_54 : decode cX4_tell 54 = .ok (.goto 4, 3) := by decide +kernel
theorem dX4_tell_57 : decode cX4_tell 57 = .ok (.iconst 0, 1) := by decide +kernel
theorem dX4_tell_58 : decode cX4_tell 58 = .ok (.istore 8, 2) := by decide +kernel
theorem dX4_tell_60 : decode cX4_tell 60 = .ok (.iload 8, 2) := by decide +kernel
theorem dX4_tell_62 : decode cX4_tell 62 = .ok (.ifCond .eq 9, 3) := by decide +kernel
theorem dX4_tell_65 : decode cX4_tell 65 = .ok (.aload_n 0, 1) := by decide +kernel
theorem dX4_tell_66 : decode cX4_tell 66 = .ok (.bipush 40, 2) := by decide +kernel
theorem dX4_tell_68 : decode cX4_tell 68 = .ok (.invokevirtual 60, 3) := by decide +kernel
theorem dX4_tell_71 : decode cX4_tell 71 = .ok (.aload_n 0, 1) := by decide +kernel
theorem dX4_tell_72 : decode cX4_tell 72 = .ok (.aload 6, 2) := by decide +kernel
theorem dX4_tell_74 : decode cX4_tell 74 = .ok (.invokevirtual 56, 3) := by decide +kernel
theorem dX4_tell_77 : decode cX4_tell 77 = .ok (.iload 7, 2) := by decide +kernel
theorem dX4_tell_79 : decode cX4_tell 79 = .ok (.ifCond .eq 78, 3) := by decide +kernel
theorem dX4_tell_82 : decode cX4_tell 82 = .ok (.aload_n 0, 1) := by decide +kernel
theorem dX4_tell_83 : decode cX4_tell 83 = .ok (.bipush 95, 2) := by decide +kernel
theorem dX4_tell_85 : decode cX4_tell 85 = .ok (.invokevirtual 60, 3) := by decide +kernel
theorem dX4_tell_88 : decode cX4_tell 88 = .ok (.aload_n 0, 1) := by decide +kernel
theorem dX4_tell_89 : decode cX4_tell 89 = .ok (.iload_n 3, 1) := by decide +kernel
theorem dX4_tell_90 : decode cX4_tell 90 = .ok (.invokevirtual 80, 3) := by decide +kernel
theorem dX4_tell_93 : decode cX4_tell 93 = .ok (.aload_n 0, 1) := by decide +kernel
theorem dX4_tell_94 : decode cX4_tell 94 = .ok (.bipush 58, 2) := by decide +kernel
theorem dX4_tell_96 : decode cX4_tell 96 = .ok (.invokevirtual 60, 3) := by decide +kernel
theorem dX4_tell_99 : decode cX4_tell 99 = .ok (.aload_n 0, 1) := by decide +kernel
theorem dX4_tell_100 : decode cX4_tell 100 = .ok (.aload 6, 2) := by decide +kernel
theorem dX4_tell_102 : decode cX4_tell 102 = .ok (.getfield 152, 3) := by decide +kernel
theorem dX4_tell_105 : decode cX4_tell 105 = .ok (.getfield 114, 3) := by decide +kernel
theorem dX4_tell_108 : decode cX4_tell 108 = .ok (.aload 6, 2) := by decide +kernel
theorem dX4_tell_110 : decode cX4_tell 110 = .ok (.getfield 155, 3) := by decide +kernel
theorem dX4_tell_113 : decode cX4_tell 113 = .ok (.iload_n 3, 1) := by decide +kernel
theorem dX4_tell_114 : decode cX4_tell 114 = .ok (.iload 4, 2) := by decide +kernel
theorem dX4_tell_116 : decode cX4_tell 116 = .ok (.iconst 1, 1) := by decide +kernel
theorem dX4_tell_117 : decode cX4_tell 117 = .ok (.iadd, 1) := by decide +kernel
theorem dX4_tell_118 : decode cX4_tell 118 = .ok (.iconst 1, 1) := by decide +kernel
theorem dX4_tell_119 : decode cX4_tell 119 = .ok (.invokevirtual 44, 3) := by decide +kernel
theorem dX4_tell_122 : decode cX4_tell 122 = .ok (.aload_n 0, 1) := by decide +kernel
theorem dX4_tell_123 : decode cX4_tell 123 = .ok (.bipush 46, 2) := by decide +kernel
theorem dX4_tell_125 : decode cX4_tell 125 = .ok (.invokevirtual 60, 3) := by decide +kernel
theorem dX4_tell_128 : decode cX4_tell 128 = .ok (.aload_n 0, 1) := by decide +kernel
theorem dX4_tell_129 : decode cX4_tell 129 = .ok (.aload 6, 2) := by decide +kernel
theorem dX4_tell_131 : decode cX4_tell 131 = .ok (.getfield 152, 3) := by decide +kernel
theorem dX4_tell_134 : decode cX4_tell 134 = .ok (.getfield 121, 3) := by decide +kernel
theorem dX4_tell_137 : decode cX4_tell 137 = .ok (.aload 6, 2) := by decide +kernel
theorem dX4_tell_139 : decode cX4_tell 139 = .ok (.iload_n 3, 1) := by decide +kernel
theorem dX4_tell_140 : decode cX4_tell 140 = .ok (.invokevirtual 156, 3) := by decide +kernel
theorem dX4_tell_143 : decode cX4_tell 143 = .ok (.iload_n 3, 1) := by decide +kernel
theorem dX4_tell_144 : decode cX4_tell 144 = .ok (.iconst 1, 1) := by decide +kernel
theorem dX4_tell_145 : decode cX4_tell 145 = .ok (.iadd, 1) := by decide +kernel
theorem dX4_tell_146 : decode cX4_tell 146 = .ok (.iload 4, 2) := by decide +kernel
theorem dX4_tell_148 : decode cX4_tell 148 = .ok (.iconst 1, 1) := by decide +kernel
theorem dX4_tell_149 : decode cX4_tell 149 = .ok (.iadd, 1) := by decide +kernel
theorem dX4_tell_150 : decode cX4_tell 150 = .ok (.iconst 0, 1) := by decide +kernel
theorem dX4_tell_151 : decode cX4_tell 151 = .ok (.invokevirtual 44, 3) := by decide +kernel
theorem dX4_tell_154 : decode cX4_tell 154 = .ok (.goto 51, 3) := by decide +kernel
theorem dX4_tell_157 : decode cX4_tell 157 = .ok (.aload 6, 2) := by decide +kernel
theorem dX4_tell_159 : decode cX4_tell 159 = .ok (.getfield 70, 3) := by decide +kernel
theorem dX4_tell_162 : decode cX4_tell 162 = .ok (.astore 9, 2) := by decide +kernel
theorem dX4_tell_164 : decode cX4_tell 164 = .ok (.aload 9, 2) := by decide +kernel
theorem dX4_tell_166 : decode cX4_tell 166 = .ok (.ifnull 39, 3) := by decide +kernel
theorem dX4_tell_169 : decode cX4_tell 169 = .ok (.aload_n 0, 1) := by decide +kernel
theorem dX4_tell_170 : decode cX4_tell 170 = .ok (.bipush 32, 2) := by decide +kernel
theorem dX4_tell_172 : decode cX4_tell 172 = .ok (.invokevirtual 60, 3) := by decide +kernel
theorem dX4_tell_175 : decode cX4_tell 175 = .ok (.aload_n 0, 1) := by decide +kernel
theorem dX4_tell_176 : decode cX4_tell 176 = .ok (.aload 9, 2) := by decide +kernel
theorem dX4_tell_178 : decode cX4_tell 178 = .ok (.getfield 124, 3) := by decide +kernel
theorem dX4_tell_181 : decode cX4_tell 181 = .ok (.aload 9, 2) := by decide +kernel
theorem dX4_tell_183 : decode cX4_tell 183 = .ok (.getfield 127, 3) := by decide +kernel
theorem dX4_tell_186 : decode cX4_tell 186 = .ok (.iload_n 3, 1) := by decide +kernel
theorem dX4_tell_187 : decode cX4_tell 187 = .ok (.iload 4, 2) := by decide +kernel
theorem dX4_tell_189 : decode cX4_tell 189 = .ok (.iconst 1, 1) := by decide +kernel
theorem dX4_tell_190 : decode cX4_tell 190 = .ok (.iadd, 1) := by decide +kernel
theorem dX4_tell_191 : decode cX4_tell 191 = .ok (.iconst 2, 1) := by decide +kernel
theorem dX4_tell_192 : decode cX4_tell 192 = .ok (.invokevirtual 44, 3) := by decide +kernel
theorem dX4_tell_195 : decode cX4_tell 195 = .ok (.aload 9, 2) := by decide +kernel
theorem dX4_tell_197 : decode cX4_tell 197 = .ok (.getfield 130, 3) := by decide +kernel
theorem dX4_tell_200 : decode cX4_tell 200 = .ok (.astore 9, 2) := by decide +kernel
theorem dX4_tell_202 : decode cX4_tell 202 = .ok (.goto (-38), 3) := by decide +kernel
theorem dX4_tell_205 : decode cX4_tell 205 = .ok (.iload 8, 2) := by decide +kernel
theorem dX4_tell_207 : decode cX4_tell 207 = .ok (.ifCond .eq 9, 3) := by decide +kernel
theorem dX4_tell_210 : decode cX4_tell 210 = .ok (.aload_n 0, 1) := by decide +kernel
theorem dX4_tell_211 : decode cX4_tell 211 = .ok (.bipush 41, 2) := by decide +kernel
theorem dX4_tell_213 : decode cX4_tell 213 = .ok (.invokevirtual 60, 3) := by decide +kernel
theorem dX4_tell_216 : decode cX4_tell 216 = .ok (.return_, 1) := by decide +kernel
theorem dX4_normalize_0 : decode cX4_normalize 0 = .ok (.aload_n 0, 1) := by decide +kernel
theorem dX4_normalize_1 : decode cX4_normalize 1 = .ok (.iload 4, 2) := by decide +kernel
theorem dX4_normalize_3 : decode cX4_normalize 3 = .ok (.invokevirtual 149, 3) := by decide +kernel
theorem dX4_normalize_6 : decode cX4_normalize 6 = .ok (.aload_n 0, 1) := by decide +kernel
theorem dX4_normalize_7 : decode cX4_normalize 7 = .ok (.aload_n 1, 1) := by decide +kernel
theorem dX4_normalize_8 : decode cX4_normalize 8 = .ok (.aload_n 2, 1) := by decide +kernel
theorem dX4_normalize_9 : decode cX4_normalize 9 = .ok (.invokevirtual 52, 3) := by decide +kernel
theorem dX4_normalize_12 : decode cX4_normalize 12 = .ok (.astore 5, 2) := by decide +kernel
theorem dX4_normalize_14 : decode cX4_normalize 14 = .ok (.aload 5, 2) := by decide +kernel
theorem dX4_normalize_16 : decode cX4_normalize 16 = .ok (.getfield 152, 3) := by decide +kernel
theorem dX4_normalize_19 : decode cX4_normalize 19 = .ok (.astore 6, 2) := by decide +kernel
theorem dX4_normalize_21 : decode cX4_normalize 21 = .ok (.aload 5, 2) := by decide +kernel
theorem dX4_normalize_23 : decode cX4_normalize 23 = .ok (.invokevirtual 64, 3) := by decide +kernel
theorem dX4_normalize_26 : decode cX4_normalize 26 = .ok (.ifCond .eq 89, 3) := by decide +kernel
theorem dX4_normalize_29 : decode cX4_normalize 29 = .ok (.aload 5, 2) := by decide +kernel
theorem dX4_normalize_31 : decode cX4_normalize 31 = .ok (.iload_n 3, 1) := by decide +kernel
theorem dX4_normalize_32 : decode cX4_normalize 32 = .ok (.invokevirtual 156, 3) := by decide +kernel
theorem dX4_normalize_35 : decode cX4_normalize 35 = .ok (.astore 7, 2) := by decide +kernel
theorem dX4_normalize_37 : decode cX4_normalize 37 = .ok (.aload_n 0, 1) := by decide +kernel
theorem dX4_normalize_38 : decode cX4_normalize 38 = .ok (.aload 6, 2) := by decide +kernel
theorem dX4_normalize_40 : decode cX4_normalize 40 = .ok (.getfield 114, 3) := by decide +kernel
theorem dX4_normalize_43 : decode cX4_normalize 43 = .ok (.aload 5, 2) := by decide +kernel
theorem dX4_normalize_45 : decode cX4_normalize 45 = .ok (.getfield 155, 3) := by decide +kernel
theorem dX4_normalize_48 : decode cX4_normalize 48 = .ok (.iload_n 3, 1) := by decide +kernel
theorem dX4_normalize_49 : decode cX4_normalize 49 = .ok (.iload 4, 2) := by decide +kernel
theorem dX4_normalize_51 : decode cX4_normalize 51 = .ok (.iconst 1, 1) := by decide +kernel
theorem dX4_normalize_52 : decode cX4_normalize 52 = .ok (.iadd, 1) := by decide +kernel
theorem dX4_normalize_53 : decode cX4_normalize 53 = .ok (.invokevirtual 48, 3) := by decide +kernel
theorem dX4_normalize_56 : decode cX4_normalize 56 = .ok (.astore 8, 2) := by decide +kernel
theorem dX4_normalize_58 : decode cX4_normalize 58 = .ok (.aload_n 0, 1) := by decide +kernel
theorem dX4_normalize_59 : decode cX4_normalize 59 = .ok (.aload 6, 2) := by decide +kernel
theorem dX4_normalize_61 : decode cX4_normalize 61 = .ok (.getfield 121, 3) := by decide +kernel
theorem dX4_normalize_64 : decode cX4_normalize 64 = .ok (.aload 7, 2) := by decide +kernel
theorem dX4_normalize_66 : decode cX4_normalize 66 = .ok (.iload_n 3, 1) := by decide +kernel
theorem dX4_normalize_67 : decode cX4_normalize 67 = .ok (.iconst 1, 1) := by decide +kernel
theorem dX4_normalize_68 : decode cX4_normalize 68 = .ok (.iadd, 1) := by decide +kernel
theorem dX4_normalize_69 : decode cX4_normalize 69 = .ok (.iload 4, 2) := by decide +kernel
theorem dX4_normalize_71 : decode cX4_normalize 71 = .ok (.iconst 1, 1) := by decide +kernel
theorem dX4_normalize_72 : decode cX4_normalize 72 = .ok (.iadd, 1) := by decide +kernel
theorem dX4_normalize_73 : decode cX4_normalize 73 = .ok (.invokevirtual 48, 3) := by decide +kernel
theorem dX4_normalize_76 : decode cX4_normalize 76 = .ok (.astore 9, 2) := by decide +kernel
theorem dX4_normalize_78 : decode cX4_normalize 78 = .ok (.aload 6, 2) := by decide +kernel
theorem dX4_normalize_80 : decode cX4_normalize 80 = .ok (.getfield 103, 3) := by decide +kernel
theorem dX4_normalize_83 : decode cX4_normalize 83 = .ok (.aload 7, 2) := by decide +kernel
theorem dX4_normalize_85 : decode cX4_normalize 85 = .ok (.getfield 143, 3) := by decide +kernel
theorem dX4_normalize_88 : decode cX4_normalize 88 = .ok (.aload 8, 2) := by decide +kernel
theorem dX4_normalize_90 : decode cX4_normalize 90 = .ok (.aload 9, 2) := by decide +kernel
theorem dX4_normalize_92 : decode cX4_normalize 92 = .ok (.invokestatic 161, 3) := by decide +kernel
theorem dX4_normalize_95 : decode cX4_normalize 95 = .ok (.astore 10, 2) := by decide +kernel
theorem dX4_normalize_97 : decode cX4_normalize 97 = .ok (.aload 10, 2) := by decide +kernel
theorem dX4_normalize_99 : decode cX4_normalize 99 = .ok (.aload 6, 2) := by decide +kernel
theorem dX4_normalize_101 : decode cX4_normalize 101 = .ok (.getfield 165, 3) := by decide +kernel
theorem dX4_normalize_104 : decode cX4_normalize 104 = .ok (.aload 6, 2) := by decide +kernel
theorem dX4_normalize_106 : decode cX4_normalize 106 = .ok (.getfield 168, 3) := by decide +kernel
theorem dX4_normalize_109 : decode cX4_normalize 109 = .ok (.invokevirtual 171, 3) := by decide +kernel
theorem dX4_normalize_112 : decode cX4_normalize 112 = .ok (.aload 10, 2) := by decide +kernel
theorem dX4_normalize_114 : decode cX4_normalize 114 = .ok (.areturn, 1) := by decide +kernel
theorem dX4_normalize_115 : decode cX4_normalize 115 = .ok (.new 104, 3) := by decide +kernel
theorem dX4_normalize_118 : decode cX4_normalize 118 = .ok (.dup, 1) := by decide +kernel
theorem dX4_normalize_119 : decode cX4_normalize 119 = .ok (.aload 6, 2) := by decide +kernel
theorem dX4_normalize_121 : decode cX4_normalize 121 = .ok (.getfield 103, 3) := by decide +kernel
theorem dX4_normalize_124 : decode cX4_normalize 124 = .ok (.aload 5, 2) := by decide +kernel
theorem dX4_normalize_126 : decode cX4_normalize 126 = .ok (.getfield 160, 3) := by decide +kernel
theorem dX4_normalize_129 : decode cX4_normalize 129 = .ok (.invokespecial 174, 3) := by decide +kernel
theorem dX4_normalize_132 : decode cX4_normalize 132 = .ok (.astore 7, 2) := by decide +kernel
theorem dX4_normalize_134 : decode cX4_normalize 134 = .ok (.aload 5, 2) := by decide +kernel
theorem dX4_normalize_136 : decode cX4_normalize 136 = .ok (.getfield 70, 3) := by decide +kernel
theorem dX4_normalize_139 : decode cX4_normalize 139 = .ok (.ifnonnull 6, 3) := by decide +kernel
theorem dX4_normalize_142 : decode cX4_normalize 142 = .ok (.aload 7, 2) := by decide +kernel
theorem dX4_normalize_144 : decode cX4_normalize 144 = .ok (.areturn, 1) := by decide +kernel
theorem dX4_normalize_145 : decode cX4_normalize 145 = .ok (.aload 5, 2) := by decide +kernel
theorem dX4_normalize_147 : decode cX4_normalize 147 = .ok (.getfield 70, 3) := by decide +kernel
theorem dX4_normalize_150 : decode cX4_normalize 150 = .ok (.invokestatic 74, 3) := by decide +kernel
theorem dX4_normalize_153 : decode cX4_normalize 153 = .ok (.anewarray 104, 3) := by decide +kernel
theorem dX4_normalize_156 : decode cX4_normalize 156 = .ok (.astore 8, 2) := by decide +kernel
theorem dX4_normalize_158 : decode cX4_normalize 158 = .ok (.aload 5, 2) := by decide +kernel
theorem dX4_normalize_160 : decode cX4_normalize 160 = .ok (.getfield 70, 3) := by decide +kernel
theorem dX4_normalize_163 : decode cX4_normalize 163 = .ok (.astore 9, 2) := by decide +kernel
theorem dX4_normalize_165 : decode cX4_normalize 165 = .ok (.iconst 0, 1) := by decide +kernel
theorem dX4_normalize_166 : decode cX4_normalize 166 = .ok (.istore 10, 2) := by decide +kernel
theorem dX4_normalize_168 : decode cX4_normalize 168 = .ok (.iload 10, 2) := by decide +kernel
theorem dX4_normalize_170 : decode cX4_normalize 170 = .ok (.aload 8, 2) := by decide +kernel
theorem dX4_normalize_172 : decode cX4_normalize 172 = .ok (.arraylength, 1) := by decide +kernel
theorem dX4_normalize_173 : decode cX4_normalize 173 = .ok (.if_icmp .ge 45, 3) := by decide +kernel
theorem dX4_normalize_176 : decode cX4_normalize 176 = .ok (.aload 9, 2) := by decide +kernel
theorem dX4_normalize_178 : decode cX4_normalize 178 = .ok (.ifnull 40, 3) := by decide +kernel
theorem dX4_normalize_181 : decode cX4_normalize 181 = .ok (.aload 8, 2) := by decide +kernel
theorem dX4_normalize_183 : decode cX4_normalize 183 = .ok (.iload 10, 2) := by decide +kernel
theorem dX4_normalize_185 : decode cX4_normalize 185 = .ok (.aload_n 0, 1) := by decide +kernel
theorem dX4_normalize_186 : decode cX4_normalize 186 = .ok (.aload 9, 2) := by decide +kernel
theorem dX4_normalize_188 : decode cX4_normalize 188 = .ok (.getfield 124, 3) := by decide +kernel
theorem dX4_normalize_191 : decode cX4_normalize 191 = .ok (.aload 9, 2) := by decide +kernel
theorem dX4_normalize_193 : decode cX4_normalize 193 = .ok (.getfield 127, 3) := by decide +kernel
theorem dX4_normalize_196 : decode cX4_normalize 196 = .ok (.iload_n 3, 1) := by decide +kernel
theorem dX4_normalize_197 : decode cX4_normalize 197 = .ok (.iload 4, 2) := by decide +kernel
theorem dX4_normalize_199 : decode cX4_normalize 199 = .ok (.iconst 1, 1) := by decide +kernel
theorem dX4_normalize_200 : decode cX4_normalize 200 = .ok (.iadd, 1) := by decide +kernel
theorem dX4_normalize_201 : decode cX4_normalize 201 = .ok (.invokevirtual 48, 3) := by decide +kernel
theorem dX4_normalize_204 : decode cX4_normalize 204 = .ok (.aastore, 1) := by decide +kernel
theorem dX4_normalize_205 : decode cX4_normalize 205 = .ok (.aload 9, 2) := by decide +kernel
theorem dX4_normalize_207 : decode cX4_normalize 207 = .ok (.getfield 130, 3) := by decide +kernel
theorem dX4_normalize_210 : decode cX4_normalize 210 = .ok (.astore 9, 2) := by decide +kernel
theorem dX4_normalize_212 : decode cX4_normalize 212 = .ok (.iinc 10 1, 3) := by decide +kernel
theorem dX4_normalize_215 : decode cX4_normalize 215 = .ok (.goto (-47), 3) := by decide +kernel
theorem dX4_normalize_218 : decode cX4_normalize 218 = .ok (.aload 7, 2) := by decide +kernel
theorem dX4_normalize_220 : decode cX4_normalize 220 = .ok (.aload 8, 2) := by decide +kernel
theorem dX4_normalize_222 : decode cX4_normalize 222 = .ok (.invokestatic 176, 3) := by decide +kernel
theorem dX4_normalize_225 : decode cX4_normalize 225 = .ok (.areturn, 1) := by decide +kernel
theorem dX4_putFront_0 : decode cX4_putFront 0 = .ok (.aload_n 1, 1) := by decide +kernel
theorem dX4_putFront_1 : decode cX4_putFront 1 = .ok (.getfield 152, 3) := by decide +kernel
theorem dX4_putFront_4 : decode cX4_putFront 4 = .ok (.getfield 103, 3) := by decide +kernel
theorem dX4_putFront_7 : decode cX4_putFront 7 = .ok (.tableswitch 87 1 5 #[51, 69, 87, 33, 42], 33) := by decide +kernel
theorem dX4_putFront_40 : decode cX4_putFront 40 = .ok (.aload_n 0, 1) := by decide +kernel
theorem dX4_putFront_41 : decode cX4_putFront 41 = .ok (.bipush 92, 2) := by decide +kernel
theorem dX4_putFront_43 : decode cX4_putFront 43 = .ok (.invokevirtual 60, 3) := by decide +kernel
theorem dX4_putFront_46 : decode cX4_putFront 46 = .ok (.goto 64, 3) := by decide +kernel
theorem dX4_putFront_49 : decode cX4_putFront 49 = .ok (.aload_n 0, 1) := by decide +kernel
theorem dX4_putFront_50 : decode cX4_putFront 50 = .ok (.bipush 33, 2) := by decide +kernel
theorem dX4_putFront_52 : decode cX4_putFront 52 = .ok (.invokevirtual 60, 3) := by decide +kernel
theorem dX4_putFront_55 : decode cX4_putFront 55 = .ok (.goto 55, 3) := by decide +kernel
theorem dX4_putFront_58 : decode cX4_putFront 58 = .ok (.aload_n 0, 1) := by decide +kernel
theorem dX4_putFront_59 : decode cX4_putFront 59 = .ok (.aload_n 0, 1) := by decide +kernel
theorem dX4_putFront_60 : decode cX4_putFront 60 = .ok (.getfield 32, 3) := by decide +kernel
theorem dX4_putFront_63 : decode cX4_putFront 63 = .ok (.getfield 180, 3) := by decide +kernel
theorem dX4_putFront_66 : decode cX4_putFront 66 = .ok (.aload_n 1, 1) := by decide +kernel
theorem dX4_putFront_67 : decode cX4_putFront 67 = .ok (.getfield 160, 3) := by decide +kernel
theorem dX4_putFront_70 : decode cX4_putFront 70 = .ok (.invokevirtual 184, 3) := by decide +kernel
theorem dX4_putFront_73 : decode cX4_putFront 73 = .ok (.goto 37, 3) := by decide +kernel
theorem dX4_putFront_76 : decode cX4_putFront 76 = .ok (.aload_n 0, 1) := by decide +kernel
theorem dX4_putFront_77 : decode cX4_putFront 77 = .ok (.aload_n 0, 1) := by decide +kernel
theorem dX4_putFront_78 : decode cX4_putFront 78 = .ok (.getfield 32, 3) := by decide +kernel
theorem dX4_putFront_81 : decode cX4_putFront 81 = .ok (.getfield 188, 3) := by decide +kernel
theorem dX4_putFront_84 : decode cX4_putFront 84 = .ok (.aload_n 1, 1) := by decide +kernel
theorem dX4_putFront_85 : decode cX4_putFront 85 = .ok (.getfield 160, 3) := by decide +kernel
theorem dX4_putFront_88 : decode cX4_putFront 88 = .ok (.invokevirtual 184, 3) := by decide +kernel
theorem dX4_putFront_91 : decode cX4_putFront 91 = .ok (.goto 19, 3) := by decide +kernel
theorem dX4_putFront_94 : decode cX4_putFront 94 = .ok (.aload_n 0, 1) := by decide +kernel
theorem dX4_putFront_95 : decode cX4_putFront 95 = .ok (.bipush 95, 2) := by decide +kernel
theorem dX4_putFront_97 : decode cX4_putFront 97 = .ok (.invokevirtual 60, 3) := by decide +kernel
theorem dX4_putFront_100 : decode cX4_putFront 100 = .ok (.aload_n 0, 1) := by decide +kernel
theorem dX4_putFront_101 : decode cX4_putFront 101 = .ok (.iconst (-1), 1) := by decide +kernel
theorem dX4_putFront_102 : decode cX4_putFront 102 = .ok (.aload_n 1, 1) := by decide +kernel
theorem dX4_putFront_103 : decode cX4_putFront 103 = .ok (.getfield 160, 3) := by decide +kernel
theorem dX4_putFront_106 : decode cX4_putFront 106 = .ok (.isub, 1) := by decide +kernel
theorem dX4_putFront_107 : decode cX4_putFront 107 = .ok (.invokevirtual 80, 3) := by decide +kernel
theorem dX4_putFront_110 : decode cX4_putFront 110 = .ok (.return_, 1) := by decide +kernel
theorem dX4_putSigns_0 : decode cX4_putSigns 0 = .ok (.aload_n 1, 1) := by decide +kernel
theorem dX4_putSigns_1 : decode cX4_putSigns 1 = .ok (.iload_n 2, 1) := by decide +kernel
theorem dX4_putSigns_2 : decode cX4_putSigns 2 = .ok (.invokevirtual 191, 3) := by decide +kernel
theorem dX4_putSigns_5 : decode cX4_putSigns 5 = .ok (.ifCond .eq 12, 3) := by decide +kernel
theorem dX4_putSigns_8 : decode cX4_putSigns 8 = .ok (.aload_n 1, 1) := by decide +kernel
theorem dX4_putSigns_9 : decode cX4_putSigns 9 = .ok (.getfield 197, 3) := by decide +kernel
theorem dX4_putSigns_12 : decode cX4_putSigns 12 = .ok (.iload_n 2, 1) := by decide +kernel
theorem dX4_putSigns_13 : decode cX4_putSigns 13 = .ok (.iaload, 1) := by decide +kernel
theorem dX4_putSigns_14 : decode cX4_putSigns 14 = .ok (.goto 4, 3) := by decide +kernel
theorem dX4_putSigns_17 : decode cX4_putSigns 17 = .ok (.iconst 0, 1) := by decide +kernel
theorem dX4_putSigns_18 : decode cX4_putSigns 18 = .ok (.istore_n 3, 1) := by decide +kernel
theorem dX4_putSigns_19 : decode cX4_putSigns 19 = .ok (.iconst 0, 1) := by decide +kernel
theorem dX4_putSigns_20 : decode cX4_putSigns 20 = .ok (.istore 4, 2) := by decide +kernel
theorem dX4_putSigns_22 : decode cX4_putSigns 22 = .ok (.iload 4, 2) := by decide +kernel
theorem dX4_putSigns_24 : decode cX4_putSigns 24 = .ok (.iload_n 3, 1) := by decide +kernel
theorem dX4_putSigns_25 : decode cX4_putSigns 25 = .ok (.if_icmp .ge 20, 3) := by decide +kernel
theorem dX4_putSigns_28 : decode cX4_putSigns 28 = .ok (.aload_n 0, 1) := by decide +kernel
theorem dX4_putSigns_29 : decode cX4_putSigns 29 = .ok (.aload_n 1, 1) := by decide +kernel
theorem dX4_putSigns_30 : decode cX4_putSigns 30 = .ok (.iload_n 2, 1) := by decide +kernel
theorem dX4_putSigns_31 : decode cX4_putSigns 31 = .ok (.iload 4, 2) := by decide +kernel
theorem dX4_putSigns_33 : decode cX4_putSigns 33 = .ok (.invokevirtual 200, 3) := by decide +kernel
theorem dX4_putSigns_36 : decode cX4_putSigns 36 = .ok (.invokevirtual 60, 3) := by decide +kernel
theorem dX4_putSigns_39 : decode cX4_putSigns 39 = .ok (.iinc 4 1, 3) := by decide +kernel
theorem dX4_putSigns_42 : decode cX4_putSigns 42 = .ok (.goto (-20), 3) := by decide +kernel
theorem dX4_putSigns_45 : decode cX4_putSigns 45 = .ok (.return_, 1) := by decide +kernel
theorem dX4_putNumber_0 : decode cX4_putNumber 0 = .ok (.iconst 1, 1) := by decide +kernel
theorem dX4_putNumber_1 : decode cX4_putNumber 1 = .ok (.istore_n 2, 1) := by decide +kernel
theorem dX4_putNumber_2 : decode cX4_putNumber 2 = .ok (.iconst 1, 1) := by decide +kernel
theorem dX4_putNumber_3 : decode cX4_putNumber 3 = .ok (.istore_n 3, 1) := by decide +kernel
theorem dX4_putNumber_4 : decode cX4_putNumber 4 = .ok (.iload_n 3, 1) := by decide +kernel
theorem dX4_putNumber_5 : decode cX4_putNumber 5 = .ok (.bipush 9, 2) := by decide +kernel
theorem dX4_putNumber_7 : decode cX4_putNumber 7 = .ok (.if_icmp .ge 22, 3) := by decide +kernel
theorem dX4_putNumber_10 : decode cX4_putNumber 10 = .ok (.iload_n 1, 1) := by decide +kernel
theorem dX4_putNumber_11 : decode cX4_putNumber 11 = .ok (.iload_n 2, 1) := by decide +kernel
theorem dX4_putNumber_12 : decode cX4_putNumber 12 = .ok (.idiv, 1) := by decide +kernel
theorem dX4_putNumber_13 : decode cX4_putNumber 13 = .ok (.bipush 10, 2) := by decide +kernel
theorem dX4_putNumber_15 : decode cX4_putNumber 15 = .ok (.if_icmp .lt 14, 3) := by decide +kernel
theorem dX4_putNumber_18 : decode cX4_putNumber 18 = .ok (.iload_n 2, 1) := by decide +kernel
theorem dX4_putNumber_19 : decode cX4_putNumber 19 = .ok (.bipush 10, 2) := by decide +kernel
theorem dX4_putNumber_21 : decode cX4_putNumber 21 = .ok (.imul, 1) := by decide +kernel
theorem dX4_putNumber_22 : decode cX4_putNumber 22 = .ok (.istore_n 2, 1) := by decide +kernel
theorem dX4_putNumber_23 : decode cX4_putNumber 23 = .ok (.iinc 3 1, 3) := by decide +kernel
theorem dX4_putNumber_26 : decode cX4_putNumber 26 = .ok (.goto (-22), 3) := by decide +kernel
theorem dX4_putNumber_29 : decode cX4_putNumber 29 = .ok (.iload_n 2, 1) := by decide +kernel
theorem dX4_putNumber_30 : decode cX4_putNumber 30 = .ok (.ifCond .le 24, 3) := by decide +kernel
theorem dX4_putNumber_33 : decode cX4_putNumber 33 = .ok (.aload_n 0, 1) := by decide +kernel
theorem dX4_putNumber_34 : decode cX4_putNumber 34 = .ok (.bipush 48, 2) := by decide +kernel
theorem dX4_putNumber_36 : decode cX4_putNumber 36 = .ok (.iload_n 1, 1) := by decide +kernel
theorem dX4_putNumber_37 : decode cX4_putNumber 37 = .ok (.iload_n 2, 1) := by decide +kernel
theorem dX4_putNumber_38 : decode cX4_putNumber 38 = .ok (.idiv, 1) := by decide +kernel
theorem dX4_putNumber_39 : decode cX4_putNumber 39 = .ok (.bipush 10, 2) := by decide +kernel
theorem dX4_putNumber_41 : decode cX4_putNumber 41 = .ok (.irem, 1) := by decide +kernel
theorem dX4_putNumber_42 : decode cX4_putNumber 42 = .ok (.iadd, 1) := by decide +kernel
theorem dX4_putNumber_43 : decode cX4_putNumber 43 = .ok (.invokevirtual 60, 3) := by decide +kernel
theorem dX4_putNumber_46 : decode cX4_putNumber 46 = .ok (.iload_n 2, 1) := by decide +kernel
theorem dX4_putNumber_47 : decode cX4_putNumber 47 = .ok (.bipush 10, 2) := by decide +kernel
theorem dX4_putNumber_49 : decode cX4_putNumber 49 = .ok (.idiv, 1) := by decide +kernel
theorem dX4_putNumber_50 : decode cX4_putNumber 50 = .ok (.istore_n 2, 1) := by decide +kernel
theorem dX4_putNumber_51 : decode cX4_putNumber 51 = .ok (.goto (-22), 3) := by decide +kernel
theorem dX4_putNumber_54 : decode cX4_putNumber 54 = .ok (.return_, 1) := by decide +kernel
