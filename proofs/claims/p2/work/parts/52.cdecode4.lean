theorem dX11_sort_68 : decode cX11_sort 68 = .ok (.getfield 132, 3) := by decide +kernel
theorem dX11_sort_71 : decode cX11_sort 71 = .ok (.iload_n 1, 1) := by decide +kernel
theorem dX11_sort_72 : decode cX11_sort 72 = .ok (.iaload, 1) := by decide +kernel
theorem dX11_sort_73 : decode cX11_sort 73 = .ok (.ireturn, 1) := by decide +kernel
theorem dX11_sort_74 : decode cX11_sort 74 = .ok (.aload_n 0, 1) := by decide +kernel
theorem dX11_sort_75 : decode cX11_sort 75 = .ok (.getfield 23, 3) := by decide +kernel
theorem dX11_sort_78 : decode cX11_sort 78 = .ok (.getfield 109, 3) := by decide +kernel
theorem dX11_sort_81 : decode cX11_sort 81 = .ok (.iload_n 1, 1) := by decide +kernel
theorem dX11_sort_82 : decode cX11_sort 82 = .ok (.iload_n 2, 1) := by decide +kernel
theorem dX11_sort_83 : decode cX11_sort 83 = .ok (.iconst 2, 1) := by decide +kernel
theorem dX11_sort_84 : decode cX11_sort 84 = .ok (.isub, 1) := by decide +kernel
theorem dX11_sort_85 : decode cX11_sort 85 = .ok (.invokevirtual 135, 3) := by decide +kernel
theorem dX11_sort_88 : decode cX11_sort 88 = .ok (.ireturn, 1) := by decide +kernel
theorem dX11_rule_0 : decode cX11_rule 0 = .ok (.aload_n 0, 1) := by decide +kernel
theorem dX11_rule_1 : decode cX11_rule 1 = .ok (.getfield 23, 3) := by decide +kernel
theorem dX11_rule_4 : decode cX11_rule 4 = .ok (.getfield 109, 3) := by decide +kernel
theorem dX11_rule_7 : decode cX11_rule 7 = .ok (.iload_n 1, 1) := by decide +kernel
theorem dX11_rule_8 : decode cX11_rule 8 = .ok (.invokevirtual 121, 3) := by decide +kernel
theorem dX11_rule_11 : decode cX11_rule 11 = .ok (.ifCond .eq 17, 3) := by decide +kernel
theorem dX11_rule_14 : decode cX11_rule 14 = .ok (.aload_n 0, 1) := by decide +kernel
theorem dX11_rule_15 : decode cX11_rule 15 = .ok (.getfield 23, 3) := by decide +kernel
theorem dX11_rule_18 : decode cX11_rule 18 = .ok (.getfield 109, 3) := by decide +kernel
theorem dX11_rule_21 : decode cX11_rule 21 = .ok (.iload_n 2, 1) := by decide +kernel
theorem dX11_rule_22 : decode cX11_rule 22 = .ok (.invokevirtual 121, 3) := by decide +kernel
theorem dX11_rule_25 : decode cX11_rule 25 = .ok (.ifCond .ne 11, 3) := by decide +kernel
theorem dX11_rule_28 : decode cX11_rule 28 = .ok (.new 81, 3) := by decide +kernel
theorem dX11_rule_31 : decode cX11_rule 31 = .ok (.dup, 1) := by decide +kernel
theorem dX11_rule_32 : decode cX11_rule 32 = .ok (.invokespecial 83, 3) := by decide +kernel
theorem dX11_rule_35 : decode cX11_rule 35 = .ok (.athrow, 1) := by decide +kernel
theorem dX11_rule_36 : decode cX11_rule 36 = .ok (.aload_n 0, 1) := by decide +kernel
theorem dX11_rule_37 : decode cX11_rule 37 = .ok (.getfield 23, 3) := by decide +kernel
theorem dX11_rule_40 : decode cX11_rule 40 = .ok (.iload_n 1, 1) := by decide +kernel
theorem dX11_rule_41 : decode cX11_rule 41 = .ok (.iload_n 2, 1) := by decide +kernel
theorem dX11_rule_42 : decode cX11_rule 42 = .ok (.invokevirtual 142, 3) := by decide +kernel
theorem dX11_rule_45 : decode cX11_rule 45 = .ok (.ireturn, 1) := by decide +kernel
theorem dX11_type_0 : decode cX11_type 0 = .ok (.aload_n 0, 1) := by decide +kernel
theorem dX11_type_1 : decode cX11_type 1 = .ok (.getfield 23, 3) := by decide +kernel
theorem dX11_type_4 : decode cX11_type 4 = .ok (.getfield 84, 3) := by decide +kernel
theorem dX11_type_7 : decode cX11_type 7 = .ok (.iload_n 1, 1) := by decide +kernel
theorem dX11_type_8 : decode cX11_type 8 = .ok (.invokevirtual 121, 3) := by decide +kernel
theorem dX11_type_11 : decode cX11_type 11 = .ok (.ifCond .ne 11, 3) := by decide +kernel
theorem dX11_type_14 : decode cX11_type 14 = .ok (.new 81, 3) := by decide +kernel
theorem dX11_type_17 : decode cX11_type 17 = .ok (.dup, 1) := by decide +kernel
theorem dX11_type_18 : decode cX11_type 18 = .ok (.invokespecial 83, 3) := by decide +kernel
theorem dX11_type_21 : decode cX11_type 21 = .ok (.athrow, 1) := by decide +kernel
theorem dX11_type_22 : decode cX11_type 22 = .ok (.aload_n 0, 1) := by decide +kernel
theorem dX11_type_23 : decode cX11_type 23 = .ok (.aload_n 0, 1) := by decide +kernel
theorem dX11_type_24 : decode cX11_type 24 = .ok (.getfield 23, 3) := by decide +kernel
theorem dX11_type_27 : decode cX11_type 27 = .ok (.getfield 145, 3) := by decide +kernel
theorem dX11_type_30 : decode cX11_type 30 = .ok (.iload_n 1, 1) := by decide +kernel
theorem dX11_type_31 : decode cX11_type 31 = .ok (.aaload, 1) := by decide +kernel
theorem dX11_type_32 : decode cX11_type 32 = .ok (.invokevirtual 148, 3) := by decide +kernel
theorem dX11_type_35 : decode cX11_type 35 = .ok (.ireturn, 1) := by decide +kernel
theorem dX11_same_0 : decode cX11_same 0 = .ok (.aload_n 0, 1) := by decide +kernel
theorem dX11_same_1 : decode cX11_same 1 = .ok (.getfield 23, 3) := by decide +kernel
theorem dX11_same_4 : decode cX11_same 4 = .ok (.getfield 84, 3) := by decide +kernel
theorem dX11_same_7 : decode cX11_same 7 = .ok (.iload_n 1, 1) := by decide +kernel
theorem dX11_same_8 : decode cX11_same 8 = .ok (.invokevirtual 121, 3) := by decide +kernel
theorem dX11_same_11 : decode cX11_same 11 = .ok (.ifCond .eq 17, 3) := by decide +kernel
theorem dX11_same_14 : decode cX11_same 14 = .ok (.aload_n 0, 1) := by decide +kernel
theorem dX11_same_15 : decode cX11_same 15 = .ok (.getfield 23, 3) := by decide +kernel
theorem dX11_same_18 : decode cX11_same 18 = .ok (.getfield 84, 3) := by decide +kernel
theorem dX11_same_21 : decode cX11_same 21 = .ok (.iload_n 2, 1) := by decide +kernel
theorem dX11_same_22 : decode cX11_same 22 = .ok (.invokevirtual 121, 3) := by decide +kernel
theorem dX11_same_25 : decode cX11_same 25 = .ok (.ifCond .ne 11, 3) := by decide +kernel
theorem dX11_same_28 : decode cX11_same 28 = .ok (.new 81, 3) := by decide +kernel
theorem dX11_same_31 : decode cX11_same 31 = .ok (.dup, 1) := by decide +kernel
theorem dX11_same_32 : decode cX11_same 32 = .ok (.invokespecial 83, 3) := by decide +kernel
theorem dX11_same_35 : decode cX11_same 35 = .ok (.athrow, 1) := by decide +kernel
theorem dX11_same_36 : decode cX11_same 36 = .ok (.aload_n 0, 1) := by decide +kernel
theorem dX11_same_37 : decode cX11_same 37 = .ok (.iload_n 1, 1) := by decide +kernel
theorem dX11_same_38 : decode cX11_same 38 = .ok (.iload_n 2, 1) := by decide +kernel
theorem dX11_same_39 : decode cX11_same 39 = .ok (.invokevirtual 152, 3) := by decide +kernel
theorem dX11_same_42 : decode cX11_same 42 = .ok (.ireturn, 1) := by decide +kernel
theorem dX11_mark_0 : decode cX11_mark 0 = .ok (.aload_n 0, 1) := by decide +kernel
theorem dX11_mark_1 : decode cX11_mark 1 = .ok (.getfield 23, 3) := by decide +kernel
theorem dX11_mark_4 : decode cX11_mark 4 = .ok (.getfield 118, 3) := by decide +kernel
theorem dX11_mark_7 : decode cX11_mark 7 = .ok (.aload_n 0, 1) := by decide +kernel
theorem dX11_mark_8 : decode cX11_mark 8 = .ok (.getfield 23, 3) := by decide +kernel
theorem dX11_mark_11 : decode cX11_mark 11 = .ok (.getfield 155, 3) := by decide +kernel
theorem dX11_mark_14 : decode cX11_mark 14 = .ok (.arraylength, 1) := by decide +kernel
theorem dX11_mark_15 : decode cX11_mark 15 = .ok (.if_icmp .lt 11, 3) := by decide +kernel
theorem dX11_mark_18 : decode cX11_mark 18 = .ok (.new 158, 3) := by decide +kernel
theorem dX11_mark_21 : decode cX11_mark 21 = .ok (.dup, 1) := by decide +kernel
theorem dX11_mark_22 : decode cX11_mark 22 = .ok (.invokespecial 160, 3) := by decide +kernel
theorem dX11_mark_25 : decode cX11_mark 25 = .ok (.athrow, 1) := by decide +kernel
theorem dX11_mark_26 : decode cX11_mark 26 = .ok (.aload_n 0, 1) := by decide +kernel
theorem dX11_mark_27 : decode cX11_mark 27 = .ok (.getfield 23, 3) := by decide +kernel
theorem dX11_mark_30 : decode cX11_mark 30 = .ok (.getfield 155, 3) := by decide +kernel
theorem dX11_mark_33 : decode cX11_mark 33 = .ok (.aload_n 0, 1) := by decide +kernel
theorem dX11_mark_34 : decode cX11_mark 34 = .ok (.getfield 23, 3) := by decide +kernel
theorem dX11_mark_37 : decode cX11_mark 37 = .ok (.getfield 118, 3) := by decide +kernel
theorem dX11_mark_40 : decode cX11_mark 40 = .ok (.aload_n 0, 1) := by decide +kernel
theorem dX11_mark_41 : decode cX11_mark 41 = .ok (.getfield 23, 3) := by decide +kernel
theorem dX11_mark_44 : decode cX11_mark 44 = .ok (.getfield 84, 3) := by decide +kernel
theorem dX11_mark_47 : decode cX11_mark 47 = .ok (.getfield 88, 3) := by decide +kernel
theorem dX11_mark_50 : decode cX11_mark 50 = .ok (.iastore, 1) := by decide +kernel
theorem dX11_mark_51 : decode cX11_mark 51 = .ok (.aload_n 0, 1) := by decide +kernel
theorem dX11_mark_52 : decode cX11_mark 52 = .ok (.getfield 23, 3) := by decide +kernel
theorem dX11_mark_55 : decode cX11_mark 55 = .ok (.dup, 1) := by decide +kernel
theorem dX11_mark_56 : decode cX11_mark 56 = .ok (.getfield 118, 3) := by decide +kernel
theorem dX11_mark_59 : decode cX11_mark 59 = .ok (.iconst 1, 1) := by decide +kernel
theorem dX11_mark_60 : decode cX11_mark 60 = .ok (.iadd, 1) := by decide +kernel
theorem dX11_mark_61 : decode cX11_mark 61 = .ok (.putfield 118, 3) := by decide +kernel
theorem dX11_mark_64 : decode cX11_mark 64 = .ok (.aload_n 0, 1) := by decide +kernel
theorem dX11_mark_65 : decode cX11_mark 65 = .ok (.getfield 23, 3) := by decide +kernel
theorem dX11_mark_68 : decode cX11_mark 68 = .ok (.getfield 118, 3) := by decide +kernel
theorem dX11_mark_71 : decode cX11_mark 71 = .ok (.ireturn, 1) := by decide +kernel
theorem dX11_back_0 : decode cX11_back 0 = .ok (.aload_n 0, 1) := by decide +kernel
theorem dX11_back_1 : decode cX11_back 1 = .ok (.getfield 23, 3) := by decide +kernel
theorem dX11_back_4 : decode cX11_back 4 = .ok (.getfield 118, 3) := by decide +kernel
theorem dX11_back_7 : decode cX11_back 7 = .ok (.ifCond .le 21, 3) := by decide +kernel
theorem dX11_back_10 : decode cX11_back 10 = .ok (.aload_n 0, 1) := by decide +kernel
theorem dX11_back_11 : decode cX11_back 11 = .ok (.getfield 23, 3) := by decide +kernel
theorem dX11_back_14 : decode cX11_back 14 = .ok (.getfield 118, 3) := by decide +kernel
theorem dX11_back_17 : decode cX11_back 17 = .ok (.aload_n 0, 1) := by decide +kernel
theorem dX11_back_18 : decode cX11_back 18 = .ok (.getfield 23, 3) := by decide +kernel
theorem dX11_back_21 : decode cX11_back 21 = .ok (.getfield 155, 3) := by decide +kernel
theorem dX11_back_24 : decode cX11_back 24 = .ok (.arraylength, 1) := by decide +kernel
theorem dX11_back_25 : decode cX11_back 25 = .ok (.if_icmp .le 11, 3) := by decide +kernel
theorem dX11_back_28 : decode cX11_back 28 = .ok (.new 158, 3) := by decide +kernel
theorem dX11_back_31 : decode cX11_back 31 = .ok (.dup, 1) := by decide +kernel
theorem dX11_back_32 : decode cX11_back 32 = .ok (.invokespecial 160, 3) := by decide +kernel
theorem dX11_back_35 : decode cX11_back 35 = .ok (.athrow, 1) := by decide +kernel
theorem dX11_back_36 : decode cX11_back 36 = .ok (.aload_n 0, 1) := by decide +kernel
theorem dX11_back_37 : decode cX11_back 37 = .ok (.getfield 23, 3) := by decide +kernel
theorem dX11_back_40 : decode cX11_back 40 = .ok (.dup, 1) := by decide +kernel
theorem dX11_back_41 : decode cX11_back 41 = .ok (.getfield 118, 3) := by decide +kernel
theorem dX11_back_44 : decode cX11_back 44 = .ok (.iconst 1, 1) := by decide +kernel
theorem dX11_back_45 : decode cX11_back 45 = .ok (.isub, 1) := by decide +kernel
theorem dX11_back_46 : decode cX11_back 46 = .ok (.putfield 118, 3) := by decide +kernel
theorem dX11_back_49 : decode cX11_back 49 = .ok (.aload_n 0, 1) := by decide +kernel
theorem dX11_back_50 : decode cX11_back 50 = .ok (.getfield 23, 3) := by decide +kernel
theorem dX11_back_53 : decode cX11_back 53 = .ok (.getfield 84, 3) := by decide +kernel
theorem dX11_back_56 : decode cX11_back 56 = .ok (.aload_n 0, 1) := by decide +kernel
theorem dX11_back_57 : decode cX11_back 57 = .ok (.getfield 23, 3) := by decide +kernel
theorem dX11_back_60 : decode cX11_back 60 = .ok (.getfield 155, 3) := by decide +kernel
theorem dX11_back_63 : decode cX11_back 63 = .ok (.aload_n 0, 1) := by decide +kernel
theorem dX11_back_64 : decode cX11_back 64 = .ok (.getfield 23, 3) := by decide +kernel
theorem dX11_back_67 : decode cX11_back 67 = .ok (.getfield 118, 3) := by decide +kernel
theorem dX11_back_70 : decode cX11_back 70 = .ok (.iaload, 1) := by decide +kernel
theorem dX11_back_71 : decode cX11_back 71 = .ok (.putfield 88, 3) := by decide +kernel
theorem dX11_back_74 : decode cX11_back 74 = .ok (.aload_n 0, 1) := by decide +kernel
theorem dX11_back_75 : decode cX11_back 75 = .ok (.getfield 23, 3) := by decide +kernel
theorem dX11_back_78 : decode cX11_back 78 = .ok (.getfield 84, 3) := by decide +kernel
theorem dX11_back_81 : decode cX11_back 81 = .ok (.getfield 88, 3) := by decide +kernel
theorem dX11_back_84 : decode cX11_back 84 = .ok (.ireturn, 1) := by decide +kernel
theorem dX11_feedFour_0 : decode cX11_feedFour 0 = .ok (.bipush 24, 2) := by decide +kernel
theorem dX11_feedFour_2 : decode cX11_feedFour 2 = .ok (.istore_n 2, 1) := by decide +kernel
theorem dX11_feedFour_3 : decode cX11_feedFour 3 = .ok (.iload_n 2, 1) := by decide +kernel
theorem dX11_feedFour_4 : decode cX11_feedFour 4 = .ok (.ifCond .lt 42, 3) := by decide +kernel
theorem dX11_feedFour_7 : decode cX11_feedFour 7 = .ok (.aload_n 0, 1) := by decide +kernel
theorem dX11_feedFour_8 : decode cX11_feedFour 8 = .ok (.getfield 54, 3) := by decide +kernel
theorem dX11_feedFour_11 : decode cX11_feedFour 11 = .ok (.sipush 4000, 3) := by decide +kernel
theorem dX11_feedFour_14 : decode cX11_feedFour 14 = .ok (.if_icmp .ge 32, 3) := by decide +kernel
theorem dX11_feedFour_17 : decode cX11_feedFour 17 = .ok (.aload_n 0, 1) := by decide +kernel
theorem dX11_feedFour_18 : decode cX11_feedFour 18 = .ok (.getfield 9, 3) := by decide +kernel
theorem dX11_feedFour_21 : decode cX11_feedFour 21 = .ok (.aload_n 0, 1) := by decide +kernel
theorem dX11_feedFour_22 : decode cX11_feedFour 22 = .ok (.getfield 54, 3) := by decide +kernel
theorem dX11_feedFour_25 : decode cX11_feedFour 25 = .ok (.iload_n 1, 1) := by decide +kernel
theorem dX11_feedFour_26 : decode cX11_feedFour 26 = .ok (.iload_n 2, 1) := by decide +kernel
theorem dX11_feedFour_27 : decode cX11_feedFour 27 = .ok (.ishr, 1) := by decide +kernel
theorem dX11_feedFour_28 : decode cX11_feedFour 28 = .ok (.i2b, 1) := by decide +kernel
theorem dX11_feedFour_29 : decode cX11_feedFour 29 = .ok (.bastore, 1) := by decide +kernel
theorem dX11_feedFour_30 : decode cX11_feedFour 30 = .ok (.aload_n 0, 1) := by decide +kernel
theorem dX11_feedFour_31 : decode cX11_feedFour 31 = .ok (.dup, 1) := by decide +kernel
theorem dX11_feedFour_32 : decode cX11_feedFour 32 = .ok (.getfield 54, 3) := by decide +kernel
theorem dX11_feedFour_35 : decode cX11_feedFour 35 = .ok (.iconst 1, 1) := by decide +kernel
theorem dX11_feedFour_36 : decode cX11_feedFour 36 = .ok (.iadd, 1) := by decide +kernel
theorem dX11_feedFour_37 : decode cX11_feedFour 37 = .ok (.putfield 54, 3) := by decide +kernel
theorem dX11_feedFour_40 : decode cX11_feedFour 40 = .ok (.iinc 2 (-8), 3) := by decide +kernel
theorem dX11_feedFour_43 : decode cX11_feedFour 43 = .ok (.goto (-40), 3) := by decide +kernel
theorem dX11_feedFour_46 : decode cX11_feedFour 46 = .ok (.return_, 1) := by decide +kernel
theorem dX11_runText_0 : decode cX11_runText 0 = .ok (.aload_n 0, 1) := by decide +kernel
theorem dX11_runText_1 : decode cX11_runText 1 = .ok (.getfield 32, 3) := by decide +kernel
theorem dX11_runText_4 : decode cX11_runText 4 = .ok (.iconst 0, 1) := by decide +kernel
theorem dX11_runText_5 : decode cX11_runText 5 = .ok (.putfield 96, 3) := by decide +kernel
theorem dX11_runText_8 : decode cX11_runText 8 = .ok (.aload_n 0, 1) := by decide +kernel
theorem dX11_runText_9 : decode cX11_runText 9 = .ok (.getfield 16, 3) := by decide +kernel
theorem dX11_runText_12 : decode cX11_runText 12 = .ok (.invokevirtual 161, 3) := by decide +kernel
theorem dX11_runText_15 : decode cX11_runText 15 = .ok (.aload_n 0, 1) := by decide +kernel
theorem dX11_runText_16 : decode cX11_runText 16 = .ok (.iconst 0, 1) := by decide +kernel
theorem dX11_runText_17 : decode cX11_runText 17 = .ok (.putfield 64, 3) := by decide +kernel
theorem dX11_runText_20 : decode cX11_runText 20 = .ok (.aload_n 0, 1) := by decide +kernel
theorem dX11_runText_21 : decode cX11_runText 21 = .ok (.getfield 41, 3) := by decide +kernel
theorem dX11_runText_24 : decode cX11_runText 24 = .ok (.iload_n 1, 1) := by decide +kernel
theorem dX11_runText_25 : decode cX11_runText 25 = .ok (.invokevirtual 164, 3) := by decide +kernel
theorem dX11_runText_28 : decode cX11_runText 28 = .ok (.astore_n 2, 1) := by decide +kernel
theorem dX11_runText_29 : decode cX11_runText 29 = .ok (.iconst 0, 1) := by decide +kernel
theorem dX11_runText_30 : decode cX11_runText 30 = .ok (.istore_n 3, 1) := by decide +kernel
theorem dX11_runText_31 : decode cX11_runText 31 = .ok (.iload_n 3, 1) := by decide +kernel
theorem dX11_runText_32 : decode cX11_runText 32 = .ok (.aload_n 2, 1) := by decide +kernel
theorem dX11_runText_33 : decode cX11_runText 33 = .ok (.invokeinterface 168 1, 5) := by decide +kernel
theorem dX11_runText_38 : decode cX11_runText 38 = .ok (.if_icmp .ge 33, 3) := by decide +kernel
theorem dX11_runText_41 : decode cX11_runText 41 = .ok (.aload_n 0, 1) := by decide +kernel
theorem dX11_runText_42 : decode cX11_runText 42 = .ok (.aload_n 2, 1) := by decide +kernel
theorem dX11_runText_43 : decode cX11_runText 43 = .ok (.iload_n 3, 1) := by decide +kernel
theorem dX11_runText_44 : decode cX11_runText 44 = .ok (.invokeinterface 173 2, 5) := by decide +kernel
theorem dX11_runText_49 : decode cX11_runText 49 = .ok (.checkcast 177, 3) := by decide +kernel
theorem dX11_runText_52 : decode cX11_runText 52 = .ok (.invokevirtual 179, 3) := by decide +kernel
theorem dX11_runText_55 : decode cX11_runText 55 = .ok (.aload_n 0, 1) := by decide +kernel
theorem dX11_runText_56 : decode cX11_runText 56 = .ok (.dup, 1) := by decide +kernel
theorem dX11_runText_57 : decode cX11_runText 57 = .ok (.getfield 64, 3) := by decide +kernel
theorem dX11_runText_60 : decode cX11_runText 60 = .ok (.iconst 1, 1) := by decide +kernel
theorem dX11_runText_61 : decode cX11_runText 61 = .ok (.iadd, 1) := by decide +kernel
theorem dX11_runText_62 : decode cX11_runText 62 = .ok (.putfield 64, 3) := by decide +kernel
theorem dX11_runText_65 : decode cX11_runText 65 = .ok (.iinc 3 1, 3) := by decide +kernel
theorem dX11_runText_68 : decode cX11_runText 68 = .ok (.goto (-37), 3) := by decide +kernel
theorem dX11_runText_71 : decode cX11_runText 71 = .ok (.goto 4, 3) := by decide +kernel
theorem dX11_runText_74 : decode cX11_runText 74 = .ok (.astore_n 2, 1) := by decide +kernel
theorem dX11_runText_75 : decode cX11_runText 75 = .ok (.aload_n 0, 1) := by decide +kernel
theorem dX11_runText_76 : decode cX11_runText 76 = .ok (.aload_n 0, 1) := by decide +kernel
theorem dX11_runText_77 : decode cX11_runText 77 = .ok (.getfield 16, 3) := by decide +kernel
theorem dX11_runText_80 : decode cX11_runText 80 = .ok (.getfield 183, 3) := by decide +kernel
theorem dX11_runText_83 : decode cX11_runText 83 = .ok (.putfield 58, 3) := by decide +kernel
theorem dX11_runText_86 : decode cX11_runText 86 = .ok (.aload_n 0, 1) := by decide +kernel
theorem dX11_runText_87 : decode cX11_runText 87 = .ok (.aload_n 0, 1) := by decide +kernel
theorem dX11_runText_88 : decode cX11_runText 88 = .ok (.getfield 16, 3) := by decide +kernel
theorem dX11_runText_91 : decode cX11_runText 91 = .ok (.getfield 186, 3) := by decide +kernel
theorem dX11_runText_94 : decode cX11_runText 94 = .ok (.putfield 61, 3) := by decide +kernel
theorem dX11_runText_97 : decode cX11_runText 97 = .ok (.aload_n 0, 1) := by decide +kernel
theorem dX11_runText_98 : decode cX11_runText 98 = .ok (.getfield 58, 3) := by decide +kernel
theorem dX11_runText_101 : decode cX11_runText 101 = .ok (.ireturn, 1) := by decide +kernel
theorem dX11_tellTypeOf_0 : decode cX11_tellTypeOf 0 = .ok (.aload_n 0, 1) := by decide +kernel
theorem dX11_tellTypeOf_1 : decode cX11_tellTypeOf 1 = .ok (.getfield 32, 3) := by decide +kernel
theorem dX11_tellTypeOf_4 : decode cX11_tellTypeOf 4 = .ok (.iconst 0, 1) := by decide +kernel
theorem dX11_tellTypeOf_5 : decode cX11_tellTypeOf 5 = .ok (.invokevirtual 189, 3) := by decide +kernel
theorem dX11_tellTypeOf_8 : decode cX11_tellTypeOf 8 = .ok (.aload_n 0, 1) := by decide +kernel
theorem dX11_tellTypeOf_9 : decode cX11_tellTypeOf 9 = .ok (.getfield 32, 3) := by decide +kernel
theorem dX11_tellTypeOf_12 : decode cX11_tellTypeOf 12 = .ok (.iconst 0, 1) := by decide +kernel
theorem dX11_tellTypeOf_13 : decode cX11_tellTypeOf 13 = .ok (.putfield 96, 3) := by decide +kernel
theorem dX11_tellTypeOf_16 : decode cX11_tellTypeOf 16 = .ok (.aload_n 0, 1) := by decide +kernel
theorem dX11_tellTypeOf_17 : decode cX11_tellTypeOf 17 = .ok (.getfield 32, 3) := by decide +kernel
theorem dX11_tellTypeOf_20 : decode cX11_tellTypeOf 20 = .ok (.aload_n 1, 1) := by decide +kernel
theorem dX11_tellTypeOf_21 : decode cX11_tellTypeOf 21 = .ok (.invokevirtual 192, 3) := by decide +kernel
theorem dX11_tellTypeOf_24 : decode cX11_tellTypeOf 24 = .ok (.goto 13, 3) := by decide +kernel
theorem dX11_tellTypeOf_27 : decode cX11_tellTypeOf 27 = .ok (.astore_n 2, 1) := by decide +kernel
theorem dX11_tellTypeOf_28 : decode cX11_tellTypeOf 28 = .ok (.aload_n 0, 1) := by decide +kernel
theorem dX11_tellTypeOf_29 : decode cX11_tellTypeOf 29 = .ok (.getfield 16, 3) := by decide +kernel
theorem dX11_tellTypeOf_32 : decode cX11_tellTypeOf 32 = .ok (.getfield 183, 3) := by decide +kernel
theorem dX11_tellTypeOf_35 : decode cX11_tellTypeOf 35 = .ok (.ineg, 1) := by decide +kernel
theorem dX11_tellTypeOf_36 : decode cX11_tellTypeOf 36 = .ok (.ireturn, 1) := by decide +kernel
theorem dX11_tellTypeOf_37 : decode cX11_tellTypeOf 37 = .ok (.aload_n 0, 1) := by decide +kernel
theorem dX11_tellTypeOf_38 : decode cX11_tellTypeOf 38 = .ok (.getfield 32, 3) := by decide +kernel
theorem dX11_tellTypeOf_41 : decode cX11_tellTypeOf 41 = .ok (.getfield 96, 3) := by decide +kernel
theorem dX11_tellTypeOf_44 : decode cX11_tellTypeOf 44 = .ok (.ireturn, 1) := by decide +kernel
theorem dX11_compareNames_0 : decode cX11_compareNames 0 = .ok (.aload_n 0, 1) := by decide +kernel
theorem dX11_compareNames_1 : decode cX11_compareNames 1 = .ok (.getfield 32, 3) := by decide +kernel
theorem dX11_compareNames_4 : decode cX11_compareNames 4 = .ok (.iconst 0, 1) := by decide +kernel
theorem dX11_compareNames_5 : decode cX11_compareNames 5 = .ok (.invokevirtual 189, 3) := by decide +kernel
theorem dX11_compareNames_8 : decode cX11_compareNames 8 = .ok (.new 196, 3) := by decide +kernel
theorem dX11_compareNames_11 : decode cX11_compareNames 11 = .ok (.dup, 1) := by decide +kernel
theorem dX11_compareNames_12 : decode cX11_compareNames 12 = .ok (.iconst 2, 1) := by decide +kernel
theorem dX11_compareNames_13 : decode cX11_compareNames 13 = .ok (.iload_n 1, 1) := by decide +kernel
theorem dX11_compareNames_14 : decode cX11_compareNames 14 = .ok (.invokespecial 198, 3) := by decide +kernel
theorem dX11_compareNames_17 : decode cX11_compareNames 17 = .ok (.astore_n 3, 1) := by decide +kernel
theorem dX11_compareNames_18 : decode cX11_compareNames 18 = .ok (.new 196, 3) := by decide +kernel
theorem dX11_compareNames_21 : decode cX11_compareNames 21 = .ok (.dup, 1) := by decide +kernel
theorem dX11_compareNames_22 : decode cX11_compareNames 22 = .ok (.iconst 2, 1) := by decide +kernel
theorem dX11_compareNames_23 : decode cX11_compareNames 23 = .ok (.iload_n 2, 1) := by decide +kernel
theorem dX11_compareNames_24 : decode cX11_compareNames 24 = .ok (.invokespecial 198, 3) := by decide +kernel
theorem dX11_compareNames_27 : decode cX11_compareNames 27 = .ok (.astore 4, 2) := by decide +kernel
theorem dX11_compareNames_29 : decode cX11_compareNames 29 = .ok (.aload_n 0, 1) := by decide +kernel
theorem dX11_compareNames_30 : decode cX11_compareNames 30 = .ok (.getfield 32, 3) := by decide +kernel
theorem dX11_compareNames_33 : decode cX11_compareNames 33 = .ok (.aload_n 3, 1) := by decide +kernel
theorem dX11_compareNames_34 : decode cX11_compareNames 34 = .ok (.aload 4, 2) := by decide +kernel
theorem dX11_compareNames_36 : decode cX11_compareNames 36 = .ok (.invokevirtual 201, 3) := by decide +kernel
theorem dX11_compareNames_39 : decode cX11_compareNames 39 = .ok (.ifCond .eq 7, 3) := by decide +kernel
theorem dX11_compareNames_42 : decode cX11_compareNames 42 = .ok (.iconst 1, 1) := by decide +kernel
theorem dX11_compareNames_43 : decode cX11_compareNames 43 = .ok (.goto 4, 3) := by decide +kernel
theorem dX11_compareNames_46 : decode cX11_compareNames 46 = .ok (.iconst 0, 1) := by decide +kernel
theorem dX11_compareNames_47 : decode cX11_compareNames 47 = .ok (.ireturn, 1) := by decide +kernel
theorem dX11_compareNames_48 : decode cX11_compareNames 48 = .ok (.astore 5, 2) := by decide +kernel
theorem dX11_compareNames_50 : decode cX11_compareNames 50 = .ok (.aload_n 0, 1) := by decide +kernel
theorem dX11_compareNames_51 : decode cX11_compareNames 51 = .ok (.getfield 16, 3) := by decide +kernel
theorem dX11_compareNames_54 : decode cX11_compareNames 54 = .ok (.getfield 183, 3) := by decide +kernel
theorem dX11_compareNames_57 : decode cX11_compareNames 57 = .ok (.ineg, 1) := by decide +kernel
theorem dX11_compareNames_58 : decode cX11_compareNames 58 = .ok (.ireturn, 1) := by decide +kernel
theorem dX11_perform_0 : decode cX11_perform 0 = .ok (.aload_n 0, 1) := by decide +kernel
theorem dX11_perform_1 : decode cX11_perform 1 = .ok (.getfield 32, 3) := by decide +kernel
theorem dX11_perform_4 : decode cX11_perform 4 = .ok (.aload_n 1, 1) := by decide +kernel
theorem dX11_perform_5 : decode cX11_perform 5 = .ok (.getfield 205, 3) := by decide +kernel
theorem dX11_perform_8 : decode cX11_perform 8 = .ok (.invokevirtual 189, 3) := by decide +kernel
theorem dX11_perform_11 : decode cX11_perform 11 = .ok (.aload_n 1, 1) := by decide +kernel
theorem dX11_perform_12 : decode cX11_perform 12 = .ok (.getfield 208, 3) := by decide +kernel
theorem dX11_perform_15 : decode cX11_perform 15 = .ok (.tableswitch 167 0 8 #[49, 57, 65, 89, 97, 167, 132, 73, 81], 49) := by decide +kernel
theorem dX11_perform_64 : decode cX11_perform 64 = .ok (.aload_n 0, 1) := by decide +kernel
theorem dX11_perform_65 : decode cX11_perform 65 = .ok (.aload_n 1, 1) := by decide +kernel
theorem dX11_perform_66 : decode cX11_perform 66 = .ok (.invokevirtual 211, 3) := by decide +kernel
theorem dX11_perform_69 : decode cX11_perform 69 = .ok (.goto 118, 3) := by decide +kernel
theorem dX11_perform_72 : decode cX11_perform 72 = .ok (.aload_n 0, 1) := by decide +kernel
theorem dX11_perform_73 : decode cX11_perform 73 = .ok (.aload_n 1, 1) := by decide +kernel
theorem dX11_perform_74 : decode cX11_perform 74 = .ok (.invokevirtual 214, 3) := by decide +kernel
theorem dX11_perform_77 : decode cX11_perform 77 = .ok (.goto 110, 3) := by decide +kernel
theorem dX11_perform_80 : decode cX11_perform 80 = .ok (.aload_n 0, 1) := by decide +kernel
theorem dX11_perform_81 : decode cX11_perform 81 = .ok (.aload_n 1, 1) := by decide +kernel
theorem dX11_perform_82 : decode cX11_perform 82 = .ok (.invokevirtual 217, 3) := by decide +kernel
theorem dX11_perform_85 : decode cX11_perform 85 = .ok (.goto 102, 3) := by decide +kernel
theorem dX11_perform_88 : decode cX11_perform 88 = .ok (.aload_n 0, 1) := by decide +kernel
theorem dX11_perform_89 : decode cX11_perform 89 = .ok (.aload_n 1, 1) := by decide +kernel
theorem dX11_perform_90 : decode cX11_perform 90 = .ok (.invokevirtual 220, 3) := by decide +kernel
theorem dX11_perform_93 : decode cX11_perform 93 = .ok (.goto 94, 3) := by decide +kernel
theorem dX11_perform_96 : decode cX11_perform 96 = .ok (.aload_n 0, 1) := by decide +kernel
theorem dX11_perform_97 : decode cX11_perform 97 = .ok (.aload_n 1, 1) := by decide +kernel
theorem dX11_perform_98 : decode cX11_perform 98 = .ok (.invokevirtual 223, 3) := by decide +kernel
theorem dX11_perform_101 : decode cX11_perform 101 = .ok (.goto 86, 3) := by decide +kernel
theorem dX11_perform_104 : decode cX11_perform 104 = .ok (.aload_n 0, 1) := by decide +kernel
theorem dX11_perform_105 : decode cX11_perform 105 = .ok (.aload_n 1, 1) := by decide +kernel
theorem dX11_perform_106 : decode cX11_perform 106 = .ok (.invokevirtual 226, 3) := by decide +kernel
theorem dX11_perform_109 : decode cX11_perform 109 = .ok (.goto 78, 3) := by decide +kernel
theorem dX11_perform_112 : decode cX11_perform 112 = .ok (.aload_n 0, 1) := by decide +kernel
theorem dX11_perform_113 : decode cX11_perform 113 = .ok (.getfield 50, 3) := by decide +kernel
theorem dX11_perform_116 : decode cX11_perform 116 = .ok (.aload_n 1, 1) := by decide +kernel
theorem dX11_perform_117 : decode cX11_perform 117 = .ok (.getfield 229, 3) := by decide +kernel
theorem dX11_perform_120 : decode cX11_perform 120 = .ok (.invokevirtual 233, 3) := by decide +kernel
theorem dX11_perform_123 : decode cX11_perform 123 = .ok (.pop, 1) := by decide +kernel
theorem dX11_perform_124 : decode cX11_perform 124 = .ok (.aload_n 0, 1) := by decide +kernel
theorem dX11_perform_125 : decode cX11_perform 125 = .ok (.getfield 32, 3) := by decide +kernel
theorem dX11_perform_128 : decode cX11_perform 128 = .ok (.aload_n 1, 1) := by decide +kernel
theorem dX11_perform_129 : decode cX11_perform 129 = .ok (.getfield 229, 3) := by decide +kernel
theorem dX11_perform_132 : decode cX11_perform 132 = .ok (.invokevirtual 192, 3) := by decide +kernel
theorem dX11_perform_135 : decode cX11_perform 135 = .ok (.aload_n 0, 1) := by decide +kernel
theorem dX11_perform_136 : decode cX11_perform 136 = .ok (.getfield 32, 3) := by decide +kernel
theorem dX11_perform_139 : decode cX11_perform 139 = .ok (.bipush 10, 2) := by decide +kernel
theorem dX11_perform_141 : decode cX11_perform 141 = .ok (.invokevirtual 237, 3) := by decide +kernel
theorem dX11_perform_144 : decode cX11_perform 144 = .ok (.goto 43, 3) := by decide +kernel
theorem dX11_perform_147 : decode cX11_perform 147 = .ok (.aload_n 0, 1) := by decide +kernel
theorem dX11_perform_148 : decode cX11_perform 148 = .ok (.getfield 50, 3) := by decide +kernel
theorem dX11_perform_151 : decode cX11_perform 151 = .ok (.aload_n 1, 1) := by decide +kernel
theorem dX11_perform_152 : decode cX11_perform 152 = .ok (.getfield 229, 3) := by decide +kernel
theorem dX11_perform_155 : decode cX11_perform 155 = .ok (.invokevirtual 233, 3) := by decide +kernel
theorem dX11_perform_158 : decode cX11_perform 158 = .ok (.pop, 1) := by decide +kernel
theorem dX11_perform_159 : decode cX11_perform 159 = .ok (.aload_n 0, 1) := by decide +kernel
theorem dX11_perform_160 : decode cX11_perform 160 = .ok (.getfield 32, 3) := by decide +kernel
theorem dX11_perform_163 : decode cX11_perform 163 = .ok (.aload_n 1, 1) := by decide +kernel
theorem dX11_perform_164 : decode cX11_perform 164 = .ok (.getfield 229, 3) := by decide +kernel
theorem dX11_perform_167 : decode cX11_perform 167 = .ok (.invokevirtual 240, 3) := by decide +kernel
theorem dX11_perform_170 : decode cX11_perform 170 = .ok (.aload_n 0, 1) := by decide +kernel
theorem dX11_perform_171 : decode cX11_perform 171 = .ok (.getfield 32, 3) := by decide +kernel
theorem dX11_perform_174 : decode cX11_perform 174 = .ok (.bipush 10, 2) := by decide +kernel
theorem dX11_perform_176 : decode cX11_perform 176 = .ok (.invokevirtual 237, 3) := by decide +kernel
theorem dX11_perform_179 : decode cX11_perform 179 = .ok (.goto 8, 3) := by decide +kernel
theorem dX11_perform_182 : decode cX11_perform 182 = .ok (.aload_n 0, 1) := by decide +kernel
theorem dX11_perform_183 : decode cX11_perform 183 = .ok (.aload_n 1, 1) := by decide +kernel
theorem dX11_perform_184 : decode cX11_perform 184 = .ok (.invokevirtual 243, 3) := by decide +kernel
theorem dX11_perform_187 : decode cX11_perform 187 = .ok (.return_, 1) := by decide +kernel
theorem dX11_addSort_0 : decode cX11_addSort 0 = .ok (.aload_n 0, 1) := by decide +kernel
theorem dX11_addSort_1 : decode cX11_addSort 1 = .ok (.aload_n 1, 1) := by decide +kernel
theorem dX11_addSort_2 : decode cX11_addSort 2 = .ok (.invokevirtual 246, 3) := by decide +kernel
theorem dX11_addSort_5 : decode cX11_addSort 5 = .ok (.aload_n 0, 1) := by decide +kernel
theorem dX11_addSort_6 : decode cX11_addSort 6 = .ok (.aload_n 1, 1) := by decide +kernel
theorem dX11_addSort_7 : decode cX11_addSort 7 = .ok (.getfield 249, 3) := by decide +kernel
theorem dX11_addSort_10 : decode cX11_addSort 10 = .ok (.invokevirtual 252, 3) := by decide +kernel
theorem dX11_addSort_13 : decode cX11_addSort 13 = .ok (.iconst (-1), 1) := by decide +kernel
theorem dX11_addSort_14 : decode cX11_addSort 14 = .ok (.if_icmp .eq 26, 3) := by decide +kernel
theorem dX11_addSort_17 : decode cX11_addSort 17 = .ok (.aload_n 0, 1) := by decide +kernel
theorem dX11_addSort_18 : decode cX11_addSort 18 = .ok (.getfield 16, 3) := by decide +kernel
theorem dX11_addSort_21 : decode cX11_addSort 21 = .ok (.iconst 4, 1) := by decide +kernel
theorem dX11_addSort_22 : decode cX11_addSort 22 = .ok (.aload_n 1, 1) := by decide +kernel
theorem dX11_addSort_23 : decode cX11_addSort 23 = .ok (.getfield 249, 3) := by decide +kernel
theorem dX11_addSort_26 : decode cX11_addSort 26 = .ok (.getfield 255, 3) := by decide +kernel
theorem dX11_addSort_29 : decode cX11_addSort 29 = .ok (.invokevirtual 256, 3) := by decide +kernel
theorem dX11_addSort_32 : decode cX11_addSort 32 = .ok (.new 158, 3) := by decide +kernel
theorem dX11_addSort_35 : decode cX11_addSort 35 = .ok (.dup, 1) := by decide +kernel
theorem dX11_addSort_36 : decode cX11_addSort 36 = .ok (.invokespecial 160, 3) := by decide +kernel
theorem dX11_addSort_39 : decode cX11_addSort 39 = .ok (.athrow, 1) := by decide +kernel
theorem dX11_addSort_40 : decode cX11_addSort 40 = .ok (.aload_n 0, 1) := by decide +kernel
theorem dX11_addSort_41 : decode cX11_addSort 41 = .ok (.getfield 23, 3) := by decide +kernel
theorem dX11_addSort_44 : decode cX11_addSort 44 = .ok (.getfield 109, 3) := by decide +kernel
theorem dX11_addSort_47 : decode cX11_addSort 47 = .ok (.invokevirtual 259, 3) := by decide +kernel
theorem dX11_addSort_50 : decode cX11_addSort 50 = .ok (.ifCond .eq 26, 3) := by decide +kernel
theorem dX11_addSort_53 : decode cX11_addSort 53 = .ok (.aload_n 0, 1) := by decide +kernel
theorem dX11_addSort_54 : decode cX11_addSort 54 = .ok (.getfield 16, 3) := by decide +kernel
theorem dX11_addSort_57 : decode cX11_addSort 57 = .ok (.iconst 5, 1) := by decide +kernel
theorem dX11_addSort_58 : decode cX11_addSort 58 = .ok (.aload_n 1, 1) := by decide +kernel
theorem dX11_addSort_59 : decode cX11_addSort 59 = .ok (.getfield 249, 3) := by decide +kernel
theorem dX11_addSort_62 : decode cX11_addSort 62 = .ok (.getfield 255, 3) := by decide +kernel
theorem dX11_addSort_65 : decode cX11_addSort 65 = .ok (.invokevirtual 256, 3) := by decide +kernel
theorem dX11_addSort_68 : decode cX11_addSort 68 = .ok (.new 158, 3) := by decide +kernel
theorem dX11_addSort_71 : decode cX11_addSort 71 = .ok (.dup, 1) := by decide +kernel
theorem dX11_addSort_72 : decode cX11_addSort 72 = .ok (.invokespecial 160, 3) := by decide +kernel
theorem dX11_addSort_75 : decode cX11_addSort 75 = .ok (.athrow, 1) := by decide +kernel
theorem dX11_addSort_76 : decode cX11_addSort 76 = .ok (.aload_n 0, 1) := by decide +kernel
theorem dX11_addSort_77 : decode cX11_addSort 77 = .ok (.getfield 23, 3) := by decide +kernel
theorem dX11_addSort_80 : decode cX11_addSort 80 = .ok (.getfield 109, 3) := by decide +kernel
theorem dX11_addSort_83 : decode cX11_addSort 83 = .ok (.aload_n 0, 1) := by decide +kernel
theorem dX11_addSort_84 : decode cX11_addSort 84 = .ok (.getfield 9, 3) := by decide +kernel
theorem dX11_addSort_87 : decode cX11_addSort 87 = .ok (.aload_n 1, 1) := by decide +kernel
theorem dX11_addSort_88 : decode cX11_addSort 88 = .ok (.getfield 249, 3) := by decide +kernel
theorem dX11_addSort_91 : decode cX11_addSort 91 = .ok (.getfield 263, 3) := by decide +kernel
theorem dX11_addSort_94 : decode cX11_addSort 94 = .ok (.aload_n 1, 1) := by decide +kernel
theorem dX11_addSort_95 : decode cX11_addSort 95 = .ok (.getfield 249, 3) := by decide +kernel
theorem dX11_addSort_98 : decode cX11_addSort 98 = .ok (.getfield 266, 3) := by decide +kernel
theorem dX11_addSort_101 : decode cX11_addSort 101 = .ok (.invokevirtual 269, 3) := by decide +kernel
theorem dX11_addSort_104 : decode cX11_addSort 104 = .ok (.return_, 1) := by decide +kernel
theorem dX11_addAxiom_0 : decode cX11_addAxiom 0 = .ok (.aload_n 0, 1) := by decide +kernel
theorem dX11_addAxiom_1 : decode cX11_addAxiom 1 = .ok (.aload_n 1, 1) := by decide +kernel
theorem dX11_addAxiom_2 : decode cX11_addAxiom 2 = .ok (.invokevirtual 246, 3) := by decide +kernel
theorem dX11_addAxiom_5 : decode cX11_addAxiom 5 = .ok (.aload_n 0, 1) := by decide +kernel
theorem dX11_addAxiom_6 : decode cX11_addAxiom 6 = .ok (.aload_n 1, 1) := by decide +kernel
theorem dX11_addAxiom_7 : decode cX11_addAxiom 7 = .ok (.getfield 249, 3) := by decide +kernel
theorem dX11_addAxiom_10 : decode cX11_addAxiom 10 = .ok (.invokevirtual 273, 3) := by decide +kernel
theorem dX11_addAxiom_13 : decode cX11_addAxiom 13 = .ok (.istore_n 2, 1) := by decide +kernel
theorem dX11_addAxiom_14 : decode cX11_addAxiom 14 = .ok (.aload_n 0, 1) := by decide +kernel
theorem dX11_addAxiom_15 : decode cX11_addAxiom 15 = .ok (.aload_n 1, 1) := by decide +kernel
theorem dX11_addAxiom_16 : decode cX11_addAxiom 16 = .ok (.getfield 229, 3) := by decide +kernel
theorem dX11_addAxiom_19 : decode cX11_addAxiom 19 = .ok (.invokevirtual 273, 3) := by decide +kernel
theorem dX11_addAxiom_22 : decode cX11_addAxiom 22 = .ok (.istore_n 3, 1) := by decide +kernel
theorem dX11_addAxiom_23 : decode cX11_addAxiom 23 = .ok (.aload_n 0, 1) := by decide +kernel
theorem dX11_addAxiom_24 : decode cX11_addAxiom 24 = .ok (.getfield 23, 3) := by decide +kernel
theorem dX11_addAxiom_27 : decode cX11_addAxiom 27 = .ok (.iload_n 2, 1) := by decide +kernel
theorem dX11_addAxiom_28 : decode cX11_addAxiom 28 = .ok (.invokevirtual 139, 3) := by decide +kernel
theorem dX11_addAxiom_31 : decode cX11_addAxiom 31 = .ok (.iconst (-1), 1) := by decide +kernel
theorem dX11_addAxiom_32 : decode cX11_addAxiom 32 = .ok (.if_icmp .eq 26, 3) := by decide +kernel
theorem dX11_addAxiom_35 : decode cX11_addAxiom 35 = .ok (.aload_n 0, 1) := by decide +kernel
theorem dX11_addAxiom_36 : decode cX11_addAxiom 36 = .ok (.getfield 16, 3) := by decide +kernel
theorem dX11_addAxiom_39 : decode cX11_addAxiom 39 = .ok (.iconst 4, 1) := by decide +kernel
theorem dX11_addAxiom_40 : decode cX11_addAxiom 40 = .ok (.aload_n 1, 1) := by decide +kernel
theorem dX11_addAxiom_41 : decode cX11_addAxiom 41 = .ok (.getfield 249, 3) := by decide +kernel
theorem dX11_addAxiom_44 : decode cX11_addAxiom 44 = .ok (.getfield 255, 3) := by decide +kernel
theorem dX11_addAxiom_47 : decode cX11_addAxiom 47 = .ok (.invokevirtual 256, 3) := by decide +kernel
theorem dX11_addAxiom_50 : decode cX11_addAxiom 50 = .ok (.new 158, 3) := by decide +kernel
theorem dX11_addAxiom_53 : decode cX11_addAxiom 53 = .ok (.dup, 1) := by decide +kernel
theorem dX11_addAxiom_54 : decode cX11_addAxiom 54 = .ok (.invokespecial 160, 3) := by decide +kernel
theorem dX11_addAxiom_57 : decode cX11_addAxiom 57 = .ok (.athrow, 1) := by decide +kernel
theorem dX11_addAxiom_58 : decode cX11_addAxiom 58 = .ok (.aload_n 0, 1) := by decide +kernel
theorem dX11_addAxiom_59 : decode cX11_addAxiom 59 = .ok (.getfield 23, 3) := by decide +kernel
theorem dX11_addAxiom_62 : decode cX11_addAxiom 62 = .ok (.iload_n 2, 1) := by decide +kernel
theorem dX11_addAxiom_63 : decode cX11_addAxiom 63 = .ok (.iload_n 3, 1) := by decide +kernel
theorem dX11_addAxiom_64 : decode cX11_addAxiom 64 = .ok (.invokevirtual 276, 3) := by decide +kernel
theorem dX11_addAxiom_67 : decode cX11_addAxiom 67 = .ok (.return_, 1) := by decide +kernel
theorem dX11_addRule_0 : decode cX11_addRule 0 = .ok (.aload_n 0, 1) := by decide +kernel
theorem dX11_addRule_1 : decode cX11_addRule 1 = .ok (.aload_n 1, 1) := by decide +kernel
theorem dX11_addRule_2 : decode cX11_addRule 2 = .ok (.invokevirtual 246, 3) := by decide +kernel
theorem dX11_addRule_5 : decode cX11_addRule 5 = .ok (.aload_n 0, 1) := by decide +kernel
theorem dX11_addRule_6 : decode cX11_addRule 6 = .ok (.aload_n 1, 1) := by decide +kernel
theorem dX11_addRule_7 : decode cX11_addRule 7 = .ok (.getfield 249, 3) := by decide +kernel
theorem dX11_addRule_10 : decode cX11_addRule 10 = .ok (.invokevirtual 273, 3) := by decide +kernel
theorem dX11_addRule_13 : decode cX11_addRule 13 = .ok (.istore_n 2, 1) := by decide +kernel
theorem dX11_addRule_14 : decode cX11_addRule 14 = .ok (.aload_n 0, 1) := by decide +kernel
theorem dX11_addRule_15 : decode cX11_addRule 15 = .ok (.aload_n 1, 1) := by decide +kernel
theorem dX11_addRule_16 : decode cX11_addRule 16 = .ok (.getfield 229, 3) := by decide +kernel
theorem dX11_addRule_19 : decode cX11_addRule 19 = .ok (.invokevirtual 273, 3) := by decide +kernel
theorem dX11_addRule_22 : decode cX11_addRule 22 = .ok (.istore_n 3, 1) := by decide +kernel
theorem dX11_addRule_23 : decode cX11_addRule 23 = .ok (.aload_n 0, 1) := by decide +kernel
theorem dX11_addRule_24 : decode cX11_addRule 24 = .ok (.aload_n 1, 1) := by decide +kernel
theorem dX11_addRule_25 : decode cX11_addRule 25 = .ok (.getfield 279, 3) := by decide +kernel
theorem dX11_addRule_28 : decode cX11_addRule 28 = .ok (.invokevirtual 273, 3) := by decide +kernel
theorem dX11_addRule_31 : decode cX11_addRule 31 = .ok (.istore 4, 2) := by decide +kernel
theorem dX11_addRule_33 : decode cX11_addRule 33 = .ok (.aload_n 0, 1) := by decide +kernel
theorem dX11_addRule_34 : decode cX11_addRule 34 = .ok (.getfield 23, 3) := by decide +kernel
theorem dX11_addRule_37 : decode cX11_addRule 37 = .ok (.iload_n 2, 1) := by decide +kernel
theorem dX11_addRule_38 : decode cX11_addRule 38 = .ok (.iload_n 3, 1) := by decide +kernel
theorem dX11_addRule_39 : decode cX11_addRule 39 = .ok (.invokevirtual 142, 3) := by decide +kernel
theorem dX11_addRule_42 : decode cX11_addRule 42 = .ok (.iconst (-1), 1) := by decide +kernel
theorem dX11_addRule_43 : decode cX11_addRule 43 = .ok (.if_icmp .eq 26, 3) := by decide +kernel
theorem dX11_addRule_46 : decode cX11_addRule 46 = .ok (.aload_n 0, 1) := by decide +kernel
theorem dX11_addRule_47 : decode cX11_addRule 47 = .ok (.getfield 16, 3) := by decide +kernel
theorem dX11_addRule_50 : decode cX11_addRule 50 = .ok (.iconst 4, 1) := by decide +kernel
theorem dX11_addRule_51 : decode cX11_addRule 51 = .ok (.aload_n 1, 1) := by decide +kernel
theorem dX11_addRule_52 : decode cX11_addRule 52 = .ok (.getfield 249, 3) := by decide +kernel
theorem dX11_addRule_55 : decode cX11_addRule 55 = .ok (.getfield 255, 3) := by decide +kernel
theorem dX11_addRule_58 : decode cX11_addRule 58 = .ok (.invokevirtual 256, 3) := by decide +kernel
theorem dX11_addRule_61 : decode cX11_addRule 61 = .ok (.new 158, 3) := by decide +kernel
theorem dX11_addRule_64 : decode cX11_addRule 64 = .ok (.dup, 1) := by decide +kernel
theorem dX11_addRule_65 : decode cX11_addRule 65 = .ok (.invokespecial 160, 3) := by decide +kernel
theorem dX11_addRule_68 : decode cX11_addRule 68 = .ok (.athrow, 1) := by decide +kernel
theorem dX11_addRule_69 : decode cX11_addRule 69 = .ok (.aload_n 0, 1) := by decide +kernel
theorem dX11_addRule_70 : decode cX11_addRule 70 = .ok (.getfield 23, 3) := by decide +kernel
theorem dX11_addRule_73 : decode cX11_addRule 73 = .ok (.iload_n 2, 1) := by decide +kernel
theorem dX11_addRule_74 : decode cX11_addRule 74 = .ok (.iload_n 3, 1) := by decide +kernel
theorem dX11_addRule_75 : decode cX11_addRule 75 = .ok (.iload 4, 2) := by decide +kernel
theorem dX11_addRule_77 : decode cX11_addRule 77 = .ok (.invokevirtual 282, 3) := by decide +kernel
theorem dX11_addRule_80 : decode cX11_addRule 80 = .ok (.return_, 1) := by decide +kernel
theorem dX11_refuseBesideNames_0 : decode cX11_refuseBesideNames 0 = .ok (.aload_n 0, 1) := by decide +kernel
theorem dX11_refuseBesideNames_1 : decode cX11_refuseBesideNames 1 = .ok (.getfield 23, 3) := by decide +kernel
theorem dX11_refuseBesideNames_4 : decode cX11_refuseBesideNames 4 = .ok (.getfield 84, 3) := by decide +kernel
theorem dX11_refuseBesideNames_7 : decode cX11_refuseBesideNames 7 = .ok (.getfield 88, 3) := by decide +kernel
theorem dX11_refuseBesideNames_10 : decode cX11_refuseBesideNames 10 = .ok (.ifCond .le 24, 3) := by decide +kernel
theorem dX11_refuseBesideNames_13 : decode cX11_refuseBesideNames 13 = .ok (.aload_n 0, 1) := by decide +kernel
theorem dX11_refuseBesideNames_14 : decode cX11_refuseBesideNames 14 = .ok (.getfield 16, 3) := by decide +kernel
theorem dX11_refuseBesideNames_17 : decode cX11_refuseBesideNames 17 = .ok (.bipush 6, 2) := by decide +kernel
theorem dX11_refuseBesideNames_19 : decode cX11_refuseBesideNames 19 = .ok (.aload_n 1, 1) := by decide +kernel
theorem dX11_refuseBesideNames_20 : decode cX11_refuseBesideNames 20 = .ok (.getfield 205, 3) := by decide +kernel
theorem dX11_refuseBesideNames_23 : decode cX11_refuseBesideNames 23 = .ok (.invokevirtual 256, 3) := by decide +kernel
theorem dX11_refuseBesideNames_26 : decode cX11_refuseBesideNames 26 = .ok (.new 158, 3) := by decide +kernel
theorem dX11_refuseBesideNames_29 : decode cX11_refuseBesideNames 29 = .ok (.dup, 1) := by decide +kernel
theorem dX11_refuseBesideNames_30 : decode cX11_refuseBesideNames 30 = .ok (.invokespecial 160, 3) := by decide +kernel
theorem dX11_refuseBesideNames_33 : decode cX11_refuseBesideNames 33 = .ok (.athrow, 1) := by decide +kernel
theorem dX11_refuseBesideNames_34 : decode cX11_refuseBesideNames 34 = .ok (.return_, 1) := by decide +kernel
theorem dX11_neededSort_0 : decode cX11_neededSort 0 = .ok (.aload_n 0, 1) := by decide +kernel
theorem dX11_neededSort_1 : decode cX11_neededSort 1 = .ok (.aload_n 1, 1) := by decide +kernel
theorem dX11_neededSort_2 : decode cX11_neededSort 2 = .ok (.invokevirtual 252, 3) := by decide +kernel
theorem dX11_neededSort_5 : decode cX11_neededSort 5 = .ok (.istore_n 2, 1) := by decide +kernel
theorem dX11_neededSort_6 : decode cX11_neededSort 6 = .ok (.iload_n 2, 1) := by decide +kernel
theorem dX11_neededSort_7 : decode cX11_neededSort 7 = .ok (.iconst (-1), 1) := by decide +kernel
theorem dX11_neededSort_8 : decode cX11_neededSort 8 = .ok (.if_icmp .ne 23, 3) := by decide +kernel
theorem dX11_neededSort_11 : decode cX11_neededSort 11 = .ok (.aload_n 0, 1) := by decide +kernel
theorem dX11_neededSort_12 : decode cX11_neededSort 12 = .ok (.getfield 16, 3) := by decide +kernel
theorem dX11_neededSort_15 : decode cX11_neededSort 15 = .ok (.iconst 3, 1) := by decide +kernel
theorem dX11_neededSort_16 : decode cX11_neededSort 16 = .ok (.aload_n 1, 1) := by decide +kernel
theorem dX11_neededSort_17 : decode cX11_neededSort 17 = .ok (.getfield 255, 3) := by decide +kernel
theorem dX11_neededSort_20 : decode cX11_neededSort 20 = .ok (.invokevirtual 256, 3) := by decide +kernel
theorem dX11_neededSort_23 : decode cX11_neededSort 23 = .ok (.new 158, 3) := by decide +kernel
theorem dX11_neededSort_26 : decode cX11_neededSort 26 = .ok (.dup, 1) := by decide +kernel
theorem dX11_neededSort_27 : decode cX11_neededSort 27 = .ok (.invokespecial 160, 3) := by decide +kernel
theorem dX11_neededSort_30 : decode cX11_neededSort 30 = .ok (.athrow, 1) := by decide +kernel
theorem dX11_neededSort_31 : decode cX11_neededSort 31 = .ok (.iload_n 2, 1) := by decide +kernel
theorem dX11_neededSort_32 : decode cX11_neededSort 32 = .ok (.ireturn, 1) := by decide +kernel
theorem dX11_sortNumber_0 : decode cX11_sortNumber 0 = .ok (.aload_n 0, 1) := by decide +kernel
theorem dX11_sortNumber_1 : decode cX11_sortNumber 1 = .ok (.getfield 23, 3) := by decide +kernel
theorem dX11_sortNumber_4 : decode cX11_sortNumber 4 = .ok (.getfield 109, 3) := by decide +kernel
theorem dX11_sortNumber_7 : decode cX11_sortNumber 7 = .ok (.aload_n 0, 1) := by decide +kernel
theorem dX11_sortNumber_8 : decode cX11_sortNumber 8 = .ok (.getfield 9, 3) := by decide +kernel
theorem dX11_sortNumber_11 : decode cX11_sortNumber 11 = .ok (.aload_n 1, 1) := by decide +kernel
theorem dX11_sortNumber_12 : decode cX11_sortNumber 12 = .ok (.getfield 263, 3) := by decide +kernel
theorem dX11_sortNumber_15 : decode cX11_sortNumber 15 = .ok (.aload_n 1, 1) := by decide +kernel
theorem dX11_sortNumber_16 : decode cX11_sortNumber 16 = .ok (.getfield 266, 3) := by decide +kernel
theorem dX11_sortNumber_19 : decode cX11_sortNumber 19 = .ok (.invokevirtual 286, 3) := by decide +kernel
theorem dX11_sortNumber_22 : decode cX11_sortNumber 22 = .ok (.ireturn, 1) := by decide +kernel
theorem dX11_assume_0 : decode cX11_assume 0 = .ok (.aload_n 0, 1) := by decide +kernel
theorem dX11_assume_1 : decode cX11_assume 1 = .ok (.aload_n 1, 1) := by decide +kernel
theorem dX11_assume_2 : decode cX11_assume 2 = .ok (.getfield 249, 3) := by decide +kernel
theorem dX11_assume_5 : decode cX11_assume 5 = .ok (.invokevirtual 290, 3) := by decide +kernel
theorem dX11_assume_8 : decode cX11_assume 8 = .ok (.aload_n 0, 1) := by decide +kernel
theorem dX11_assume_9 : decode cX11_assume 9 = .ok (.getfield 50, 3) := by decide +kernel
theorem dX11_assume_12 : decode cX11_assume 12 = .ok (.aload_n 1, 1) := by decide +kernel
theorem dX11_assume_13 : decode cX11_assume 13 = .ok (.getfield 229, 3) := by decide +kernel
theorem dX11_assume_16 : decode cX11_assume 16 = .ok (.invokevirtual 293, 3) := by decide +kernel
theorem dX11_assume_19 : decode cX11_assume 19 = .ok (.istore_n 2, 1) := by decide +kernel
theorem dX11_assume_20 : decode cX11_assume 20 = .ok (.aload_n 0, 1) := by decide +kernel
theorem dX11_assume_21 : decode cX11_assume 21 = .ok (.getfield 32, 3) := by decide +kernel
theorem dX11_assume_24 : decode cX11_assume 24 = .ok (.aload_n 1, 1) := by decide +kernel
theorem dX11_assume_25 : decode cX11_assume 25 = .ok (.getfield 229, 3) := by decide +kernel
theorem dX11_assume_28 : decode cX11_assume 28 = .ok (.aconst_null, 1) := by decide +kernel
theorem dX11_assume_29 : decode cX11_assume 29 = .ok (.invokevirtual 296, 3) := by decide +kernel
theorem dX11_assume_32 : decode cX11_assume 32 = .ok (.astore_n 3, 1) := by decide +kernel
theorem dX11_assume_33 : decode cX11_assume 33 = .ok (.aload_n 1, 1) := by decide +kernel
theorem dX11_assume_34 : decode cX11_assume 34 = .ok (.getfield 279, 3) := by decide +kernel
theorem dX11_assume_37 : decode cX11_assume 37 = .ok (.ifnull 23, 3) := by decide +kernel
theorem dX11_assume_40 : decode cX11_assume 40 = .ok (.aload_n 0, 1) := by decide +kernel
theorem dX11_assume_41 : decode cX11_assume 41 = .ok (.aload_n 3, 1) := by decide +kernel
theorem dX11_assume_42 : decode cX11_assume 42 = .ok (.aload_n 0, 1) := by decide +kernel
theorem dX11_assume_43 : decode cX11_assume 43 = .ok (.getfield 50, 3) := by decide +kernel
theorem dX11_assume_46 : decode cX11_assume 46 = .ok (.aload_n 1, 1) := by decide +kernel
theorem dX11_assume_47 : decode cX11_assume 47 = .ok (.getfield 279, 3) := by decide +kernel
theorem dX11_assume_50 : decode cX11_assume 50 = .ok (.invokevirtual 233, 3) := by decide +kernel
theorem dX11_assume_53 : decode cX11_assume 53 = .ok (.aload_n 1, 1) := by decide +kernel
theorem dX11_assume_54 : decode cX11_assume 54 = .ok (.getfield 279, 3) := by decide +kernel
theorem dX11_assume_57 : decode cX11_assume 57 = .ok (.invokevirtual 300, 3) := by decide +kernel
theorem dX11_assume_60 : decode cX11_assume 60 = .ok (.aload_n 0, 1) := by decide +kernel
theorem dX11_assume_61 : decode cX11_assume 61 = .ok (.getfield 23, 3) := by decide +kernel
theorem dX11_assume_64 : decode cX11_assume 64 = .ok (.aload_n 0, 1) := by decide +kernel
theorem dX11_assume_65 : decode cX11_assume 65 = .ok (.getfield 9, 3) := by decide +kernel
theorem dX11_assume_68 : decode cX11_assume 68 = .ok (.aload_n 1, 1) := by decide +kernel
theorem dX11_assume_69 : decode cX11_assume 69 = .ok (.getfield 249, 3) := by decide +kernel
theorem dX11_assume_72 : decode cX11_assume 72 = .ok (.aload_n 3, 1) := by decide +kernel
theorem dX11_assume_73 : decode cX11_assume 73 = .ok (.iload_n 2, 1) := by decide +kernel
theorem dX11_assume_74 : decode cX11_assume 74 = .ok (.aload_n 1, 1) := by decide +kernel
theorem dX11_assume_75 : decode cX11_assume 75 = .ok (.getfield 279, 3) := by decide +kernel
theorem dX11_assume_78 : decode cX11_assume 78 = .ok (.invokevirtual 304, 3) := by decide +kernel
theorem dX11_assume_81 : decode cX11_assume 81 = .ok (.return_, 1) := by decide +kernel
theorem dX11_define_0 : decode cX11_define 0 = .ok (.aload_n 0, 1) := by decide +kernel
theorem dX11_define_1 : decode cX11_define 1 = .ok (.aload_n 1, 1) := by decide +kernel
theorem dX11_define_2 : decode cX11_define 2 = .ok (.getfield 249, 3) := by decide +kernel
theorem dX11_define_5 : decode cX11_define 5 = .ok (.invokevirtual 290, 3) := by decide +kernel
theorem dX11_define_8 : decode cX11_define 8 = .ok (.aload_n 0, 1) := by decide +kernel
theorem dX11_define_9 : decode cX11_define 9 = .ok (.getfield 50, 3) := by decide +kernel
theorem dX11_define_12 : decode cX11_define 12 = .ok (.aload_n 1, 1) := by decide +kernel
theorem dX11_define_13 : decode cX11_define 13 = .ok (.getfield 229, 3) := by decide +kernel
theorem dX11_define_16 : decode cX11_define 16 = .ok (.invokevirtual 233, 3) := by decide +kernel
theorem dX11_define_19 : decode cX11_define 19 = .ok (.astore_n 2, 1) := by decide +kernel
theorem dX11_define_20 : decode cX11_define 20 = .ok (.aload_n 0, 1) := by decide +kernel
theorem dX11_define_21 : decode cX11_define 21 = .ok (.getfield 23, 3) := by decide +kernel
theorem dX11_define_24 : decode cX11_define 24 = .ok (.aload_n 0, 1) := by decide +kernel
theorem dX11_define_25 : decode cX11_define 25 = .ok (.getfield 9, 3) := by decide +kernel
theorem dX11_define_28 : decode cX11_define 28 = .ok (.aload_n 1, 1) := by decide +kernel
theorem dX11_define_29 : decode cX11_define 29 = .ok (.getfield 249, 3) := by decide +kernel
theorem dX11_define_32 : decode cX11_define 32 = .ok (.aload_n 2, 1) := by decide +kernel
theorem dX11_define_33 : decode cX11_define 33 = .ok (.aload_n 0, 1) := by decide +kernel
theorem dX11_define_34 : decode cX11_define 34 = .ok (.getfield 50, 3) := by decide +kernel
theorem dX11_define_37 : decode cX11_define 37 = .ok (.getfield 308, 3) := by decide +kernel
theorem dX11_define_40 : decode cX11_define 40 = .ok (.aload_n 1, 1) := by decide +kernel
theorem dX11_define_41 : decode cX11_define 41 = .ok (.getfield 229, 3) := by decide +kernel
theorem dX11_define_44 : decode cX11_define 44 = .ok (.invokevirtual 304, 3) := by decide +kernel
theorem dX11_define_47 : decode cX11_define 47 = .ok (.return_, 1) := by decide +kernel
theorem dX11_check_0 : decode cX11_check 0 = .ok (.aload_n 1, 1) := by decide +kernel
theorem dX11_check_1 : decode cX11_check 1 = .ok (.getfield 279, 3) := by decide +kernel
theorem dX11_check_4 : decode cX11_check 4 = .ok (.ifnonnull 31, 3) := by decide +kernel
theorem dX11_check_7 : decode cX11_check 7 = .ok (.aload_n 0, 1) := by decide +kernel
theorem dX11_check_8 : decode cX11_check 8 = .ok (.getfield 32, 3) := by decide +kernel
theorem dX11_check_11 : decode cX11_check 11 = .ok (.aload_n 0, 1) := by decide +kernel
theorem dX11_check_12 : decode cX11_check 12 = .ok (.getfield 50, 3) := by decide +kernel
theorem dX11_check_15 : decode cX11_check 15 = .ok (.aload_n 1, 1) := by decide +kernel
theorem dX11_check_16 : decode cX11_check 16 = .ok (.getfield 229, 3) := by decide +kernel
theorem dX11_check_19 : decode cX11_check 19 = .ok (.invokevirtual 233, 3) := by decide +kernel
theorem dX11_check_22 : decode cX11_check 22 = .ok (.invokevirtual 192, 3) := by decide +kernel
theorem dX11_check_25 : decode cX11_check 25 = .ok (.aload_n 0, 1) := by decide +kernel
theorem dX11_check_26 : decode cX11_check 26 = .ok (.getfield 32, 3) := by decide +kernel
theorem dX11_check_29 : decode cX11_check 29 = .ok (.bipush 10, 2) := by decide +kernel
theorem dX11_check_31 : decode cX11_check 31 = .ok (.invokevirtual 237, 3) := by decide +kernel
theorem dX11_check_34 : decode cX11_check 34 = .ok (.return_, 1) := by decide +kernel
theorem dX11_check_35 : decode cX11_check 35 = .ok (.aload_n 0, 1) := by decide +kernel
theorem dX11_check_36 : decode cX11_check 36 = .ok (.getfield 50, 3) := by decide +kernel
theorem dX11_check_39 : decode cX11_check 39 = .ok (.aload_n 1, 1) := by decide +kernel
theorem dX11_check_40 : decode cX11_check 40 = .ok (.getfield 279, 3) := by decide +kernel
theorem dX11_check_43 : decode cX11_check 43 = .ok (.invokevirtual 293, 3) := by decide +kernel
theorem dX11_check_46 : decode cX11_check 46 = .ok (.pop, 1) := by decide +kernel
theorem dX11_check_47 : decode cX11_check 47 = .ok (.aload_n 0, 1) := by decide +kernel
theorem dX11_check_48 : decode cX11_check 48 = .ok (.getfield 32, 3) := by decide +kernel
theorem dX11_check_51 : decode cX11_check 51 = .ok (.aload_n 1, 1) := by decide +kernel
theorem dX11_check_52 : decode cX11_check 52 = .ok (.getfield 279, 3) := by decide +kernel
theorem dX11_check_55 : decode cX11_check 55 = .ok (.aconst_null, 1) := by decide +kernel
theorem dX11_check_56 : decode cX11_check 56 = .ok (.invokevirtual 296, 3) := by decide +kernel
theorem dX11_check_59 : decode cX11_check 59 = .ok (.astore_n 2, 1) := by decide +kernel
theorem dX11_check_60 : decode cX11_check 60 = .ok (.aload_n 0, 1) := by decide +kernel
theorem dX11_check_61 : decode cX11_check 61 = .ok (.aload_n 2, 1) := by decide +kernel
theorem dX11_check_62 : decode cX11_check 62 = .ok (.aload_n 0, 1) := by decide +kernel
theorem dX11_check_63 : decode cX11_check 63 = .ok (.getfield 50, 3) := by decide +kernel
theorem dX11_check_66 : decode cX11_check 66 = .ok (.aload_n 1, 1) := by decide +kernel
theorem dX11_check_67 : decode cX11_check 67 = .ok (.getfield 229, 3) := by decide +kernel
theorem dX11_check_70 : decode cX11_check 70 = .ok (.invokevirtual 233, 3) := by decide +kernel
theorem dX11_check_73 : decode cX11_check 73 = .ok (.aload_n 1, 1) := by decide +kernel
theorem dX11_check_74 : decode cX11_check 74 = .ok (.getfield 229, 3) := by decide +kernel
theorem dX11_check_77 : decode cX11_check 77 = .ok (.invokevirtual 300, 3) := by decide +kernel
theorem dX11_check_80 : decode cX11_check 80 = .ok (.aload_n 0, 1) := by decide +kernel
theorem dX11_check_81 : decode cX11_check 81 = .ok (.getfield 32, 3) := by decide +kernel
theorem dX11_check_84 : decode cX11_check 84 = .ok (.iconst 1, 1) := by decide +kernel
theorem dX11_check_85 : decode cX11_check 85 = .ok (.invokevirtual 311, 3) := by decide +kernel
theorem dX11_check_88 : decode cX11_check 88 = .ok (.return_, 1) := by decide +kernel
theorem dX11_answerSame_0 : decode cX11_answerSame 0 = .ok (.aload_n 0, 1) := by decide +kernel
theorem dX11_answerSame_1 : decode cX11_answerSame 1 = .ok (.getfield 50, 3) := by decide +kernel
theorem dX11_answerSame_4 : decode cX11_answerSame 4 = .ok (.aload_n 1, 1) := by decide +kernel
theorem dX11_answerSame_5 : decode cX11_answerSame 5 = .ok (.getfield 229, 3) := by decide +kernel
theorem dX11_answerSame_8 : decode cX11_answerSame 8 = .ok (.invokevirtual 233, 3) := by decide +kernel
theorem dX11_answerSame_11 : decode cX11_answerSame 11 = .ok (.pop, 1) := by decide +kernel
theorem dX11_answerSame_12 : decode cX11_answerSame 12 = .ok (.aload_n 0, 1) := by decide +kernel
theorem dX11_answerSame_13 : decode cX11_answerSame 13 = .ok (.getfield 50, 3) := by decide +kernel
theorem dX11_answerSame_16 : decode cX11_answerSame 16 = .ok (.aload_n 1, 1) := by decide +kernel
theorem dX11_answerSame_17 : decode cX11_answerSame 17 = .ok (.getfield 279, 3) := by decide +kernel
theorem dX11_answerSame_20 : decode cX11_answerSame 20 = .ok (.invokevirtual 233, 3) := by decide +kernel
theorem dX11_answerSame_23 : decode cX11_answerSame 23 = .ok (.pop, 1) := by decide +kernel
theorem dX11_answerSame_24 : decode cX11_answerSame 24 = .ok (.aload_n 0, 1) := by decide +kernel
theorem dX11_answerSame_25 : decode cX11_answerSame 25 = .ok (.getfield 32, 3) := by decide +kernel
theorem dX11_answerSame_28 : decode cX11_answerSame 28 = .ok (.aload_n 0, 1) := by decide +kernel
theorem dX11_answerSame_29 : decode cX11_answerSame 29 = .ok (.getfield 32, 3) := by decide +kernel
theorem dX11_answerSame_32 : decode cX11_answerSame 32 = .ok (.aload_n 1, 1) := by decide +kernel
theorem dX11_answerSame_33 : decode cX11_answerSame 33 = .ok (.getfield 229, 3) := by decide +kernel
theorem dX11_answerSame_36 : decode cX11_answerSame 36 = .ok (.aload_n 1, 1) := by decide +kernel
theorem dX11_answerSame_37 : decode cX11_answerSame 37 = .ok (.getfield 279, 3) := by decide +kernel
theorem dX11_answerSame_40 : decode cX11_answerSame 40 = .ok (.invokevirtual 201, 3) := by decide +kernel
theorem dX11_answerSame_43 : decode cX11_answerSame 43 = .ok (.invokevirtual 311, 3) := by decide +kernel
theorem dX11_answerSame_46 : decode cX11_answerSame 46 = .ok (.return_, 1) := by decide +kernel
theorem dX11_needNewName_0 : decode cX11_needNewName 0 = .ok (.aload_n 0, 1) := by decide +kernel
theorem dX11_needNewName_1 : decode cX11_needNewName 1 = .ok (.getfield 23, 3) := by decide +kernel
theorem dX11_needNewName_4 : decode cX11_needNewName 4 = .ok (.getfield 84, 3) := by decide +kernel
theorem dX11_needNewName_7 : decode cX11_needNewName 7 = .ok (.aload_n 0, 1) := by decide +kernel
theorem dX11_needNewName_8 : decode cX11_needNewName 8 = .ok (.getfield 9, 3) := by decide +kernel
theorem dX11_needNewName_11 : decode cX11_needNewName 11 = .ok (.aload_n 1, 1) := by decide +kernel
theorem dX11_needNewName_12 : decode cX11_needNewName 12 = .ok (.getfield 263, 3) := by decide +kernel
theorem dX11_needNewName_15 : decode cX11_needNewName 15 = .ok (.aload_n 1, 1) := by decide +kernel
theorem dX11_needNewName_16 : decode cX11_needNewName 16 = .ok (.getfield 266, 3) := by decide +kernel
theorem dX11_needNewName_19 : decode cX11_needNewName 19 = .ok (.invokevirtual 286, 3) := by decide +kernel
theorem dX11_needNewName_22 : decode cX11_needNewName 22 = .ok (.istore_n 2, 1) := by decide +kernel
theorem dX11_needNewName_23 : decode cX11_needNewName 23 = .ok (.iload_n 2, 1) := by decide +kernel
theorem dX11_needNewName_24 : decode cX11_needNewName 24 = .ok (.iconst (-1), 1) := by decide +kernel
theorem dX11_needNewName_25 : decode cX11_needNewName 25 = .ok (.if_icmp .ne 12, 3) := by decide +kernel
theorem dX11_needNewName_28 : decode cX11_needNewName 28 = .ok (.aload_n 0, 1) := by decide +kernel
theorem dX11_needNewName_29 : decode cX11_needNewName 29 = .ok (.aload_n 1, 1) := by decide +kernel
theorem dX11_needNewName_30 : decode cX11_needNewName 30 = .ok (.invokevirtual 252, 3) := by decide +kernel
theorem dX11_needNewName_33 : decode cX11_needNewName 33 = .ok (.iconst (-1), 1) := by decide +kernel
theorem dX11_needNewName_34 : decode cX11_needNewName 34 = .ok (.if_icmp .eq 23, 3) := by decide +kernel
theorem dX11_needNewName_37 : decode cX11_needNewName 37 = .ok (.aload_n 0, 1) := by decide +kernel
theorem dX11_needNewName_38 : decode cX11_needNewName 38 = .ok (.getfield 16, 3) := by decide +kernel
theorem dX11_needNewName_41 : decode cX11_needNewName 41 = .ok (.iconst 4, 1) := by decide +kernel
theorem dX11_needNewName_42 : decode cX11_needNewName 42 = .ok (.aload_n 1, 1) := by decide +kernel
theorem dX11_needNewName_43 : decode cX11_needNewName 43 = .ok (.getfield 255, 3) := by decide +kernel
theorem dX11_needNewName_46 : decode cX11_needNewName 46 = .ok (.invokevirtual 256, 3) := by decide +kernel
theorem dX11_needNewName_49 : decode cX11_needNewName 49 = .ok (.new 158, 3) := by decide +kernel
theorem dX11_needNewName_52 : decode cX11_needNewName 52 = .ok (.dup, 1) := by decide +kernel
theorem dX11_needNewName_53 : decode cX11_needNewName 53 = .ok (.invokespecial 160, 3) := by decide +kernel
theorem dX11_needNewName_56 : decode cX11_needNewName 56 = .ok (.athrow, 1) := by decide +kernel
theorem dX11_needNewName_57 : decode cX11_needNewName 57 = .ok (.aload_n 0, 1) := by decide +kernel
theorem dX11_needNewName_58 : decode cX11_needNewName 58 = .ok (.getfield 23, 3) := by decide +kernel
theorem dX11_needNewName_61 : decode cX11_needNewName 61 = .ok (.getfield 84, 3) := by decide +kernel
theorem dX11_needNewName_64 : decode cX11_needNewName 64 = .ok (.invokevirtual 259, 3) := by decide +kernel
theorem dX11_needNewName_67 : decode cX11_needNewName 67 = .ok (.ifCond .eq 23, 3) := by decide +kernel
theorem dX11_needNewName_70 : decode cX11_needNewName 70 = .ok (.aload_n 0, 1) := by decide +kernel
theorem dX11_needNewName_71 : decode cX11_needNewName 71 = .ok (.getfield 16, 3) := by decide +kernel
theorem dX11_needNewName_74 : decode cX11_needNewName 74 = .ok (.iconst 5, 1) := by decide +kernel
theorem dX11_needNewName_75 : decode cX11_needNewName 75 = .ok (.aload_n 1, 1) := by decide +kernel
theorem dX11_needNewName_76 : decode cX11_needNewName 76 = .ok (.getfield 255, 3) := by decide +kernel
theorem dX11_needNewName_79 : decode cX11_needNewName 79 = .ok (.invokevirtual 256, 3) := by decide +kernel
theorem dX11_needNewName_82 : decode cX11_needNewName 82 = .ok (.new 158, 3) := by decide +kernel
theorem dX11_needNewName_85 : decode cX11_needNewName 85 = .ok (.dup, 1) := by decide +kernel
theorem dX11_needNewName_86 : decode cX11_needNewName 86 = .ok (.invokespecial 160, 3) := by decide +kernel
theorem dX11_needNewName_89 : decode cX11_needNewName 89 = .ok (.athrow, 1) := by decide +kernel
theorem dX11_needNewName_90 : decode cX11_needNewName 90 = .ok (.return_, 1) := by decide +kernel
theorem dX11_needSame_0 : decode cX11_needSame 0 = .ok (.aload_n 0, 1) := by decide +kernel
theorem dX11_needSame_1 : decode cX11_needSame 1 = .ok (.getfield 32, 3) := by decide +kernel
theorem dX11_needSame_4 : decode cX11_needSame 4 = .ok (.aload_n 1, 1) := by decide +kernel
theorem dX11_needSame_5 : decode cX11_needSame 5 = .ok (.aload_n 2, 1) := by decide +kernel
theorem dX11_needSame_6 : decode cX11_needSame 6 = .ok (.invokevirtual 201, 3) := by decide +kernel
theorem dX11_needSame_9 : decode cX11_needSame 9 = .ok (.ifCond .ne 24, 3) := by decide +kernel
theorem dX11_needSame_12 : decode cX11_needSame 12 = .ok (.aload_n 0, 1) := by decide +kernel
theorem dX11_needSame_13 : decode cX11_needSame 13 = .ok (.getfield 16, 3) := by decide +kernel
theorem dX11_needSame_16 : decode cX11_needSame 16 = .ok (.bipush 11, 2) := by decide +kernel
theorem dX11_needSame_18 : decode cX11_needSame 18 = .ok (.aload_n 3, 1) := by decide +kernel
theorem dX11_needSame_19 : decode cX11_needSame 19 = .ok (.getfield 315, 3) := by decide +kernel
theorem dX11_needSame_22 : decode cX11_needSame 22 = .ok (.invokevirtual 256, 3) := by decide +kernel
theorem dX11_needSame_25 : decode cX11_needSame 25 = .ok (.new 158, 3) := by decide +kernel
theorem dX11_needSame_28 : decode cX11_needSame 28 = .ok (.dup, 1) := by decide +kernel
theorem dX11_needSame_29 : decode cX11_needSame 29 = .ok (.invokespecial 160, 3) := by decide +kernel
theorem dX11_needSame_32 : decode cX11_needSame 32 = .ok (.athrow, 1) := by decide +kernel
theorem dX11_needSame_33 : decode cX11_needSame 33 = .ok (.return_, 1) := by decide +kernel
theorem dJxa1e45_init_da8c8_0 : decode cJxa1e45_init_da8c8 0 = .ok (.aload_n 0, 1) := by decide +kernel
theorem dJxa1e45_init_da8c8_1 : decode cJxa1e45_init_da8c8 1 = .ok (.invokespecial 1, 3) := by decide +kernel
theorem dJxa1e45_init_da8c8_4 : decode cJxa1e45_init_da8c8 4 = .ok (.return_, 1) := by decide +kernel
theorem dJxc12de_init_da8c8_0 : decode cJxc12de_init_da8c8 0 = .ok (.aload_n 0, 1) := by decide +kernel
theorem dJxc12de_init_da8c8_1 : decode cJxc12de_init_da8c8 1 = .ok (.invokespecial 1, 3) := by decide +kernel
theorem dJxc12de_init_da8c8_4 : decode cJxc12de_init_da8c8 4 = .ok (.aload_n 0, 1) := by decide +kernel
theorem dJxc12de_init_da8c8_5 : decode cJxc12de_init_da8c8 5 = .ok (.iconst 0, 1) := by decide +kernel
theorem dJxc12de_init_da8c8_6 : decode cJxc12de_init_da8c8 6 = .ok (.putfield 7, 3) := by decide +kernel
theorem dJxc12de_init_da8c8_9 : decode cJxc12de_init_da8c8 9 = .ok (.return_, 1) := by decide +kernel
theorem dJx4a65c_init_da8c8_0 : decode cJx4a65c_init_da8c8 0 = .ok (.aload_n 0, 1) := by decide +kernel
theorem dJx4a65c_init_da8c8_1 : decode cJx4a65c_init_da8c8 1 = .ok (.invokespecial 1, 3) := by decide +kernel
theorem dJx4a65c_init_da8c8_4 : decode cJx4a65c_init_da8c8 4 = .ok (.aload_n 0, 1) := by decide +kernel
theorem dJx4a65c_init_da8c8_5 : decode cJx4a65c_init_da8c8 5 = .ok (.getstatic 39, 3) := by decide +kernel
theorem dJx4a65c_init_da8c8_8 : decode cJx4a65c_init_da8c8 8 = .ok (.putfield 9, 3) := by decide +kernel
theorem dJx4a65c_init_da8c8_11 : decode cJx4a65c_init_da8c8 11 = .ok (.return_, 1) := by decide +kernel
theorem dJx4a65c_grow_92f84_0 : decode cJx4a65c_grow_92f84 0 = .ok (.aload_n 0, 1) := by decide +kernel
theorem dJx4a65c_grow_92f84_1 : decode cJx4a65c_grow_92f84 1 = .ok (.getfield 9, 3) := by decide +kernel
theorem dJx4a65c_grow_92f84_4 : decode cJx4a65c_grow_92f84 4 = .ok (.arraylength, 1) := by decide +kernel
theorem dJx4a65c_grow_92f84_5 : decode cJx4a65c_grow_92f84 5 = .ok (.istore_n 2, 1) := by decide +kernel
theorem dJx4a65c_grow_92f84_6 : decode cJx4a65c_grow_92f84 6 = .ok (.iload_n 2, 1) := by decide +kernel
theorem dJx4a65c_grow_92f84_7 : decode cJx4a65c_grow_92f84 7 = .ok (.ifCond .gt 13, 3) := by decide +kernel
theorem dJx4a65c_grow_92f84_10 : decode cJx4a65c_grow_92f84 10 = .ok (.aload_n 0, 1) := by decide +kernel
theorem dJx4a65c_grow_92f84_11 : decode cJx4a65c_grow_92f84 11 = .ok (.getfield 9, 3) := by decide +kernel
theorem dJx4a65c_grow_92f84_14 : decode cJx4a65c_grow_92f84 14 = .ok (.getstatic 39, 3) := by decide +kernel
theorem dJx4a65c_grow_92f84_17 : decode cJx4a65c_grow_92f84 17 = .ok (.if_acmp .eq 28, 3) := by decide +kernel
theorem dJx4a65c_grow_92f84_20 : decode cJx4a65c_grow_92f84 20 = .ok (.iload_n 2, 1) := by decide +kernel
theorem dJx4a65c_grow_92f84_21 : decode cJx4a65c_grow_92f84 21 = .ok (.iload_n 1, 1) := by decide +kernel
theorem dJx4a65c_grow_92f84_22 : decode cJx4a65c_grow_92f84 22 = .ok (.iload_n 2, 1) := by decide +kernel
theorem dJx4a65c_grow_92f84_23 : decode cJx4a65c_grow_92f84 23 = .ok (.isub, 1) := by decide +kernel
theorem dJx4a65c_grow_92f84_24 : decode cJx4a65c_grow_92f84 24 = .ok (.iload_n 2, 1) := by decide +kernel
theorem dJx4a65c_grow_92f84_25 : decode cJx4a65c_grow_92f84 25 = .ok (.iconst 1, 1) := by decide +kernel
theorem dJx4a65c_grow_92f84_26 : decode cJx4a65c_grow_92f84 26 = .ok (.ishr, 1) := by decide +kernel
theorem dJx4a65c_grow_92f84_27 : decode cJx4a65c_grow_92f84 27 = .ok (.invokestatic 73, 3) := by decide +kernel
theorem dJx4a65c_grow_92f84_30 : decode cJx4a65c_grow_92f84 30 = .ok (.istore_n 3, 1) := by decide +kernel
theorem dJx4a65c_grow_92f84_31 : decode cJx4a65c_grow_92f84 31 = .ok (.aload_n 0, 1) := by decide +kernel
theorem dJx4a65c_grow_92f84_32 : decode cJx4a65c_grow_92f84 32 = .ok (.aload_n 0, 1) := by decide +kernel
theorem dJx4a65c_grow_92f84_33 : decode cJx4a65c_grow_92f84 33 = .ok (.getfield 9, 3) := by decide +kernel
theorem dJx4a65c_grow_92f84_36 : decode cJx4a65c_grow_92f84 36 = .ok (.iload_n 3, 1) := by decide +kernel
theorem dJx4a65c_grow_92f84_37 : decode cJx4a65c_grow_92f84 37 = .ok (.invokestatic 66, 3) := by decide +kernel
theorem dJx4a65c_grow_92f84_40 : decode cJx4a65c_grow_92f84 40 = .ok (.dup_x1, 1) := by decide +kernel
theorem dJx4a65c_grow_92f84_41 : decode cJx4a65c_grow_92f84 41 = .ok (.putfield 9, 3) := by decide +kernel
theorem dJx4a65c_grow_92f84_44 : decode cJx4a65c_grow_92f84 44 = .ok (.areturn, 1) := by decide +kernel
theorem dJx4a65c_grow_92f84_45 : decode cJx4a65c_grow_92f84 45 = .ok (.aload_n 0, 1) := by decide +kernel
theorem dJx4a65c_grow_92f84_46 : decode cJx4a65c_grow_92f84 46 = .ok (.bipush 10, 2) := by decide +kernel
theorem dJx4a65c_grow_92f84_48 : decode cJx4a65c_grow_92f84 48 = .ok (.iload_n 1, 1) := by decide +kernel
theorem dJx4a65c_grow_92f84_49 : decode cJx4a65c_grow_92f84 49 = .ok (.invokestatic 79, 3) := by decide +kernel
theorem dJx4a65c_grow_92f84_52 : decode cJx4a65c_grow_92f84 52 = .ok (.anewarray 7, 3) := by decide +kernel
theorem dJx4a65c_grow_92f84_55 : decode cJx4a65c_grow_92f84 55 = .ok (.dup_x1, 1) := by decide +kernel
theorem dJx4a65c_grow_92f84_56 : decode cJx4a65c_grow_92f84 56 = .ok (.putfield 9, 3) := by decide +kernel
theorem dJx4a65c_grow_92f84_59 : decode cJx4a65c_grow_92f84 59 = .ok (.areturn, 1) := by decide +kernel
theorem dJx4a65c_grow_d5877_0 : decode cJx4a65c_grow_d5877 0 = .ok (.aload_n 0, 1) := by decide +kernel
theorem dJx4a65c_grow_d5877_1 : decode cJx4a65c_grow_d5877 1 = .ok (.aload_n 0, 1) := by decide +kernel
theorem dJx4a65c_grow_d5877_2 : decode cJx4a65c_grow_d5877 2 = .ok (.getfield 48, 3) := by decide +kernel
theorem dJx4a65c_grow_d5877_5 : decode cJx4a65c_grow_d5877 5 = .ok (.iconst 1, 1) := by decide +kernel
theorem dJx4a65c_grow_d5877_6 : decode cJx4a65c_grow_d5877 6 = .ok (.iadd, 1) := by decide +kernel
theorem dJx4a65c_grow_d5877_7 : decode cJx4a65c_grow_d5877 7 = .ok (.invokevirtual 69, 3) := by decide +kernel
theorem dJx4a65c_grow_d5877_10 : decode cJx4a65c_grow_d5877 10 = .ok (.areturn, 1) := by decide +kernel
theorem dJx4a65c_size_8abf5_0 : decode cJx4a65c_size_8abf5 0 = .ok (.aload_n 0, 1) := by decide +kernel
theorem dJx4a65c_size_8abf5_1 : decode cJx4a65c_size_8abf5 1 = .ok (.getfield 48, 3) := by decide +kernel
theorem dJx4a65c_size_8abf5_4 : decode cJx4a65c_size_8abf5 4 = .ok (.ireturn, 1) := by decide +kernel
theorem dJx4a65c_elementData_915e3_0 : decode cJx4a65c_elementData_915e3 0 = .ok (.aload_n 0, 1) := by decide +kernel
theorem dJx4a65c_elementData_915e3_1 : decode cJx4a65c_elementData_915e3 1 = .ok (.getfield 9, 3) := by decide +kernel
theorem dJx4a65c_elementData_915e3_4 : decode cJx4a65c_elementData_915e3 4 = .ok (.iload_n 1, 1) := by decide +kernel
theorem dJx4a65c_elementData_915e3_5 : decode cJx4a65c_elementData_915e3 5 = .ok (.aaload, 1) := by decide +kernel
theorem dJx4a65c_elementData_915e3_6 : decode cJx4a65c_elementData_915e3 6 = .ok (.areturn, 1) := by decide +kernel
theorem dJx4a65c_get_915e3_0 : decode cJx4a65c_get_915e3 0 = .ok (.iload_n 1, 1) := by decide +kernel
theorem dJx4a65c_get_915e3_1 : decode cJx4a65c_get_915e3 1 = .ok (.aload_n 0, 1) := by decide +kernel
theorem dJx4a65c_get_915e3_2 : decode cJx4a65c_get_915e3 2 = .ok (.getfield 48, 3) := by decide +kernel
theorem dJx4a65c_get_915e3_5 : decode cJx4a65c_get_915e3 5 = .ok (.invokestatic 118, 3) := by decide +kernel
theorem dJx4a65c_get_915e3_8 : decode cJx4a65c_get_915e3 8 = .ok (.pop, 1) := by decide +kernel
theorem dJx4a65c_get_915e3_9 : decode cJx4a65c_get_915e3 9 = .ok (.aload_n 0, 1) := by decide +kernel
theorem dJx4a65c_get_915e3_10 : decode cJx4a65c_get_915e3 10 = .ok (.iload_n 1, 1) := by decide +kernel
theorem dJx4a65c_get_915e3_11 : decode cJx4a65c_get_915e3 11 = .ok (.invokevirtual 123, 3) := by decide +kernel
theorem dJx4a65c_get_915e3_14 : decode cJx4a65c_get_915e3 14 = .ok (.areturn, 1) := by decide +kernel
theorem dJx4a65c_add_72be8_0 : decode cJx4a65c_add_72be8 0 = .ok (.iload_n 3, 1) := by decide +kernel
theorem dJx4a65c_add_72be8_1 : decode cJx4a65c_add_72be8 1 = .ok (.aload_n 2, 1) := by decide +kernel
theorem dJx4a65c_add_72be8_2 : decode cJx4a65c_add_72be8 2 = .ok (.arraylength, 1) := by decide +kernel
theorem dJx4a65c_add_72be8_3 : decode cJx4a65c_add_72be8 3 = .ok (.if_icmp .ne 8, 3) := by decide +kernel
theorem dJx4a65c_add_72be8_6 : decode cJx4a65c_add_72be8 6 = .ok (.aload_n 0, 1) := by decide +kernel
theorem dJx4a65c_add_72be8_7 : decode cJx4a65c_add_72be8 7 = .ok (.invokevirtual 129, 3) := by decide +kernel
theorem dJx4a65c_add_72be8_10 : decode cJx4a65c_add_72be8 10 = .ok (.astore_n 2, 1) := by decide +kernel
theorem dJx4a65c_add_72be8_11 : decode cJx4a65c_add_72be8 11 = .ok (.aload_n 2, 1) := by decide +kernel
theorem dJx4a65c_add_72be8_12 : decode cJx4a65c_add_72be8 12 = .ok (.iload_n 3, 1) := by decide +kernel
theorem dJx4a65c_add_72be8_13 : decode cJx4a65c_add_72be8 13 = .ok (.aload_n 1, 1) := by decide +kernel
theorem dJx4a65c_add_72be8_14 : decode cJx4a65c_add_72be8 14 = .ok (.aastore, 1) := by decide +kernel
