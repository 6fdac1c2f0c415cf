theorem dX4_putAnswer_0 : decode cX4_putAnswer 0 = .ok (.iload_n 1, 1) := by decide +kernel
theorem dX4_putAnswer_1 : decode cX4_putAnswer 1 = .ok (.ifCond .eq 8, 3) := by decide +kernel
theorem dX4_putAnswer_4 : decode cX4_putAnswer 4 = .ok (.ldc 204, 2) := by decide +kernel
theorem dX4_putAnswer_6 : decode cX4_putAnswer 6 = .ok (.goto 5, 3) := by decide +kernel
theorem dX4_putAnswer_9 : decode cX4_putAnswer 9 = .ok (.ldc 206, 2) := by decide +kernel
theorem dX4_putAnswer_11 : decode cX4_putAnswer 11 = .ok (.astore_n 2, 1) := by decide +kernel
theorem dX4_putAnswer_12 : decode cX4_putAnswer 12 = .ok (.iconst 0, 1) := by decide +kernel
theorem dX4_putAnswer_13 : decode cX4_putAnswer 13 = .ok (.istore_n 3, 1) := by decide +kernel
theorem dX4_putAnswer_14 : decode cX4_putAnswer 14 = .ok (.iload_n 3, 1) := by decide +kernel
theorem dX4_putAnswer_15 : decode cX4_putAnswer 15 = .ok (.aload_n 2, 1) := by decide +kernel
theorem dX4_putAnswer_16 : decode cX4_putAnswer 16 = .ok (.invokevirtual 208, 3) := by decide +kernel
theorem dX4_putAnswer_19 : decode cX4_putAnswer 19 = .ok (.if_icmp .ge 18, 3) := by decide +kernel
theorem dX4_putAnswer_22 : decode cX4_putAnswer 22 = .ok (.aload_n 0, 1) := by decide +kernel
theorem dX4_putAnswer_23 : decode cX4_putAnswer 23 = .ok (.aload_n 2, 1) := by decide +kernel
theorem dX4_putAnswer_24 : decode cX4_putAnswer 24 = .ok (.iload_n 3, 1) := by decide +kernel
theorem dX4_putAnswer_25 : decode cX4_putAnswer 25 = .ok (.invokevirtual 214, 3) := by decide +kernel
theorem dX4_putAnswer_28 : decode cX4_putAnswer 28 = .ok (.invokevirtual 60, 3) := by decide +kernel
theorem dX4_putAnswer_31 : decode cX4_putAnswer 31 = .ok (.iinc 3 1, 3) := by decide +kernel
theorem dX4_putAnswer_34 : decode cX4_putAnswer 34 = .ok (.goto (-20), 3) := by decide +kernel
theorem dX4_putAnswer_37 : decode cX4_putAnswer 37 = .ok (.aload_n 0, 1) := by decide +kernel
theorem dX4_putAnswer_38 : decode cX4_putAnswer 38 = .ok (.bipush 10, 2) := by decide +kernel
theorem dX4_putAnswer_40 : decode cX4_putAnswer 40 = .ok (.invokevirtual 60, 3) := by decide +kernel
theorem dX4_putAnswer_43 : decode cX4_putAnswer 43 = .ok (.return_, 1) := by decide +kernel
theorem dX4_put_0 : decode cX4_put 0 = .ok (.aload_n 0, 1) := by decide +kernel
theorem dX4_put_1 : decode cX4_put 1 = .ok (.getfield 29, 3) := by decide +kernel
theorem dX4_put_4 : decode cX4_put 4 = .ok (.aload_n 0, 1) := by decide +kernel
theorem dX4_put_5 : decode cX4_put 5 = .ok (.getfield 25, 3) := by decide +kernel
theorem dX4_put_8 : decode cX4_put 8 = .ok (.arraylength, 1) := by decide +kernel
theorem dX4_put_9 : decode cX4_put 9 = .ok (.if_icmp .ge 14, 3) := by decide +kernel
theorem dX4_put_12 : decode cX4_put 12 = .ok (.aload_n 0, 1) := by decide +kernel
theorem dX4_put_13 : decode cX4_put 13 = .ok (.getfield 25, 3) := by decide +kernel
theorem dX4_put_16 : decode cX4_put 16 = .ok (.aload_n 0, 1) := by decide +kernel
theorem dX4_put_17 : decode cX4_put 17 = .ok (.getfield 29, 3) := by decide +kernel
theorem dX4_put_20 : decode cX4_put 20 = .ok (.iload_n 1, 1) := by decide +kernel
theorem dX4_put_21 : decode cX4_put 21 = .ok (.i2b, 1) := by decide +kernel
theorem dX4_put_22 : decode cX4_put 22 = .ok (.bastore, 1) := by decide +kernel
theorem dX4_put_23 : decode cX4_put 23 = .ok (.aload_n 0, 1) := by decide +kernel
theorem dX4_put_24 : decode cX4_put 24 = .ok (.dup, 1) := by decide +kernel
theorem dX4_put_25 : decode cX4_put 25 = .ok (.getfield 29, 3) := by decide +kernel
theorem dX4_put_28 : decode cX4_put 28 = .ok (.iconst 1, 1) := by decide +kernel
theorem dX4_put_29 : decode cX4_put 29 = .ok (.iadd, 1) := by decide +kernel
theorem dX4_put_30 : decode cX4_put 30 = .ok (.putfield 29, 3) := by decide +kernel
theorem dX4_put_33 : decode cX4_put 33 = .ok (.return_, 1) := by decide +kernel
theorem dX5_init_0 : decode cX5_init 0 = .ok (.aload_n 0, 1) := by decide +kernel
theorem dX5_init_1 : decode cX5_init 1 = .ok (.invokespecial 3, 3) := by decide +kernel
theorem dX5_init_4 : decode cX5_init 4 = .ok (.aload_n 0, 1) := by decide +kernel
theorem dX5_init_5 : decode cX5_init 5 = .ok (.iconst 0, 1) := by decide +kernel
theorem dX5_init_6 : decode cX5_init 6 = .ok (.putfield 9, 3) := by decide +kernel
theorem dX5_init_9 : decode cX5_init 9 = .ok (.aload_n 0, 1) := by decide +kernel
theorem dX5_init_10 : decode cX5_init 10 = .ok (.iload_n 1, 1) := by decide +kernel
theorem dX5_init_11 : decode cX5_init 11 = .ok (.bipush 12, 2) := by decide +kernel
theorem dX5_init_13 : decode cX5_init 13 = .ok (.imul, 1) := by decide +kernel
theorem dX5_init_14 : decode cX5_init 14 = .ok (.newarray .byte, 2) := by decide +kernel
theorem dX5_init_16 : decode cX5_init 16 = .ok (.putfield 15, 3) := by decide +kernel
theorem dX5_init_19 : decode cX5_init 19 = .ok (.aload_n 0, 1) := by decide +kernel
theorem dX5_init_20 : decode cX5_init 20 = .ok (.iload_n 1, 1) := by decide +kernel
theorem dX5_init_21 : decode cX5_init 21 = .ok (.newarray .int, 2) := by decide +kernel
theorem dX5_init_23 : decode cX5_init 23 = .ok (.putfield 19, 3) := by decide +kernel
theorem dX5_init_26 : decode cX5_init 26 = .ok (.return_, 1) := by decide +kernel
theorem dX5_has_0 : decode cX5_has 0 = .ok (.iload_n 1, 1) := by decide +kernel
theorem dX5_has_1 : decode cX5_has 1 = .ok (.ifCond .lt 15, 3) := by decide +kernel
theorem dX5_has_4 : decode cX5_has 4 = .ok (.iload_n 1, 1) := by decide +kernel
theorem dX5_has_5 : decode cX5_has 5 = .ok (.aload_n 0, 1) := by decide +kernel
theorem dX5_has_6 : decode cX5_has 6 = .ok (.getfield 9, 3) := by decide +kernel
theorem dX5_has_9 : decode cX5_has 9 = .ok (.if_icmp .ge 7, 3) := by decide +kernel
theorem dX5_has_12 : decode cX5_has 12 = .ok (.iconst 1, 1) := by decide +kernel
theorem dX5_has_13 : decode cX5_has 13 = .ok (.goto 4, 3) := by decide +kernel
theorem dX5_has_16 : decode cX5_has 16 = .ok (.iconst 0, 1) := by decide +kernel
theorem dX5_has_17 : decode cX5_has 17 = .ok (.ireturn, 1) := by decide +kernel
theorem dX5_isFull_0 : decode cX5_isFull 0 = .ok (.aload_n 0, 1) := by decide +kernel
theorem dX5_isFull_1 : decode cX5_isFull 1 = .ok (.getfield 9, 3) := by decide +kernel
theorem dX5_isFull_4 : decode cX5_isFull 4 = .ok (.aload_n 0, 1) := by decide +kernel
theorem dX5_isFull_5 : decode cX5_isFull 5 = .ok (.getfield 19, 3) := by decide +kernel
theorem dX5_isFull_8 : decode cX5_isFull 8 = .ok (.arraylength, 1) := by decide +kernel
theorem dX5_isFull_9 : decode cX5_isFull 9 = .ok (.if_icmp .lt 7, 3) := by decide +kernel
theorem dX5_isFull_12 : decode cX5_isFull 12 = .ok (.iconst 1, 1) := by decide +kernel
theorem dX5_isFull_13 : decode cX5_isFull 13 = .ok (.goto 4, 3) := by decide +kernel
theorem dX5_isFull_16 : decode cX5_isFull 16 = .ok (.iconst 0, 1) := by decide +kernel
theorem dX5_isFull_17 : decode cX5_isFull 17 = .ok (.ireturn, 1) := by decide +kernel
theorem dX5_find_0 : decode cX5_find 0 = .ok (.iconst 0, 1) := by decide +kernel
theorem dX5_find_1 : decode cX5_find 1 = .ok (.istore 4, 2) := by decide +kernel
theorem dX5_find_3 : decode cX5_find 3 = .ok (.iload 4, 2) := by decide +kernel
theorem dX5_find_5 : decode cX5_find 5 = .ok (.aload_n 0, 1) := by decide +kernel
theorem dX5_find_6 : decode cX5_find 6 = .ok (.getfield 9, 3) := by decide +kernel
theorem dX5_find_9 : decode cX5_find 9 = .ok (.if_icmp .ge 41, 3) := by decide +kernel
theorem dX5_find_12 : decode cX5_find 12 = .ok (.aload_n 0, 1) := by decide +kernel
theorem dX5_find_13 : decode cX5_find 13 = .ok (.getfield 19, 3) := by decide +kernel
theorem dX5_find_16 : decode cX5_find 16 = .ok (.iload 4, 2) := by decide +kernel
theorem dX5_find_18 : decode cX5_find 18 = .ok (.iaload, 1) := by decide +kernel
theorem dX5_find_19 : decode cX5_find 19 = .ok (.iload_n 3, 1) := by decide +kernel
theorem dX5_find_20 : decode cX5_find 20 = .ok (.if_icmp .ne 24, 3) := by decide +kernel
theorem dX5_find_23 : decode cX5_find 23 = .ok (.aload_n 0, 1) := by decide +kernel
theorem dX5_find_24 : decode cX5_find 24 = .ok (.getfield 15, 3) := by decide +kernel
theorem dX5_find_27 : decode cX5_find 27 = .ok (.iload 4, 2) := by decide +kernel
theorem dX5_find_29 : decode cX5_find 29 = .ok (.bipush 12, 2) := by decide +kernel
theorem dX5_find_31 : decode cX5_find 31 = .ok (.imul, 1) := by decide +kernel
theorem dX5_find_32 : decode cX5_find 32 = .ok (.aload_n 1, 1) := by decide +kernel
theorem dX5_find_33 : decode cX5_find 33 = .ok (.iload_n 2, 1) := by decide +kernel
theorem dX5_find_34 : decode cX5_find 34 = .ok (.iload_n 3, 1) := by decide +kernel
theorem dX5_find_35 : decode cX5_find 35 = .ok (.invokestatic 23, 3) := by decide +kernel
theorem dX5_find_38 : decode cX5_find 38 = .ok (.ifCond .eq 6, 3) := by decide +kernel
theorem dX5_find_41 : decode cX5_find 41 = .ok (.iload 4, 2) := by decide +kernel
theorem dX5_find_43 : decode cX5_find 43 = .ok (.ireturn, 1) := by decide +kernel
theorem dX5_find_44 : decode cX5_find 44 = .ok (.iinc 4 1, 3) := by decide +kernel
theorem dX5_find_47 : decode cX5_find 47 = .ok (.goto (-44), 3) := by decide +kernel
theorem dX5_find_50 : decode cX5_find 50 = .ok (.iconst (-1), 1) := by decide +kernel
theorem dX5_find_51 : decode cX5_find 51 = .ok (.ireturn, 1) := by decide +kernel
theorem dX5_add_0 : decode cX5_add 0 = .ok (.aload_n 0, 1) := by decide +kernel
theorem dX5_add_1 : decode cX5_add 1 = .ok (.invokevirtual 27, 3) := by decide +kernel
theorem dX5_add_4 : decode cX5_add 4 = .ok (.ifCond .ne 21, 3) := by decide +kernel
theorem dX5_add_7 : decode cX5_add 7 = .ok (.iload_n 3, 1) := by decide +kernel
theorem dX5_add_8 : decode cX5_add 8 = .ok (.bipush 12, 2) := by decide +kernel
theorem dX5_add_10 : decode cX5_add 10 = .ok (.if_icmp .gt 15, 3) := by decide +kernel
theorem dX5_add_13 : decode cX5_add 13 = .ok (.iload_n 2, 1) := by decide +kernel
theorem dX5_add_14 : decode cX5_add 14 = .ok (.ifCond .lt 11, 3) := by decide +kernel
theorem dX5_add_17 : decode cX5_add 17 = .ok (.iload_n 2, 1) := by decide +kernel
theorem dX5_add_18 : decode cX5_add 18 = .ok (.iload_n 3, 1) := by decide +kernel
theorem dX5_add_19 : decode cX5_add 19 = .ok (.iadd, 1) := by decide +kernel
theorem dX5_add_20 : decode cX5_add 20 = .ok (.aload_n 1, 1) := by decide +kernel
theorem dX5_add_21 : decode cX5_add 21 = .ok (.arraylength, 1) := by decide +kernel
theorem dX5_add_22 : decode cX5_add 22 = .ok (.if_icmp .le 4, 3) := by decide +kernel
theorem dX5_add_25 : decode cX5_add 25 = .ok (.return_, 1) := by decide +kernel
theorem dX5_add_26 : decode cX5_add 26 = .ok (.iconst 0, 1) := by decide +kernel
theorem dX5_add_27 : decode cX5_add 27 = .ok (.istore 4, 2) := by decide +kernel
theorem dX5_add_29 : decode cX5_add 29 = .ok (.iload 4, 2) := by decide +kernel
theorem dX5_add_31 : decode cX5_add 31 = .ok (.iload_n 3, 1) := by decide +kernel
theorem dX5_add_32 : decode cX5_add 32 = .ok (.if_icmp .ge 30, 3) := by decide +kernel
theorem dX5_add_35 : decode cX5_add 35 = .ok (.aload_n 0, 1) := by decide +kernel
theorem dX5_add_36 : decode cX5_add 36 = .ok (.getfield 15, 3) := by decide +kernel
theorem dX5_add_39 : decode cX5_add 39 = .ok (.aload_n 0, 1) := by decide +kernel
theorem dX5_add_40 : decode cX5_add 40 = .ok (.getfield 9, 3) := by decide +kernel
theorem dX5_add_43 : decode cX5_add 43 = .ok (.bipush 12, 2) := by decide +kernel
theorem dX5_add_45 : decode cX5_add 45 = .ok (.imul, 1) := by decide +kernel
theorem dX5_add_46 : decode cX5_add 46 = .ok (.iload 4, 2) := by decide +kernel
theorem dX5_add_48 : decode cX5_add 48 = .ok (.iadd, 1) := by decide +kernel
theorem dX5_add_49 : decode cX5_add 49 = .ok (.aload_n 1, 1) := by decide +kernel
theorem dX5_add_50 : decode cX5_add 50 = .ok (.iload_n 2, 1) := by decide +kernel
theorem dX5_add_51 : decode cX5_add 51 = .ok (.iload 4, 2) := by decide +kernel
theorem dX5_add_53 : decode cX5_add 53 = .ok (.iadd, 1) := by decide +kernel
theorem dX5_add_54 : decode cX5_add 54 = .ok (.baload, 1) := by decide +kernel
theorem dX5_add_55 : decode cX5_add 55 = .ok (.bastore, 1) := by decide +kernel
theorem dX5_add_56 : decode cX5_add 56 = .ok (.iinc 4 1, 3) := by decide +kernel
theorem dX5_add_59 : decode cX5_add 59 = .ok (.goto (-30), 3) := by decide +kernel
theorem dX5_add_62 : decode cX5_add 62 = .ok (.aload_n 0, 1) := by decide +kernel
theorem dX5_add_63 : decode cX5_add 63 = .ok (.getfield 19, 3) := by decide +kernel
theorem dX5_add_66 : decode cX5_add 66 = .ok (.aload_n 0, 1) := by decide +kernel
theorem dX5_add_67 : decode cX5_add 67 = .ok (.getfield 9, 3) := by decide +kernel
theorem dX5_add_70 : decode cX5_add 70 = .ok (.iload_n 3, 1) := by decide +kernel
theorem dX5_add_71 : decode cX5_add 71 = .ok (.iastore, 1) := by decide +kernel
theorem dX5_add_72 : decode cX5_add 72 = .ok (.aload_n 0, 1) := by decide +kernel
theorem dX5_add_73 : decode cX5_add 73 = .ok (.dup, 1) := by decide +kernel
theorem dX5_add_74 : decode cX5_add 74 = .ok (.getfield 9, 3) := by decide +kernel
theorem dX5_add_77 : decode cX5_add 77 = .ok (.iconst 1, 1) := by decide +kernel
theorem dX5_add_78 : decode cX5_add 78 = .ok (.iadd, 1) := by decide +kernel
theorem dX5_add_79 : decode cX5_add 79 = .ok (.putfield 9, 3) := by decide +kernel
theorem dX5_add_82 : decode cX5_add 82 = .ok (.return_, 1) := by decide +kernel
theorem dX5_signOf_0 : decode cX5_signOf 0 = .ok (.iload_n 1, 1) := by decide +kernel
theorem dX5_signOf_1 : decode cX5_signOf 1 = .ok (.ifCond .lt 25, 3) := by decide +kernel
theorem dX5_signOf_4 : decode cX5_signOf 4 = .ok (.iload_n 1, 1) := by decide +kernel
theorem dX5_signOf_5 : decode cX5_signOf 5 = .ok (.aload_n 0, 1) := by decide +kernel
theorem dX5_signOf_6 : decode cX5_signOf 6 = .ok (.getfield 9, 3) := by decide +kernel
theorem dX5_signOf_9 : decode cX5_signOf 9 = .ok (.if_icmp .ge 17, 3) := by decide +kernel
theorem dX5_signOf_12 : decode cX5_signOf 12 = .ok (.iload_n 2, 1) := by decide +kernel
theorem dX5_signOf_13 : decode cX5_signOf 13 = .ok (.ifCond .lt 13, 3) := by decide +kernel
theorem dX5_signOf_16 : decode cX5_signOf 16 = .ok (.iload_n 2, 1) := by decide +kernel
theorem dX5_signOf_17 : decode cX5_signOf 17 = .ok (.aload_n 0, 1) := by decide +kernel
theorem dX5_signOf_18 : decode cX5_signOf 18 = .ok (.getfield 19, 3) := by decide +kernel
theorem dX5_signOf_21 : decode cX5_signOf 21 = .ok (.iload_n 1, 1) := by decide +kernel
theorem dX5_signOf_22 : decode cX5_signOf 22 = .ok (.iaload, 1) := by decide +kernel
theorem dX5_signOf_23 : decode cX5_signOf 23 = .ok (.if_icmp .lt 5, 3) := by decide +kernel
theorem dX5_signOf_26 : decode cX5_signOf 26 = .ok (.iconst (-1), 1) := by decide +kernel
theorem dX5_signOf_27 : decode cX5_signOf 27 = .ok (.ireturn, 1) := by decide +kernel
theorem dX5_signOf_28 : decode cX5_signOf 28 = .ok (.aload_n 0, 1) := by decide +kernel
theorem dX5_signOf_29 : decode cX5_signOf 29 = .ok (.getfield 15, 3) := by decide +kernel
theorem dX5_signOf_32 : decode cX5_signOf 32 = .ok (.iload_n 1, 1) := by decide +kernel
theorem dX5_signOf_33 : decode cX5_signOf 33 = .ok (.bipush 12, 2) := by decide +kernel
theorem dX5_signOf_35 : decode cX5_signOf 35 = .ok (.imul, 1) := by decide +kernel
theorem dX5_signOf_36 : decode cX5_signOf 36 = .ok (.iload_n 2, 1) := by decide +kernel
theorem dX5_signOf_37 : decode cX5_signOf 37 = .ok (.iadd, 1) := by decide +kernel
theorem dX5_signOf_38 : decode cX5_signOf 38 = .ok (.baload, 1) := by decide +kernel
theorem dX5_signOf_39 : decode cX5_signOf 39 = .ok (.ireturn, 1) := by decide +kernel
theorem dX5_agree_0 : decode cX5_agree 0 = .ok (.iload_n 1, 1) := by decide +kernel
theorem dX5_agree_1 : decode cX5_agree 1 = .ok (.ifCond .lt 12, 3) := by decide +kernel
theorem dX5_agree_4 : decode cX5_agree 4 = .ok (.iload_n 1, 1) := by decide +kernel
theorem dX5_agree_5 : decode cX5_agree 5 = .ok (.iload 4, 2) := by decide +kernel
theorem dX5_agree_7 : decode cX5_agree 7 = .ok (.iadd, 1) := by decide +kernel
theorem dX5_agree_8 : decode cX5_agree 8 = .ok (.aload_n 0, 1) := by decide +kernel
theorem dX5_agree_9 : decode cX5_agree 9 = .ok (.arraylength, 1) := by decide +kernel
theorem dX5_agree_10 : decode cX5_agree 10 = .ok (.if_icmp .le 5, 3) := by decide +kernel
theorem dX5_agree_13 : decode cX5_agree 13 = .ok (.iconst 0, 1) := by decide +kernel
theorem dX5_agree_14 : decode cX5_agree 14 = .ok (.ireturn, 1) := by decide +kernel
theorem dX5_agree_15 : decode cX5_agree 15 = .ok (.iload_n 3, 1) := by decide +kernel
theorem dX5_agree_16 : decode cX5_agree 16 = .ok (.ifCond .lt 12, 3) := by decide +kernel
theorem dX5_agree_19 : decode cX5_agree 19 = .ok (.iload_n 3, 1) := by decide +kernel
theorem dX5_agree_20 : decode cX5_agree 20 = .ok (.iload 4, 2) := by decide +kernel
theorem dX5_agree_22 : decode cX5_agree 22 = .ok (.iadd, 1) := by decide +kernel
theorem dX5_agree_23 : decode cX5_agree 23 = .ok (.aload_n 2, 1) := by decide +kernel
theorem dX5_agree_24 : decode cX5_agree 24 = .ok (.arraylength, 1) := by decide +kernel
theorem dX5_agree_25 : decode cX5_agree 25 = .ok (.if_icmp .le 5, 3) := by decide +kernel
theorem dX5_agree_28 : decode cX5_agree 28 = .ok (.iconst 0, 1) := by decide +kernel
theorem dX5_agree_29 : decode cX5_agree 29 = .ok (.ireturn, 1) := by decide +kernel
theorem dX5_agree_30 : decode cX5_agree 30 = .ok (.iconst 0, 1) := by decide +kernel
theorem dX5_agree_31 : decode cX5_agree 31 = .ok (.istore 5, 2) := by decide +kernel
theorem dX5_agree_33 : decode cX5_agree 33 = .ok (.iload 5, 2) := by decide +kernel
theorem dX5_agree_35 : decode cX5_agree 35 = .ok (.iload 4, 2) := by decide +kernel
theorem dX5_agree_37 : decode cX5_agree 37 = .ok (.if_icmp .ge 26, 3) := by decide +kernel
theorem dX5_agree_40 : decode cX5_agree 40 = .ok (.aload_n 0, 1) := by decide +kernel
theorem dX5_agree_41 : decode cX5_agree 41 = .ok (.iload_n 1, 1) := by decide +kernel
theorem dX5_agree_42 : decode cX5_agree 42 = .ok (.iload 5, 2) := by decide +kernel
theorem dX5_agree_44 : decode cX5_agree 44 = .ok (.iadd, 1) := by decide +kernel
theorem dX5_agree_45 : decode cX5_agree 45 = .ok (.baload, 1) := by decide +kernel
theorem dX5_agree_46 : decode cX5_agree 46 = .ok (.aload_n 2, 1) := by decide +kernel
theorem dX5_agree_47 : decode cX5_agree 47 = .ok (.iload_n 3, 1) := by decide +kernel
theorem dX5_agree_48 : decode cX5_agree 48 = .ok (.iload 5, 2) := by decide +kernel
theorem dX5_agree_50 : decode cX5_agree 50 = .ok (.iadd, 1) := by decide +kernel
theorem dX5_agree_51 : decode cX5_agree 51 = .ok (.baload, 1) := by decide +kernel
theorem dX5_agree_52 : decode cX5_agree 52 = .ok (.if_icmp .eq 5, 3) := by decide +kernel
theorem dX5_agree_55 : decode cX5_agree 55 = .ok (.iconst 0, 1) := by decide +kernel
theorem dX5_agree_56 : decode cX5_agree 56 = .ok (.ireturn, 1) := by decide +kernel
theorem dX5_agree_57 : decode cX5_agree 57 = .ok (.iinc 5 1, 3) := by decide +kernel
theorem dX5_agree_60 : decode cX5_agree 60 = .ok (.goto (-27), 3) := by decide +kernel
theorem dX5_agree_63 : decode cX5_agree 63 = .ok (.iconst 1, 1) := by decide +kernel
theorem dX5_agree_64 : decode cX5_agree 64 = .ok (.ireturn, 1) := by decide +kernel
theorem dX6_init_0 : decode cX6_init 0 = .ok (.aload_n 0, 1) := by decide +kernel
theorem dX6_init_1 : decode cX6_init 1 = .ok (.invokespecial 3, 3) := by decide +kernel
theorem dX6_init_4 : decode cX6_init 4 = .ok (.aload_n 0, 1) := by decide +kernel
theorem dX6_init_5 : decode cX6_init 5 = .ok (.iconst (-1), 1) := by decide +kernel
theorem dX6_init_6 : decode cX6_init 6 = .ok (.putfield 9, 3) := by decide +kernel
theorem dX6_init_9 : decode cX6_init 9 = .ok (.aload_n 0, 1) := by decide +kernel
theorem dX6_init_10 : decode cX6_init 10 = .ok (.iconst (-1), 1) := by decide +kernel
theorem dX6_init_11 : decode cX6_init 11 = .ok (.putfield 15, 3) := by decide +kernel
theorem dX6_init_14 : decode cX6_init 14 = .ok (.aload_n 0, 1) := by decide +kernel
theorem dX6_init_15 : decode cX6_init 15 = .ok (.iconst 0, 1) := by decide +kernel
theorem dX6_init_16 : decode cX6_init 16 = .ok (.putfield 18, 3) := by decide +kernel
theorem dX6_init_19 : decode cX6_init 19 = .ok (.aload_n 0, 1) := by decide +kernel
theorem dX6_init_20 : decode cX6_init 20 = .ok (.iconst 0, 1) := by decide +kernel
theorem dX6_init_21 : decode cX6_init 21 = .ok (.putfield 21, 3) := by decide +kernel
theorem dX6_init_24 : decode cX6_init 24 = .ok (.aload_n 0, 1) := by decide +kernel
theorem dX6_init_25 : decode cX6_init 25 = .ok (.aconst_null, 1) := by decide +kernel
theorem dX6_init_26 : decode cX6_init 26 = .ok (.putfield 24, 3) := by decide +kernel
theorem dX6_init_29 : decode cX6_init 29 = .ok (.aload_n 0, 1) := by decide +kernel
theorem dX6_init_30 : decode cX6_init 30 = .ok (.aconst_null, 1) := by decide +kernel
theorem dX6_init_31 : decode cX6_init 31 = .ok (.putfield 28, 3) := by decide +kernel
theorem dX6_init_34 : decode cX6_init 34 = .ok (.aload_n 0, 1) := by decide +kernel
theorem dX6_init_35 : decode cX6_init 35 = .ok (.aconst_null, 1) := by decide +kernel
theorem dX6_init_36 : decode cX6_init 36 = .ok (.putfield 31, 3) := by decide +kernel
theorem dX6_init_39 : decode cX6_init 39 = .ok (.aload_n 0, 1) := by decide +kernel
theorem dX6_init_40 : decode cX6_init 40 = .ok (.iconst (-1), 1) := by decide +kernel
theorem dX6_init_41 : decode cX6_init 41 = .ok (.putfield 35, 3) := by decide +kernel
theorem dX6_init_44 : decode cX6_init 44 = .ok (.aload_n 0, 1) := by decide +kernel
theorem dX6_init_45 : decode cX6_init 45 = .ok (.iconst (-1), 1) := by decide +kernel
theorem dX6_init_46 : decode cX6_init 46 = .ok (.putfield 38, 3) := by decide +kernel
theorem dX6_init_49 : decode cX6_init 49 = .ok (.aload_n 0, 1) := by decide +kernel
theorem dX6_init_50 : decode cX6_init 50 = .ok (.iload_n 1, 1) := by decide +kernel
theorem dX6_init_51 : decode cX6_init 51 = .ok (.putfield 41, 3) := by decide +kernel
theorem dX6_init_54 : decode cX6_init 54 = .ok (.aload_n 0, 1) := by decide +kernel
theorem dX6_init_55 : decode cX6_init 55 = .ok (.iload_n 2, 1) := by decide +kernel
theorem dX6_init_56 : decode cX6_init 56 = .ok (.putfield 44, 3) := by decide +kernel
theorem dX6_init_59 : decode cX6_init 59 = .ok (.return_, 1) := by decide +kernel
theorem dX6_named_0 : decode cX6_named 0 = .ok (.new 10, 3) := by decide +kernel
theorem dX6_named_3 : decode cX6_named 3 = .ok (.dup, 1) := by decide +kernel
theorem dX6_named_4 : decode cX6_named 4 = .ok (.iconst 0, 1) := by decide +kernel
theorem dX6_named_5 : decode cX6_named 5 = .ok (.iconst 0, 1) := by decide +kernel
theorem dX6_named_6 : decode cX6_named 6 = .ok (.invokespecial 47, 3) := by decide +kernel
theorem dX6_named_9 : decode cX6_named 9 = .ok (.astore_n 2, 1) := by decide +kernel
theorem dX6_named_10 : decode cX6_named 10 = .ok (.aload_n 2, 1) := by decide +kernel
theorem dX6_named_11 : decode cX6_named 11 = .ok (.iload_n 0, 1) := by decide +kernel
theorem dX6_named_12 : decode cX6_named 12 = .ok (.putfield 9, 3) := by decide +kernel
theorem dX6_named_15 : decode cX6_named 15 = .ok (.aload_n 2, 1) := by decide +kernel
theorem dX6_named_16 : decode cX6_named 16 = .ok (.iload_n 0, 1) := by decide +kernel
theorem dX6_named_17 : decode cX6_named 17 = .ok (.putfield 15, 3) := by decide +kernel
theorem dX6_named_20 : decode cX6_named 20 = .ok (.aload_n 2, 1) := by decide +kernel
theorem dX6_named_21 : decode cX6_named 21 = .ok (.iload_n 0, 1) := by decide +kernel
theorem dX6_named_22 : decode cX6_named 22 = .ok (.putfield 18, 3) := by decide +kernel
theorem dX6_named_25 : decode cX6_named 25 = .ok (.aload_n 2, 1) := by decide +kernel
theorem dX6_named_26 : decode cX6_named 26 = .ok (.iload_n 1, 1) := by decide +kernel
theorem dX6_named_27 : decode cX6_named 27 = .ok (.putfield 21, 3) := by decide +kernel
theorem dX6_named_30 : decode cX6_named 30 = .ok (.aload_n 2, 1) := by decide +kernel
theorem dX6_named_31 : decode cX6_named 31 = .ok (.areturn, 1) := by decide +kernel
theorem dX6_binder_0 : decode cX6_binder 0 = .ok (.new 10, 3) := by decide +kernel
theorem dX6_binder_3 : decode cX6_binder 3 = .ok (.dup, 1) := by decide +kernel
theorem dX6_binder_4 : decode cX6_binder 4 = .ok (.iload_n 0, 1) := by decide +kernel
theorem dX6_binder_5 : decode cX6_binder 5 = .ok (.iload_n 1, 1) := by decide +kernel
theorem dX6_binder_6 : decode cX6_binder 6 = .ok (.invokespecial 47, 3) := by decide +kernel
theorem dX6_binder_9 : decode cX6_binder 9 = .ok (.astore 4, 2) := by decide +kernel
theorem dX6_binder_11 : decode cX6_binder 11 = .ok (.aload 4, 2) := by decide +kernel
theorem dX6_binder_13 : decode cX6_binder 13 = .ok (.aload_n 2, 1) := by decide +kernel
theorem dX6_binder_14 : decode cX6_binder 14 = .ok (.putfield 24, 3) := by decide +kernel
theorem dX6_binder_17 : decode cX6_binder 17 = .ok (.aload 4, 2) := by decide +kernel
theorem dX6_binder_19 : decode cX6_binder 19 = .ok (.aload_n 3, 1) := by decide +kernel
theorem dX6_binder_20 : decode cX6_binder 20 = .ok (.putfield 28, 3) := by decide +kernel
theorem dX6_binder_23 : decode cX6_binder 23 = .ok (.aload 4, 2) := by decide +kernel
theorem dX6_binder_25 : decode cX6_binder 25 = .ok (.areturn, 1) := by decide +kernel
theorem dX6_use_0 : decode cX6_use 0 = .ok (.new 10, 3) := by decide +kernel
theorem dX6_use_3 : decode cX6_use 3 = .ok (.dup, 1) := by decide +kernel
theorem dX6_use_4 : decode cX6_use 4 = .ok (.bipush 7, 2) := by decide +kernel
theorem dX6_use_6 : decode cX6_use 6 = .ok (.iconst 0, 1) := by decide +kernel
theorem dX6_use_7 : decode cX6_use 7 = .ok (.invokespecial 47, 3) := by decide +kernel
theorem dX6_use_10 : decode cX6_use 10 = .ok (.astore_n 2, 1) := by decide +kernel
theorem dX6_use_11 : decode cX6_use 11 = .ok (.aload_n 2, 1) := by decide +kernel
theorem dX6_use_12 : decode cX6_use 12 = .ok (.aload_n 0, 1) := by decide +kernel
theorem dX6_use_13 : decode cX6_use 13 = .ok (.putfield 24, 3) := by decide +kernel
theorem dX6_use_16 : decode cX6_use 16 = .ok (.aload_n 2, 1) := by decide +kernel
theorem dX6_use_17 : decode cX6_use 17 = .ok (.aload_n 1, 1) := by decide +kernel
theorem dX6_use_18 : decode cX6_use 18 = .ok (.putfield 31, 3) := by decide +kernel
theorem dX6_use_21 : decode cX6_use 21 = .ok (.aload_n 2, 1) := by decide +kernel
theorem dX6_use_22 : decode cX6_use 22 = .ok (.aload_n 0, 1) := by decide +kernel
theorem dX6_use_23 : decode cX6_use 23 = .ok (.getfield 9, 3) := by decide +kernel
theorem dX6_use_26 : decode cX6_use 26 = .ok (.putfield 9, 3) := by decide +kernel
theorem dX6_use_29 : decode cX6_use 29 = .ok (.aload_n 2, 1) := by decide +kernel
theorem dX6_use_30 : decode cX6_use 30 = .ok (.aload_n 0, 1) := by decide +kernel
theorem dX6_use_31 : decode cX6_use 31 = .ok (.getfield 15, 3) := by decide +kernel
theorem dX6_use_34 : decode cX6_use 34 = .ok (.putfield 15, 3) := by decide +kernel
theorem dX6_use_37 : decode cX6_use 37 = .ok (.aload_n 2, 1) := by decide +kernel
theorem dX6_use_38 : decode cX6_use 38 = .ok (.areturn, 1) := by decide +kernel
theorem dX6_keepSorts_0 : decode cX6_keepSorts 0 = .ok (.aload_n 0, 1) := by decide +kernel
theorem dX6_keepSorts_1 : decode cX6_keepSorts 1 = .ok (.iload_n 1, 1) := by decide +kernel
theorem dX6_keepSorts_2 : decode cX6_keepSorts 2 = .ok (.putfield 35, 3) := by decide +kernel
theorem dX6_keepSorts_5 : decode cX6_keepSorts 5 = .ok (.aload_n 0, 1) := by decide +kernel
theorem dX6_keepSorts_6 : decode cX6_keepSorts 6 = .ok (.iload_n 2, 1) := by decide +kernel
theorem dX6_keepSorts_7 : decode cX6_keepSorts 7 = .ok (.putfield 38, 3) := by decide +kernel
theorem dX6_keepSorts_10 : decode cX6_keepSorts 10 = .ok (.return_, 1) := by decide +kernel
theorem dX7_init_0 : decode cX7_init 0 = .ok (.aload_n 0, 1) := by decide +kernel
theorem dX7_init_1 : decode cX7_init 1 = .ok (.invokespecial 3, 3) := by decide +kernel
theorem dX7_init_4 : decode cX7_init 4 = .ok (.aload_n 0, 1) := by decide +kernel
theorem dX7_init_5 : decode cX7_init 5 = .ok (.iconst 0, 1) := by decide +kernel
theorem dX7_init_6 : decode cX7_init 6 = .ok (.putfield 9, 3) := by decide +kernel
theorem dX7_init_9 : decode cX7_init 9 = .ok (.aload_n 0, 1) := by decide +kernel
theorem dX7_init_10 : decode cX7_init 10 = .ok (.iconst 0, 1) := by decide +kernel
theorem dX7_init_11 : decode cX7_init 11 = .ok (.putfield 15, 3) := by decide +kernel
theorem dX7_init_14 : decode cX7_init 14 = .ok (.aload_n 0, 1) := by decide +kernel
theorem dX7_init_15 : decode cX7_init 15 = .ok (.sipush 261, 3) := by decide +kernel
theorem dX7_init_18 : decode cX7_init 18 = .ok (.putfield 18, 3) := by decide +kernel
theorem dX7_init_21 : decode cX7_init 21 = .ok (.aload_n 0, 1) := by decide +kernel
theorem dX7_init_22 : decode cX7_init 22 = .ok (.iconst 0, 1) := by decide +kernel
theorem dX7_init_23 : decode cX7_init 23 = .ok (.putfield 21, 3) := by decide +kernel
theorem dX7_init_26 : decode cX7_init 26 = .ok (.aload_n 0, 1) := by decide +kernel
theorem dX7_init_27 : decode cX7_init 27 = .ok (.iconst 0, 1) := by decide +kernel
theorem dX7_init_28 : decode cX7_init 28 = .ok (.putfield 24, 3) := by decide +kernel
theorem dX7_init_31 : decode cX7_init 31 = .ok (.aload_n 0, 1) := by decide +kernel
theorem dX7_init_32 : decode cX7_init 32 = .ok (.iconst 0, 1) := by decide +kernel
theorem dX7_init_33 : decode cX7_init 33 = .ok (.putfield 27, 3) := by decide +kernel
theorem dX7_init_36 : decode cX7_init 36 = .ok (.aload_n 0, 1) := by decide +kernel
theorem dX7_init_37 : decode cX7_init 37 = .ok (.aload_n 1, 1) := by decide +kernel
theorem dX7_init_38 : decode cX7_init 38 = .ok (.putfield 30, 3) := by decide +kernel
theorem dX7_init_41 : decode cX7_init 41 = .ok (.aload_n 0, 1) := by decide +kernel
theorem dX7_init_42 : decode cX7_init 42 = .ok (.aload_n 2, 1) := by decide +kernel
theorem dX7_init_43 : decode cX7_init 43 = .ok (.putfield 34, 3) := by decide +kernel
theorem dX7_init_46 : decode cX7_init 46 = .ok (.aload_n 0, 1) := by decide +kernel
theorem dX7_init_47 : decode cX7_init 47 = .ok (.aload_n 1, 1) := by decide +kernel
theorem dX7_init_48 : decode cX7_init 48 = .ok (.arraylength, 1) := by decide +kernel
theorem dX7_init_49 : decode cX7_init 49 = .ok (.iconst 1, 1) := by decide +kernel
theorem dX7_init_50 : decode cX7_init 50 = .ok (.iadd, 1) := by decide +kernel
theorem dX7_init_51 : decode cX7_init 51 = .ok (.newarray .int, 2) := by decide +kernel
theorem dX7_init_53 : decode cX7_init 53 = .ok (.putfield 38, 3) := by decide +kernel
theorem dX7_init_56 : decode cX7_init 56 = .ok (.aload_n 0, 1) := by decide +kernel
theorem dX7_init_57 : decode cX7_init 57 = .ok (.aload_n 1, 1) := by decide +kernel
theorem dX7_init_58 : decode cX7_init 58 = .ok (.arraylength, 1) := by decide +kernel
theorem dX7_init_59 : decode cX7_init 59 = .ok (.iconst 1, 1) := by decide +kernel
theorem dX7_init_60 : decode cX7_init 60 = .ok (.iadd, 1) := by decide +kernel
theorem dX7_init_61 : decode cX7_init 61 = .ok (.newarray .int, 2) := by decide +kernel
theorem dX7_init_63 : decode cX7_init 63 = .ok (.putfield 42, 3) := by decide +kernel
theorem dX7_init_66 : decode cX7_init 66 = .ok (.aload_n 0, 1) := by decide +kernel
theorem dX7_init_67 : decode cX7_init 67 = .ok (.aload_n 1, 1) := by decide +kernel
theorem dX7_init_68 : decode cX7_init 68 = .ok (.arraylength, 1) := by decide +kernel
theorem dX7_init_69 : decode cX7_init 69 = .ok (.iconst 1, 1) := by decide +kernel
theorem dX7_init_70 : decode cX7_init 70 = .ok (.iadd, 1) := by decide +kernel
theorem dX7_init_71 : decode cX7_init 71 = .ok (.newarray .int, 2) := by decide +kernel
theorem dX7_init_73 : decode cX7_init 73 = .ok (.putfield 45, 3) := by decide +kernel
theorem dX7_init_76 : decode cX7_init 76 = .ok (.return_, 1) := by decide +kernel
theorem dX7_readText_0 : decode cX7_readText 0 = .ok (.aload_n 0, 1) := by decide +kernel
theorem dX7_readText_1 : decode cX7_readText 1 = .ok (.iload_n 1, 1) := by decide +kernel
theorem dX7_readText_2 : decode cX7_readText 2 = .ok (.aload_n 0, 1) := by decide +kernel
theorem dX7_readText_3 : decode cX7_readText 3 = .ok (.getfield 30, 3) := by decide +kernel
theorem dX7_readText_6 : decode cX7_readText 6 = .ok (.arraylength, 1) := by decide +kernel
theorem dX7_readText_7 : decode cX7_readText 7 = .ok (.invokestatic 48, 3) := by decide +kernel
theorem dX7_readText_10 : decode cX7_readText 10 = .ok (.putfield 9, 3) := by decide +kernel
theorem dX7_readText_13 : decode cX7_readText 13 = .ok (.aload_n 0, 1) := by decide +kernel
theorem dX7_readText_14 : decode cX7_readText 14 = .ok (.invokevirtual 54, 3) := by decide +kernel
theorem dX7_readText_17 : decode cX7_readText 17 = .ok (.aload_n 0, 1) := by decide +kernel
theorem dX7_readText_18 : decode cX7_readText 18 = .ok (.iconst 0, 1) := by decide +kernel
theorem dX7_readText_19 : decode cX7_readText 19 = .ok (.putfield 15, 3) := by decide +kernel
theorem dX7_readText_22 : decode cX7_readText 22 = .ok (.new 57, 3) := by decide +kernel
theorem dX7_readText_25 : decode cX7_readText 25 = .ok (.dup, 1) := by decide +kernel
theorem dX7_readText_26 : decode cX7_readText 26 = .ok (.invokespecial 59, 3) := by decide +kernel
theorem dX7_readText_29 : decode cX7_readText 29 = .ok (.astore_n 2, 1) := by decide +kernel
theorem dX7_readText_30 : decode cX7_readText 30 = .ok (.aload_n 0, 1) := by decide +kernel
theorem dX7_readText_31 : decode cX7_readText 31 = .ok (.invokevirtual 60, 3) := by decide +kernel
theorem dX7_readText_34 : decode cX7_readText 34 = .ok (.iconst 0, 1) := by decide +kernel
theorem dX7_readText_35 : decode cX7_readText 35 = .ok (.istore_n 3, 1) := by decide +kernel
theorem dX7_readText_36 : decode cX7_readText 36 = .ok (.iload_n 3, 1) := by decide +kernel
theorem dX7_readText_37 : decode cX7_readText 37 = .ok (.aload_n 0, 1) := by decide +kernel
theorem dX7_readText_38 : decode cX7_readText 38 = .ok (.getfield 9, 3) := by decide +kernel
theorem dX7_readText_41 : decode cX7_readText 41 = .ok (.if_icmp .ge 36, 3) := by decide +kernel
theorem dX7_readText_44 : decode cX7_readText 44 = .ok (.aload_n 0, 1) := by decide +kernel
theorem dX7_readText_45 : decode cX7_readText 45 = .ok (.getfield 18, 3) := by decide +kernel
theorem dX7_readText_48 : decode cX7_readText 48 = .ok (.sipush 261, 3) := by decide +kernel
theorem dX7_readText_51 : decode cX7_readText 51 = .ok (.if_icmp .eq 26, 3) := by decide +kernel
theorem dX7_readText_54 : decode cX7_readText 54 = .ok (.aload_n 2, 1) := by decide +kernel
theorem dX7_readText_55 : decode cX7_readText 55 = .ok (.aload_n 0, 1) := by decide +kernel
theorem dX7_readText_56 : decode cX7_readText 56 = .ok (.invokevirtual 63, 3) := by decide +kernel
theorem dX7_readText_59 : decode cX7_readText 59 = .ok (.invokeinterface 67 2, 5) := by decide +kernel
theorem dX7_readText_64 : decode cX7_readText 64 = .ok (.pop, 1) := by decide +kernel
theorem dX7_readText_65 : decode cX7_readText 65 = .ok (.aload_n 0, 1) := by decide +kernel
theorem dX7_readText_66 : decode cX7_readText 66 = .ok (.bipush 59, 2) := by decide +kernel
theorem dX7_readText_68 : decode cX7_readText 68 = .ok (.invokevirtual 73, 3) := by decide +kernel
theorem dX7_readText_71 : decode cX7_readText 71 = .ok (.iinc 3 1, 3) := by decide +kernel
theorem dX7_readText_74 : decode cX7_readText 74 = .ok (.goto (-38), 3) := by decide +kernel
theorem dX7_readText_77 : decode cX7_readText 77 = .ok (.aload_n 2, 1) := by decide +kernel
theorem dX7_readText_78 : decode cX7_readText 78 = .ok (.areturn, 1) := by decide +kernel
theorem dX7_statement_0 : decode cX7_statement 0 = .ok (.aload_n 0, 1) := by decide +kernel
theorem dX7_statement_1 : decode cX7_statement 1 = .ok (.getfield 21, 3) := by decide +kernel
theorem dX7_statement_4 : decode cX7_statement 4 = .ok (.istore_n 1, 1) := by decide +kernel
theorem dX7_statement_5 : decode cX7_statement 5 = .ok (.aload_n 0, 1) := by decide +kernel
theorem dX7_statement_6 : decode cX7_statement 6 = .ok (.getfield 18, 3) := by decide +kernel
theorem dX7_statement_9 : decode cX7_statement 9 = .ok (.istore_n 2, 1) := by decide +kernel
theorem dX7_statement_10 : decode cX7_statement 10 = .ok (.iload_n 2, 1) := by decide +kernel
theorem dX7_statement_11 : decode cX7_statement 11 = .ok (.sipush 256, 3) := by decide +kernel
theorem dX7_statement_14 : decode cX7_statement 14 = .ok (.if_icmp .ne 9, 3) := by decide +kernel
theorem dX7_statement_17 : decode cX7_statement 17 = .ok (.aload_n 0, 1) := by decide +kernel
theorem dX7_statement_18 : decode cX7_statement 18 = .ok (.iload_n 1, 1) := by decide +kernel
theorem dX7_statement_19 : decode cX7_statement 19 = .ok (.invokevirtual 77, 3) := by decide +kernel
theorem dX7_statement_22 : decode cX7_statement 22 = .ok (.areturn, 1) := by decide +kernel
theorem dX7_statement_23 : decode cX7_statement 23 = .ok (.iload_n 2, 1) := by decide +kernel
theorem dX7_statement_24 : decode cX7_statement 24 = .ok (.ifCond .lt 9, 3) := by decide +kernel
theorem dX7_statement_27 : decode cX7_statement 27 = .ok (.iload_n 2, 1) := by decide +kernel
theorem dX7_statement_28 : decode cX7_statement 28 = .ok (.bipush 6, 2) := by decide +kernel
theorem dX7_statement_30 : decode cX7_statement 30 = .ok (.if_icmp .le 7, 3) := by decide +kernel
theorem dX7_statement_33 : decode cX7_statement 33 = .ok (.aload_n 0, 1) := by decide +kernel
theorem dX7_statement_34 : decode cX7_statement 34 = .ok (.invokevirtual 83, 3) := by decide +kernel
theorem dX7_statement_37 : decode cX7_statement 37 = .ok (.aload_n 0, 1) := by decide +kernel
theorem dX7_statement_38 : decode cX7_statement 38 = .ok (.invokevirtual 60, 3) := by decide +kernel
theorem dX7_statement_41 : decode cX7_statement 41 = .ok (.iload_n 2, 1) := by decide +kernel
theorem dX7_statement_42 : decode cX7_statement 42 = .ok (.tableswitch 88 0 5 #[38, 54, 60, 88, 88, 82], 38) := by decide +kernel
theorem dX7_statement_80 : decode cX7_statement 80 = .ok (.new 81, 3) := by decide +kernel
theorem dX7_statement_83 : decode cX7_statement 83 = .ok (.dup, 1) := by decide +kernel
theorem dX7_statement_84 : decode cX7_statement 84 = .ok (.iload_n 2, 1) := by decide +kernel
theorem dX7_statement_85 : decode cX7_statement 85 = .ok (.iload_n 1, 1) := by decide +kernel
theorem dX7_statement_86 : decode cX7_statement 86 = .ok (.aload_n 0, 1) := by decide +kernel
theorem dX7_statement_87 : decode cX7_statement 87 = .ok (.invokevirtual 86, 3) := by decide +kernel
theorem dX7_statement_90 : decode cX7_statement 90 = .ok (.aconst_null, 1) := by decide +kernel
theorem dX7_statement_91 : decode cX7_statement 91 = .ok (.aconst_null, 1) := by decide +kernel
theorem dX7_statement_92 : decode cX7_statement 92 = .ok (.invokespecial 90, 3) := by decide +kernel
theorem dX7_statement_95 : decode cX7_statement 95 = .ok (.areturn, 1) := by decide +kernel
theorem dX7_statement_96 : decode cX7_statement 96 = .ok (.aload_n 0, 1) := by decide +kernel
theorem dX7_statement_97 : decode cX7_statement 97 = .ok (.iload_n 1, 1) := by decide +kernel
theorem dX7_statement_98 : decode cX7_statement 98 = .ok (.invokevirtual 93, 3) := by decide +kernel
theorem dX7_statement_101 : decode cX7_statement 101 = .ok (.areturn, 1) := by decide +kernel
theorem dX7_statement_102 : decode cX7_statement 102 = .ok (.new 81, 3) := by decide +kernel
theorem dX7_statement_105 : decode cX7_statement 105 = .ok (.dup, 1) := by decide +kernel
theorem dX7_statement_106 : decode cX7_statement 106 = .ok (.iload_n 2, 1) := by decide +kernel
theorem dX7_statement_107 : decode cX7_statement 107 = .ok (.iload_n 1, 1) := by decide +kernel
theorem dX7_statement_108 : decode cX7_statement 108 = .ok (.aload_n 0, 1) := by decide +kernel
theorem dX7_statement_109 : decode cX7_statement 109 = .ok (.invokevirtual 86, 3) := by decide +kernel
theorem dX7_statement_112 : decode cX7_statement 112 = .ok (.aload_n 0, 1) := by decide +kernel
theorem dX7_statement_113 : decode cX7_statement 113 = .ok (.invokevirtual 86, 3) := by decide +kernel
theorem dX7_statement_116 : decode cX7_statement 116 = .ok (.aload_n 0, 1) := by decide +kernel
theorem dX7_statement_117 : decode cX7_statement 117 = .ok (.invokevirtual 86, 3) := by decide +kernel
theorem dX7_statement_120 : decode cX7_statement 120 = .ok (.invokespecial 90, 3) := by decide +kernel
theorem dX7_statement_123 : decode cX7_statement 123 = .ok (.areturn, 1) := by decide +kernel
theorem dX7_statement_124 : decode cX7_statement 124 = .ok (.aload_n 0, 1) := by decide +kernel
theorem dX7_statement_125 : decode cX7_statement 125 = .ok (.iload_n 1, 1) := by decide +kernel
theorem dX7_statement_126 : decode cX7_statement 126 = .ok (.invokevirtual 96, 3) := by decide +kernel
theorem dX7_statement_129 : decode cX7_statement 129 = .ok (.areturn, 1) := by decide +kernel
theorem dX7_statement_130 : decode cX7_statement 130 = .ok (.aload_n 0, 1) := by decide +kernel
theorem dX7_statement_131 : decode cX7_statement 131 = .ok (.iload_n 2, 1) := by decide +kernel
theorem dX7_statement_132 : decode cX7_statement 132 = .ok (.iload_n 1, 1) := by decide +kernel
theorem dX7_statement_133 : decode cX7_statement 133 = .ok (.invokevirtual 99, 3) := by decide +kernel
theorem dX7_statement_136 : decode cX7_statement 136 = .ok (.areturn, 1) := by decide +kernel
theorem dX7_nameStatement_0 : decode cX7_nameStatement 0 = .ok (.aload_n 0, 1) := by decide +kernel
theorem dX7_nameStatement_1 : decode cX7_nameStatement 1 = .ok (.invokevirtual 86, 3) := by decide +kernel
theorem dX7_nameStatement_4 : decode cX7_nameStatement 4 = .ok (.astore_n 2, 1) := by decide +kernel
theorem dX7_nameStatement_5 : decode cX7_nameStatement 5 = .ok (.aload_n 0, 1) := by decide +kernel
theorem dX7_nameStatement_6 : decode cX7_nameStatement 6 = .ok (.getfield 18, 3) := by decide +kernel
theorem dX7_nameStatement_9 : decode cX7_nameStatement 9 = .ok (.sipush 258, 3) := by decide +kernel
theorem dX7_nameStatement_12 : decode cX7_nameStatement 12 = .ok (.if_icmp .ne 25, 3) := by decide +kernel
theorem dX7_nameStatement_15 : decode cX7_nameStatement 15 = .ok (.aload_n 0, 1) := by decide +kernel
theorem dX7_nameStatement_16 : decode cX7_nameStatement 16 = .ok (.invokevirtual 60, 3) := by decide +kernel
theorem dX7_nameStatement_19 : decode cX7_nameStatement 19 = .ok (.new 81, 3) := by decide +kernel
theorem dX7_nameStatement_22 : decode cX7_nameStatement 22 = .ok (.dup, 1) := by decide +kernel
theorem dX7_nameStatement_23 : decode cX7_nameStatement 23 = .ok (.bipush 8, 2) := by decide +kernel
theorem dX7_nameStatement_25 : decode cX7_nameStatement 25 = .ok (.iload_n 1, 1) := by decide +kernel
theorem dX7_nameStatement_26 : decode cX7_nameStatement 26 = .ok (.aload_n 2, 1) := by decide +kernel
theorem dX7_nameStatement_27 : decode cX7_nameStatement 27 = .ok (.aload_n 0, 1) := by decide +kernel
theorem dX7_nameStatement_28 : decode cX7_nameStatement 28 = .ok (.iconst 0, 1) := by decide +kernel
theorem dX7_nameStatement_29 : decode cX7_nameStatement 29 = .ok (.invokevirtual 103, 3) := by decide +kernel
theorem dX7_nameStatement_32 : decode cX7_nameStatement 32 = .ok (.aconst_null, 1) := by decide +kernel
theorem dX7_nameStatement_33 : decode cX7_nameStatement 33 = .ok (.invokespecial 90, 3) := by decide +kernel
theorem dX7_nameStatement_36 : decode cX7_nameStatement 36 = .ok (.areturn, 1) := by decide +kernel
theorem dX7_nameStatement_37 : decode cX7_nameStatement 37 = .ok (.aload_n 0, 1) := by decide +kernel
theorem dX7_nameStatement_38 : decode cX7_nameStatement 38 = .ok (.bipush 58, 2) := by decide +kernel
theorem dX7_nameStatement_40 : decode cX7_nameStatement 40 = .ok (.invokevirtual 73, 3) := by decide +kernel
theorem dX7_nameStatement_43 : decode cX7_nameStatement 43 = .ok (.aload_n 0, 1) := by decide +kernel
theorem dX7_nameStatement_44 : decode cX7_nameStatement 44 = .ok (.iconst 0, 1) := by decide +kernel
theorem dX7_nameStatement_45 : decode cX7_nameStatement 45 = .ok (.invokevirtual 103, 3) := by decide +kernel
theorem dX7_nameStatement_48 : decode cX7_nameStatement 48 = .ok (.astore_n 3, 1) := by decide +kernel
theorem dX7_nameStatement_49 : decode cX7_nameStatement 49 = .ok (.aconst_null, 1) := by decide +kernel
theorem dX7_nameStatement_50 : decode cX7_nameStatement 50 = .ok (.astore 4, 2) := by decide +kernel
theorem dX7_nameStatement_52 : decode cX7_nameStatement 52 = .ok (.aload_n 0, 1) := by decide +kernel
theorem dX7_nameStatement_53 : decode cX7_nameStatement 53 = .ok (.getfield 18, 3) := by decide +kernel
theorem dX7_nameStatement_56 : decode cX7_nameStatement 56 = .ok (.sipush 258, 3) := by decide +kernel
theorem dX7_nameStatement_59 : decode cX7_nameStatement 59 = .ok (.if_icmp .ne 14, 3) := by decide +kernel
theorem dX7_nameStatement_62 : decode cX7_nameStatement 62 = .ok (.aload_n 0, 1) := by decide +kernel
theorem dX7_nameStatement_63 : decode cX7_nameStatement 63 = .ok (.invokevirtual 60, 3) := by decide +kernel
theorem dX7_nameStatement_66 : decode cX7_nameStatement 66 = .ok (.aload_n 0, 1) := by decide +kernel
theorem dX7_nameStatement_67 : decode cX7_nameStatement 67 = .ok (.iconst 0, 1) := by decide +kernel
theorem dX7_nameStatement_68 : decode cX7_nameStatement 68 = .ok (.invokevirtual 103, 3) := by decide +kernel
theorem dX7_nameStatement_71 : decode cX7_nameStatement 71 = .ok (.astore 4, 2) := by decide +kernel
theorem dX7_nameStatement_73 : decode cX7_nameStatement 73 = .ok (.new 81, 3) := by decide +kernel
theorem dX7_nameStatement_76 : decode cX7_nameStatement 76 = .ok (.dup, 1) := by decide +kernel
theorem dX7_nameStatement_77 : decode cX7_nameStatement 77 = .ok (.bipush 7, 2) := by decide +kernel
theorem dX7_nameStatement_79 : decode cX7_nameStatement 79 = .ok (.iload_n 1, 1) := by decide +kernel
theorem dX7_nameStatement_80 : decode cX7_nameStatement 80 = .ok (.aload_n 2, 1) := by decide +kernel
theorem dX7_nameStatement_81 : decode cX7_nameStatement 81 = .ok (.aload_n 3, 1) := by decide +kernel
theorem dX7_nameStatement_82 : decode cX7_nameStatement 82 = .ok (.aload 4, 2) := by decide +kernel
theorem dX7_nameStatement_84 : decode cX7_nameStatement 84 = .ok (.invokespecial 90, 3) := by decide +kernel
theorem dX7_nameStatement_87 : decode cX7_nameStatement 87 = .ok (.areturn, 1) := by decide +kernel
theorem dX7_axiom_0 : decode cX7_axiom 0 = .ok (.aload_n 0, 1) := by decide +kernel
theorem dX7_axiom_1 : decode cX7_axiom 1 = .ok (.invokevirtual 86, 3) := by decide +kernel
theorem dX7_axiom_4 : decode cX7_axiom 4 = .ok (.astore_n 2, 1) := by decide +kernel
theorem dX7_axiom_5 : decode cX7_axiom 5 = .ok (.aload_n 0, 1) := by decide +kernel
theorem dX7_axiom_6 : decode cX7_axiom 6 = .ok (.bipush 58, 2) := by decide +kernel
theorem dX7_axiom_8 : decode cX7_axiom 8 = .ok (.invokevirtual 73, 3) := by decide +kernel
theorem dX7_axiom_11 : decode cX7_axiom 11 = .ok (.new 81, 3) := by decide +kernel
theorem dX7_axiom_14 : decode cX7_axiom 14 = .ok (.dup, 1) := by decide +kernel
theorem dX7_axiom_15 : decode cX7_axiom 15 = .ok (.iconst 1, 1) := by decide +kernel
theorem dX7_axiom_16 : decode cX7_axiom 16 = .ok (.iload_n 1, 1) := by decide +kernel
theorem dX7_axiom_17 : decode cX7_axiom 17 = .ok (.aload_n 2, 1) := by decide +kernel
theorem dX7_axiom_18 : decode cX7_axiom 18 = .ok (.aload_n 0, 1) := by decide +kernel
theorem dX7_axiom_19 : decode cX7_axiom 19 = .ok (.invokevirtual 86, 3) := by decide +kernel
theorem dX7_axiom_22 : decode cX7_axiom 22 = .ok (.aconst_null, 1) := by decide +kernel
theorem dX7_axiom_23 : decode cX7_axiom 23 = .ok (.invokespecial 90, 3) := by decide +kernel
theorem dX7_axiom_26 : decode cX7_axiom 26 = .ok (.areturn, 1) := by decide +kernel
theorem dX7_sameStatement_0 : decode cX7_sameStatement 0 = .ok (.aload_n 0, 1) := by decide +kernel
theorem dX7_sameStatement_1 : decode cX7_sameStatement 1 = .ok (.iconst 0, 1) := by decide +kernel
theorem dX7_sameStatement_2 : decode cX7_sameStatement 2 = .ok (.invokevirtual 103, 3) := by decide +kernel
theorem dX7_sameStatement_5 : decode cX7_sameStatement 5 = .ok (.astore_n 2, 1) := by decide +kernel
theorem dX7_sameStatement_6 : decode cX7_sameStatement 6 = .ok (.aload_n 0, 1) := by decide +kernel
theorem dX7_sameStatement_7 : decode cX7_sameStatement 7 = .ok (.bipush 61, 2) := by decide +kernel
theorem dX7_sameStatement_9 : decode cX7_sameStatement 9 = .ok (.invokevirtual 73, 3) := by decide +kernel
theorem dX7_sameStatement_12 : decode cX7_sameStatement 12 = .ok (.new 81, 3) := by decide +kernel
theorem dX7_sameStatement_15 : decode cX7_sameStatement 15 = .ok (.dup, 1) := by decide +kernel
theorem dX7_sameStatement_16 : decode cX7_sameStatement 16 = .ok (.iconst 5, 1) := by decide +kernel
theorem dX7_sameStatement_17 : decode cX7_sameStatement 17 = .ok (.iload_n 1, 1) := by decide +kernel
theorem dX7_sameStatement_18 : decode cX7_sameStatement 18 = .ok (.aconst_null, 1) := by decide +kernel
theorem dX7_sameStatement_19 : decode cX7_sameStatement 19 = .ok (.aload_n 2, 1) := by decide +kernel
theorem dX7_sameStatement_20 : decode cX7_sameStatement 20 = .ok (.aload_n 0, 1) := by decide +kernel
theorem dX7_sameStatement_21 : decode cX7_sameStatement 21 = .ok (.iconst 0, 1) := by decide +kernel
theorem dX7_sameStatement_22 : decode cX7_sameStatement 22 = .ok (.invokevirtual 103, 3) := by decide +kernel
theorem dX7_sameStatement_25 : decode cX7_sameStatement 25 = .ok (.invokespecial 90, 3) := by decide +kernel
theorem dX7_sameStatement_28 : decode cX7_sameStatement 28 = .ok (.areturn, 1) := by decide +kernel
theorem dX7_termStatement_0 : decode cX7_termStatement 0 = .ok (.aload_n 0, 1) := by decide +kernel
theorem dX7_termStatement_1 : decode cX7_termStatement 1 = .ok (.iconst 0, 1) := by decide +kernel
theorem dX7_termStatement_2 : decode cX7_termStatement 2 = .ok (.invokevirtual 103, 3) := by decide +kernel
theorem dX7_termStatement_5 : decode cX7_termStatement 5 = .ok (.astore_n 3, 1) := by decide +kernel
theorem dX7_termStatement_6 : decode cX7_termStatement 6 = .ok (.aconst_null, 1) := by decide +kernel
theorem dX7_termStatement_7 : decode cX7_termStatement 7 = .ok (.astore 4, 2) := by decide +kernel
theorem dX7_termStatement_9 : decode cX7_termStatement 9 = .ok (.iload_n 1, 1) := by decide +kernel
theorem dX7_termStatement_10 : decode cX7_termStatement 10 = .ok (.iconst 3, 1) := by decide +kernel
theorem dX7_termStatement_11 : decode cX7_termStatement 11 = .ok (.if_icmp .ne 23, 3) := by decide +kernel
theorem dX7_termStatement_14 : decode cX7_termStatement 14 = .ok (.aload_n 0, 1) := by decide +kernel
theorem dX7_termStatement_15 : decode cX7_termStatement 15 = .ok (.getfield 18, 3) := by decide +kernel
theorem dX7_termStatement_18 : decode cX7_termStatement 18 = .ok (.bipush 58, 2) := by decide +kernel
theorem dX7_termStatement_20 : decode cX7_termStatement 20 = .ok (.if_icmp .ne 14, 3) := by decide +kernel
theorem dX7_termStatement_23 : decode cX7_termStatement 23 = .ok (.aload_n 0, 1) := by decide +kernel
theorem dX7_termStatement_24 : decode cX7_termStatement 24 = .ok (.invokevirtual 60, 3) := by decide +kernel
theorem dX7_termStatement_27 : decode cX7_termStatement 27 = .ok (.aload_n 0, 1) := by decide +kernel
theorem dX7_termStatement_28 : decode cX7_termStatement 28 = .ok (.iconst 0, 1) := by decide +kernel
theorem dX7_termStatement_29 : decode cX7_termStatement 29 = .ok (.invokevirtual 103, 3) := by decide +kernel
theorem dX7_termStatement_32 : decode cX7_termStatement 32 = .ok (.astore 4, 2) := by decide +kernel
theorem dX7_termStatement_34 : decode cX7_termStatement 34 = .ok (.new 81, 3) := by decide +kernel
theorem dX7_termStatement_37 : decode cX7_termStatement 37 = .ok (.dup, 1) := by decide +kernel
theorem dX7_termStatement_38 : decode cX7_termStatement 38 = .ok (.iload_n 1, 1) := by decide +kernel
theorem dX7_termStatement_39 : decode cX7_termStatement 39 = .ok (.iload_n 2, 1) := by decide +kernel
theorem dX7_termStatement_40 : decode cX7_termStatement 40 = .ok (.aconst_null, 1) := by decide +kernel
theorem dX7_termStatement_41 : decode cX7_termStatement 41 = .ok (.aload_n 3, 1) := by decide +kernel
theorem dX7_termStatement_42 : decode cX7_termStatement 42 = .ok (.aload 4, 2) := by decide +kernel
theorem dX7_termStatement_44 : decode cX7_termStatement 44 = .ok (.invokespecial 90, 3) := by decide +kernel
theorem dX7_termStatement_47 : decode cX7_termStatement 47 = .ok (.areturn, 1) := by decide +kernel
theorem dX7_term_0 : decode cX7_term 0 = .ok (.iload_n 1, 1) := by decide +kernel
theorem dX7_term_1 : decode cX7_term 1 = .ok (.bipush 40, 2) := by decide +kernel
theorem dX7_term_3 : decode cX7_term 3 = .ok (.if_icmp .lt 33, 3) := by decide +kernel
theorem dX7_term_6 : decode cX7_term 6 = .ok (.aload_n 0, 1) := by decide +kernel
theorem dX7_term_7 : decode cX7_term 7 = .ok (.getfield 18, 3) := by decide +kernel
theorem dX7_term_10 : decode cX7_term 10 = .ok (.sipush 261, 3) := by decide +kernel
theorem dX7_term_13 : decode cX7_term 13 = .ok (.if_icmp .eq 23, 3) := by decide +kernel
theorem dX7_term_16 : decode cX7_term 16 = .ok (.aload_n 0, 1) := by decide +kernel
theorem dX7_term_17 : decode cX7_term 17 = .ok (.getfield 34, 3) := by decide +kernel
theorem dX7_term_20 : decode cX7_term 20 = .ok (.iconst 2, 1) := by decide +kernel
theorem dX7_term_21 : decode cX7_term 21 = .ok (.aload_n 0, 1) := by decide +kernel
theorem dX7_term_22 : decode cX7_term 22 = .ok (.getfield 21, 3) := by decide +kernel
theorem dX7_term_25 : decode cX7_term 25 = .ok (.invokevirtual 107, 3) := by decide +kernel
theorem dX7_term_28 : decode cX7_term 28 = .ok (.new 113, 3) := by decide +kernel
theorem dX7_term_31 : decode cX7_term 31 = .ok (.dup, 1) := by decide +kernel
theorem dX7_term_32 : decode cX7_term 32 = .ok (.invokespecial 115, 3) := by decide +kernel
theorem dX7_term_35 : decode cX7_term 35 = .ok (.athrow, 1) := by decide +kernel
theorem dX7_term_36 : decode cX7_term 36 = .ok (.aload_n 0, 1) := by decide +kernel
theorem dX7_term_37 : decode cX7_term 37 = .ok (.getfield 18, 3) := by decide +kernel
theorem dX7_term_40 : decode cX7_term 40 = .ok (.bipush 92, 2) := by decide +kernel
theorem dX7_term_42 : decode cX7_term 42 = .ok (.if_icmp .eq 21, 3) := by decide +kernel
theorem dX7_term_45 : decode cX7_term 45 = .ok (.aload_n 0, 1) := by decide +kernel
theorem dX7_term_46 : decode cX7_term 46 = .ok (.getfield 18, 3) := by decide +kernel
theorem dX7_term_49 : decode cX7_term 49 = .ok (.bipush 33, 2) := by decide +kernel
theorem dX7_term_51 : decode cX7_term 51 = .ok (.if_icmp .eq 12, 3) := by decide +kernel
theorem dX7_term_54 : decode cX7_term 54 = .ok (.aload_n 0, 1) := by decide +kernel
theorem dX7_term_55 : decode cX7_term 55 = .ok (.getfield 18, 3) := by decide +kernel
theorem dX7_term_58 : decode cX7_term 58 = .ok (.bipush 7, 2) := by decide +kernel
theorem dX7_term_60 : decode cX7_term 60 = .ok (.if_icmp .ne 9, 3) := by decide +kernel
theorem dX7_term_63 : decode cX7_term 63 = .ok (.aload_n 0, 1) := by decide +kernel
theorem dX7_term_64 : decode cX7_term 64 = .ok (.iload_n 1, 1) := by decide +kernel
theorem dX7_term_65 : decode cX7_term 65 = .ok (.invokevirtual 116, 3) := by decide +kernel
theorem dX7_term_68 : decode cX7_term 68 = .ok (.areturn, 1) := by decide +kernel
theorem dX7_term_69 : decode cX7_term 69 = .ok (.aload_n 0, 1) := by decide +kernel
theorem dX7_term_70 : decode cX7_term 70 = .ok (.iload_n 1, 1) := by decide +kernel
theorem dX7_term_71 : decode cX7_term 71 = .ok (.invokevirtual 119, 3) := by decide +kernel
theorem dX7_term_74 : decode cX7_term 74 = .ok (.astore_n 2, 1) := by decide +kernel
theorem dX7_term_75 : decode cX7_term 75 = .ok (.aload_n 0, 1) := by decide +kernel
theorem dX7_term_76 : decode cX7_term 76 = .ok (.getfield 18, 3) := by decide +kernel
theorem dX7_term_79 : decode cX7_term 79 = .ok (.sipush 259, 3) := by decide +kernel
theorem dX7_term_82 : decode cX7_term 82 = .ok (.if_icmp .eq 5, 3) := by decide +kernel
theorem dX7_term_85 : decode cX7_term 85 = .ok (.aload_n 2, 1) := by decide +kernel
theorem dX7_term_86 : decode cX7_term 86 = .ok (.areturn, 1) := by decide +kernel
theorem dX7_term_87 : decode cX7_term 87 = .ok (.aload_n 0, 1) := by decide +kernel
theorem dX7_term_88 : decode cX7_term 88 = .ok (.getfield 21, 3) := by decide +kernel
theorem dX7_term_91 : decode cX7_term 91 = .ok (.istore_n 3, 1) := by decide +kernel
theorem dX7_term_92 : decode cX7_term 92 = .ok (.aload_n 0, 1) := by decide +kernel
theorem dX7_term_93 : decode cX7_term 93 = .ok (.invokevirtual 60, 3) := by decide +kernel
theorem dX7_term_96 : decode cX7_term 96 = .ok (.iconst 5, 1) := by decide +kernel
theorem dX7_term_97 : decode cX7_term 97 = .ok (.aload_n 0, 1) := by decide +kernel
theorem dX7_term_98 : decode cX7_term 98 = .ok (.invokevirtual 124, 3) := by decide +kernel
theorem dX7_term_101 : decode cX7_term 101 = .ok (.aload_n 2, 1) := by decide +kernel
theorem dX7_term_102 : decode cX7_term 102 = .ok (.aload_n 0, 1) := by decide +kernel
theorem dX7_term_103 : decode cX7_term 103 = .ok (.iload_n 1, 1) := by decide +kernel
theorem dX7_term_104 : decode cX7_term 104 = .ok (.iconst 1, 1) := by decide +kernel
theorem dX7_term_105 : decode cX7_term 105 = .ok (.iadd, 1) := by decide +kernel
theorem dX7_term_106 : decode cX7_term 106 = .ok (.invokevirtual 103, 3) := by decide +kernel
theorem dX7_term_109 : decode cX7_term 109 = .ok (.invokestatic 128, 3) := by decide +kernel
theorem dX7_term_112 : decode cX7_term 112 = .ok (.astore 4, 2) := by decide +kernel
theorem dX7_term_114 : decode cX7_term 114 = .ok (.aload 4, 2) := by decide +kernel
theorem dX7_term_116 : decode cX7_term 116 = .ok (.iload_n 3, 1) := by decide +kernel
theorem dX7_term_117 : decode cX7_term 117 = .ok (.putfield 131, 3) := by decide +kernel
theorem dX7_term_120 : decode cX7_term 120 = .ok (.aload 4, 2) := by decide +kernel
theorem dX7_term_122 : decode cX7_term 122 = .ok (.aload_n 2, 1) := by decide +kernel
theorem dX7_term_123 : decode cX7_term 123 = .ok (.getfield 134, 3) := by decide +kernel
theorem dX7_term_126 : decode cX7_term 126 = .ok (.putfield 134, 3) := by decide +kernel
theorem dX7_term_129 : decode cX7_term 129 = .ok (.aload 4, 2) := by decide +kernel
theorem dX7_term_131 : decode cX7_term 131 = .ok (.areturn, 1) := by decide +kernel
theorem dX7_binder_0 : decode cX7_binder 0 = .ok (.aload_n 0, 1) := by decide +kernel
theorem dX7_binder_1 : decode cX7_binder 1 = .ok (.getfield 21, 3) := by decide +kernel
theorem dX7_binder_4 : decode cX7_binder 4 = .ok (.istore_n 2, 1) := by decide +kernel
theorem dX7_binder_5 : decode cX7_binder 5 = .ok (.aload_n 0, 1) := by decide +kernel
theorem dX7_binder_6 : decode cX7_binder 6 = .ok (.getfield 18, 3) := by decide +kernel
theorem dX7_binder_9 : decode cX7_binder 9 = .ok (.istore_n 3, 1) := by decide +kernel
theorem dX7_binder_10 : decode cX7_binder 10 = .ok (.iload_n 3, 1) := by decide +kernel
theorem dX7_binder_11 : decode cX7_binder 11 = .ok (.bipush 7, 2) := by decide +kernel
theorem dX7_binder_13 : decode cX7_binder 13 = .ok (.if_icmp .ne 8, 3) := by decide +kernel
theorem dX7_binder_16 : decode cX7_binder 16 = .ok (.bipush 6, 2) := by decide +kernel
theorem dX7_binder_18 : decode cX7_binder 18 = .ok (.goto 14, 3) := by decide +kernel
theorem dX7_binder_21 : decode cX7_binder 21 = .ok (.iload_n 3, 1) := by decide +kernel
theorem dX7_binder_22 : decode cX7_binder 22 = .ok (.bipush 33, 2) := by decide +kernel
theorem dX7_binder_24 : decode cX7_binder 24 = .ok (.if_icmp .ne 7, 3) := by decide +kernel
theorem dX7_binder_27 : decode cX7_binder 27 = .ok (.iconst 5, 1) := by decide +kernel
theorem dX7_binder_28 : decode cX7_binder 28 = .ok (.goto 4, 3) := by decide +kernel
theorem dX7_binder_31 : decode cX7_binder 31 = .ok (.iconst 4, 1) := by decide +kernel
theorem dX7_binder_32 : decode cX7_binder 32 = .ok (.istore 4, 2) := by decide +kernel
theorem dX7_binder_34 : decode cX7_binder 34 = .ok (.aload_n 0, 1) := by decide +kernel
theorem dX7_binder_35 : decode cX7_binder 35 = .ok (.invokevirtual 60, 3) := by decide +kernel
theorem dX7_binder_38 : decode cX7_binder 38 = .ok (.aload_n 0, 1) := by decide +kernel
theorem dX7_binder_39 : decode cX7_binder 39 = .ok (.invokevirtual 86, 3) := by decide +kernel
theorem dX7_binder_42 : decode cX7_binder 42 = .ok (.astore 5, 2) := by decide +kernel
theorem dX7_binder_44 : decode cX7_binder 44 = .ok (.aload_n 0, 1) := by decide +kernel
theorem dX7_binder_45 : decode cX7_binder 45 = .ok (.iload_n 3, 1) := by decide +kernel
theorem dX7_binder_46 : decode cX7_binder 46 = .ok (.bipush 7, 2) := by decide +kernel
theorem dX7_binder_48 : decode cX7_binder 48 = .ok (.if_icmp .ne 9, 3) := by decide +kernel
theorem dX7_binder_51 : decode cX7_binder 51 = .ok (.sipush 258, 3) := by decide +kernel
theorem dX7_binder_54 : decode cX7_binder 54 = .ok (.goto 5, 3) := by decide +kernel
theorem dX7_binder_57 : decode cX7_binder 57 = .ok (.bipush 58, 2) := by decide +kernel
theorem dX7_binder_59 : decode cX7_binder 59 = .ok (.invokevirtual 73, 3) := by decide +kernel
theorem dX7_binder_62 : decode cX7_binder 62 = .ok (.aload_n 0, 1) := by decide +kernel
theorem dX7_binder_63 : decode cX7_binder 63 = .ok (.iload_n 1, 1) := by decide +kernel
theorem dX7_binder_64 : decode cX7_binder 64 = .ok (.iconst 1, 1) := by decide +kernel
theorem dX7_binder_65 : decode cX7_binder 65 = .ok (.iadd, 1) := by decide +kernel
theorem dX7_binder_66 : decode cX7_binder 66 = .ok (.invokevirtual 103, 3) := by decide +kernel
theorem dX7_binder_69 : decode cX7_binder 69 = .ok (.astore 6, 2) := by decide +kernel
theorem dX7_binder_71 : decode cX7_binder 71 = .ok (.aload_n 0, 1) := by decide +kernel
theorem dX7_binder_72 : decode cX7_binder 72 = .ok (.iload_n 3, 1) := by decide +kernel
theorem dX7_binder_73 : decode cX7_binder 73 = .ok (.bipush 7, 2) := by decide +kernel
theorem dX7_binder_75 : decode cX7_binder 75 = .ok (.if_icmp .ne 8, 3) := by decide +kernel
theorem dX7_binder_78 : decode cX7_binder 78 = .ok (.bipush 8, 2) := by decide +kernel
theorem dX7_binder_80 : decode cX7_binder 80 = .ok (.goto 5, 3) := by decide +kernel
theorem dX7_binder_83 : decode cX7_binder 83 = .ok (.bipush 46, 2) := by decide +kernel
theorem dX7_binder_85 : decode cX7_binder 85 = .ok (.invokevirtual 73, 3) := by decide +kernel
theorem dX7_binder_88 : decode cX7_binder 88 = .ok (.iload 4, 2) := by decide +kernel
theorem dX7_binder_90 : decode cX7_binder 90 = .ok (.aload_n 0, 1) := by decide +kernel
theorem dX7_binder_91 : decode cX7_binder 91 = .ok (.invokevirtual 124, 3) := by decide +kernel
theorem dX7_binder_94 : decode cX7_binder 94 = .ok (.aload 6, 2) := by decide +kernel
theorem dX7_binder_96 : decode cX7_binder 96 = .ok (.aload_n 0, 1) := by decide +kernel
theorem dX7_binder_97 : decode cX7_binder 97 = .ok (.iload_n 1, 1) := by decide +kernel
theorem dX7_binder_98 : decode cX7_binder 98 = .ok (.iconst 1, 1) := by decide +kernel
theorem dX7_binder_99 : decode cX7_binder 99 = .ok (.iadd, 1) := by decide +kernel
theorem dX7_binder_100 : decode cX7_binder 100 = .ok (.invokevirtual 103, 3) := by decide +kernel
theorem dX7_binder_103 : decode cX7_binder 103 = .ok (.invokestatic 128, 3) := by decide +kernel
theorem dX7_binder_106 : decode cX7_binder 106 = .ok (.astore 7, 2) := by decide +kernel
theorem dX7_binder_108 : decode cX7_binder 108 = .ok (.aload 7, 2) := by decide +kernel
theorem dX7_binder_110 : decode cX7_binder 110 = .ok (.iload_n 2, 1) := by decide +kernel
theorem dX7_binder_111 : decode cX7_binder 111 = .ok (.putfield 131, 3) := by decide +kernel
theorem dX7_binder_114 : decode cX7_binder 114 = .ok (.aload 7, 2) := by decide +kernel
theorem dX7_binder_116 : decode cX7_binder 116 = .ok (.iload_n 2, 1) := by decide +kernel
theorem dX7_binder_117 : decode cX7_binder 117 = .ok (.putfield 134, 3) := by decide +kernel
theorem dX7_binder_120 : decode cX7_binder 120 = .ok (.aload 7, 2) := by decide +kernel
theorem dX7_binder_122 : decode cX7_binder 122 = .ok (.aload 5, 2) := by decide +kernel
theorem dX7_binder_124 : decode cX7_binder 124 = .ok (.getfield 137, 3) := by decide +kernel
theorem dX7_binder_127 : decode cX7_binder 127 = .ok (.putfield 137, 3) := by decide +kernel
theorem dX7_binder_130 : decode cX7_binder 130 = .ok (.aload 7, 2) := by decide +kernel
theorem dX7_binder_132 : decode cX7_binder 132 = .ok (.aload 5, 2) := by decide +kernel
theorem dX7_binder_134 : decode cX7_binder 134 = .ok (.getfield 140, 3) := by decide +kernel
theorem dX7_binder_137 : decode cX7_binder 137 = .ok (.putfield 140, 3) := by decide +kernel
theorem dX7_binder_140 : decode cX7_binder 140 = .ok (.aload 7, 2) := by decide +kernel
theorem dX7_binder_142 : decode cX7_binder 142 = .ok (.areturn, 1) := by decide +kernel
theorem dX7_use_0 : decode cX7_use 0 = .ok (.aload_n 0, 1) := by decide +kernel
theorem dX7_use_1 : decode cX7_use 1 = .ok (.iload_n 1, 1) := by decide +kernel
theorem dX7_use_2 : decode cX7_use 2 = .ok (.invokevirtual 143, 3) := by decide +kernel
theorem dX7_use_5 : decode cX7_use 5 = .ok (.astore_n 2, 1) := by decide +kernel
theorem dX7_use_6 : decode cX7_use 6 = .ok (.aload_n 0, 1) := by decide +kernel
theorem dX7_use_7 : decode cX7_use 7 = .ok (.invokevirtual 146, 3) := by decide +kernel
theorem dX7_use_10 : decode cX7_use 10 = .ok (.ifCond .ne 5, 3) := by decide +kernel
theorem dX7_use_13 : decode cX7_use 13 = .ok (.aload_n 2, 1) := by decide +kernel
theorem dX7_use_14 : decode cX7_use 14 = .ok (.areturn, 1) := by decide +kernel
theorem dX7_use_15 : decode cX7_use 15 = .ok (.new 57, 3) := by decide +kernel
theorem dX7_use_18 : decode cX7_use 18 = .ok (.dup, 1) := by decide +kernel
theorem dX7_use_19 : decode cX7_use 19 = .ok (.invokespecial 59, 3) := by decide +kernel
theorem dX7_use_22 : decode cX7_use 22 = .ok (.astore_n 3, 1) := by decide +kernel
theorem dX7_use_23 : decode cX7_use 23 = .ok (.iconst 0, 1) := by decide +kernel
theorem dX7_use_24 : decode cX7_use 24 = .ok (.istore 4, 2) := by decide +kernel
theorem dX7_use_26 : decode cX7_use 26 = .ok (.iload 4, 2) := by decide +kernel
theorem dX7_use_28 : decode cX7_use 28 = .ok (.aload_n 0, 1) := by decide +kernel
theorem dX7_use_29 : decode cX7_use 29 = .ok (.getfield 9, 3) := by decide +kernel
theorem dX7_use_32 : decode cX7_use 32 = .ok (.if_icmp .ge 28, 3) := by decide +kernel
theorem dX7_use_35 : decode cX7_use 35 = .ok (.aload_n 0, 1) := by decide +kernel
theorem dX7_use_36 : decode cX7_use 36 = .ok (.invokevirtual 146, 3) := by decide +kernel
theorem dX7_use_39 : decode cX7_use 39 = .ok (.ifCond .eq 21, 3) := by decide +kernel
theorem dX7_use_42 : decode cX7_use 42 = .ok (.aload_n 3, 1) := by decide +kernel
theorem dX7_use_43 : decode cX7_use 43 = .ok (.aload_n 0, 1) := by decide +kernel
theorem dX7_use_44 : decode cX7_use 44 = .ok (.iload_n 1, 1) := by decide +kernel
theorem dX7_use_45 : decode cX7_use 45 = .ok (.invokevirtual 143, 3) := by decide +kernel
theorem dX7_use_48 : decode cX7_use 48 = .ok (.invokeinterface 67 2, 5) := by decide +kernel
theorem dX7_use_53 : decode cX7_use 53 = .ok (.pop, 1) := by decide +kernel
theorem dX7_use_54 : decode cX7_use 54 = .ok (.iinc 4 1, 3) := by decide +kernel
theorem dX7_use_57 : decode cX7_use 57 = .ok (.goto (-31), 3) := by decide +kernel
theorem dX7_use_60 : decode cX7_use 60 = .ok (.aload_n 3, 1) := by decide +kernel
theorem dX7_use_61 : decode cX7_use 61 = .ok (.invokeinterface 150 1, 5) := by decide +kernel
theorem dX7_use_66 : decode cX7_use 66 = .ok (.anewarray 122, 3) := by decide +kernel
theorem dX7_use_69 : decode cX7_use 69 = .ok (.astore 4, 2) := by decide +kernel
theorem dX7_use_71 : decode cX7_use 71 = .ok (.iconst 0, 1) := by decide +kernel
theorem dX7_use_72 : decode cX7_use 72 = .ok (.istore 5, 2) := by decide +kernel
theorem dX7_use_74 : decode cX7_use 74 = .ok (.iload 5, 2) := by decide +kernel
theorem dX7_use_76 : decode cX7_use 76 = .ok (.aload 4, 2) := by decide +kernel
theorem dX7_use_78 : decode cX7_use 78 = .ok (.arraylength, 1) := by decide +kernel
theorem dX7_use_79 : decode cX7_use 79 = .ok (.if_icmp .ge 25, 3) := by decide +kernel
theorem dX7_use_82 : decode cX7_use 82 = .ok (.aload 4, 2) := by decide +kernel
theorem dX7_use_84 : decode cX7_use 84 = .ok (.iload 5, 2) := by decide +kernel
theorem dX7_use_86 : decode cX7_use 86 = .ok (.aload_n 3, 1) := by decide +kernel
theorem dX7_use_87 : decode cX7_use 87 = .ok (.iload 5, 2) := by decide +kernel
theorem dX7_use_89 : decode cX7_use 89 = .ok (.invokeinterface 153 2, 5) := by decide +kernel
theorem dX7_use_94 : decode cX7_use 94 = .ok (.checkcast 122, 3) := by decide +kernel
theorem dX7_use_97 : decode cX7_use 97 = .ok (.aastore, 1) := by decide +kernel
theorem dX7_use_98 : decode cX7_use 98 = .ok (.iinc 5 1, 3) := by decide +kernel
theorem dX7_use_101 : decode cX7_use 101 = .ok (.goto (-27), 3) := by decide +kernel
theorem dX7_use_104 : decode cX7_use 104 = .ok (.aload_n 2, 1) := by decide +kernel
theorem dX7_use_105 : decode cX7_use 105 = .ok (.aload 4, 2) := by decide +kernel
theorem dX7_use_107 : decode cX7_use 107 = .ok (.invokestatic 157, 3) := by decide +kernel
theorem dX7_use_110 : decode cX7_use 110 = .ok (.areturn, 1) := by decide +kernel
theorem dX7_atomBegins_0 : decode cX7_atomBegins 0 = .ok (.aload_n 0, 1) := by decide +kernel
theorem dX7_atomBegins_1 : decode cX7_atomBegins 1 = .ok (.getfield 18, 3) := by decide +kernel
theorem dX7_atomBegins_4 : decode cX7_atomBegins 4 = .ok (.sipush 256, 3) := by decide +kernel
theorem dX7_atomBegins_7 : decode cX7_atomBegins 7 = .ok (.if_icmp .eq 12, 3) := by decide +kernel
theorem dX7_atomBegins_10 : decode cX7_atomBegins 10 = .ok (.aload_n 0, 1) := by decide +kernel
theorem dX7_atomBegins_11 : decode cX7_atomBegins 11 = .ok (.getfield 18, 3) := by decide +kernel
theorem dX7_atomBegins_14 : decode cX7_atomBegins 14 = .ok (.bipush 40, 2) := by decide +kernel
theorem dX7_atomBegins_16 : decode cX7_atomBegins 16 = .ok (.if_icmp .ne 7, 3) := by decide +kernel
theorem dX7_atomBegins_19 : decode cX7_atomBegins 19 = .ok (.iconst 1, 1) := by decide +kernel
theorem dX7_atomBegins_20 : decode cX7_atomBegins 20 = .ok (.goto 4, 3) := by decide +kernel
theorem dX7_atomBegins_23 : decode cX7_atomBegins 23 = .ok (.iconst 0, 1) := by decide +kernel
theorem dX7_atomBegins_24 : decode cX7_atomBegins 24 = .ok (.ireturn, 1) := by decide +kernel
theorem dX7_atom_0 : decode cX7_atom 0 = .ok (.aload_n 0, 1) := by decide +kernel
theorem dX7_atom_1 : decode cX7_atom 1 = .ok (.getfield 18, 3) := by decide +kernel
theorem dX7_atom_4 : decode cX7_atom 4 = .ok (.bipush 40, 2) := by decide +kernel
theorem dX7_atom_6 : decode cX7_atom 6 = .ok (.if_icmp .eq 8, 3) := by decide +kernel
theorem dX7_atom_9 : decode cX7_atom 9 = .ok (.aload_n 0, 1) := by decide +kernel
theorem dX7_atom_10 : decode cX7_atom 10 = .ok (.invokevirtual 86, 3) := by decide +kernel
theorem dX7_atom_13 : decode cX7_atom 13 = .ok (.areturn, 1) := by decide +kernel
theorem dX7_atom_14 : decode cX7_atom 14 = .ok (.aload_n 0, 1) := by decide +kernel
theorem dX7_atom_15 : decode cX7_atom 15 = .ok (.getfield 21, 3) := by decide +kernel
theorem dX7_atom_18 : decode cX7_atom 18 = .ok (.istore_n 2, 1) := by decide +kernel
theorem dX7_atom_19 : decode cX7_atom 19 = .ok (.aload_n 0, 1) := by decide +kernel
theorem dX7_atom_20 : decode cX7_atom 20 = .ok (.invokevirtual 60, 3) := by decide +kernel
theorem dX7_atom_23 : decode cX7_atom 23 = .ok (.aload_n 0, 1) := by decide +kernel
theorem dX7_atom_24 : decode cX7_atom 24 = .ok (.iload_n 1, 1) := by decide +kernel
theorem dX7_atom_25 : decode cX7_atom 25 = .ok (.iconst 1, 1) := by decide +kernel
theorem dX7_atom_26 : decode cX7_atom 26 = .ok (.iadd, 1) := by decide +kernel
