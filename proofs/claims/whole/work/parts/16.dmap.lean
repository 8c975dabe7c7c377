theorem dX3_init_0 : decode cX3_init 0 = .ok (.aload_n 0, 1) := by decide +kernel
theorem dX3_init_1 : decode cX3_init 1 = .ok (.invokespecial 3, 3) := by decide +kernel
theorem dX3_init_4 : decode cX3_init 4 = .ok (.aload_n 0, 1) := by decide +kernel
theorem dX3_init_5 : decode cX3_init 5 = .ok (.new 9, 3) := by decide +kernel
theorem dX3_init_8 : decode cX3_init 8 = .ok (.dup, 1) := by decide +kernel
theorem dX3_init_9 : decode cX3_init 9 = .ok (.invokespecial 11, 3) := by decide +kernel
theorem dX3_init_12 : decode cX3_init 12 = .ok (.putfield 12, 3) := by decide +kernel
theorem dX3_init_15 : decode cX3_init 15 = .ok (.aload_n 0, 1) := by decide +kernel
theorem dX3_init_16 : decode cX3_init 16 = .ok (.new 16, 3) := by decide +kernel
theorem dX3_init_19 : decode cX3_init 19 = .ok (.dup, 1) := by decide +kernel
theorem dX3_init_20 : decode cX3_init 20 = .ok (.invokespecial 18, 3) := by decide +kernel
theorem dX3_init_23 : decode cX3_init 23 = .ok (.putfield 19, 3) := by decide +kernel
theorem dX3_init_26 : decode cX3_init 26 = .ok (.aload_n 0, 1) := by decide +kernel
theorem dX3_init_27 : decode cX3_init 27 = .ok (.sipush 2002, 3) := by decide +kernel
theorem dX3_init_30 : decode cX3_init 30 = .ok (.newarray .int, 2) := by decide +kernel
theorem dX3_init_32 : decode cX3_init 32 = .ok (.putfield 23, 3) := by decide +kernel
theorem dX3_init_35 : decode cX3_init 35 = .ok (.aload_n 0, 1) := by decide +kernel
theorem dX3_init_36 : decode cX3_init 36 = .ok (.iconst 0, 1) := by decide +kernel
theorem dX3_init_37 : decode cX3_init 37 = .ok (.putfield 27, 3) := by decide +kernel
theorem dX3_init_40 : decode cX3_init 40 = .ok (.aload_n 0, 1) := by decide +kernel
theorem dX3_init_41 : decode cX3_init 41 = .ok (.iconst 0, 1) := by decide +kernel
theorem dX3_init_42 : decode cX3_init 42 = .ok (.putfield 31, 3) := by decide +kernel
theorem dX3_init_45 : decode cX3_init 45 = .ok (.return_, 1) := by decide +kernel
theorem dX3_make_0 : decode cX3_make 0 = .ok (.iload_n 1, 1) := by decide +kernel
theorem dX3_make_1 : decode cX3_make 1 = .ok (.iload_n 3, 1) := by decide +kernel
theorem dX3_make_2 : decode cX3_make 2 = .ok (.invokestatic 34, 3) := by decide +kernel
theorem dX3_make_5 : decode cX3_make 5 = .ok (.ifCond .eq 12, 3) := by decide +kernel
theorem dX3_make_8 : decode cX3_make 8 = .ok (.iload_n 2, 1) := by decide +kernel
theorem dX3_make_9 : decode cX3_make 9 = .ok (.ifCond .lt 8, 3) := by decide +kernel
theorem dX3_make_12 : decode cX3_make 12 = .ok (.iload_n 2, 1) := by decide +kernel
theorem dX3_make_13 : decode cX3_make 13 = .ok (.iconst 2, 1) := by decide +kernel
theorem dX3_make_14 : decode cX3_make 14 = .ok (.if_icmp .le 11, 3) := by decide +kernel
theorem dX3_make_17 : decode cX3_make 17 = .ok (.new 38, 3) := by decide +kernel
theorem dX3_make_20 : decode cX3_make 20 = .ok (.dup, 1) := by decide +kernel
theorem dX3_make_21 : decode cX3_make 21 = .ok (.invokespecial 40, 3) := by decide +kernel
theorem dX3_make_24 : decode cX3_make 24 = .ok (.athrow, 1) := by decide +kernel
theorem dX3_make_25 : decode cX3_make 25 = .ok (.aload_n 0, 1) := by decide +kernel
theorem dX3_make_26 : decode cX3_make 26 = .ok (.getfield 19, 3) := by decide +kernel
theorem dX3_make_29 : decode cX3_make 29 = .ok (.invokevirtual 41, 3) := by decide +kernel
theorem dX3_make_32 : decode cX3_make 32 = .ok (.istore 4, 2) := by decide +kernel
theorem dX3_make_34 : decode cX3_make 34 = .ok (.aload_n 0, 1) := by decide +kernel
theorem dX3_make_35 : decode cX3_make 35 = .ok (.getfield 19, 3) := by decide +kernel
theorem dX3_make_38 : decode cX3_make 38 = .ok (.invokevirtual 45, 3) := by decide +kernel
theorem dX3_make_41 : decode cX3_make 41 = .ok (.aload_n 0, 1) := by decide +kernel
theorem dX3_make_42 : decode cX3_make 42 = .ok (.getfield 12, 3) := by decide +kernel
theorem dX3_make_45 : decode cX3_make 45 = .ok (.iload_n 2, 1) := by decide +kernel
theorem dX3_make_46 : decode cX3_make 46 = .ok (.invokevirtual 48, 3) := by decide +kernel
theorem dX3_make_49 : decode cX3_make 49 = .ok (.aload_n 0, 1) := by decide +kernel
theorem dX3_make_50 : decode cX3_make 50 = .ok (.iload_n 1, 1) := by decide +kernel
theorem dX3_make_51 : decode cX3_make 51 = .ok (.putfield 27, 3) := by decide +kernel
theorem dX3_make_54 : decode cX3_make 54 = .ok (.aload_n 0, 1) := by decide +kernel
theorem dX3_make_55 : decode cX3_make 55 = .ok (.iload_n 3, 1) := by decide +kernel
theorem dX3_make_56 : decode cX3_make 56 = .ok (.putfield 31, 3) := by decide +kernel
theorem dX3_make_59 : decode cX3_make 59 = .ok (.iload 4, 2) := by decide +kernel
theorem dX3_make_61 : decode cX3_make 61 = .ok (.ireturn, 1) := by decide +kernel
theorem dX3_put_0 : decode cX3_put 0 = .ok (.aload_n 0, 1) := by decide +kernel
theorem dX3_put_1 : decode cX3_put 1 = .ok (.getfield 12, 3) := by decide +kernel
theorem dX3_put_4 : decode cX3_put 4 = .ok (.iload_n 1, 1) := by decide +kernel
theorem dX3_put_5 : decode cX3_put 5 = .ok (.invokevirtual 52, 3) := by decide +kernel
theorem dX3_put_8 : decode cX3_put 8 = .ok (.istore_n 3, 1) := by decide +kernel
theorem dX3_put_9 : decode cX3_put 9 = .ok (.aload_n 0, 1) := by decide +kernel
theorem dX3_put_10 : decode cX3_put 10 = .ok (.iload_n 3, 1) := by decide +kernel
theorem dX3_put_11 : decode cX3_put 11 = .ok (.invokevirtual 56, 3) := by decide +kernel
theorem dX3_put_14 : decode cX3_put 14 = .ok (.ifCond .ne 11, 3) := by decide +kernel
theorem dX3_put_17 : decode cX3_put 17 = .ok (.new 60, 3) := by decide +kernel
theorem dX3_put_20 : decode cX3_put 20 = .ok (.dup, 1) := by decide +kernel
theorem dX3_put_21 : decode cX3_put 21 = .ok (.invokespecial 62, 3) := by decide +kernel
theorem dX3_put_24 : decode cX3_put 24 = .ok (.athrow, 1) := by decide +kernel
theorem dX3_put_25 : decode cX3_put 25 = .ok (.iload_n 3, 1) := by decide +kernel
theorem dX3_put_26 : decode cX3_put 26 = .ok (.ifCond .ne 13, 3) := by decide +kernel
theorem dX3_put_29 : decode cX3_put 29 = .ok (.aload_n 0, 1) := by decide +kernel
theorem dX3_put_30 : decode cX3_put 30 = .ok (.iload_n 1, 1) := by decide +kernel
theorem dX3_put_31 : decode cX3_put 31 = .ok (.iload_n 2, 1) := by decide +kernel
theorem dX3_put_32 : decode cX3_put 32 = .ok (.invokevirtual 63, 3) := by decide +kernel
theorem dX3_put_35 : decode cX3_put 35 = .ok (.ldc2_w 67, 3) := by decide +kernel
theorem dX3_put_38 : decode cX3_put 38 = .ok (.lreturn, 1) := by decide +kernel
theorem dX3_put_39 : decode cX3_put 39 = .ok (.aload_n 0, 1) := by decide +kernel
theorem dX3_put_40 : decode cX3_put 40 = .ok (.getfield 23, 3) := by decide +kernel
theorem dX3_put_43 : decode cX3_put 43 = .ok (.iload_n 3, 1) := by decide +kernel
theorem dX3_put_44 : decode cX3_put 44 = .ok (.iaload, 1) := by decide +kernel
theorem dX3_put_45 : decode cX3_put 45 = .ok (.istore 4, 2) := by decide +kernel
theorem dX3_put_47 : decode cX3_put 47 = .ok (.aload_n 0, 1) := by decide +kernel
theorem dX3_put_48 : decode cX3_put 48 = .ok (.iload_n 3, 1) := by decide +kernel
theorem dX3_put_49 : decode cX3_put 49 = .ok (.iload_n 2, 1) := by decide +kernel
theorem dX3_put_50 : decode cX3_put 50 = .ok (.invokevirtual 69, 3) := by decide +kernel
theorem dX3_put_53 : decode cX3_put 53 = .ok (.iload 4, 2) := by decide +kernel
theorem dX3_put_55 : decode cX3_put 55 = .ok (.i2l, 1) := by decide +kernel
theorem dX3_put_56 : decode cX3_put 56 = .ok (.lreturn, 1) := by decide +kernel
theorem dX3_find_0 : decode cX3_find 0 = .ok (.aload_n 0, 1) := by decide +kernel
theorem dX3_find_1 : decode cX3_find 1 = .ok (.getfield 12, 3) := by decide +kernel
theorem dX3_find_4 : decode cX3_find 4 = .ok (.iload_n 1, 1) := by decide +kernel
theorem dX3_find_5 : decode cX3_find 5 = .ok (.invokevirtual 52, 3) := by decide +kernel
theorem dX3_find_8 : decode cX3_find 8 = .ok (.istore_n 3, 1) := by decide +kernel
theorem dX3_find_9 : decode cX3_find 9 = .ok (.iload_n 3, 1) := by decide +kernel
theorem dX3_find_10 : decode cX3_find 10 = .ok (.ifCond .ne 11, 3) := by decide +kernel
theorem dX3_find_13 : decode cX3_find 13 = .ok (.new 72, 3) := by decide +kernel
theorem dX3_find_16 : decode cX3_find 16 = .ok (.dup, 1) := by decide +kernel
theorem dX3_find_17 : decode cX3_find 17 = .ok (.invokespecial 74, 3) := by decide +kernel
theorem dX3_find_20 : decode cX3_find 20 = .ok (.athrow, 1) := by decide +kernel
theorem dX3_find_21 : decode cX3_find 21 = .ok (.aload_n 0, 1) := by decide +kernel
theorem dX3_find_22 : decode cX3_find 22 = .ok (.getfield 23, 3) := by decide +kernel
theorem dX3_find_25 : decode cX3_find 25 = .ok (.iload_n 3, 1) := by decide +kernel
theorem dX3_find_26 : decode cX3_find 26 = .ok (.iaload, 1) := by decide +kernel
theorem dX3_find_27 : decode cX3_find 27 = .ok (.istore 4, 2) := by decide +kernel
theorem dX3_find_29 : decode cX3_find 29 = .ok (.iload_n 2, 1) := by decide +kernel
theorem dX3_find_30 : decode cX3_find 30 = .ok (.ifCond .eq 11, 3) := by decide +kernel
theorem dX3_find_33 : decode cX3_find 33 = .ok (.aload_n 0, 1) := by decide +kernel
theorem dX3_find_34 : decode cX3_find 34 = .ok (.iload_n 3, 1) := by decide +kernel
theorem dX3_find_35 : decode cX3_find 35 = .ok (.invokevirtual 75, 3) := by decide +kernel
theorem dX3_find_38 : decode cX3_find 38 = .ok (.goto 8, 3) := by decide +kernel
theorem dX3_find_41 : decode cX3_find 41 = .ok (.aload_n 0, 1) := by decide +kernel
theorem dX3_find_42 : decode cX3_find 42 = .ok (.iload_n 3, 1) := by decide +kernel
theorem dX3_find_43 : decode cX3_find 43 = .ok (.invokevirtual 78, 3) := by decide +kernel
theorem dX3_find_46 : decode cX3_find 46 = .ok (.iload 4, 2) := by decide +kernel
theorem dX3_find_48 : decode cX3_find 48 = .ok (.ireturn, 1) := by decide +kernel
theorem dX3_has_0 : decode cX3_has 0 = .ok (.aload_n 0, 1) := by decide +kernel
theorem dX3_has_1 : decode cX3_has 1 = .ok (.getfield 12, 3) := by decide +kernel
theorem dX3_has_4 : decode cX3_has 4 = .ok (.iload_n 1, 1) := by decide +kernel
theorem dX3_has_5 : decode cX3_has 5 = .ok (.invokevirtual 52, 3) := by decide +kernel
theorem dX3_has_8 : decode cX3_has 8 = .ok (.ifCond .eq 7, 3) := by decide +kernel
theorem dX3_has_11 : decode cX3_has 11 = .ok (.iconst 1, 1) := by decide +kernel
theorem dX3_has_12 : decode cX3_has 12 = .ok (.goto 4, 3) := by decide +kernel
theorem dX3_has_15 : decode cX3_has 15 = .ok (.iconst 0, 1) := by decide +kernel
theorem dX3_has_16 : decode cX3_has 16 = .ok (.ireturn, 1) := by decide +kernel
theorem dX3_fill_0 : decode cX3_fill 0 = .ok (.iload_n 3, 1) := by decide +kernel
theorem dX3_fill_1 : decode cX3_fill 1 = .ok (.ifCond .lt 10, 3) := by decide +kernel
theorem dX3_fill_4 : decode cX3_fill 4 = .ok (.iload_n 3, 1) := by decide +kernel
theorem dX3_fill_5 : decode cX3_fill 5 = .ok (.sipush 2000, 3) := by decide +kernel
theorem dX3_fill_8 : decode cX3_fill 8 = .ok (.if_icmp .le 11, 3) := by decide +kernel
theorem dX3_fill_11 : decode cX3_fill 11 = .ok (.new 38, 3) := by decide +kernel
theorem dX3_fill_14 : decode cX3_fill 14 = .ok (.dup, 1) := by decide +kernel
theorem dX3_fill_15 : decode cX3_fill 15 = .ok (.invokespecial 40, 3) := by decide +kernel
theorem dX3_fill_18 : decode cX3_fill 18 = .ok (.athrow, 1) := by decide +kernel
theorem dX3_fill_19 : decode cX3_fill 19 = .ok (.iload_n 1, 1) := by decide +kernel
theorem dX3_fill_20 : decode cX3_fill 20 = .ok (.istore 4, 2) := by decide +kernel
theorem dX3_fill_22 : decode cX3_fill 22 = .ok (.iconst 0, 1) := by decide +kernel
theorem dX3_fill_23 : decode cX3_fill 23 = .ok (.istore 5, 2) := by decide +kernel
theorem dX3_fill_25 : decode cX3_fill 25 = .ok (.iload 5, 2) := by decide +kernel
theorem dX3_fill_27 : decode cX3_fill 27 = .ok (.iload_n 3, 1) := by decide +kernel
theorem dX3_fill_28 : decode cX3_fill 28 = .ok (.if_icmp .ge 62, 3) := by decide +kernel
theorem dX3_fill_31 : decode cX3_fill 31 = .ok (.aload_n 0, 1) := by decide +kernel
theorem dX3_fill_32 : decode cX3_fill 32 = .ok (.getfield 12, 3) := by decide +kernel
theorem dX3_fill_35 : decode cX3_fill 35 = .ok (.iload 4, 2) := by decide +kernel
theorem dX3_fill_37 : decode cX3_fill 37 = .ok (.invokevirtual 52, 3) := by decide +kernel
theorem dX3_fill_40 : decode cX3_fill 40 = .ok (.istore 6, 2) := by decide +kernel
theorem dX3_fill_42 : decode cX3_fill 42 = .ok (.aload_n 0, 1) := by decide +kernel
theorem dX3_fill_43 : decode cX3_fill 43 = .ok (.iload 6, 2) := by decide +kernel
theorem dX3_fill_45 : decode cX3_fill 45 = .ok (.invokevirtual 56, 3) := by decide +kernel
theorem dX3_fill_48 : decode cX3_fill 48 = .ok (.ifCond .ne 6, 3) := by decide +kernel
theorem dX3_fill_51 : decode cX3_fill 51 = .ok (.goto 39, 3) := by decide +kernel
theorem dX3_fill_54 : decode cX3_fill 54 = .ok (.iload 6, 2) := by decide +kernel
theorem dX3_fill_56 : decode cX3_fill 56 = .ok (.ifCond .ne 14, 3) := by decide +kernel
theorem dX3_fill_59 : decode cX3_fill 59 = .ok (.aload_n 0, 1) := by decide +kernel
theorem dX3_fill_60 : decode cX3_fill 60 = .ok (.iload 4, 2) := by decide +kernel
theorem dX3_fill_62 : decode cX3_fill 62 = .ok (.iload 5, 2) := by decide +kernel
theorem dX3_fill_64 : decode cX3_fill 64 = .ok (.invokevirtual 63, 3) := by decide +kernel
theorem dX3_fill_67 : decode cX3_fill 67 = .ok (.goto 11, 3) := by decide +kernel
theorem dX3_fill_70 : decode cX3_fill 70 = .ok (.aload_n 0, 1) := by decide +kernel
theorem dX3_fill_71 : decode cX3_fill 71 = .ok (.iload 6, 2) := by decide +kernel
theorem dX3_fill_73 : decode cX3_fill 73 = .ok (.iload 5, 2) := by decide +kernel
theorem dX3_fill_75 : decode cX3_fill 75 = .ok (.invokevirtual 69, 3) := by decide +kernel
theorem dX3_fill_78 : decode cX3_fill 78 = .ok (.iload 4, 2) := by decide +kernel
theorem dX3_fill_80 : decode cX3_fill 80 = .ok (.iload_n 2, 1) := by decide +kernel
theorem dX3_fill_81 : decode cX3_fill 81 = .ok (.iadd, 1) := by decide +kernel
theorem dX3_fill_82 : decode cX3_fill 82 = .ok (.istore 4, 2) := by decide +kernel
theorem dX3_fill_84 : decode cX3_fill 84 = .ok (.iinc 5 1, 3) := by decide +kernel
theorem dX3_fill_87 : decode cX3_fill 87 = .ok (.goto (-62), 3) := by decide +kernel
theorem dX3_fill_90 : decode cX3_fill 90 = .ok (.aload_n 0, 1) := by decide +kernel
theorem dX3_fill_91 : decode cX3_fill 91 = .ok (.getfield 19, 3) := by decide +kernel
theorem dX3_fill_94 : decode cX3_fill 94 = .ok (.invokevirtual 41, 3) := by decide +kernel
theorem dX3_fill_97 : decode cX3_fill 97 = .ok (.ireturn, 1) := by decide +kernel
theorem dX3_at_0 : decode cX3_at 0 = .ok (.iload_n 1, 1) := by decide +kernel
theorem dX3_at_1 : decode cX3_at 1 = .ok (.ifCond .lt 14, 3) := by decide +kernel
theorem dX3_at_4 : decode cX3_at 4 = .ok (.iload_n 1, 1) := by decide +kernel
theorem dX3_at_5 : decode cX3_at 5 = .ok (.aload_n 0, 1) := by decide +kernel
theorem dX3_at_6 : decode cX3_at 6 = .ok (.getfield 19, 3) := by decide +kernel
theorem dX3_at_9 : decode cX3_at 9 = .ok (.invokevirtual 41, 3) := by decide +kernel
theorem dX3_at_12 : decode cX3_at 12 = .ok (.if_icmp .lt 11, 3) := by decide +kernel
theorem dX3_at_15 : decode cX3_at 15 = .ok (.new 72, 3) := by decide +kernel
theorem dX3_at_18 : decode cX3_at 18 = .ok (.dup, 1) := by decide +kernel
theorem dX3_at_19 : decode cX3_at 19 = .ok (.invokespecial 74, 3) := by decide +kernel
theorem dX3_at_22 : decode cX3_at 22 = .ok (.athrow, 1) := by decide +kernel
theorem dX3_at_23 : decode cX3_at 23 = .ok (.aload_n 0, 1) := by decide +kernel
theorem dX3_at_24 : decode cX3_at 24 = .ok (.invokevirtual 81, 3) := by decide +kernel
theorem dX3_at_27 : decode cX3_at 27 = .ok (.istore_n 2, 1) := by decide +kernel
theorem dX3_at_28 : decode cX3_at 28 = .ok (.iconst 0, 1) := by decide +kernel
theorem dX3_at_29 : decode cX3_at 29 = .ok (.istore_n 3, 1) := by decide +kernel
theorem dX3_at_30 : decode cX3_at 30 = .ok (.iload_n 3, 1) := by decide +kernel
theorem dX3_at_31 : decode cX3_at 31 = .ok (.iload_n 1, 1) := by decide +kernel
theorem dX3_at_32 : decode cX3_at 32 = .ok (.if_icmp .ge 15, 3) := by decide +kernel
theorem dX3_at_35 : decode cX3_at 35 = .ok (.aload_n 0, 1) := by decide +kernel
theorem dX3_at_36 : decode cX3_at 36 = .ok (.iload_n 2, 1) := by decide +kernel
theorem dX3_at_37 : decode cX3_at 37 = .ok (.invokevirtual 84, 3) := by decide +kernel
theorem dX3_at_40 : decode cX3_at 40 = .ok (.istore_n 2, 1) := by decide +kernel
theorem dX3_at_41 : decode cX3_at 41 = .ok (.iinc 3 1, 3) := by decide +kernel
theorem dX3_at_44 : decode cX3_at 44 = .ok (.goto (-14), 3) := by decide +kernel
theorem dX3_at_47 : decode cX3_at 47 = .ok (.aload_n 0, 1) := by decide +kernel
theorem dX3_at_48 : decode cX3_at 48 = .ok (.getfield 12, 3) := by decide +kernel
theorem dX3_at_51 : decode cX3_at 51 = .ok (.iload_n 2, 1) := by decide +kernel
theorem dX3_at_52 : decode cX3_at 52 = .ok (.invokevirtual 87, 3) := by decide +kernel
theorem dX3_at_55 : decode cX3_at 55 = .ok (.ireturn, 1) := by decide +kernel
theorem dX3_after_0 : decode cX3_after 0 = .ok (.aload_n 0, 1) := by decide +kernel
theorem dX3_after_1 : decode cX3_after 1 = .ok (.getfield 12, 3) := by decide +kernel
theorem dX3_after_4 : decode cX3_after 4 = .ok (.iload_n 1, 1) := by decide +kernel
theorem dX3_after_5 : decode cX3_after 5 = .ok (.invokevirtual 52, 3) := by decide +kernel
theorem dX3_after_8 : decode cX3_after 8 = .ok (.istore_n 2, 1) := by decide +kernel
theorem dX3_after_9 : decode cX3_after 9 = .ok (.iload_n 2, 1) := by decide +kernel
theorem dX3_after_10 : decode cX3_after 10 = .ok (.ifCond .ne 7, 3) := by decide +kernel
theorem dX3_after_13 : decode cX3_after 13 = .ok (.iconst 0, 1) := by decide +kernel
theorem dX3_after_14 : decode cX3_after 14 = .ok (.goto 8, 3) := by decide +kernel
theorem dX3_after_17 : decode cX3_after 17 = .ok (.aload_n 0, 1) := by decide +kernel
theorem dX3_after_18 : decode cX3_after 18 = .ok (.iload_n 2, 1) := by decide +kernel
theorem dX3_after_19 : decode cX3_after 19 = .ok (.invokevirtual 84, 3) := by decide +kernel
theorem dX3_after_22 : decode cX3_after 22 = .ok (.istore_n 3, 1) := by decide +kernel
theorem dX3_after_23 : decode cX3_after 23 = .ok (.iload_n 3, 1) := by decide +kernel
theorem dX3_after_24 : decode cX3_after 24 = .ok (.ifCond .ne 11, 3) := by decide +kernel
theorem dX3_after_27 : decode cX3_after 27 = .ok (.new 72, 3) := by decide +kernel
theorem dX3_after_30 : decode cX3_after 30 = .ok (.dup, 1) := by decide +kernel
theorem dX3_after_31 : decode cX3_after 31 = .ok (.invokespecial 74, 3) := by decide +kernel
theorem dX3_after_34 : decode cX3_after 34 = .ok (.athrow, 1) := by decide +kernel
theorem dX3_after_35 : decode cX3_after 35 = .ok (.aload_n 0, 1) := by decide +kernel
theorem dX3_after_36 : decode cX3_after 36 = .ok (.getfield 12, 3) := by decide +kernel
theorem dX3_after_39 : decode cX3_after 39 = .ok (.iload_n 3, 1) := by decide +kernel
theorem dX3_after_40 : decode cX3_after 40 = .ok (.invokevirtual 87, 3) := by decide +kernel
theorem dX3_after_43 : decode cX3_after 43 = .ok (.ireturn, 1) := by decide +kernel
theorem dX3_size_0 : decode cX3_size 0 = .ok (.aload_n 0, 1) := by decide +kernel
theorem dX3_size_1 : decode cX3_size 1 = .ok (.getfield 19, 3) := by decide +kernel
theorem dX3_size_4 : decode cX3_size 4 = .ok (.invokevirtual 41, 3) := by decide +kernel
theorem dX3_size_7 : decode cX3_size 7 = .ok (.ireturn, 1) := by decide +kernel
theorem dX3_clear_0 : decode cX3_clear 0 = .ok (.aload_n 0, 1) := by decide +kernel
theorem dX3_clear_1 : decode cX3_clear 1 = .ok (.getfield 19, 3) := by decide +kernel
theorem dX3_clear_4 : decode cX3_clear 4 = .ok (.invokevirtual 41, 3) := by decide +kernel
theorem dX3_clear_7 : decode cX3_clear 7 = .ok (.istore_n 1, 1) := by decide +kernel
theorem dX3_clear_8 : decode cX3_clear 8 = .ok (.aload_n 0, 1) := by decide +kernel
theorem dX3_clear_9 : decode cX3_clear 9 = .ok (.getfield 19, 3) := by decide +kernel
theorem dX3_clear_12 : decode cX3_clear 12 = .ok (.invokevirtual 45, 3) := by decide +kernel
theorem dX3_clear_15 : decode cX3_clear 15 = .ok (.aload_n 0, 1) := by decide +kernel
theorem dX3_clear_16 : decode cX3_clear 16 = .ok (.getfield 12, 3) := by decide +kernel
theorem dX3_clear_19 : decode cX3_clear 19 = .ok (.invokevirtual 90, 3) := by decide +kernel
theorem dX3_clear_22 : decode cX3_clear 22 = .ok (.iload_n 1, 1) := by decide +kernel
theorem dX3_clear_23 : decode cX3_clear 23 = .ok (.ireturn, 1) := by decide +kernel
theorem dX3_hash_0 : decode cX3_hash 0 = .ok (.iconst 1, 1) := by decide +kernel
theorem dX3_hash_1 : decode cX3_hash 1 = .ok (.istore_n 1, 1) := by decide +kernel
theorem dX3_hash_2 : decode cX3_hash 2 = .ok (.aload_n 0, 1) := by decide +kernel
theorem dX3_hash_3 : decode cX3_hash 3 = .ok (.invokevirtual 81, 3) := by decide +kernel
theorem dX3_hash_6 : decode cX3_hash 6 = .ok (.istore_n 2, 1) := by decide +kernel
theorem dX3_hash_7 : decode cX3_hash 7 = .ok (.iconst 0, 1) := by decide +kernel
theorem dX3_hash_8 : decode cX3_hash 8 = .ok (.istore_n 3, 1) := by decide +kernel
theorem dX3_hash_9 : decode cX3_hash 9 = .ok (.iload_n 3, 1) := by decide +kernel
theorem dX3_hash_10 : decode cX3_hash 10 = .ok (.aload_n 0, 1) := by decide +kernel
theorem dX3_hash_11 : decode cX3_hash 11 = .ok (.getfield 19, 3) := by decide +kernel
theorem dX3_hash_14 : decode cX3_hash 14 = .ok (.invokevirtual 41, 3) := by decide +kernel
theorem dX3_hash_17 : decode cX3_hash 17 = .ok (.if_icmp .ge 41, 3) := by decide +kernel
theorem dX3_hash_20 : decode cX3_hash 20 = .ok (.bipush 31, 2) := by decide +kernel
theorem dX3_hash_22 : decode cX3_hash 22 = .ok (.iload_n 1, 1) := by decide +kernel
theorem dX3_hash_23 : decode cX3_hash 23 = .ok (.imul, 1) := by decide +kernel
theorem dX3_hash_24 : decode cX3_hash 24 = .ok (.aload_n 0, 1) := by decide +kernel
theorem dX3_hash_25 : decode cX3_hash 25 = .ok (.getfield 12, 3) := by decide +kernel
theorem dX3_hash_28 : decode cX3_hash 28 = .ok (.iload_n 2, 1) := by decide +kernel
theorem dX3_hash_29 : decode cX3_hash 29 = .ok (.invokevirtual 87, 3) := by decide +kernel
theorem dX3_hash_32 : decode cX3_hash 32 = .ok (.iadd, 1) := by decide +kernel
theorem dX3_hash_33 : decode cX3_hash 33 = .ok (.istore_n 1, 1) := by decide +kernel
theorem dX3_hash_34 : decode cX3_hash 34 = .ok (.bipush 31, 2) := by decide +kernel
theorem dX3_hash_36 : decode cX3_hash 36 = .ok (.iload_n 1, 1) := by decide +kernel
theorem dX3_hash_37 : decode cX3_hash 37 = .ok (.imul, 1) := by decide +kernel
theorem dX3_hash_38 : decode cX3_hash 38 = .ok (.aload_n 0, 1) := by decide +kernel
theorem dX3_hash_39 : decode cX3_hash 39 = .ok (.getfield 23, 3) := by decide +kernel
theorem dX3_hash_42 : decode cX3_hash 42 = .ok (.iload_n 2, 1) := by decide +kernel
theorem dX3_hash_43 : decode cX3_hash 43 = .ok (.iaload, 1) := by decide +kernel
theorem dX3_hash_44 : decode cX3_hash 44 = .ok (.iadd, 1) := by decide +kernel
theorem dX3_hash_45 : decode cX3_hash 45 = .ok (.istore_n 1, 1) := by decide +kernel
theorem dX3_hash_46 : decode cX3_hash 46 = .ok (.aload_n 0, 1) := by decide +kernel
theorem dX3_hash_47 : decode cX3_hash 47 = .ok (.iload_n 2, 1) := by decide +kernel
theorem dX3_hash_48 : decode cX3_hash 48 = .ok (.invokevirtual 84, 3) := by decide +kernel
theorem dX3_hash_51 : decode cX3_hash 51 = .ok (.istore_n 2, 1) := by decide +kernel
theorem dX3_hash_52 : decode cX3_hash 52 = .ok (.iinc 3 1, 3) := by decide +kernel
theorem dX3_hash_55 : decode cX3_hash 55 = .ok (.goto (-46), 3) := by decide +kernel
theorem dX3_hash_58 : decode cX3_hash 58 = .ok (.iload_n 1, 1) := by decide +kernel
theorem dX3_hash_59 : decode cX3_hash 59 = .ok (.ireturn, 1) := by decide +kernel
theorem dX3_wrong_0 : decode cX3_wrong 0 = .ok (.aload_n 0, 1) := by decide +kernel
theorem dX3_wrong_1 : decode cX3_wrong 1 = .ok (.getfield 19, 3) := by decide +kernel
theorem dX3_wrong_4 : decode cX3_wrong 4 = .ok (.invokevirtual 91, 3) := by decide +kernel
theorem dX3_wrong_7 : decode cX3_wrong 7 = .ok (.aload_n 0, 1) := by decide +kernel
theorem dX3_wrong_8 : decode cX3_wrong 8 = .ok (.getfield 12, 3) := by decide +kernel
theorem dX3_wrong_11 : decode cX3_wrong 11 = .ok (.aload_n 0, 1) := by decide +kernel
theorem dX3_wrong_12 : decode cX3_wrong 12 = .ok (.getfield 19, 3) := by decide +kernel
theorem dX3_wrong_15 : decode cX3_wrong 15 = .ok (.invokevirtual 41, 3) := by decide +kernel
theorem dX3_wrong_18 : decode cX3_wrong 18 = .ok (.invokevirtual 94, 3) := by decide +kernel
theorem dX3_wrong_21 : decode cX3_wrong 21 = .ok (.iadd, 1) := by decide +kernel
theorem dX3_wrong_22 : decode cX3_wrong 22 = .ok (.istore_n 1, 1) := by decide +kernel
theorem dX3_wrong_23 : decode cX3_wrong 23 = .ok (.aload_n 0, 1) := by decide +kernel
theorem dX3_wrong_24 : decode cX3_wrong 24 = .ok (.getfield 27, 3) := by decide +kernel
theorem dX3_wrong_27 : decode cX3_wrong 27 = .ok (.iconst 2, 1) := by decide +kernel
theorem dX3_wrong_28 : decode cX3_wrong 28 = .ok (.if_icmp .ne 10, 3) := by decide +kernel
theorem dX3_wrong_31 : decode cX3_wrong 31 = .ok (.aload_n 0, 1) := by decide +kernel
theorem dX3_wrong_32 : decode cX3_wrong 32 = .ok (.getfield 31, 3) := by decide +kernel
theorem dX3_wrong_35 : decode cX3_wrong 35 = .ok (.goto 6, 3) := by decide +kernel
theorem dX3_wrong_38 : decode cX3_wrong 38 = .ok (.sipush 2000, 3) := by decide +kernel
theorem dX3_wrong_41 : decode cX3_wrong 41 = .ok (.istore_n 2, 1) := by decide +kernel
theorem dX3_wrong_42 : decode cX3_wrong 42 = .ok (.iload_n 1, 1) := by decide +kernel
theorem dX3_wrong_43 : decode cX3_wrong 43 = .ok (.aload_n 0, 1) := by decide +kernel
theorem dX3_wrong_44 : decode cX3_wrong 44 = .ok (.invokevirtual 96, 3) := by decide +kernel
theorem dX3_wrong_47 : decode cX3_wrong 47 = .ok (.iadd, 1) := by decide +kernel
theorem dX3_wrong_48 : decode cX3_wrong 48 = .ok (.aload_n 0, 1) := by decide +kernel
theorem dX3_wrong_49 : decode cX3_wrong 49 = .ok (.getfield 19, 3) := by decide +kernel
theorem dX3_wrong_52 : decode cX3_wrong 52 = .ok (.invokevirtual 41, 3) := by decide +kernel
theorem dX3_wrong_55 : decode cX3_wrong 55 = .ok (.iload_n 2, 1) := by decide +kernel
theorem dX3_wrong_56 : decode cX3_wrong 56 = .ok (.if_icmp .le 7, 3) := by decide +kernel
theorem dX3_wrong_59 : decode cX3_wrong 59 = .ok (.iconst 1, 1) := by decide +kernel
theorem dX3_wrong_60 : decode cX3_wrong 60 = .ok (.goto 4, 3) := by decide +kernel
theorem dX3_wrong_63 : decode cX3_wrong 63 = .ok (.iconst 0, 1) := by decide +kernel
theorem dX3_wrong_64 : decode cX3_wrong 64 = .ok (.iadd, 1) := by decide +kernel
theorem dX3_wrong_65 : decode cX3_wrong 65 = .ok (.ireturn, 1) := by decide +kernel
theorem dX3_isMode_0 : decode cX3_isMode 0 = .ok (.iload_n 0, 1) := by decide +kernel
theorem dX3_isMode_1 : decode cX3_isMode 1 = .ok (.iconst 2, 1) := by decide +kernel
theorem dX3_isMode_2 : decode cX3_isMode 2 = .ok (.if_icmp .ne 21, 3) := by decide +kernel
theorem dX3_isMode_5 : decode cX3_isMode 5 = .ok (.iload_n 1, 1) := by decide +kernel
theorem dX3_isMode_6 : decode cX3_isMode 6 = .ok (.iconst 1, 1) := by decide +kernel
theorem dX3_isMode_7 : decode cX3_isMode 7 = .ok (.if_icmp .lt 14, 3) := by decide +kernel
theorem dX3_isMode_10 : decode cX3_isMode 10 = .ok (.iload_n 1, 1) := by decide +kernel
theorem dX3_isMode_11 : decode cX3_isMode 11 = .ok (.sipush 2000, 3) := by decide +kernel
theorem dX3_isMode_14 : decode cX3_isMode 14 = .ok (.if_icmp .gt 7, 3) := by decide +kernel
theorem dX3_isMode_17 : decode cX3_isMode 17 = .ok (.iconst 1, 1) := by decide +kernel
theorem dX3_isMode_18 : decode cX3_isMode 18 = .ok (.goto 4, 3) := by decide +kernel
theorem dX3_isMode_21 : decode cX3_isMode 21 = .ok (.iconst 0, 1) := by decide +kernel
theorem dX3_isMode_22 : decode cX3_isMode 22 = .ok (.ireturn, 1) := by decide +kernel
theorem dX3_isMode_23 : decode cX3_isMode 23 = .ok (.iload_n 0, 1) := by decide +kernel
theorem dX3_isMode_24 : decode cX3_isMode 24 = .ok (.ifCond .lt 16, 3) := by decide +kernel
theorem dX3_isMode_27 : decode cX3_isMode 27 = .ok (.iload_n 0, 1) := by decide +kernel
theorem dX3_isMode_28 : decode cX3_isMode 28 = .ok (.iconst 2, 1) := by decide +kernel
theorem dX3_isMode_29 : decode cX3_isMode 29 = .ok (.if_icmp .ge 11, 3) := by decide +kernel
theorem dX3_isMode_32 : decode cX3_isMode 32 = .ok (.iload_n 1, 1) := by decide +kernel
theorem dX3_isMode_33 : decode cX3_isMode 33 = .ok (.ifCond .ne 7, 3) := by decide +kernel
theorem dX3_isMode_36 : decode cX3_isMode 36 = .ok (.iconst 1, 1) := by decide +kernel
theorem dX3_isMode_37 : decode cX3_isMode 37 = .ok (.goto 4, 3) := by decide +kernel
theorem dX3_isMode_40 : decode cX3_isMode 40 = .ok (.iconst 0, 1) := by decide +kernel
theorem dX3_isMode_41 : decode cX3_isMode 41 = .ok (.ireturn, 1) := by decide +kernel
theorem dX3_fits_0 : decode cX3_fits 0 = .ok (.iload_n 1, 1) := by decide +kernel
theorem dX3_fits_1 : decode cX3_fits 1 = .ok (.ifCond .ne 24, 3) := by decide +kernel
theorem dX3_fits_4 : decode cX3_fits 4 = .ok (.aload_n 0, 1) := by decide +kernel
theorem dX3_fits_5 : decode cX3_fits 5 = .ok (.getfield 27, 3) := by decide +kernel
theorem dX3_fits_8 : decode cX3_fits 8 = .ok (.iconst 2, 1) := by decide +kernel
theorem dX3_fits_9 : decode cX3_fits 9 = .ok (.if_icmp .eq 16, 3) := by decide +kernel
theorem dX3_fits_12 : decode cX3_fits 12 = .ok (.aload_n 0, 1) := by decide +kernel
theorem dX3_fits_13 : decode cX3_fits 13 = .ok (.getfield 19, 3) := by decide +kernel
theorem dX3_fits_16 : decode cX3_fits 16 = .ok (.invokevirtual 41, 3) := by decide +kernel
theorem dX3_fits_19 : decode cX3_fits 19 = .ok (.sipush 2000, 3) := by decide +kernel
theorem dX3_fits_22 : decode cX3_fits 22 = .ok (.if_icmp .ge 7, 3) := by decide +kernel
theorem dX3_fits_25 : decode cX3_fits 25 = .ok (.iconst 1, 1) := by decide +kernel
theorem dX3_fits_26 : decode cX3_fits 26 = .ok (.goto 4, 3) := by decide +kernel
theorem dX3_fits_29 : decode cX3_fits 29 = .ok (.iconst 0, 1) := by decide +kernel
theorem dX3_fits_30 : decode cX3_fits 30 = .ok (.ireturn, 1) := by decide +kernel
theorem dX3_come_0 : decode cX3_come 0 = .ok (.aload_n 0, 1) := by decide +kernel
theorem dX3_come_1 : decode cX3_come 1 = .ok (.getfield 19, 3) := by decide +kernel
theorem dX3_come_4 : decode cX3_come 4 = .ok (.invokevirtual 99, 3) := by decide +kernel
theorem dX3_come_7 : decode cX3_come 7 = .ok (.istore_n 3, 1) := by decide +kernel
theorem dX3_come_8 : decode cX3_come 8 = .ok (.aload_n 0, 1) := by decide +kernel
theorem dX3_come_9 : decode cX3_come 9 = .ok (.getfield 23, 3) := by decide +kernel
theorem dX3_come_12 : decode cX3_come 12 = .ok (.iload_n 3, 1) := by decide +kernel
theorem dX3_come_13 : decode cX3_come 13 = .ok (.iload_n 2, 1) := by decide +kernel
theorem dX3_come_14 : decode cX3_come 14 = .ok (.iastore, 1) := by decide +kernel
theorem dX3_come_15 : decode cX3_come 15 = .ok (.aload_n 0, 1) := by decide +kernel
theorem dX3_come_16 : decode cX3_come 16 = .ok (.getfield 12, 3) := by decide +kernel
theorem dX3_come_19 : decode cX3_come 19 = .ok (.iload_n 3, 1) := by decide +kernel
theorem dX3_come_20 : decode cX3_come 20 = .ok (.iload_n 1, 1) := by decide +kernel
theorem dX3_come_21 : decode cX3_come 21 = .ok (.invokevirtual 102, 3) := by decide +kernel
theorem dX3_come_24 : decode cX3_come 24 = .ok (.aload_n 0, 1) := by decide +kernel
theorem dX3_come_25 : decode cX3_come 25 = .ok (.getfield 12, 3) := by decide +kernel
theorem dX3_come_28 : decode cX3_come 28 = .ok (.iload_n 3, 1) := by decide +kernel
theorem dX3_come_29 : decode cX3_come 29 = .ok (.invokevirtual 105, 3) := by decide +kernel
theorem dX3_come_32 : decode cX3_come 32 = .ok (.aload_n 0, 1) := by decide +kernel
theorem dX3_come_33 : decode cX3_come 33 = .ok (.getfield 12, 3) := by decide +kernel
theorem dX3_come_36 : decode cX3_come 36 = .ok (.aload_n 0, 1) := by decide +kernel
theorem dX3_come_37 : decode cX3_come 37 = .ok (.getfield 19, 3) := by decide +kernel
theorem dX3_come_40 : decode cX3_come 40 = .ok (.invokevirtual 41, 3) := by decide +kernel
theorem dX3_come_43 : decode cX3_come 43 = .ok (.invokevirtual 108, 3) := by decide +kernel
theorem dX3_come_46 : decode cX3_come 46 = .ok (.ifCond .eq 60, 3) := by decide +kernel
theorem dX3_come_49 : decode cX3_come 49 = .ok (.aload_n 0, 1) := by decide +kernel
theorem dX3_come_50 : decode cX3_come 50 = .ok (.getfield 12, 3) := by decide +kernel
theorem dX3_come_53 : decode cX3_come 53 = .ok (.invokevirtual 111, 3) := by decide +kernel
theorem dX3_come_56 : decode cX3_come 56 = .ok (.aload_n 0, 1) := by decide +kernel
theorem dX3_come_57 : decode cX3_come 57 = .ok (.getfield 19, 3) := by decide +kernel
theorem dX3_come_60 : decode cX3_come 60 = .ok (.invokevirtual 114, 3) := by decide +kernel
theorem dX3_come_63 : decode cX3_come 63 = .ok (.istore 4, 2) := by decide +kernel
theorem dX3_come_65 : decode cX3_come 65 = .ok (.iconst 0, 1) := by decide +kernel
theorem dX3_come_66 : decode cX3_come 66 = .ok (.istore 5, 2) := by decide +kernel
theorem dX3_come_68 : decode cX3_come 68 = .ok (.iload 5, 2) := by decide +kernel
theorem dX3_come_70 : decode cX3_come 70 = .ok (.aload_n 0, 1) := by decide +kernel
theorem dX3_come_71 : decode cX3_come 71 = .ok (.getfield 19, 3) := by decide +kernel
theorem dX3_come_74 : decode cX3_come 74 = .ok (.invokevirtual 41, 3) := by decide +kernel
theorem dX3_come_77 : decode cX3_come 77 = .ok (.if_icmp .ge 29, 3) := by decide +kernel
theorem dX3_come_80 : decode cX3_come 80 = .ok (.aload_n 0, 1) := by decide +kernel
theorem dX3_come_81 : decode cX3_come 81 = .ok (.getfield 12, 3) := by decide +kernel
theorem dX3_come_84 : decode cX3_come 84 = .ok (.iload 4, 2) := by decide +kernel
theorem dX3_come_86 : decode cX3_come 86 = .ok (.invokevirtual 105, 3) := by decide +kernel
theorem dX3_come_89 : decode cX3_come 89 = .ok (.aload_n 0, 1) := by decide +kernel
theorem dX3_come_90 : decode cX3_come 90 = .ok (.getfield 19, 3) := by decide +kernel
theorem dX3_come_93 : decode cX3_come 93 = .ok (.iload 4, 2) := by decide +kernel
theorem dX3_come_95 : decode cX3_come 95 = .ok (.invokevirtual 117, 3) := by decide +kernel
theorem dX3_come_98 : decode cX3_come 98 = .ok (.istore 4, 2) := by decide +kernel
theorem dX3_come_100 : decode cX3_come 100 = .ok (.iinc 5 1, 3) := by decide +kernel
theorem dX3_come_103 : decode cX3_come 103 = .ok (.goto (-35), 3) := by decide +kernel
theorem dX3_come_106 : decode cX3_come 106 = .ok (.aload_n 0, 1) := by decide +kernel
theorem dX3_come_107 : decode cX3_come 107 = .ok (.getfield 27, 3) := by decide +kernel
theorem dX3_come_110 : decode cX3_come 110 = .ok (.iconst 2, 1) := by decide +kernel
theorem dX3_come_111 : decode cX3_come 111 = .ok (.if_icmp .ne 28, 3) := by decide +kernel
theorem dX3_come_114 : decode cX3_come 114 = .ok (.aload_n 0, 1) := by decide +kernel
theorem dX3_come_115 : decode cX3_come 115 = .ok (.getfield 19, 3) := by decide +kernel
theorem dX3_come_118 : decode cX3_come 118 = .ok (.invokevirtual 41, 3) := by decide +kernel
theorem dX3_come_121 : decode cX3_come 121 = .ok (.aload_n 0, 1) := by decide +kernel
theorem dX3_come_122 : decode cX3_come 122 = .ok (.getfield 31, 3) := by decide +kernel
theorem dX3_come_125 : decode cX3_come 125 = .ok (.if_icmp .le 14, 3) := by decide +kernel
theorem dX3_come_128 : decode cX3_come 128 = .ok (.aload_n 0, 1) := by decide +kernel
theorem dX3_come_129 : decode cX3_come 129 = .ok (.aload_n 0, 1) := by decide +kernel
theorem dX3_come_130 : decode cX3_come 130 = .ok (.getfield 19, 3) := by decide +kernel
theorem dX3_come_133 : decode cX3_come 133 = .ok (.invokevirtual 114, 3) := by decide +kernel
theorem dX3_come_136 : decode cX3_come 136 = .ok (.invokevirtual 75, 3) := by decide +kernel
theorem dX3_come_139 : decode cX3_come 139 = .ok (.return_, 1) := by decide +kernel
theorem dX3_change_0 : decode cX3_change 0 = .ok (.aload_n 0, 1) := by decide +kernel
theorem dX3_change_1 : decode cX3_change 1 = .ok (.getfield 23, 3) := by decide +kernel
theorem dX3_change_4 : decode cX3_change 4 = .ok (.iload_n 1, 1) := by decide +kernel
theorem dX3_change_5 : decode cX3_change 5 = .ok (.iload_n 2, 1) := by decide +kernel
theorem dX3_change_6 : decode cX3_change 6 = .ok (.iastore, 1) := by decide +kernel
theorem dX3_change_7 : decode cX3_change 7 = .ok (.aload_n 0, 1) := by decide +kernel
theorem dX3_change_8 : decode cX3_change 8 = .ok (.iload_n 1, 1) := by decide +kernel
theorem dX3_change_9 : decode cX3_change 9 = .ok (.invokevirtual 78, 3) := by decide +kernel
theorem dX3_change_12 : decode cX3_change 12 = .ok (.return_, 1) := by decide +kernel
theorem dX3_touch_0 : decode cX3_touch 0 = .ok (.aload_n 0, 1) := by decide +kernel
theorem dX3_touch_1 : decode cX3_touch 1 = .ok (.getfield 27, 3) := by decide +kernel
theorem dX3_touch_4 : decode cX3_touch 4 = .ok (.iconst 2, 1) := by decide +kernel
theorem dX3_touch_5 : decode cX3_touch 5 = .ok (.if_icmp .ne 11, 3) := by decide +kernel
theorem dX3_touch_8 : decode cX3_touch 8 = .ok (.aload_n 0, 1) := by decide +kernel
theorem dX3_touch_9 : decode cX3_touch 9 = .ok (.getfield 19, 3) := by decide +kernel
theorem dX3_touch_12 : decode cX3_touch 12 = .ok (.iload_n 1, 1) := by decide +kernel
theorem dX3_touch_13 : decode cX3_touch 13 = .ok (.invokevirtual 120, 3) := by decide +kernel
theorem dX3_touch_16 : decode cX3_touch 16 = .ok (.return_, 1) := by decide +kernel
theorem dX3_go_0 : decode cX3_go 0 = .ok (.aload_n 0, 1) := by decide +kernel
theorem dX3_go_1 : decode cX3_go 1 = .ok (.getfield 12, 3) := by decide +kernel
theorem dX3_go_4 : decode cX3_go 4 = .ok (.iload_n 1, 1) := by decide +kernel
theorem dX3_go_5 : decode cX3_go 5 = .ok (.invokevirtual 123, 3) := by decide +kernel
theorem dX3_go_8 : decode cX3_go 8 = .ok (.aload_n 0, 1) := by decide +kernel
theorem dX3_go_9 : decode cX3_go 9 = .ok (.getfield 19, 3) := by decide +kernel
theorem dX3_go_12 : decode cX3_go 12 = .ok (.iload_n 1, 1) := by decide +kernel
theorem dX3_go_13 : decode cX3_go 13 = .ok (.invokevirtual 126, 3) := by decide +kernel
theorem dX3_go_16 : decode cX3_go 16 = .ok (.return_, 1) := by decide +kernel
theorem dX3_firstSlot_0 : decode cX3_firstSlot 0 = .ok (.aload_n 0, 1) := by decide +kernel
theorem dX3_firstSlot_1 : decode cX3_firstSlot 1 = .ok (.getfield 27, 3) := by decide +kernel
theorem dX3_firstSlot_4 : decode cX3_firstSlot 4 = .ok (.ifCond .ne 14, 3) := by decide +kernel
theorem dX3_firstSlot_7 : decode cX3_firstSlot 7 = .ok (.aload_n 0, 1) := by decide +kernel
theorem dX3_firstSlot_8 : decode cX3_firstSlot 8 = .ok (.getfield 12, 3) := by decide +kernel
theorem dX3_firstSlot_11 : decode cX3_firstSlot 11 = .ok (.iconst 0, 1) := by decide +kernel
theorem dX3_firstSlot_12 : decode cX3_firstSlot 12 = .ok (.invokevirtual 129, 3) := by decide +kernel
theorem dX3_firstSlot_15 : decode cX3_firstSlot 15 = .ok (.goto 10, 3) := by decide +kernel
theorem dX3_firstSlot_18 : decode cX3_firstSlot 18 = .ok (.aload_n 0, 1) := by decide +kernel
theorem dX3_firstSlot_19 : decode cX3_firstSlot 19 = .ok (.getfield 19, 3) := by decide +kernel
theorem dX3_firstSlot_22 : decode cX3_firstSlot 22 = .ok (.invokevirtual 114, 3) := by decide +kernel
theorem dX3_firstSlot_25 : decode cX3_firstSlot 25 = .ok (.ireturn, 1) := by decide +kernel
theorem dX3_slotBehind_0 : decode cX3_slotBehind 0 = .ok (.aload_n 0, 1) := by decide +kernel
theorem dX3_slotBehind_1 : decode cX3_slotBehind 1 = .ok (.getfield 27, 3) := by decide +kernel
theorem dX3_slotBehind_4 : decode cX3_slotBehind 4 = .ok (.ifCond .ne 14, 3) := by decide +kernel
theorem dX3_slotBehind_7 : decode cX3_slotBehind 7 = .ok (.aload_n 0, 1) := by decide +kernel
theorem dX3_slotBehind_8 : decode cX3_slotBehind 8 = .ok (.getfield 12, 3) := by decide +kernel
theorem dX3_slotBehind_11 : decode cX3_slotBehind 11 = .ok (.iload_n 1, 1) := by decide +kernel
theorem dX3_slotBehind_12 : decode cX3_slotBehind 12 = .ok (.invokevirtual 132, 3) := by decide +kernel
theorem dX3_slotBehind_15 : decode cX3_slotBehind 15 = .ok (.goto 11, 3) := by decide +kernel
theorem dX3_slotBehind_18 : decode cX3_slotBehind 18 = .ok (.aload_n 0, 1) := by decide +kernel
theorem dX3_slotBehind_19 : decode cX3_slotBehind 19 = .ok (.getfield 19, 3) := by decide +kernel
theorem dX3_slotBehind_22 : decode cX3_slotBehind 22 = .ok (.iload_n 1, 1) := by decide +kernel
theorem dX3_slotBehind_23 : decode cX3_slotBehind 23 = .ok (.invokevirtual 117, 3) := by decide +kernel
theorem dX3_slotBehind_26 : decode cX3_slotBehind 26 = .ok (.ireturn, 1) := by decide +kernel
theorem dX3_faultsBetween_0 : decode cX3_faultsBetween 0 = .ok (.iconst 0, 1) := by decide +kernel
theorem dX3_faultsBetween_1 : decode cX3_faultsBetween 1 = .ok (.istore_n 1, 1) := by decide +kernel
theorem dX3_faultsBetween_2 : decode cX3_faultsBetween 2 = .ok (.aload_n 0, 1) := by decide +kernel
theorem dX3_faultsBetween_3 : decode cX3_faultsBetween 3 = .ok (.getfield 19, 3) := by decide +kernel
theorem dX3_faultsBetween_6 : decode cX3_faultsBetween 6 = .ok (.invokevirtual 133, 3) := by decide +kernel
theorem dX3_faultsBetween_9 : decode cX3_faultsBetween 9 = .ok (.aload_n 0, 1) := by decide +kernel
theorem dX3_faultsBetween_10 : decode cX3_faultsBetween 10 = .ok (.getfield 19, 3) := by decide +kernel
theorem dX3_faultsBetween_13 : decode cX3_faultsBetween 13 = .ok (.invokevirtual 114, 3) := by decide +kernel
theorem dX3_faultsBetween_16 : decode cX3_faultsBetween 16 = .ok (.istore_n 2, 1) := by decide +kernel
theorem dX3_faultsBetween_17 : decode cX3_faultsBetween 17 = .ok (.iconst 0, 1) := by decide +kernel
theorem dX3_faultsBetween_18 : decode cX3_faultsBetween 18 = .ok (.istore_n 3, 1) := by decide +kernel
theorem dX3_faultsBetween_19 : decode cX3_faultsBetween 19 = .ok (.iload_n 3, 1) := by decide +kernel
theorem dX3_faultsBetween_20 : decode cX3_faultsBetween 20 = .ok (.aload_n 0, 1) := by decide +kernel
theorem dX3_faultsBetween_21 : decode cX3_faultsBetween 21 = .ok (.getfield 19, 3) := by decide +kernel
theorem dX3_faultsBetween_24 : decode cX3_faultsBetween 24 = .ok (.invokevirtual 41, 3) := by decide +kernel
theorem dX3_faultsBetween_27 : decode cX3_faultsBetween 27 = .ok (.if_icmp .ge 51, 3) := by decide +kernel
theorem dX3_faultsBetween_30 : decode cX3_faultsBetween 30 = .ok (.aload_n 0, 1) := by decide +kernel
theorem dX3_faultsBetween_31 : decode cX3_faultsBetween 31 = .ok (.getfield 12, 3) := by decide +kernel
theorem dX3_faultsBetween_34 : decode cX3_faultsBetween 34 = .ok (.aload_n 0, 1) := by decide +kernel
theorem dX3_faultsBetween_35 : decode cX3_faultsBetween 35 = .ok (.getfield 12, 3) := by decide +kernel
theorem dX3_faultsBetween_38 : decode cX3_faultsBetween 38 = .ok (.iload_n 2, 1) := by decide +kernel
theorem dX3_faultsBetween_39 : decode cX3_faultsBetween 39 = .ok (.invokevirtual 87, 3) := by decide +kernel
theorem dX3_faultsBetween_42 : decode cX3_faultsBetween 42 = .ok (.invokevirtual 52, 3) := by decide +kernel
theorem dX3_faultsBetween_45 : decode cX3_faultsBetween 45 = .ok (.iload_n 2, 1) := by decide +kernel
theorem dX3_faultsBetween_46 : decode cX3_faultsBetween 46 = .ok (.if_icmp .eq 6, 3) := by decide +kernel
theorem dX3_faultsBetween_49 : decode cX3_faultsBetween 49 = .ok (.iinc 1 1, 3) := by decide +kernel
theorem dX3_faultsBetween_52 : decode cX3_faultsBetween 52 = .ok (.aload_n 0, 1) := by decide +kernel
theorem dX3_faultsBetween_53 : decode cX3_faultsBetween 53 = .ok (.iload_n 2, 1) := by decide +kernel
theorem dX3_faultsBetween_54 : decode cX3_faultsBetween 54 = .ok (.invokevirtual 136, 3) := by decide +kernel
theorem dX3_faultsBetween_57 : decode cX3_faultsBetween 57 = .ok (.ifCond .eq 6, 3) := by decide +kernel
theorem dX3_faultsBetween_60 : decode cX3_faultsBetween 60 = .ok (.iinc 1 1, 3) := by decide +kernel
theorem dX3_faultsBetween_63 : decode cX3_faultsBetween 63 = .ok (.aload_n 0, 1) := by decide +kernel
theorem dX3_faultsBetween_64 : decode cX3_faultsBetween 64 = .ok (.getfield 19, 3) := by decide +kernel
theorem dX3_faultsBetween_67 : decode cX3_faultsBetween 67 = .ok (.iload_n 2, 1) := by decide +kernel
theorem dX3_faultsBetween_68 : decode cX3_faultsBetween 68 = .ok (.invokevirtual 117, 3) := by decide +kernel
theorem dX3_faultsBetween_71 : decode cX3_faultsBetween 71 = .ok (.istore_n 2, 1) := by decide +kernel
theorem dX3_faultsBetween_72 : decode cX3_faultsBetween 72 = .ok (.iinc 3 1, 3) := by decide +kernel
theorem dX3_faultsBetween_75 : decode cX3_faultsBetween 75 = .ok (.goto (-56), 3) := by decide +kernel
theorem dX3_faultsBetween_78 : decode cX3_faultsBetween 78 = .ok (.iload_n 1, 1) := by decide +kernel
theorem dX3_faultsBetween_79 : decode cX3_faultsBetween 79 = .ok (.ireturn, 1) := by decide +kernel
theorem dX3_isOvertaken_0 : decode cX3_isOvertaken 0 = .ok (.aload_n 0, 1) := by decide +kernel
theorem dX3_isOvertaken_1 : decode cX3_isOvertaken 1 = .ok (.getfield 12, 3) := by decide +kernel
theorem dX3_isOvertaken_4 : decode cX3_isOvertaken 4 = .ok (.iload_n 1, 1) := by decide +kernel
theorem dX3_isOvertaken_5 : decode cX3_isOvertaken 5 = .ok (.invokevirtual 139, 3) := by decide +kernel
theorem dX3_isOvertaken_8 : decode cX3_isOvertaken 8 = .ok (.istore_n 2, 1) := by decide +kernel
theorem dX3_isOvertaken_9 : decode cX3_isOvertaken 9 = .ok (.aload_n 0, 1) := by decide +kernel
theorem dX3_isOvertaken_10 : decode cX3_isOvertaken 10 = .ok (.getfield 27, 3) := by decide +kernel
theorem dX3_isOvertaken_13 : decode cX3_isOvertaken 13 = .ok (.iconst 2, 1) := by decide +kernel
theorem dX3_isOvertaken_14 : decode cX3_isOvertaken 14 = .ok (.if_icmp .eq 30, 3) := by decide +kernel
theorem dX3_isOvertaken_17 : decode cX3_isOvertaken 17 = .ok (.iload_n 2, 1) := by decide +kernel
theorem dX3_isOvertaken_18 : decode cX3_isOvertaken 18 = .ok (.ifCond .eq 26, 3) := by decide +kernel
theorem dX3_isOvertaken_21 : decode cX3_isOvertaken 21 = .ok (.aload_n 0, 1) := by decide +kernel
theorem dX3_isOvertaken_22 : decode cX3_isOvertaken 22 = .ok (.getfield 19, 3) := by decide +kernel
theorem dX3_isOvertaken_25 : decode cX3_isOvertaken 25 = .ok (.iload_n 2, 1) := by decide +kernel
theorem dX3_isOvertaken_26 : decode cX3_isOvertaken 26 = .ok (.invokevirtual 142, 3) := by decide +kernel
theorem dX3_isOvertaken_29 : decode cX3_isOvertaken 29 = .ok (.aload_n 0, 1) := by decide +kernel
theorem dX3_isOvertaken_30 : decode cX3_isOvertaken 30 = .ok (.getfield 19, 3) := by decide +kernel
theorem dX3_isOvertaken_33 : decode cX3_isOvertaken 33 = .ok (.iload_n 1, 1) := by decide +kernel
theorem dX3_isOvertaken_34 : decode cX3_isOvertaken 34 = .ok (.invokevirtual 142, 3) := by decide +kernel
theorem dX3_isOvertaken_37 : decode cX3_isOvertaken 37 = .ok (.if_icmp .ge 7, 3) := by decide +kernel
theorem dX3_isOvertaken_40 : decode cX3_isOvertaken 40 = .ok (.iconst 1, 1) := by decide +kernel
theorem dX3_isOvertaken_41 : decode cX3_isOvertaken 41 = .ok (.goto 4, 3) := by decide +kernel
theorem dX3_isOvertaken_44 : decode cX3_isOvertaken 44 = .ok (.iconst 0, 1) := by decide +kernel
theorem dX3_isOvertaken_45 : decode cX3_isOvertaken 45 = .ok (.ireturn, 1) := by decide +kernel
