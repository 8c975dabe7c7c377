theorem dX4_init_0 : decode cX4_init 0 = .ok (.aload_n 0, 1) := by decide +kernel
theorem dX4_init_1 : decode cX4_init 1 = .ok (.invokespecial 1, 3) := by decide +kernel
theorem dX4_init_4 : decode cX4_init 4 = .ok (.aload_n 0, 1) := by decide +kernel
theorem dX4_init_5 : decode cX4_init 5 = .ok (.bipush 16, 2) := by decide +kernel
theorem dX4_init_7 : decode cX4_init 7 = .ok (.putfield 7, 3) := by decide +kernel
theorem dX4_init_10 : decode cX4_init 10 = .ok (.aload_n 0, 1) := by decide +kernel
theorem dX4_init_11 : decode cX4_init 11 = .ok (.sipush 2000, 3) := by decide +kernel
theorem dX4_init_14 : decode cX4_init 14 = .ok (.newarray .int, 2) := by decide +kernel
theorem dX4_init_16 : decode cX4_init 16 = .ok (.putfield 13, 3) := by decide +kernel
theorem dX4_init_19 : decode cX4_init 19 = .ok (.aload_n 0, 1) := by decide +kernel
theorem dX4_init_20 : decode cX4_init 20 = .ok (.sipush 2000, 3) := by decide +kernel
theorem dX4_init_23 : decode cX4_init 23 = .ok (.newarray .int, 2) := by decide +kernel
theorem dX4_init_25 : decode cX4_init 25 = .ok (.putfield 17, 3) := by decide +kernel
theorem dX4_init_28 : decode cX4_init 28 = .ok (.aload_n 0, 1) := by decide +kernel
theorem dX4_init_29 : decode cX4_init 29 = .ok (.sipush 2000, 3) := by decide +kernel
theorem dX4_init_32 : decode cX4_init 32 = .ok (.newarray .int, 2) := by decide +kernel
theorem dX4_init_34 : decode cX4_init 34 = .ok (.putfield 20, 3) := by decide +kernel
theorem dX4_init_37 : decode cX4_init 37 = .ok (.aload_n 0, 1) := by decide +kernel
theorem dX4_init_38 : decode cX4_init 38 = .ok (.sipush 8192, 3) := by decide +kernel
theorem dX4_init_41 : decode cX4_init 41 = .ok (.newarray .int, 2) := by decide +kernel
theorem dX4_init_43 : decode cX4_init 43 = .ok (.putfield 23, 3) := by decide +kernel
theorem dX4_init_46 : decode cX4_init 46 = .ok (.return_, 1) := by decide +kernel
theorem dX4_thrown_0 : decode cX4_thrown 0 = .ok (.aload_n 0, 1) := by decide +kernel
theorem dX4_thrown_1 : decode cX4_thrown 1 = .ok (.getfield 26, 3) := by decide +kernel
theorem dX4_thrown_4 : decode cX4_thrown 4 = .ok (.ireturn, 1) := by decide +kernel
theorem dX4_fail_0 : decode cX4_fail 0 = .ok (.aload_n 0, 1) := by decide +kernel
theorem dX4_fail_1 : decode cX4_fail 1 = .ok (.iload_n 1, 1) := by decide +kernel
theorem dX4_fail_2 : decode cX4_fail 2 = .ok (.putfield 26, 3) := by decide +kernel
theorem dX4_fail_5 : decode cX4_fail 5 = .ok (.iconst 0, 1) := by decide +kernel
theorem dX4_fail_6 : decode cX4_fail 6 = .ok (.ireturn, 1) := by decide +kernel
theorem dX4_make_0 : decode cX4_make 0 = .ok (.aload_n 0, 1) := by decide +kernel
theorem dX4_make_1 : decode cX4_make 1 = .ok (.iconst 0, 1) := by decide +kernel
theorem dX4_make_2 : decode cX4_make 2 = .ok (.putfield 26, 3) := by decide +kernel
theorem dX4_make_5 : decode cX4_make 5 = .ok (.iload_n 1, 1) := by decide +kernel
theorem dX4_make_6 : decode cX4_make 6 = .ok (.ifCond .lt 41, 3) := by decide +kernel
theorem dX4_make_9 : decode cX4_make 9 = .ok (.iload_n 1, 1) := by decide +kernel
theorem dX4_make_10 : decode cX4_make 10 = .ok (.iconst 2, 1) := by decide +kernel
theorem dX4_make_11 : decode cX4_make 11 = .ok (.if_icmp .gt 36, 3) := by decide +kernel
theorem dX4_make_14 : decode cX4_make 14 = .ok (.iload_n 2, 1) := by decide +kernel
theorem dX4_make_15 : decode cX4_make 15 = .ok (.ifCond .lt 32, 3) := by decide +kernel
theorem dX4_make_18 : decode cX4_make 18 = .ok (.iload_n 2, 1) := by decide +kernel
theorem dX4_make_19 : decode cX4_make 19 = .ok (.iconst 2, 1) := by decide +kernel
theorem dX4_make_20 : decode cX4_make 20 = .ok (.if_icmp .gt 27, 3) := by decide +kernel
theorem dX4_make_23 : decode cX4_make 23 = .ok (.iload_n 1, 1) := by decide +kernel
theorem dX4_make_24 : decode cX4_make 24 = .ok (.iconst 2, 1) := by decide +kernel
theorem dX4_make_25 : decode cX4_make 25 = .ok (.if_icmp .ne 18, 3) := by decide +kernel
theorem dX4_make_28 : decode cX4_make 28 = .ok (.iload_n 3, 1) := by decide +kernel
theorem dX4_make_29 : decode cX4_make 29 = .ok (.iconst 1, 1) := by decide +kernel
theorem dX4_make_30 : decode cX4_make 30 = .ok (.if_icmp .lt 17, 3) := by decide +kernel
theorem dX4_make_33 : decode cX4_make 33 = .ok (.iload_n 3, 1) := by decide +kernel
theorem dX4_make_34 : decode cX4_make 34 = .ok (.sipush 2000, 3) := by decide +kernel
theorem dX4_make_37 : decode cX4_make 37 = .ok (.if_icmp .le 16, 3) := by decide +kernel
theorem dX4_make_40 : decode cX4_make 40 = .ok (.goto 7, 3) := by decide +kernel
theorem dX4_make_43 : decode cX4_make 43 = .ok (.iload_n 3, 1) := by decide +kernel
theorem dX4_make_44 : decode cX4_make 44 = .ok (.ifCond .eq 9, 3) := by decide +kernel
theorem dX4_make_47 : decode cX4_make 47 = .ok (.aload_n 0, 1) := by decide +kernel
theorem dX4_make_48 : decode cX4_make 48 = .ok (.iconst 1, 1) := by decide +kernel
theorem dX4_make_49 : decode cX4_make 49 = .ok (.invokevirtual 29, 3) := by decide +kernel
theorem dX4_make_52 : decode cX4_make 52 = .ok (.ireturn, 1) := by decide +kernel
theorem dX4_make_53 : decode cX4_make 53 = .ok (.aload_n 0, 1) := by decide +kernel
theorem dX4_make_54 : decode cX4_make 54 = .ok (.getfield 33, 3) := by decide +kernel
theorem dX4_make_57 : decode cX4_make 57 = .ok (.istore 4, 2) := by decide +kernel
theorem dX4_make_59 : decode cX4_make 59 = .ok (.aload_n 0, 1) := by decide +kernel
theorem dX4_make_60 : decode cX4_make 60 = .ok (.iload_n 1, 1) := by decide +kernel
theorem dX4_make_61 : decode cX4_make 61 = .ok (.putfield 36, 3) := by decide +kernel
theorem dX4_make_64 : decode cX4_make 64 = .ok (.aload_n 0, 1) := by decide +kernel
theorem dX4_make_65 : decode cX4_make 65 = .ok (.iload_n 2, 1) := by decide +kernel
theorem dX4_make_66 : decode cX4_make 66 = .ok (.putfield 39, 3) := by decide +kernel
theorem dX4_make_69 : decode cX4_make 69 = .ok (.aload_n 0, 1) := by decide +kernel
theorem dX4_make_70 : decode cX4_make 70 = .ok (.iload_n 3, 1) := by decide +kernel
theorem dX4_make_71 : decode cX4_make 71 = .ok (.putfield 42, 3) := by decide +kernel
theorem dX4_make_74 : decode cX4_make 74 = .ok (.aload_n 0, 1) := by decide +kernel
theorem dX4_make_75 : decode cX4_make 75 = .ok (.bipush 16, 2) := by decide +kernel
theorem dX4_make_77 : decode cX4_make 77 = .ok (.putfield 7, 3) := by decide +kernel
theorem dX4_make_80 : decode cX4_make 80 = .ok (.aload_n 0, 1) := by decide +kernel
theorem dX4_make_81 : decode cX4_make 81 = .ok (.iconst 0, 1) := by decide +kernel
theorem dX4_make_82 : decode cX4_make 82 = .ok (.putfield 33, 3) := by decide +kernel
theorem dX4_make_85 : decode cX4_make 85 = .ok (.iload 4, 2) := by decide +kernel
theorem dX4_make_87 : decode cX4_make 87 = .ok (.ireturn, 1) := by decide +kernel
theorem dX4_at1_0 : decode cX4_at1 0 = .ok (.iconst 0, 1) := by decide +kernel
theorem dX4_at1_1 : decode cX4_at1 1 = .ok (.istore_n 2, 1) := by decide +kernel
theorem dX4_at1_2 : decode cX4_at1 2 = .ok (.iload_n 2, 1) := by decide +kernel
theorem dX4_at1_3 : decode cX4_at1 3 = .ok (.aload_n 0, 1) := by decide +kernel
theorem dX4_at1_4 : decode cX4_at1 4 = .ok (.getfield 33, 3) := by decide +kernel
theorem dX4_at1_7 : decode cX4_at1 7 = .ok (.if_icmp .ge 21, 3) := by decide +kernel
theorem dX4_at1_10 : decode cX4_at1 10 = .ok (.aload_n 0, 1) := by decide +kernel
theorem dX4_at1_11 : decode cX4_at1 11 = .ok (.getfield 13, 3) := by decide +kernel
theorem dX4_at1_14 : decode cX4_at1 14 = .ok (.iload_n 2, 1) := by decide +kernel
theorem dX4_at1_15 : decode cX4_at1 15 = .ok (.iaload, 1) := by decide +kernel
theorem dX4_at1_16 : decode cX4_at1 16 = .ok (.iload_n 1, 1) := by decide +kernel
theorem dX4_at1_17 : decode cX4_at1 17 = .ok (.if_icmp .ne 5, 3) := by decide +kernel
theorem dX4_at1_20 : decode cX4_at1 20 = .ok (.iload_n 2, 1) := by decide +kernel
theorem dX4_at1_21 : decode cX4_at1 21 = .ok (.ireturn, 1) := by decide +kernel
theorem dX4_at1_22 : decode cX4_at1 22 = .ok (.iinc 2 1, 3) := by decide +kernel
theorem dX4_at1_25 : decode cX4_at1 25 = .ok (.goto (-23), 3) := by decide +kernel
theorem dX4_at1_28 : decode cX4_at1 28 = .ok (.iconst (-1), 1) := by decide +kernel
theorem dX4_at1_29 : decode cX4_at1 29 = .ok (.ireturn, 1) := by decide +kernel
theorem dX4_place_0 : decode cX4_place 0 = .ok (.aload_n 0, 1) := by decide +kernel
theorem dX4_place_1 : decode cX4_place 1 = .ok (.getfield 39, 3) := by decide +kernel
theorem dX4_place_4 : decode cX4_place 4 = .ok (.ifCond .ne 7, 3) := by decide +kernel
theorem dX4_place_7 : decode cX4_place 7 = .ok (.iload_n 1, 1) := by decide +kernel
theorem dX4_place_8 : decode cX4_place 8 = .ok (.goto 21, 3) := by decide +kernel
theorem dX4_place_11 : decode cX4_place 11 = .ok (.aload_n 0, 1) := by decide +kernel
theorem dX4_place_12 : decode cX4_place 12 = .ok (.getfield 39, 3) := by decide +kernel
theorem dX4_place_15 : decode cX4_place 15 = .ok (.iconst 1, 1) := by decide +kernel
theorem dX4_place_16 : decode cX4_place 16 = .ok (.if_icmp .ne 9, 3) := by decide +kernel
theorem dX4_place_19 : decode cX4_place 19 = .ok (.iload_n 1, 1) := by decide +kernel
theorem dX4_place_20 : decode cX4_place 20 = .ok (.iconst 3, 1) := by decide +kernel
theorem dX4_place_21 : decode cX4_place 21 = .ok (.iand, 1) := by decide +kernel
theorem dX4_place_22 : decode cX4_place 22 = .ok (.goto 7, 3) := by decide +kernel
theorem dX4_place_25 : decode cX4_place 25 = .ok (.iload_n 1, 1) := by decide +kernel
theorem dX4_place_26 : decode cX4_place 26 = .ok (.ldc 45, 2) := by decide +kernel
theorem dX4_place_28 : decode cX4_place 28 = .ok (.imul, 1) := by decide +kernel
theorem dX4_place_29 : decode cX4_place 29 = .ok (.istore_n 2, 1) := by decide +kernel
theorem dX4_place_30 : decode cX4_place 30 = .ok (.iload_n 2, 1) := by decide +kernel
theorem dX4_place_31 : decode cX4_place 31 = .ok (.iload_n 2, 1) := by decide +kernel
theorem dX4_place_32 : decode cX4_place 32 = .ok (.bipush 16, 2) := by decide +kernel
theorem dX4_place_34 : decode cX4_place 34 = .ok (.iushr, 1) := by decide +kernel
theorem dX4_place_35 : decode cX4_place 35 = .ok (.ixor, 1) := by decide +kernel
theorem dX4_place_36 : decode cX4_place 36 = .ok (.aload_n 0, 1) := by decide +kernel
theorem dX4_place_37 : decode cX4_place 37 = .ok (.getfield 7, 3) := by decide +kernel
theorem dX4_place_40 : decode cX4_place 40 = .ok (.iconst 1, 1) := by decide +kernel
theorem dX4_place_41 : decode cX4_place 41 = .ok (.isub, 1) := by decide +kernel
theorem dX4_place_42 : decode cX4_place 42 = .ok (.iand, 1) := by decide +kernel
theorem dX4_place_43 : decode cX4_place 43 = .ok (.ireturn, 1) := by decide +kernel
theorem dX4_removeAt_0 : decode cX4_removeAt 0 = .ok (.aload_n 0, 1) := by decide +kernel
theorem dX4_removeAt_1 : decode cX4_removeAt 1 = .ok (.dup, 1) := by decide +kernel
theorem dX4_removeAt_2 : decode cX4_removeAt 2 = .ok (.getfield 33, 3) := by decide +kernel
theorem dX4_removeAt_5 : decode cX4_removeAt 5 = .ok (.iconst 1, 1) := by decide +kernel
theorem dX4_removeAt_6 : decode cX4_removeAt 6 = .ok (.isub, 1) := by decide +kernel
theorem dX4_removeAt_7 : decode cX4_removeAt 7 = .ok (.putfield 33, 3) := by decide +kernel
theorem dX4_removeAt_10 : decode cX4_removeAt 10 = .ok (.iload_n 1, 1) := by decide +kernel
theorem dX4_removeAt_11 : decode cX4_removeAt 11 = .ok (.istore_n 2, 1) := by decide +kernel
theorem dX4_removeAt_12 : decode cX4_removeAt 12 = .ok (.iload_n 2, 1) := by decide +kernel
theorem dX4_removeAt_13 : decode cX4_removeAt 13 = .ok (.aload_n 0, 1) := by decide +kernel
theorem dX4_removeAt_14 : decode cX4_removeAt 14 = .ok (.getfield 33, 3) := by decide +kernel
theorem dX4_removeAt_17 : decode cX4_removeAt 17 = .ok (.if_icmp .ge 37, 3) := by decide +kernel
theorem dX4_removeAt_20 : decode cX4_removeAt 20 = .ok (.aload_n 0, 1) := by decide +kernel
theorem dX4_removeAt_21 : decode cX4_removeAt 21 = .ok (.getfield 13, 3) := by decide +kernel
theorem dX4_removeAt_24 : decode cX4_removeAt 24 = .ok (.iload_n 2, 1) := by decide +kernel
theorem dX4_removeAt_25 : decode cX4_removeAt 25 = .ok (.aload_n 0, 1) := by decide +kernel
theorem dX4_removeAt_26 : decode cX4_removeAt 26 = .ok (.getfield 13, 3) := by decide +kernel
theorem dX4_removeAt_29 : decode cX4_removeAt 29 = .ok (.iload_n 2, 1) := by decide +kernel
theorem dX4_removeAt_30 : decode cX4_removeAt 30 = .ok (.iconst 1, 1) := by decide +kernel
theorem dX4_removeAt_31 : decode cX4_removeAt 31 = .ok (.iadd, 1) := by decide +kernel
theorem dX4_removeAt_32 : decode cX4_removeAt 32 = .ok (.iaload, 1) := by decide +kernel
theorem dX4_removeAt_33 : decode cX4_removeAt 33 = .ok (.iastore, 1) := by decide +kernel
theorem dX4_removeAt_34 : decode cX4_removeAt 34 = .ok (.aload_n 0, 1) := by decide +kernel
theorem dX4_removeAt_35 : decode cX4_removeAt 35 = .ok (.getfield 17, 3) := by decide +kernel
theorem dX4_removeAt_38 : decode cX4_removeAt 38 = .ok (.iload_n 2, 1) := by decide +kernel
theorem dX4_removeAt_39 : decode cX4_removeAt 39 = .ok (.aload_n 0, 1) := by decide +kernel
theorem dX4_removeAt_40 : decode cX4_removeAt 40 = .ok (.getfield 17, 3) := by decide +kernel
theorem dX4_removeAt_43 : decode cX4_removeAt 43 = .ok (.iload_n 2, 1) := by decide +kernel
theorem dX4_removeAt_44 : decode cX4_removeAt 44 = .ok (.iconst 1, 1) := by decide +kernel
theorem dX4_removeAt_45 : decode cX4_removeAt 45 = .ok (.iadd, 1) := by decide +kernel
theorem dX4_removeAt_46 : decode cX4_removeAt 46 = .ok (.iaload, 1) := by decide +kernel
theorem dX4_removeAt_47 : decode cX4_removeAt 47 = .ok (.iastore, 1) := by decide +kernel
theorem dX4_removeAt_48 : decode cX4_removeAt 48 = .ok (.iinc 2 1, 3) := by decide +kernel
theorem dX4_removeAt_51 : decode cX4_removeAt 51 = .ok (.goto (-39), 3) := by decide +kernel
theorem dX4_removeAt_54 : decode cX4_removeAt 54 = .ok (.return_, 1) := by decide +kernel
theorem dX4_append_0 : decode cX4_append 0 = .ok (.aload_n 0, 1) := by decide +kernel
theorem dX4_append_1 : decode cX4_append 1 = .ok (.getfield 13, 3) := by decide +kernel
theorem dX4_append_4 : decode cX4_append 4 = .ok (.aload_n 0, 1) := by decide +kernel
theorem dX4_append_5 : decode cX4_append 5 = .ok (.getfield 33, 3) := by decide +kernel
theorem dX4_append_8 : decode cX4_append 8 = .ok (.iload_n 1, 1) := by decide +kernel
theorem dX4_append_9 : decode cX4_append 9 = .ok (.iastore, 1) := by decide +kernel
theorem dX4_append_10 : decode cX4_append 10 = .ok (.aload_n 0, 1) := by decide +kernel
theorem dX4_append_11 : decode cX4_append 11 = .ok (.getfield 17, 3) := by decide +kernel
theorem dX4_append_14 : decode cX4_append 14 = .ok (.aload_n 0, 1) := by decide +kernel
theorem dX4_append_15 : decode cX4_append 15 = .ok (.getfield 33, 3) := by decide +kernel
theorem dX4_append_18 : decode cX4_append 18 = .ok (.iload_n 2, 1) := by decide +kernel
theorem dX4_append_19 : decode cX4_append 19 = .ok (.iastore, 1) := by decide +kernel
theorem dX4_append_20 : decode cX4_append 20 = .ok (.aload_n 0, 1) := by decide +kernel
theorem dX4_append_21 : decode cX4_append 21 = .ok (.dup, 1) := by decide +kernel
theorem dX4_append_22 : decode cX4_append 22 = .ok (.getfield 33, 3) := by decide +kernel
theorem dX4_append_25 : decode cX4_append 25 = .ok (.iconst 1, 1) := by decide +kernel
theorem dX4_append_26 : decode cX4_append 26 = .ok (.iadd, 1) := by decide +kernel
theorem dX4_append_27 : decode cX4_append 27 = .ok (.putfield 33, 3) := by decide +kernel
theorem dX4_append_30 : decode cX4_append 30 = .ok (.return_, 1) := by decide +kernel
theorem dX4_touch_0 : decode cX4_touch 0 = .ok (.aload_n 0, 1) := by decide +kernel
theorem dX4_touch_1 : decode cX4_touch 1 = .ok (.getfield 13, 3) := by decide +kernel
theorem dX4_touch_4 : decode cX4_touch 4 = .ok (.iload_n 1, 1) := by decide +kernel
theorem dX4_touch_5 : decode cX4_touch 5 = .ok (.iaload, 1) := by decide +kernel
theorem dX4_touch_6 : decode cX4_touch 6 = .ok (.istore_n 2, 1) := by decide +kernel
theorem dX4_touch_7 : decode cX4_touch 7 = .ok (.aload_n 0, 1) := by decide +kernel
theorem dX4_touch_8 : decode cX4_touch 8 = .ok (.getfield 17, 3) := by decide +kernel
theorem dX4_touch_11 : decode cX4_touch 11 = .ok (.iload_n 1, 1) := by decide +kernel
theorem dX4_touch_12 : decode cX4_touch 12 = .ok (.iaload, 1) := by decide +kernel
theorem dX4_touch_13 : decode cX4_touch 13 = .ok (.istore_n 3, 1) := by decide +kernel
theorem dX4_touch_14 : decode cX4_touch 14 = .ok (.aload_n 0, 1) := by decide +kernel
theorem dX4_touch_15 : decode cX4_touch 15 = .ok (.iload_n 1, 1) := by decide +kernel
theorem dX4_touch_16 : decode cX4_touch 16 = .ok (.invokevirtual 46, 3) := by decide +kernel
theorem dX4_touch_19 : decode cX4_touch 19 = .ok (.aload_n 0, 1) := by decide +kernel
theorem dX4_touch_20 : decode cX4_touch 20 = .ok (.iload_n 2, 1) := by decide +kernel
theorem dX4_touch_21 : decode cX4_touch 21 = .ok (.iload_n 3, 1) := by decide +kernel
theorem dX4_touch_22 : decode cX4_touch 22 = .ok (.invokevirtual 50, 3) := by decide +kernel
theorem dX4_touch_25 : decode cX4_touch 25 = .ok (.return_, 1) := by decide +kernel
theorem dX4_full_0 : decode cX4_full 0 = .ok (.aload_n 0, 1) := by decide +kernel
theorem dX4_full_1 : decode cX4_full 1 = .ok (.getfield 36, 3) := by decide +kernel
theorem dX4_full_4 : decode cX4_full 4 = .ok (.iconst 2, 1) := by decide +kernel
theorem dX4_full_5 : decode cX4_full 5 = .ok (.if_icmp .ge 25, 3) := by decide +kernel
theorem dX4_full_8 : decode cX4_full 8 = .ok (.aload_n 0, 1) := by decide +kernel
theorem dX4_full_9 : decode cX4_full 9 = .ok (.getfield 33, 3) := by decide +kernel
theorem dX4_full_12 : decode cX4_full 12 = .ok (.sipush 2000, 3) := by decide +kernel
theorem dX4_full_15 : decode cX4_full 15 = .ok (.if_icmp .ne 15, 3) := by decide +kernel
theorem dX4_full_18 : decode cX4_full 18 = .ok (.aload_n 0, 1) := by decide +kernel
theorem dX4_full_19 : decode cX4_full 19 = .ok (.iload_n 1, 1) := by decide +kernel
theorem dX4_full_20 : decode cX4_full 20 = .ok (.invokevirtual 54, 3) := by decide +kernel
theorem dX4_full_23 : decode cX4_full 23 = .ok (.ifCond .ge 7, 3) := by decide +kernel
theorem dX4_full_26 : decode cX4_full 26 = .ok (.iconst 1, 1) := by decide +kernel
theorem dX4_full_27 : decode cX4_full 27 = .ok (.goto 4, 3) := by decide +kernel
theorem dX4_full_30 : decode cX4_full 30 = .ok (.iconst 0, 1) := by decide +kernel
theorem dX4_full_31 : decode cX4_full 31 = .ok (.ireturn, 1) := by decide +kernel
theorem dX4_enter_0 : decode cX4_enter 0 = .ok (.aload_n 0, 1) := by decide +kernel
theorem dX4_enter_1 : decode cX4_enter 1 = .ok (.iload_n 1, 1) := by decide +kernel
theorem dX4_enter_2 : decode cX4_enter 2 = .ok (.invokevirtual 54, 3) := by decide +kernel
theorem dX4_enter_5 : decode cX4_enter 5 = .ok (.istore_n 3, 1) := by decide +kernel
theorem dX4_enter_6 : decode cX4_enter 6 = .ok (.iload_n 3, 1) := by decide +kernel
theorem dX4_enter_7 : decode cX4_enter 7 = .ok (.ifCond .lt 24, 3) := by decide +kernel
theorem dX4_enter_10 : decode cX4_enter 10 = .ok (.aload_n 0, 1) := by decide +kernel
theorem dX4_enter_11 : decode cX4_enter 11 = .ok (.getfield 17, 3) := by decide +kernel
theorem dX4_enter_14 : decode cX4_enter 14 = .ok (.iload_n 3, 1) := by decide +kernel
theorem dX4_enter_15 : decode cX4_enter 15 = .ok (.iload_n 2, 1) := by decide +kernel
theorem dX4_enter_16 : decode cX4_enter 16 = .ok (.iastore, 1) := by decide +kernel
theorem dX4_enter_17 : decode cX4_enter 17 = .ok (.aload_n 0, 1) := by decide +kernel
theorem dX4_enter_18 : decode cX4_enter 18 = .ok (.getfield 36, 3) := by decide +kernel
theorem dX4_enter_21 : decode cX4_enter 21 = .ok (.iconst 2, 1) := by decide +kernel
theorem dX4_enter_22 : decode cX4_enter 22 = .ok (.if_icmp .ne 8, 3) := by decide +kernel
theorem dX4_enter_25 : decode cX4_enter 25 = .ok (.aload_n 0, 1) := by decide +kernel
theorem dX4_enter_26 : decode cX4_enter 26 = .ok (.iload_n 3, 1) := by decide +kernel
theorem dX4_enter_27 : decode cX4_enter 27 = .ok (.invokevirtual 57, 3) := by decide +kernel
theorem dX4_enter_30 : decode cX4_enter 30 = .ok (.return_, 1) := by decide +kernel
theorem dX4_enter_31 : decode cX4_enter 31 = .ok (.aload_n 0, 1) := by decide +kernel
theorem dX4_enter_32 : decode cX4_enter 32 = .ok (.getfield 36, 3) := by decide +kernel
theorem dX4_enter_35 : decode cX4_enter 35 = .ok (.iconst 2, 1) := by decide +kernel
theorem dX4_enter_36 : decode cX4_enter 36 = .ok (.if_icmp .ne 19, 3) := by decide +kernel
theorem dX4_enter_39 : decode cX4_enter 39 = .ok (.aload_n 0, 1) := by decide +kernel
theorem dX4_enter_40 : decode cX4_enter 40 = .ok (.getfield 33, 3) := by decide +kernel
theorem dX4_enter_43 : decode cX4_enter 43 = .ok (.aload_n 0, 1) := by decide +kernel
theorem dX4_enter_44 : decode cX4_enter 44 = .ok (.getfield 42, 3) := by decide +kernel
theorem dX4_enter_47 : decode cX4_enter 47 = .ok (.if_icmp .ne 8, 3) := by decide +kernel
theorem dX4_enter_50 : decode cX4_enter 50 = .ok (.aload_n 0, 1) := by decide +kernel
theorem dX4_enter_51 : decode cX4_enter 51 = .ok (.iconst 0, 1) := by decide +kernel
theorem dX4_enter_52 : decode cX4_enter 52 = .ok (.invokevirtual 46, 3) := by decide +kernel
theorem dX4_enter_55 : decode cX4_enter 55 = .ok (.aload_n 0, 1) := by decide +kernel
theorem dX4_enter_56 : decode cX4_enter 56 = .ok (.iload_n 1, 1) := by decide +kernel
theorem dX4_enter_57 : decode cX4_enter 57 = .ok (.iload_n 2, 1) := by decide +kernel
theorem dX4_enter_58 : decode cX4_enter 58 = .ok (.invokevirtual 50, 3) := by decide +kernel
theorem dX4_enter_61 : decode cX4_enter 61 = .ok (.aload_n 0, 1) := by decide +kernel
theorem dX4_enter_62 : decode cX4_enter 62 = .ok (.getfield 36, 3) := by decide +kernel
theorem dX4_enter_65 : decode cX4_enter 65 = .ok (.ifCond .ne 28, 3) := by decide +kernel
theorem dX4_enter_68 : decode cX4_enter 68 = .ok (.iconst 4, 1) := by decide +kernel
theorem dX4_enter_69 : decode cX4_enter 69 = .ok (.aload_n 0, 1) := by decide +kernel
theorem dX4_enter_70 : decode cX4_enter 70 = .ok (.getfield 33, 3) := by decide +kernel
theorem dX4_enter_73 : decode cX4_enter 73 = .ok (.imul, 1) := by decide +kernel
theorem dX4_enter_74 : decode cX4_enter 74 = .ok (.iconst 3, 1) := by decide +kernel
theorem dX4_enter_75 : decode cX4_enter 75 = .ok (.aload_n 0, 1) := by decide +kernel
theorem dX4_enter_76 : decode cX4_enter 76 = .ok (.getfield 7, 3) := by decide +kernel
theorem dX4_enter_79 : decode cX4_enter 79 = .ok (.imul, 1) := by decide +kernel
theorem dX4_enter_80 : decode cX4_enter 80 = .ok (.if_icmp .le 13, 3) := by decide +kernel
theorem dX4_enter_83 : decode cX4_enter 83 = .ok (.aload_n 0, 1) := by decide +kernel
theorem dX4_enter_84 : decode cX4_enter 84 = .ok (.dup, 1) := by decide +kernel
theorem dX4_enter_85 : decode cX4_enter 85 = .ok (.getfield 7, 3) := by decide +kernel
theorem dX4_enter_88 : decode cX4_enter 88 = .ok (.iconst 2, 1) := by decide +kernel
theorem dX4_enter_89 : decode cX4_enter 89 = .ok (.imul, 1) := by decide +kernel
theorem dX4_enter_90 : decode cX4_enter 90 = .ok (.putfield 7, 3) := by decide +kernel
theorem dX4_enter_93 : decode cX4_enter 93 = .ok (.return_, 1) := by decide +kernel
theorem dX4_put_0 : decode cX4_put 0 = .ok (.aload_n 0, 1) := by decide +kernel
theorem dX4_put_1 : decode cX4_put 1 = .ok (.iconst 0, 1) := by decide +kernel
theorem dX4_put_2 : decode cX4_put 2 = .ok (.putfield 26, 3) := by decide +kernel
theorem dX4_put_5 : decode cX4_put 5 = .ok (.aload_n 0, 1) := by decide +kernel
theorem dX4_put_6 : decode cX4_put 6 = .ok (.iload_n 1, 1) := by decide +kernel
theorem dX4_put_7 : decode cX4_put 7 = .ok (.invokevirtual 60, 3) := by decide +kernel
theorem dX4_put_10 : decode cX4_put 10 = .ok (.ifCond .eq 10, 3) := by decide +kernel
theorem dX4_put_13 : decode cX4_put 13 = .ok (.aload_n 0, 1) := by decide +kernel
theorem dX4_put_14 : decode cX4_put 14 = .ok (.iconst 1, 1) := by decide +kernel
theorem dX4_put_15 : decode cX4_put 15 = .ok (.invokevirtual 29, 3) := by decide +kernel
theorem dX4_put_18 : decode cX4_put 18 = .ok (.i2l, 1) := by decide +kernel
theorem dX4_put_19 : decode cX4_put 19 = .ok (.lreturn, 1) := by decide +kernel
theorem dX4_put_20 : decode cX4_put 20 = .ok (.aload_n 0, 1) := by decide +kernel
theorem dX4_put_21 : decode cX4_put 21 = .ok (.iload_n 1, 1) := by decide +kernel
theorem dX4_put_22 : decode cX4_put 22 = .ok (.invokevirtual 54, 3) := by decide +kernel
theorem dX4_put_25 : decode cX4_put 25 = .ok (.istore_n 3, 1) := by decide +kernel
theorem dX4_put_26 : decode cX4_put 26 = .ok (.iload_n 3, 1) := by decide +kernel
theorem dX4_put_27 : decode cX4_put 27 = .ok (.ifCond .ge 9, 3) := by decide +kernel
theorem dX4_put_30 : decode cX4_put 30 = .ok (.ldc2_w 64, 3) := by decide +kernel
theorem dX4_put_33 : decode cX4_put 33 = .ok (.goto 10, 3) := by decide +kernel
theorem dX4_put_36 : decode cX4_put 36 = .ok (.aload_n 0, 1) := by decide +kernel
theorem dX4_put_37 : decode cX4_put 37 = .ok (.getfield 17, 3) := by decide +kernel
theorem dX4_put_40 : decode cX4_put 40 = .ok (.iload_n 3, 1) := by decide +kernel
theorem dX4_put_41 : decode cX4_put 41 = .ok (.iaload, 1) := by decide +kernel
theorem dX4_put_42 : decode cX4_put 42 = .ok (.i2l, 1) := by decide +kernel
theorem dX4_put_43 : decode cX4_put 43 = .ok (.lstore 4, 2) := by decide +kernel
theorem dX4_put_45 : decode cX4_put 45 = .ok (.aload_n 0, 1) := by decide +kernel
theorem dX4_put_46 : decode cX4_put 46 = .ok (.iload_n 1, 1) := by decide +kernel
theorem dX4_put_47 : decode cX4_put 47 = .ok (.iload_n 2, 1) := by decide +kernel
theorem dX4_put_48 : decode cX4_put 48 = .ok (.invokevirtual 66, 3) := by decide +kernel
theorem dX4_put_51 : decode cX4_put 51 = .ok (.lload 4, 2) := by decide +kernel
theorem dX4_put_53 : decode cX4_put 53 = .ok (.lreturn, 1) := by decide +kernel
theorem dX4_find_0 : decode cX4_find 0 = .ok (.aload_n 0, 1) := by decide +kernel
theorem dX4_find_1 : decode cX4_find 1 = .ok (.iconst 0, 1) := by decide +kernel
theorem dX4_find_2 : decode cX4_find 2 = .ok (.putfield 26, 3) := by decide +kernel
theorem dX4_find_5 : decode cX4_find 5 = .ok (.aload_n 0, 1) := by decide +kernel
theorem dX4_find_6 : decode cX4_find 6 = .ok (.iload_n 1, 1) := by decide +kernel
theorem dX4_find_7 : decode cX4_find 7 = .ok (.invokevirtual 54, 3) := by decide +kernel
theorem dX4_find_10 : decode cX4_find 10 = .ok (.istore_n 3, 1) := by decide +kernel
theorem dX4_find_11 : decode cX4_find 11 = .ok (.iload_n 3, 1) := by decide +kernel
theorem dX4_find_12 : decode cX4_find 12 = .ok (.ifCond .ge 9, 3) := by decide +kernel
theorem dX4_find_15 : decode cX4_find 15 = .ok (.aload_n 0, 1) := by decide +kernel
theorem dX4_find_16 : decode cX4_find 16 = .ok (.iconst 1, 1) := by decide +kernel
theorem dX4_find_17 : decode cX4_find 17 = .ok (.invokevirtual 29, 3) := by decide +kernel
theorem dX4_find_20 : decode cX4_find 20 = .ok (.ireturn, 1) := by decide +kernel
theorem dX4_find_21 : decode cX4_find 21 = .ok (.aload_n 0, 1) := by decide +kernel
theorem dX4_find_22 : decode cX4_find 22 = .ok (.getfield 17, 3) := by decide +kernel
theorem dX4_find_25 : decode cX4_find 25 = .ok (.iload_n 3, 1) := by decide +kernel
theorem dX4_find_26 : decode cX4_find 26 = .ok (.iaload, 1) := by decide +kernel
theorem dX4_find_27 : decode cX4_find 27 = .ok (.istore 4, 2) := by decide +kernel
theorem dX4_find_29 : decode cX4_find 29 = .ok (.iload_n 2, 1) := by decide +kernel
theorem dX4_find_30 : decode cX4_find 30 = .ok (.ifCond .eq 11, 3) := by decide +kernel
theorem dX4_find_33 : decode cX4_find 33 = .ok (.aload_n 0, 1) := by decide +kernel
theorem dX4_find_34 : decode cX4_find 34 = .ok (.iload_n 3, 1) := by decide +kernel
theorem dX4_find_35 : decode cX4_find 35 = .ok (.invokevirtual 46, 3) := by decide +kernel
theorem dX4_find_38 : decode cX4_find 38 = .ok (.goto 16, 3) := by decide +kernel
theorem dX4_find_41 : decode cX4_find 41 = .ok (.aload_n 0, 1) := by decide +kernel
theorem dX4_find_42 : decode cX4_find 42 = .ok (.getfield 36, 3) := by decide +kernel
theorem dX4_find_45 : decode cX4_find 45 = .ok (.iconst 2, 1) := by decide +kernel
theorem dX4_find_46 : decode cX4_find 46 = .ok (.if_icmp .ne 8, 3) := by decide +kernel
theorem dX4_find_49 : decode cX4_find 49 = .ok (.aload_n 0, 1) := by decide +kernel
theorem dX4_find_50 : decode cX4_find 50 = .ok (.iload_n 3, 1) := by decide +kernel
theorem dX4_find_51 : decode cX4_find 51 = .ok (.invokevirtual 57, 3) := by decide +kernel
theorem dX4_find_54 : decode cX4_find 54 = .ok (.iload 4, 2) := by decide +kernel
theorem dX4_find_56 : decode cX4_find 56 = .ok (.ireturn, 1) := by decide +kernel
theorem dX4_has_0 : decode cX4_has 0 = .ok (.aload_n 0, 1) := by decide +kernel
theorem dX4_has_1 : decode cX4_has 1 = .ok (.iconst 0, 1) := by decide +kernel
theorem dX4_has_2 : decode cX4_has 2 = .ok (.putfield 26, 3) := by decide +kernel
theorem dX4_has_5 : decode cX4_has 5 = .ok (.aload_n 0, 1) := by decide +kernel
theorem dX4_has_6 : decode cX4_has 6 = .ok (.iload_n 1, 1) := by decide +kernel
theorem dX4_has_7 : decode cX4_has 7 = .ok (.invokevirtual 54, 3) := by decide +kernel
theorem dX4_has_10 : decode cX4_has 10 = .ok (.ifCond .lt 7, 3) := by decide +kernel
theorem dX4_has_13 : decode cX4_has 13 = .ok (.iconst 1, 1) := by decide +kernel
theorem dX4_has_14 : decode cX4_has 14 = .ok (.goto 4, 3) := by decide +kernel
theorem dX4_has_17 : decode cX4_has 17 = .ok (.iconst 0, 1) := by decide +kernel
theorem dX4_has_18 : decode cX4_has 18 = .ok (.ireturn, 1) := by decide +kernel
theorem dX4_fill_0 : decode cX4_fill 0 = .ok (.aload_n 0, 1) := by decide +kernel
theorem dX4_fill_1 : decode cX4_fill 1 = .ok (.iconst 0, 1) := by decide +kernel
theorem dX4_fill_2 : decode cX4_fill 2 = .ok (.putfield 26, 3) := by decide +kernel
theorem dX4_fill_5 : decode cX4_fill 5 = .ok (.iload_n 3, 1) := by decide +kernel
theorem dX4_fill_6 : decode cX4_fill 6 = .ok (.ifCond .lt 10, 3) := by decide +kernel
theorem dX4_fill_9 : decode cX4_fill 9 = .ok (.iload_n 3, 1) := by decide +kernel
theorem dX4_fill_10 : decode cX4_fill 10 = .ok (.sipush 2000, 3) := by decide +kernel
theorem dX4_fill_13 : decode cX4_fill 13 = .ok (.if_icmp .le 9, 3) := by decide +kernel
theorem dX4_fill_16 : decode cX4_fill 16 = .ok (.aload_n 0, 1) := by decide +kernel
theorem dX4_fill_17 : decode cX4_fill 17 = .ok (.iconst 1, 1) := by decide +kernel
theorem dX4_fill_18 : decode cX4_fill 18 = .ok (.invokevirtual 29, 3) := by decide +kernel
theorem dX4_fill_21 : decode cX4_fill 21 = .ok (.ireturn, 1) := by decide +kernel
theorem dX4_fill_22 : decode cX4_fill 22 = .ok (.iconst 0, 1) := by decide +kernel
theorem dX4_fill_23 : decode cX4_fill 23 = .ok (.istore 4, 2) := by decide +kernel
theorem dX4_fill_25 : decode cX4_fill 25 = .ok (.iload 4, 2) := by decide +kernel
theorem dX4_fill_27 : decode cX4_fill 27 = .ok (.iload_n 3, 1) := by decide +kernel
theorem dX4_fill_28 : decode cX4_fill 28 = .ok (.if_icmp .ge 34, 3) := by decide +kernel
theorem dX4_fill_31 : decode cX4_fill 31 = .ok (.aload_n 0, 1) := by decide +kernel
theorem dX4_fill_32 : decode cX4_fill 32 = .ok (.iload_n 1, 1) := by decide +kernel
theorem dX4_fill_33 : decode cX4_fill 33 = .ok (.iload 4, 2) := by decide +kernel
theorem dX4_fill_35 : decode cX4_fill 35 = .ok (.iload_n 2, 1) := by decide +kernel
theorem dX4_fill_36 : decode cX4_fill 36 = .ok (.imul, 1) := by decide +kernel
theorem dX4_fill_37 : decode cX4_fill 37 = .ok (.iadd, 1) := by decide +kernel
theorem dX4_fill_38 : decode cX4_fill 38 = .ok (.invokevirtual 60, 3) := by decide +kernel
theorem dX4_fill_41 : decode cX4_fill 41 = .ok (.ifCond .ne 21, 3) := by decide +kernel
theorem dX4_fill_44 : decode cX4_fill 44 = .ok (.aload_n 0, 1) := by decide +kernel
theorem dX4_fill_45 : decode cX4_fill 45 = .ok (.iload_n 1, 1) := by decide +kernel
theorem dX4_fill_46 : decode cX4_fill 46 = .ok (.iload 4, 2) := by decide +kernel
theorem dX4_fill_48 : decode cX4_fill 48 = .ok (.iload_n 2, 1) := by decide +kernel
theorem dX4_fill_49 : decode cX4_fill 49 = .ok (.imul, 1) := by decide +kernel
theorem dX4_fill_50 : decode cX4_fill 50 = .ok (.iadd, 1) := by decide +kernel
theorem dX4_fill_51 : decode cX4_fill 51 = .ok (.iload 4, 2) := by decide +kernel
theorem dX4_fill_53 : decode cX4_fill 53 = .ok (.invokevirtual 66, 3) := by decide +kernel
theorem dX4_fill_56 : decode cX4_fill 56 = .ok (.iinc 4 1, 3) := by decide +kernel
theorem dX4_fill_59 : decode cX4_fill 59 = .ok (.goto (-34), 3) := by decide +kernel
theorem dX4_fill_62 : decode cX4_fill 62 = .ok (.aload_n 0, 1) := by decide +kernel
theorem dX4_fill_63 : decode cX4_fill 63 = .ok (.getfield 33, 3) := by decide +kernel
theorem dX4_fill_66 : decode cX4_fill 66 = .ok (.ireturn, 1) := by decide +kernel
theorem dX4_lay_0 : decode cX4_lay 0 = .ok (.aload_n 0, 1) := by decide +kernel
theorem dX4_lay_1 : decode cX4_lay 1 = .ok (.getfield 36, 3) := by decide +kernel
theorem dX4_lay_4 : decode cX4_lay 4 = .ok (.ifCond .le 27, 3) := by decide +kernel
theorem dX4_lay_7 : decode cX4_lay 7 = .ok (.iconst 0, 1) := by decide +kernel
theorem dX4_lay_8 : decode cX4_lay 8 = .ok (.istore_n 1, 1) := by decide +kernel
theorem dX4_lay_9 : decode cX4_lay 9 = .ok (.iload_n 1, 1) := by decide +kernel
theorem dX4_lay_10 : decode cX4_lay 10 = .ok (.aload_n 0, 1) := by decide +kernel
theorem dX4_lay_11 : decode cX4_lay 11 = .ok (.getfield 33, 3) := by decide +kernel
theorem dX4_lay_14 : decode cX4_lay 14 = .ok (.if_icmp .ge 16, 3) := by decide +kernel
theorem dX4_lay_17 : decode cX4_lay 17 = .ok (.aload_n 0, 1) := by decide +kernel
theorem dX4_lay_18 : decode cX4_lay 18 = .ok (.getfield 20, 3) := by decide +kernel
theorem dX4_lay_21 : decode cX4_lay 21 = .ok (.iload_n 1, 1) := by decide +kernel
theorem dX4_lay_22 : decode cX4_lay 22 = .ok (.iload_n 1, 1) := by decide +kernel
theorem dX4_lay_23 : decode cX4_lay 23 = .ok (.iastore, 1) := by decide +kernel
theorem dX4_lay_24 : decode cX4_lay 24 = .ok (.iinc 1 1, 3) := by decide +kernel
theorem dX4_lay_27 : decode cX4_lay 27 = .ok (.goto (-18), 3) := by decide +kernel
theorem dX4_lay_30 : decode cX4_lay 30 = .ok (.return_, 1) := by decide +kernel
theorem dX4_lay_31 : decode cX4_lay 31 = .ok (.iconst 0, 1) := by decide +kernel
theorem dX4_lay_32 : decode cX4_lay 32 = .ok (.istore_n 1, 1) := by decide +kernel
theorem dX4_lay_33 : decode cX4_lay 33 = .ok (.iload_n 1, 1) := by decide +kernel
theorem dX4_lay_34 : decode cX4_lay 34 = .ok (.aload_n 0, 1) := by decide +kernel
theorem dX4_lay_35 : decode cX4_lay 35 = .ok (.getfield 7, 3) := by decide +kernel
theorem dX4_lay_38 : decode cX4_lay 38 = .ok (.if_icmp .ge 16, 3) := by decide +kernel
theorem dX4_lay_41 : decode cX4_lay 41 = .ok (.aload_n 0, 1) := by decide +kernel
theorem dX4_lay_42 : decode cX4_lay 42 = .ok (.getfield 23, 3) := by decide +kernel
theorem dX4_lay_45 : decode cX4_lay 45 = .ok (.iload_n 1, 1) := by decide +kernel
theorem dX4_lay_46 : decode cX4_lay 46 = .ok (.iconst 0, 1) := by decide +kernel
theorem dX4_lay_47 : decode cX4_lay 47 = .ok (.iastore, 1) := by decide +kernel
theorem dX4_lay_48 : decode cX4_lay 48 = .ok (.iinc 1 1, 3) := by decide +kernel
theorem dX4_lay_51 : decode cX4_lay 51 = .ok (.goto (-18), 3) := by decide +kernel
theorem dX4_lay_54 : decode cX4_lay 54 = .ok (.iconst 0, 1) := by decide +kernel
theorem dX4_lay_55 : decode cX4_lay 55 = .ok (.istore_n 1, 1) := by decide +kernel
theorem dX4_lay_56 : decode cX4_lay 56 = .ok (.iload_n 1, 1) := by decide +kernel
theorem dX4_lay_57 : decode cX4_lay 57 = .ok (.aload_n 0, 1) := by decide +kernel
theorem dX4_lay_58 : decode cX4_lay 58 = .ok (.getfield 33, 3) := by decide +kernel
theorem dX4_lay_61 : decode cX4_lay 61 = .ok (.if_icmp .ge 28, 3) := by decide +kernel
theorem dX4_lay_64 : decode cX4_lay 64 = .ok (.aload_n 0, 1) := by decide +kernel
theorem dX4_lay_65 : decode cX4_lay 65 = .ok (.getfield 23, 3) := by decide +kernel
theorem dX4_lay_68 : decode cX4_lay 68 = .ok (.aload_n 0, 1) := by decide +kernel
theorem dX4_lay_69 : decode cX4_lay 69 = .ok (.aload_n 0, 1) := by decide +kernel
theorem dX4_lay_70 : decode cX4_lay 70 = .ok (.getfield 13, 3) := by decide +kernel
theorem dX4_lay_73 : decode cX4_lay 73 = .ok (.iload_n 1, 1) := by decide +kernel
theorem dX4_lay_74 : decode cX4_lay 74 = .ok (.iaload, 1) := by decide +kernel
theorem dX4_lay_75 : decode cX4_lay 75 = .ok (.invokevirtual 69, 3) := by decide +kernel
theorem dX4_lay_78 : decode cX4_lay 78 = .ok (.dup2, 1) := by decide +kernel
theorem dX4_lay_79 : decode cX4_lay 79 = .ok (.iaload, 1) := by decide +kernel
theorem dX4_lay_80 : decode cX4_lay 80 = .ok (.iconst 1, 1) := by decide +kernel
theorem dX4_lay_81 : decode cX4_lay 81 = .ok (.iadd, 1) := by decide +kernel
theorem dX4_lay_82 : decode cX4_lay 82 = .ok (.iastore, 1) := by decide +kernel
theorem dX4_lay_83 : decode cX4_lay 83 = .ok (.iinc 1 1, 3) := by decide +kernel
theorem dX4_lay_86 : decode cX4_lay 86 = .ok (.goto (-30), 3) := by decide +kernel
theorem dX4_lay_89 : decode cX4_lay 89 = .ok (.iconst 0, 1) := by decide +kernel
theorem dX4_lay_90 : decode cX4_lay 90 = .ok (.istore_n 1, 1) := by decide +kernel
theorem dX4_lay_91 : decode cX4_lay 91 = .ok (.iconst 0, 1) := by decide +kernel
theorem dX4_lay_92 : decode cX4_lay 92 = .ok (.istore_n 2, 1) := by decide +kernel
theorem dX4_lay_93 : decode cX4_lay 93 = .ok (.iload_n 2, 1) := by decide +kernel
theorem dX4_lay_94 : decode cX4_lay 94 = .ok (.aload_n 0, 1) := by decide +kernel
theorem dX4_lay_95 : decode cX4_lay 95 = .ok (.getfield 7, 3) := by decide +kernel
theorem dX4_lay_98 : decode cX4_lay 98 = .ok (.if_icmp .ge 27, 3) := by decide +kernel
theorem dX4_lay_101 : decode cX4_lay 101 = .ok (.aload_n 0, 1) := by decide +kernel
theorem dX4_lay_102 : decode cX4_lay 102 = .ok (.getfield 23, 3) := by decide +kernel
theorem dX4_lay_105 : decode cX4_lay 105 = .ok (.iload_n 2, 1) := by decide +kernel
theorem dX4_lay_106 : decode cX4_lay 106 = .ok (.iaload, 1) := by decide +kernel
theorem dX4_lay_107 : decode cX4_lay 107 = .ok (.istore_n 3, 1) := by decide +kernel
theorem dX4_lay_108 : decode cX4_lay 108 = .ok (.aload_n 0, 1) := by decide +kernel
theorem dX4_lay_109 : decode cX4_lay 109 = .ok (.getfield 23, 3) := by decide +kernel
theorem dX4_lay_112 : decode cX4_lay 112 = .ok (.iload_n 2, 1) := by decide +kernel
theorem dX4_lay_113 : decode cX4_lay 113 = .ok (.iload_n 1, 1) := by decide +kernel
theorem dX4_lay_114 : decode cX4_lay 114 = .ok (.iastore, 1) := by decide +kernel
theorem dX4_lay_115 : decode cX4_lay 115 = .ok (.iload_n 1, 1) := by decide +kernel
theorem dX4_lay_116 : decode cX4_lay 116 = .ok (.iload_n 3, 1) := by decide +kernel
theorem dX4_lay_117 : decode cX4_lay 117 = .ok (.iadd, 1) := by decide +kernel
theorem dX4_lay_118 : decode cX4_lay 118 = .ok (.istore_n 1, 1) := by decide +kernel
theorem dX4_lay_119 : decode cX4_lay 119 = .ok (.iinc 2 1, 3) := by decide +kernel
theorem dX4_lay_122 : decode cX4_lay 122 = .ok (.goto (-29), 3) := by decide +kernel
theorem dX4_lay_125 : decode cX4_lay 125 = .ok (.iconst 0, 1) := by decide +kernel
theorem dX4_lay_126 : decode cX4_lay 126 = .ok (.istore_n 2, 1) := by decide +kernel
theorem dX4_lay_127 : decode cX4_lay 127 = .ok (.iload_n 2, 1) := by decide +kernel
theorem dX4_lay_128 : decode cX4_lay 128 = .ok (.aload_n 0, 1) := by decide +kernel
theorem dX4_lay_129 : decode cX4_lay 129 = .ok (.getfield 33, 3) := by decide +kernel
theorem dX4_lay_132 : decode cX4_lay 132 = .ok (.if_icmp .ge 35, 3) := by decide +kernel
theorem dX4_lay_135 : decode cX4_lay 135 = .ok (.aload_n 0, 1) := by decide +kernel
theorem dX4_lay_136 : decode cX4_lay 136 = .ok (.getfield 20, 3) := by decide +kernel
theorem dX4_lay_139 : decode cX4_lay 139 = .ok (.aload_n 0, 1) := by decide +kernel
theorem dX4_lay_140 : decode cX4_lay 140 = .ok (.getfield 23, 3) := by decide +kernel
theorem dX4_lay_143 : decode cX4_lay 143 = .ok (.aload_n 0, 1) := by decide +kernel
theorem dX4_lay_144 : decode cX4_lay 144 = .ok (.aload_n 0, 1) := by decide +kernel
theorem dX4_lay_145 : decode cX4_lay 145 = .ok (.getfield 13, 3) := by decide +kernel
theorem dX4_lay_148 : decode cX4_lay 148 = .ok (.iload_n 2, 1) := by decide +kernel
theorem dX4_lay_149 : decode cX4_lay 149 = .ok (.iaload, 1) := by decide +kernel
theorem dX4_lay_150 : decode cX4_lay 150 = .ok (.invokevirtual 69, 3) := by decide +kernel
theorem dX4_lay_153 : decode cX4_lay 153 = .ok (.dup2, 1) := by decide +kernel
theorem dX4_lay_154 : decode cX4_lay 154 = .ok (.iaload, 1) := by decide +kernel
theorem dX4_lay_155 : decode cX4_lay 155 = .ok (.dup_x2, 1) := by decide +kernel
theorem dX4_lay_156 : decode cX4_lay 156 = .ok (.iconst 1, 1) := by decide +kernel
theorem dX4_lay_157 : decode cX4_lay 157 = .ok (.iadd, 1) := by decide +kernel
theorem dX4_lay_158 : decode cX4_lay 158 = .ok (.iastore, 1) := by decide +kernel
theorem dX4_lay_159 : decode cX4_lay 159 = .ok (.iload_n 2, 1) := by decide +kernel
theorem dX4_lay_160 : decode cX4_lay 160 = .ok (.iastore, 1) := by decide +kernel
theorem dX4_lay_161 : decode cX4_lay 161 = .ok (.iinc 2 1, 3) := by decide +kernel
theorem dX4_lay_164 : decode cX4_lay 164 = .ok (.goto (-37), 3) := by decide +kernel
theorem dX4_lay_167 : decode cX4_lay 167 = .ok (.return_, 1) := by decide +kernel
theorem dX4_at_0 : decode cX4_at 0 = .ok (.aload_n 0, 1) := by decide +kernel
theorem dX4_at_1 : decode cX4_at 1 = .ok (.iconst 0, 1) := by decide +kernel
theorem dX4_at_2 : decode cX4_at 2 = .ok (.putfield 26, 3) := by decide +kernel
theorem dX4_at_5 : decode cX4_at 5 = .ok (.iload_n 1, 1) := by decide +kernel
theorem dX4_at_6 : decode cX4_at 6 = .ok (.ifCond .lt 11, 3) := by decide +kernel
theorem dX4_at_9 : decode cX4_at 9 = .ok (.iload_n 1, 1) := by decide +kernel
theorem dX4_at_10 : decode cX4_at 10 = .ok (.aload_n 0, 1) := by decide +kernel
theorem dX4_at_11 : decode cX4_at 11 = .ok (.getfield 33, 3) := by decide +kernel
theorem dX4_at_14 : decode cX4_at 14 = .ok (.if_icmp .lt 9, 3) := by decide +kernel
theorem dX4_at_17 : decode cX4_at 17 = .ok (.aload_n 0, 1) := by decide +kernel
theorem dX4_at_18 : decode cX4_at 18 = .ok (.iconst 1, 1) := by decide +kernel
theorem dX4_at_19 : decode cX4_at 19 = .ok (.invokevirtual 29, 3) := by decide +kernel
theorem dX4_at_22 : decode cX4_at 22 = .ok (.ireturn, 1) := by decide +kernel
theorem dX4_at_23 : decode cX4_at 23 = .ok (.aload_n 0, 1) := by decide +kernel
theorem dX4_at_24 : decode cX4_at 24 = .ok (.invokevirtual 72, 3) := by decide +kernel
theorem dX4_at_27 : decode cX4_at 27 = .ok (.aload_n 0, 1) := by decide +kernel
theorem dX4_at_28 : decode cX4_at 28 = .ok (.getfield 13, 3) := by decide +kernel
theorem dX4_at_31 : decode cX4_at 31 = .ok (.aload_n 0, 1) := by decide +kernel
theorem dX4_at_32 : decode cX4_at 32 = .ok (.getfield 20, 3) := by decide +kernel
theorem dX4_at_35 : decode cX4_at 35 = .ok (.iload_n 1, 1) := by decide +kernel
theorem dX4_at_36 : decode cX4_at 36 = .ok (.iaload, 1) := by decide +kernel
theorem dX4_at_37 : decode cX4_at 37 = .ok (.iaload, 1) := by decide +kernel
theorem dX4_at_38 : decode cX4_at 38 = .ok (.ireturn, 1) := by decide +kernel
theorem dX4_after_0 : decode cX4_after 0 = .ok (.aload_n 0, 1) := by decide +kernel
theorem dX4_after_1 : decode cX4_after 1 = .ok (.iconst 0, 1) := by decide +kernel
theorem dX4_after_2 : decode cX4_after 2 = .ok (.putfield 26, 3) := by decide +kernel
theorem dX4_after_5 : decode cX4_after 5 = .ok (.aload_n 0, 1) := by decide +kernel
theorem dX4_after_6 : decode cX4_after 6 = .ok (.invokevirtual 72, 3) := by decide +kernel
theorem dX4_after_9 : decode cX4_after 9 = .ok (.iconst 0, 1) := by decide +kernel
theorem dX4_after_10 : decode cX4_after 10 = .ok (.istore_n 2, 1) := by decide +kernel
theorem dX4_after_11 : decode cX4_after 11 = .ok (.iload_n 2, 1) := by decide +kernel
theorem dX4_after_12 : decode cX4_after 12 = .ok (.iconst 1, 1) := by decide +kernel
theorem dX4_after_13 : decode cX4_after 13 = .ok (.iadd, 1) := by decide +kernel
theorem dX4_after_14 : decode cX4_after 14 = .ok (.aload_n 0, 1) := by decide +kernel
theorem dX4_after_15 : decode cX4_after 15 = .ok (.getfield 33, 3) := by decide +kernel
theorem dX4_after_18 : decode cX4_after 18 = .ok (.if_icmp .ge 38, 3) := by decide +kernel
theorem dX4_after_21 : decode cX4_after 21 = .ok (.aload_n 0, 1) := by decide +kernel
theorem dX4_after_22 : decode cX4_after 22 = .ok (.getfield 13, 3) := by decide +kernel
theorem dX4_after_25 : decode cX4_after 25 = .ok (.aload_n 0, 1) := by decide +kernel
theorem dX4_after_26 : decode cX4_after 26 = .ok (.getfield 20, 3) := by decide +kernel
theorem dX4_after_29 : decode cX4_after 29 = .ok (.iload_n 2, 1) := by decide +kernel
theorem dX4_after_30 : decode cX4_after 30 = .ok (.iaload, 1) := by decide +kernel
theorem dX4_after_31 : decode cX4_after 31 = .ok (.iaload, 1) := by decide +kernel
theorem dX4_after_32 : decode cX4_after 32 = .ok (.iload_n 1, 1) := by decide +kernel
theorem dX4_after_33 : decode cX4_after 33 = .ok (.if_icmp .ne 17, 3) := by decide +kernel
theorem dX4_after_36 : decode cX4_after 36 = .ok (.aload_n 0, 1) := by decide +kernel
theorem dX4_after_37 : decode cX4_after 37 = .ok (.getfield 13, 3) := by decide +kernel
theorem dX4_after_40 : decode cX4_after 40 = .ok (.aload_n 0, 1) := by decide +kernel
theorem dX4_after_41 : decode cX4_after 41 = .ok (.getfield 20, 3) := by decide +kernel
theorem dX4_after_44 : decode cX4_after 44 = .ok (.iload_n 2, 1) := by decide +kernel
theorem dX4_after_45 : decode cX4_after 45 = .ok (.iconst 1, 1) := by decide +kernel
theorem dX4_after_46 : decode cX4_after 46 = .ok (.iadd, 1) := by decide +kernel
theorem dX4_after_47 : decode cX4_after 47 = .ok (.iaload, 1) := by decide +kernel
theorem dX4_after_48 : decode cX4_after 48 = .ok (.iaload, 1) := by decide +kernel
theorem dX4_after_49 : decode cX4_after 49 = .ok (.ireturn, 1) := by decide +kernel
theorem dX4_after_50 : decode cX4_after 50 = .ok (.iinc 2 1, 3) := by decide +kernel
theorem dX4_after_53 : decode cX4_after 53 = .ok (.goto (-42), 3) := by decide +kernel
theorem dX4_after_56 : decode cX4_after 56 = .ok (.aload_n 0, 1) := by decide +kernel
theorem dX4_after_57 : decode cX4_after 57 = .ok (.iconst 1, 1) := by decide +kernel
theorem dX4_after_58 : decode cX4_after 58 = .ok (.invokevirtual 29, 3) := by decide +kernel
theorem dX4_after_61 : decode cX4_after 61 = .ok (.ireturn, 1) := by decide +kernel
theorem dX4_size_0 : decode cX4_size 0 = .ok (.aload_n 0, 1) := by decide +kernel
theorem dX4_size_1 : decode cX4_size 1 = .ok (.iconst 0, 1) := by decide +kernel
theorem dX4_size_2 : decode cX4_size 2 = .ok (.putfield 26, 3) := by decide +kernel
theorem dX4_size_5 : decode cX4_size 5 = .ok (.aload_n 0, 1) := by decide +kernel
theorem dX4_size_6 : decode cX4_size 6 = .ok (.getfield 33, 3) := by decide +kernel
theorem dX4_size_9 : decode cX4_size 9 = .ok (.ireturn, 1) := by decide +kernel
theorem dX4_clear_0 : decode cX4_clear 0 = .ok (.aload_n 0, 1) := by decide +kernel
theorem dX4_clear_1 : decode cX4_clear 1 = .ok (.iconst 0, 1) := by decide +kernel
theorem dX4_clear_2 : decode cX4_clear 2 = .ok (.putfield 26, 3) := by decide +kernel
theorem dX4_clear_5 : decode cX4_clear 5 = .ok (.aload_n 0, 1) := by decide +kernel
theorem dX4_clear_6 : decode cX4_clear 6 = .ok (.getfield 33, 3) := by decide +kernel
theorem dX4_clear_9 : decode cX4_clear 9 = .ok (.istore_n 1, 1) := by decide +kernel
theorem dX4_clear_10 : decode cX4_clear 10 = .ok (.aload_n 0, 1) := by decide +kernel
theorem dX4_clear_11 : decode cX4_clear 11 = .ok (.iconst 0, 1) := by decide +kernel
theorem dX4_clear_12 : decode cX4_clear 12 = .ok (.putfield 33, 3) := by decide +kernel
theorem dX4_clear_15 : decode cX4_clear 15 = .ok (.iload_n 1, 1) := by decide +kernel
theorem dX4_clear_16 : decode cX4_clear 16 = .ok (.ireturn, 1) := by decide +kernel
theorem dX4_hash_0 : decode cX4_hash 0 = .ok (.aload_n 0, 1) := by decide +kernel
theorem dX4_hash_1 : decode cX4_hash 1 = .ok (.iconst 0, 1) := by decide +kernel
theorem dX4_hash_2 : decode cX4_hash 2 = .ok (.putfield 26, 3) := by decide +kernel
theorem dX4_hash_5 : decode cX4_hash 5 = .ok (.aload_n 0, 1) := by decide +kernel
theorem dX4_hash_6 : decode cX4_hash 6 = .ok (.invokevirtual 72, 3) := by decide +kernel
theorem dX4_hash_9 : decode cX4_hash 9 = .ok (.iconst 1, 1) := by decide +kernel
theorem dX4_hash_10 : decode cX4_hash 10 = .ok (.istore_n 1, 1) := by decide +kernel
theorem dX4_hash_11 : decode cX4_hash 11 = .ok (.iconst 0, 1) := by decide +kernel
theorem dX4_hash_12 : decode cX4_hash 12 = .ok (.istore_n 2, 1) := by decide +kernel
theorem dX4_hash_13 : decode cX4_hash 13 = .ok (.iload_n 2, 1) := by decide +kernel
theorem dX4_hash_14 : decode cX4_hash 14 = .ok (.aload_n 0, 1) := by decide +kernel
theorem dX4_hash_15 : decode cX4_hash 15 = .ok (.getfield 33, 3) := by decide +kernel
theorem dX4_hash_18 : decode cX4_hash 18 = .ok (.if_icmp .ge 41, 3) := by decide +kernel
theorem dX4_hash_21 : decode cX4_hash 21 = .ok (.bipush 31, 2) := by decide +kernel
theorem dX4_hash_23 : decode cX4_hash 23 = .ok (.bipush 31, 2) := by decide +kernel
theorem dX4_hash_25 : decode cX4_hash 25 = .ok (.iload_n 1, 1) := by decide +kernel
theorem dX4_hash_26 : decode cX4_hash 26 = .ok (.imul, 1) := by decide +kernel
theorem dX4_hash_27 : decode cX4_hash 27 = .ok (.aload_n 0, 1) := by decide +kernel
theorem dX4_hash_28 : decode cX4_hash 28 = .ok (.getfield 13, 3) := by decide +kernel
theorem dX4_hash_31 : decode cX4_hash 31 = .ok (.aload_n 0, 1) := by decide +kernel
theorem dX4_hash_32 : decode cX4_hash 32 = .ok (.getfield 20, 3) := by decide +kernel
theorem dX4_hash_35 : decode cX4_hash 35 = .ok (.iload_n 2, 1) := by decide +kernel
theorem dX4_hash_36 : decode cX4_hash 36 = .ok (.iaload, 1) := by decide +kernel
theorem dX4_hash_37 : decode cX4_hash 37 = .ok (.iaload, 1) := by decide +kernel
theorem dX4_hash_38 : decode cX4_hash 38 = .ok (.iadd, 1) := by decide +kernel
theorem dX4_hash_39 : decode cX4_hash 39 = .ok (.imul, 1) := by decide +kernel
theorem dX4_hash_40 : decode cX4_hash 40 = .ok (.aload_n 0, 1) := by decide +kernel
theorem dX4_hash_41 : decode cX4_hash 41 = .ok (.getfield 17, 3) := by decide +kernel
theorem dX4_hash_44 : decode cX4_hash 44 = .ok (.aload_n 0, 1) := by decide +kernel
theorem dX4_hash_45 : decode cX4_hash 45 = .ok (.getfield 20, 3) := by decide +kernel
theorem dX4_hash_48 : decode cX4_hash 48 = .ok (.iload_n 2, 1) := by decide +kernel
theorem dX4_hash_49 : decode cX4_hash 49 = .ok (.iaload, 1) := by decide +kernel
theorem dX4_hash_50 : decode cX4_hash 50 = .ok (.iaload, 1) := by decide +kernel
theorem dX4_hash_51 : decode cX4_hash 51 = .ok (.iadd, 1) := by decide +kernel
theorem dX4_hash_52 : decode cX4_hash 52 = .ok (.istore_n 1, 1) := by decide +kernel
theorem dX4_hash_53 : decode cX4_hash 53 = .ok (.iinc 2 1, 3) := by decide +kernel
theorem dX4_hash_56 : decode cX4_hash 56 = .ok (.goto (-43), 3) := by decide +kernel
theorem dX4_hash_59 : decode cX4_hash 59 = .ok (.iload_n 1, 1) := by decide +kernel
theorem dX4_hash_60 : decode cX4_hash 60 = .ok (.ireturn, 1) := by decide +kernel
theorem dX4_wrong_0 : decode cX4_wrong 0 = .ok (.aload_n 0, 1) := by decide +kernel
theorem dX4_wrong_1 : decode cX4_wrong 1 = .ok (.iconst 0, 1) := by decide +kernel
theorem dX4_wrong_2 : decode cX4_wrong 2 = .ok (.putfield 26, 3) := by decide +kernel
theorem dX4_wrong_5 : decode cX4_wrong 5 = .ok (.iconst 0, 1) := by decide +kernel
theorem dX4_wrong_6 : decode cX4_wrong 6 = .ok (.ireturn, 1) := by decide +kernel
