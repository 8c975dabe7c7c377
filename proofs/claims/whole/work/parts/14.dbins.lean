theorem dX0_init_0 : decode cX0_init 0 = .ok (.aload_n 0, 1) := by decide +kernel
theorem dX0_init_1 : decode cX0_init 1 = .ok (.invokespecial 3, 3) := by decide +kernel
theorem dX0_init_4 : decode cX0_init 4 = .ok (.aload_n 0, 1) := by decide +kernel
theorem dX0_init_5 : decode cX0_init 5 = .ok (.new 9, 3) := by decide +kernel
theorem dX0_init_8 : decode cX0_init 8 = .ok (.dup, 1) := by decide +kernel
theorem dX0_init_9 : decode cX0_init 9 = .ok (.invokespecial 11, 3) := by decide +kernel
theorem dX0_init_12 : decode cX0_init 12 = .ok (.putfield 12, 3) := by decide +kernel
theorem dX0_init_15 : decode cX0_init 15 = .ok (.aload_n 0, 1) := by decide +kernel
theorem dX0_init_16 : decode cX0_init 16 = .ok (.sipush 2002, 3) := by decide +kernel
theorem dX0_init_19 : decode cX0_init 19 = .ok (.newarray .int, 2) := by decide +kernel
theorem dX0_init_21 : decode cX0_init 21 = .ok (.putfield 18, 3) := by decide +kernel
theorem dX0_init_24 : decode cX0_init 24 = .ok (.aload_n 0, 1) := by decide +kernel
theorem dX0_init_25 : decode cX0_init 25 = .ok (.sipush 2002, 3) := by decide +kernel
theorem dX0_init_28 : decode cX0_init 28 = .ok (.newarray .int, 2) := by decide +kernel
theorem dX0_init_30 : decode cX0_init 30 = .ok (.putfield 22, 3) := by decide +kernel
theorem dX0_init_33 : decode cX0_init 33 = .ok (.aload_n 0, 1) := by decide +kernel
theorem dX0_init_34 : decode cX0_init 34 = .ok (.sipush 4096, 3) := by decide +kernel
theorem dX0_init_37 : decode cX0_init 37 = .ok (.newarray .int, 2) := by decide +kernel
theorem dX0_init_39 : decode cX0_init 39 = .ok (.putfield 25, 3) := by decide +kernel
theorem dX0_init_42 : decode cX0_init 42 = .ok (.aload_n 0, 1) := by decide +kernel
theorem dX0_init_43 : decode cX0_init 43 = .ok (.sipush 4096, 3) := by decide +kernel
theorem dX0_init_46 : decode cX0_init 46 = .ok (.newarray .int, 2) := by decide +kernel
theorem dX0_init_48 : decode cX0_init 48 = .ok (.putfield 28, 3) := by decide +kernel
theorem dX0_init_51 : decode cX0_init 51 = .ok (.aload_n 0, 1) := by decide +kernel
theorem dX0_init_52 : decode cX0_init 52 = .ok (.bipush 16, 2) := by decide +kernel
theorem dX0_init_54 : decode cX0_init 54 = .ok (.putfield 31, 3) := by decide +kernel
theorem dX0_init_57 : decode cX0_init 57 = .ok (.aload_n 0, 1) := by decide +kernel
theorem dX0_init_58 : decode cX0_init 58 = .ok (.iconst 0, 1) := by decide +kernel
theorem dX0_init_59 : decode cX0_init 59 = .ok (.putfield 35, 3) := by decide +kernel
theorem dX0_init_62 : decode cX0_init 62 = .ok (.return_, 1) := by decide +kernel
theorem dX0_begin_0 : decode cX0_begin 0 = .ok (.aload_n 0, 1) := by decide +kernel
theorem dX0_begin_1 : decode cX0_begin 1 = .ok (.invokevirtual 38, 3) := by decide +kernel
theorem dX0_begin_4 : decode cX0_begin 4 = .ok (.aload_n 0, 1) := by decide +kernel
theorem dX0_begin_5 : decode cX0_begin 5 = .ok (.bipush 16, 2) := by decide +kernel
theorem dX0_begin_7 : decode cX0_begin 7 = .ok (.putfield 31, 3) := by decide +kernel
theorem dX0_begin_10 : decode cX0_begin 10 = .ok (.aload_n 0, 1) := by decide +kernel
theorem dX0_begin_11 : decode cX0_begin 11 = .ok (.iload_n 1, 1) := by decide +kernel
theorem dX0_begin_12 : decode cX0_begin 12 = .ok (.putfield 35, 3) := by decide +kernel
theorem dX0_begin_15 : decode cX0_begin 15 = .ok (.return_, 1) := by decide +kernel
theorem dX0_drain_0 : decode cX0_drain 0 = .ok (.aload_n 0, 1) := by decide +kernel
theorem dX0_drain_1 : decode cX0_drain 1 = .ok (.getfield 25, 3) := by decide +kernel
theorem dX0_drain_4 : decode cX0_drain 4 = .ok (.iconst 0, 1) := by decide +kernel
theorem dX0_drain_5 : decode cX0_drain 5 = .ok (.invokestatic 41, 3) := by decide +kernel
theorem dX0_drain_8 : decode cX0_drain 8 = .ok (.aload_n 0, 1) := by decide +kernel
theorem dX0_drain_9 : decode cX0_drain 9 = .ok (.getfield 28, 3) := by decide +kernel
theorem dX0_drain_12 : decode cX0_drain 12 = .ok (.iconst 0, 1) := by decide +kernel
theorem dX0_drain_13 : decode cX0_drain 13 = .ok (.invokestatic 41, 3) := by decide +kernel
theorem dX0_drain_16 : decode cX0_drain 16 = .ok (.return_, 1) := by decide +kernel
theorem dX0_isTight_0 : decode cX0_isTight 0 = .ok (.iload_n 1, 1) := by decide +kernel
theorem dX0_isTight_1 : decode cX0_isTight 1 = .ok (.iconst 4, 1) := by decide +kernel
theorem dX0_isTight_2 : decode cX0_isTight 2 = .ok (.imul, 1) := by decide +kernel
theorem dX0_isTight_3 : decode cX0_isTight 3 = .ok (.aload_n 0, 1) := by decide +kernel
theorem dX0_isTight_4 : decode cX0_isTight 4 = .ok (.getfield 31, 3) := by decide +kernel
theorem dX0_isTight_7 : decode cX0_isTight 7 = .ok (.iconst 3, 1) := by decide +kernel
theorem dX0_isTight_8 : decode cX0_isTight 8 = .ok (.imul, 1) := by decide +kernel
theorem dX0_isTight_9 : decode cX0_isTight 9 = .ok (.if_icmp .le 17, 3) := by decide +kernel
theorem dX0_isTight_12 : decode cX0_isTight 12 = .ok (.aload_n 0, 1) := by decide +kernel
theorem dX0_isTight_13 : decode cX0_isTight 13 = .ok (.getfield 31, 3) := by decide +kernel
theorem dX0_isTight_16 : decode cX0_isTight 16 = .ok (.sipush 4096, 3) := by decide +kernel
theorem dX0_isTight_19 : decode cX0_isTight 19 = .ok (.if_icmp .ge 7, 3) := by decide +kernel
theorem dX0_isTight_22 : decode cX0_isTight 22 = .ok (.iconst 1, 1) := by decide +kernel
theorem dX0_isTight_23 : decode cX0_isTight 23 = .ok (.goto 4, 3) := by decide +kernel
theorem dX0_isTight_26 : decode cX0_isTight 26 = .ok (.iconst 0, 1) := by decide +kernel
theorem dX0_isTight_27 : decode cX0_isTight 27 = .ok (.ireturn, 1) := by decide +kernel
theorem dX0_stretch_0 : decode cX0_stretch 0 = .ok (.aload_n 0, 1) := by decide +kernel
theorem dX0_stretch_1 : decode cX0_stretch 1 = .ok (.invokevirtual 38, 3) := by decide +kernel
theorem dX0_stretch_4 : decode cX0_stretch 4 = .ok (.aload_n 0, 1) := by decide +kernel
theorem dX0_stretch_5 : decode cX0_stretch 5 = .ok (.aload_n 0, 1) := by decide +kernel
theorem dX0_stretch_6 : decode cX0_stretch 6 = .ok (.getfield 31, 3) := by decide +kernel
theorem dX0_stretch_9 : decode cX0_stretch 9 = .ok (.iconst 2, 1) := by decide +kernel
theorem dX0_stretch_10 : decode cX0_stretch 10 = .ok (.imul, 1) := by decide +kernel
theorem dX0_stretch_11 : decode cX0_stretch 11 = .ok (.putfield 31, 3) := by decide +kernel
theorem dX0_stretch_14 : decode cX0_stretch 14 = .ok (.return_, 1) := by decide +kernel
theorem dX0_keyOf_0 : decode cX0_keyOf 0 = .ok (.aload_n 0, 1) := by decide +kernel
theorem dX0_keyOf_1 : decode cX0_keyOf 1 = .ok (.getfield 12, 3) := by decide +kernel
theorem dX0_keyOf_4 : decode cX0_keyOf 4 = .ok (.iload_n 1, 1) := by decide +kernel
theorem dX0_keyOf_5 : decode cX0_keyOf 5 = .ok (.invokevirtual 47, 3) := by decide +kernel
theorem dX0_keyOf_8 : decode cX0_keyOf 8 = .ok (.ireturn, 1) := by decide +kernel
theorem dX0_name_0 : decode cX0_name 0 = .ok (.aload_n 0, 1) := by decide +kernel
theorem dX0_name_1 : decode cX0_name 1 = .ok (.getfield 12, 3) := by decide +kernel
theorem dX0_name_4 : decode cX0_name 4 = .ok (.iload_n 1, 1) := by decide +kernel
theorem dX0_name_5 : decode cX0_name 5 = .ok (.iload_n 2, 1) := by decide +kernel
theorem dX0_name_6 : decode cX0_name 6 = .ok (.invokevirtual 51, 3) := by decide +kernel
theorem dX0_name_9 : decode cX0_name 9 = .ok (.return_, 1) := by decide +kernel
theorem dX0_slotOf_0 : decode cX0_slotOf 0 = .ok (.aload_n 0, 1) := by decide +kernel
theorem dX0_slotOf_1 : decode cX0_slotOf 1 = .ok (.iload_n 1, 1) := by decide +kernel
theorem dX0_slotOf_2 : decode cX0_slotOf 2 = .ok (.invokevirtual 55, 3) := by decide +kernel
theorem dX0_slotOf_5 : decode cX0_slotOf 5 = .ok (.istore_n 2, 1) := by decide +kernel
theorem dX0_slotOf_6 : decode cX0_slotOf 6 = .ok (.aload_n 0, 1) := by decide +kernel
theorem dX0_slotOf_7 : decode cX0_slotOf 7 = .ok (.getfield 28, 3) := by decide +kernel
theorem dX0_slotOf_10 : decode cX0_slotOf 10 = .ok (.iload_n 2, 1) := by decide +kernel
theorem dX0_slotOf_11 : decode cX0_slotOf 11 = .ok (.iaload, 1) := by decide +kernel
theorem dX0_slotOf_12 : decode cX0_slotOf 12 = .ok (.ifCond .eq 18, 3) := by decide +kernel
theorem dX0_slotOf_15 : decode cX0_slotOf 15 = .ok (.aload_n 0, 1) := by decide +kernel
theorem dX0_slotOf_16 : decode cX0_slotOf 16 = .ok (.getfield 12, 3) := by decide +kernel
theorem dX0_slotOf_19 : decode cX0_slotOf 19 = .ok (.aload_n 0, 1) := by decide +kernel
theorem dX0_slotOf_20 : decode cX0_slotOf 20 = .ok (.getfield 28, 3) := by decide +kernel
theorem dX0_slotOf_23 : decode cX0_slotOf 23 = .ok (.iload_n 2, 1) := by decide +kernel
theorem dX0_slotOf_24 : decode cX0_slotOf 24 = .ok (.iaload, 1) := by decide +kernel
theorem dX0_slotOf_25 : decode cX0_slotOf 25 = .ok (.iload_n 1, 1) := by decide +kernel
theorem dX0_slotOf_26 : decode cX0_slotOf 26 = .ok (.invokevirtual 58, 3) := by decide +kernel
theorem dX0_slotOf_29 : decode cX0_slotOf 29 = .ok (.ireturn, 1) := by decide +kernel
theorem dX0_slotOf_30 : decode cX0_slotOf 30 = .ok (.aload_n 0, 1) := by decide +kernel
theorem dX0_slotOf_31 : decode cX0_slotOf 31 = .ok (.getfield 25, 3) := by decide +kernel
theorem dX0_slotOf_34 : decode cX0_slotOf 34 = .ok (.iload_n 2, 1) := by decide +kernel
theorem dX0_slotOf_35 : decode cX0_slotOf 35 = .ok (.iaload, 1) := by decide +kernel
theorem dX0_slotOf_36 : decode cX0_slotOf 36 = .ok (.istore_n 3, 1) := by decide +kernel
theorem dX0_slotOf_37 : decode cX0_slotOf 37 = .ok (.iconst 0, 1) := by decide +kernel
theorem dX0_slotOf_38 : decode cX0_slotOf 38 = .ok (.istore 4, 2) := by decide +kernel
theorem dX0_slotOf_40 : decode cX0_slotOf 40 = .ok (.iload 4, 2) := by decide +kernel
theorem dX0_slotOf_42 : decode cX0_slotOf 42 = .ok (.bipush 8, 2) := by decide +kernel
theorem dX0_slotOf_44 : decode cX0_slotOf 44 = .ok (.if_icmp .ge 34, 3) := by decide +kernel
theorem dX0_slotOf_47 : decode cX0_slotOf 47 = .ok (.iload_n 3, 1) := by decide +kernel
theorem dX0_slotOf_48 : decode cX0_slotOf 48 = .ok (.ifCond .eq 30, 3) := by decide +kernel
theorem dX0_slotOf_51 : decode cX0_slotOf 51 = .ok (.aload_n 0, 1) := by decide +kernel
theorem dX0_slotOf_52 : decode cX0_slotOf 52 = .ok (.getfield 12, 3) := by decide +kernel
theorem dX0_slotOf_55 : decode cX0_slotOf 55 = .ok (.iload_n 3, 1) := by decide +kernel
theorem dX0_slotOf_56 : decode cX0_slotOf 56 = .ok (.invokevirtual 47, 3) := by decide +kernel
theorem dX0_slotOf_59 : decode cX0_slotOf 59 = .ok (.iload_n 1, 1) := by decide +kernel
theorem dX0_slotOf_60 : decode cX0_slotOf 60 = .ok (.if_icmp .ne 5, 3) := by decide +kernel
theorem dX0_slotOf_63 : decode cX0_slotOf 63 = .ok (.iload_n 3, 1) := by decide +kernel
theorem dX0_slotOf_64 : decode cX0_slotOf 64 = .ok (.ireturn, 1) := by decide +kernel
theorem dX0_slotOf_65 : decode cX0_slotOf 65 = .ok (.aload_n 0, 1) := by decide +kernel
theorem dX0_slotOf_66 : decode cX0_slotOf 66 = .ok (.getfield 18, 3) := by decide +kernel
theorem dX0_slotOf_69 : decode cX0_slotOf 69 = .ok (.iload_n 3, 1) := by decide +kernel
theorem dX0_slotOf_70 : decode cX0_slotOf 70 = .ok (.iaload, 1) := by decide +kernel
theorem dX0_slotOf_71 : decode cX0_slotOf 71 = .ok (.istore_n 3, 1) := by decide +kernel
theorem dX0_slotOf_72 : decode cX0_slotOf 72 = .ok (.iinc 4 1, 3) := by decide +kernel
theorem dX0_slotOf_75 : decode cX0_slotOf 75 = .ok (.goto (-35), 3) := by decide +kernel
theorem dX0_slotOf_78 : decode cX0_slotOf 78 = .ok (.iconst 0, 1) := by decide +kernel
theorem dX0_slotOf_79 : decode cX0_slotOf 79 = .ok (.ireturn, 1) := by decide +kernel
theorem dX0_firstFrom_0 : decode cX0_firstFrom 0 = .ok (.iload_n 1, 1) := by decide +kernel
theorem dX0_firstFrom_1 : decode cX0_firstFrom 1 = .ok (.istore_n 2, 1) := by decide +kernel
theorem dX0_firstFrom_2 : decode cX0_firstFrom 2 = .ok (.iload_n 2, 1) := by decide +kernel
theorem dX0_firstFrom_3 : decode cX0_firstFrom 3 = .ok (.aload_n 0, 1) := by decide +kernel
theorem dX0_firstFrom_4 : decode cX0_firstFrom 4 = .ok (.getfield 31, 3) := by decide +kernel
theorem dX0_firstFrom_7 : decode cX0_firstFrom 7 = .ok (.if_icmp .ge 25, 3) := by decide +kernel
theorem dX0_firstFrom_10 : decode cX0_firstFrom 10 = .ok (.aload_n 0, 1) := by decide +kernel
theorem dX0_firstFrom_11 : decode cX0_firstFrom 11 = .ok (.getfield 25, 3) := by decide +kernel
theorem dX0_firstFrom_14 : decode cX0_firstFrom 14 = .ok (.iload_n 2, 1) := by decide +kernel
theorem dX0_firstFrom_15 : decode cX0_firstFrom 15 = .ok (.iaload, 1) := by decide +kernel
theorem dX0_firstFrom_16 : decode cX0_firstFrom 16 = .ok (.ifCond .eq 10, 3) := by decide +kernel
theorem dX0_firstFrom_19 : decode cX0_firstFrom 19 = .ok (.aload_n 0, 1) := by decide +kernel
theorem dX0_firstFrom_20 : decode cX0_firstFrom 20 = .ok (.getfield 25, 3) := by decide +kernel
theorem dX0_firstFrom_23 : decode cX0_firstFrom 23 = .ok (.iload_n 2, 1) := by decide +kernel
theorem dX0_firstFrom_24 : decode cX0_firstFrom 24 = .ok (.iaload, 1) := by decide +kernel
theorem dX0_firstFrom_25 : decode cX0_firstFrom 25 = .ok (.ireturn, 1) := by decide +kernel
theorem dX0_firstFrom_26 : decode cX0_firstFrom 26 = .ok (.iinc 2 1, 3) := by decide +kernel
theorem dX0_firstFrom_29 : decode cX0_firstFrom 29 = .ok (.goto (-27), 3) := by decide +kernel
theorem dX0_firstFrom_32 : decode cX0_firstFrom 32 = .ok (.iconst 0, 1) := by decide +kernel
theorem dX0_firstFrom_33 : decode cX0_firstFrom 33 = .ok (.ireturn, 1) := by decide +kernel
theorem dX0_nextInPlace_0 : decode cX0_nextInPlace 0 = .ok (.aload_n 0, 1) := by decide +kernel
theorem dX0_nextInPlace_1 : decode cX0_nextInPlace 1 = .ok (.getfield 18, 3) := by decide +kernel
theorem dX0_nextInPlace_4 : decode cX0_nextInPlace 4 = .ok (.iload_n 1, 1) := by decide +kernel
theorem dX0_nextInPlace_5 : decode cX0_nextInPlace 5 = .ok (.iaload, 1) := by decide +kernel
theorem dX0_nextInPlace_6 : decode cX0_nextInPlace 6 = .ok (.ireturn, 1) := by decide +kernel
theorem dX0_behind_0 : decode cX0_behind 0 = .ok (.aload_n 0, 1) := by decide +kernel
theorem dX0_behind_1 : decode cX0_behind 1 = .ok (.getfield 18, 3) := by decide +kernel
theorem dX0_behind_4 : decode cX0_behind 4 = .ok (.iload_n 1, 1) := by decide +kernel
theorem dX0_behind_5 : decode cX0_behind 5 = .ok (.iaload, 1) := by decide +kernel
theorem dX0_behind_6 : decode cX0_behind 6 = .ok (.ifCond .eq 10, 3) := by decide +kernel
theorem dX0_behind_9 : decode cX0_behind 9 = .ok (.aload_n 0, 1) := by decide +kernel
theorem dX0_behind_10 : decode cX0_behind 10 = .ok (.getfield 18, 3) := by decide +kernel
theorem dX0_behind_13 : decode cX0_behind 13 = .ok (.iload_n 1, 1) := by decide +kernel
theorem dX0_behind_14 : decode cX0_behind 14 = .ok (.iaload, 1) := by decide +kernel
theorem dX0_behind_15 : decode cX0_behind 15 = .ok (.ireturn, 1) := by decide +kernel
theorem dX0_behind_16 : decode cX0_behind 16 = .ok (.aload_n 0, 1) := by decide +kernel
theorem dX0_behind_17 : decode cX0_behind 17 = .ok (.aload_n 0, 1) := by decide +kernel
theorem dX0_behind_18 : decode cX0_behind 18 = .ok (.aload_n 0, 1) := by decide +kernel
theorem dX0_behind_19 : decode cX0_behind 19 = .ok (.getfield 12, 3) := by decide +kernel
theorem dX0_behind_22 : decode cX0_behind 22 = .ok (.iload_n 1, 1) := by decide +kernel
theorem dX0_behind_23 : decode cX0_behind 23 = .ok (.invokevirtual 47, 3) := by decide +kernel
theorem dX0_behind_26 : decode cX0_behind 26 = .ok (.invokevirtual 55, 3) := by decide +kernel
theorem dX0_behind_29 : decode cX0_behind 29 = .ok (.iconst 1, 1) := by decide +kernel
theorem dX0_behind_30 : decode cX0_behind 30 = .ok (.iadd, 1) := by decide +kernel
theorem dX0_behind_31 : decode cX0_behind 31 = .ok (.invokevirtual 62, 3) := by decide +kernel
theorem dX0_behind_34 : decode cX0_behind 34 = .ok (.ireturn, 1) := by decide +kernel
theorem dX0_add_0 : decode cX0_add 0 = .ok (.aload_n 0, 1) := by decide +kernel
theorem dX0_add_1 : decode cX0_add 1 = .ok (.aload_n 0, 1) := by decide +kernel
theorem dX0_add_2 : decode cX0_add 2 = .ok (.getfield 12, 3) := by decide +kernel
theorem dX0_add_5 : decode cX0_add 5 = .ok (.iload_n 1, 1) := by decide +kernel
theorem dX0_add_6 : decode cX0_add 6 = .ok (.invokevirtual 47, 3) := by decide +kernel
theorem dX0_add_9 : decode cX0_add 9 = .ok (.invokevirtual 55, 3) := by decide +kernel
theorem dX0_add_12 : decode cX0_add 12 = .ok (.istore_n 2, 1) := by decide +kernel
theorem dX0_add_13 : decode cX0_add 13 = .ok (.aload_n 0, 1) := by decide +kernel
theorem dX0_add_14 : decode cX0_add 14 = .ok (.iload_n 2, 1) := by decide +kernel
theorem dX0_add_15 : decode cX0_add 15 = .ok (.iload_n 1, 1) := by decide +kernel
theorem dX0_add_16 : decode cX0_add 16 = .ok (.invokevirtual 65, 3) := by decide +kernel
theorem dX0_add_19 : decode cX0_add 19 = .ok (.aload_n 0, 1) := by decide +kernel
theorem dX0_add_20 : decode cX0_add 20 = .ok (.getfield 28, 3) := by decide +kernel
theorem dX0_add_23 : decode cX0_add 23 = .ok (.iload_n 2, 1) := by decide +kernel
theorem dX0_add_24 : decode cX0_add 24 = .ok (.iaload, 1) := by decide +kernel
theorem dX0_add_25 : decode cX0_add 25 = .ok (.ifCond .eq 26, 3) := by decide +kernel
theorem dX0_add_28 : decode cX0_add 28 = .ok (.aload_n 0, 1) := by decide +kernel
theorem dX0_add_29 : decode cX0_add 29 = .ok (.getfield 28, 3) := by decide +kernel
theorem dX0_add_32 : decode cX0_add 32 = .ok (.iload_n 2, 1) := by decide +kernel
theorem dX0_add_33 : decode cX0_add 33 = .ok (.aload_n 0, 1) := by decide +kernel
theorem dX0_add_34 : decode cX0_add 34 = .ok (.getfield 12, 3) := by decide +kernel
theorem dX0_add_37 : decode cX0_add 37 = .ok (.aload_n 0, 1) := by decide +kernel
theorem dX0_add_38 : decode cX0_add 38 = .ok (.getfield 28, 3) := by decide +kernel
theorem dX0_add_41 : decode cX0_add 41 = .ok (.iload_n 2, 1) := by decide +kernel
theorem dX0_add_42 : decode cX0_add 42 = .ok (.iaload, 1) := by decide +kernel
theorem dX0_add_43 : decode cX0_add 43 = .ok (.iload_n 1, 1) := by decide +kernel
theorem dX0_add_44 : decode cX0_add 44 = .ok (.invokevirtual 68, 3) := by decide +kernel
theorem dX0_add_47 : decode cX0_add 47 = .ok (.iastore, 1) := by decide +kernel
theorem dX0_add_48 : decode cX0_add 48 = .ok (.goto 61, 3) := by decide +kernel
theorem dX0_add_51 : decode cX0_add 51 = .ok (.aload_n 0, 1) := by decide +kernel
theorem dX0_add_52 : decode cX0_add 52 = .ok (.iload_n 2, 1) := by decide +kernel
theorem dX0_add_53 : decode cX0_add 53 = .ok (.invokevirtual 71, 3) := by decide +kernel
theorem dX0_add_56 : decode cX0_add 56 = .ok (.ifCond .eq 53, 3) := by decide +kernel
theorem dX0_add_59 : decode cX0_add 59 = .ok (.aload_n 0, 1) := by decide +kernel
theorem dX0_add_60 : decode cX0_add 60 = .ok (.getfield 25, 3) := by decide +kernel
theorem dX0_add_63 : decode cX0_add 63 = .ok (.iload_n 2, 1) := by decide +kernel
theorem dX0_add_64 : decode cX0_add 64 = .ok (.iaload, 1) := by decide +kernel
theorem dX0_add_65 : decode cX0_add 65 = .ok (.istore_n 3, 1) := by decide +kernel
theorem dX0_add_66 : decode cX0_add 66 = .ok (.iconst 0, 1) := by decide +kernel
theorem dX0_add_67 : decode cX0_add 67 = .ok (.istore 4, 2) := by decide +kernel
theorem dX0_add_69 : decode cX0_add 69 = .ok (.iload 4, 2) := by decide +kernel
theorem dX0_add_71 : decode cX0_add 71 = .ok (.bipush 8, 2) := by decide +kernel
theorem dX0_add_73 : decode cX0_add 73 = .ok (.if_icmp .gt 36, 3) := by decide +kernel
theorem dX0_add_76 : decode cX0_add 76 = .ok (.aload_n 0, 1) := by decide +kernel
theorem dX0_add_77 : decode cX0_add 77 = .ok (.getfield 28, 3) := by decide +kernel
theorem dX0_add_80 : decode cX0_add 80 = .ok (.iload_n 2, 1) := by decide +kernel
theorem dX0_add_81 : decode cX0_add 81 = .ok (.aload_n 0, 1) := by decide +kernel
theorem dX0_add_82 : decode cX0_add 82 = .ok (.getfield 12, 3) := by decide +kernel
theorem dX0_add_85 : decode cX0_add 85 = .ok (.aload_n 0, 1) := by decide +kernel
theorem dX0_add_86 : decode cX0_add 86 = .ok (.getfield 28, 3) := by decide +kernel
theorem dX0_add_89 : decode cX0_add 89 = .ok (.iload_n 2, 1) := by decide +kernel
theorem dX0_add_90 : decode cX0_add 90 = .ok (.iaload, 1) := by decide +kernel
theorem dX0_add_91 : decode cX0_add 91 = .ok (.iload_n 3, 1) := by decide +kernel
theorem dX0_add_92 : decode cX0_add 92 = .ok (.invokevirtual 68, 3) := by decide +kernel
theorem dX0_add_95 : decode cX0_add 95 = .ok (.iastore, 1) := by decide +kernel
theorem dX0_add_96 : decode cX0_add 96 = .ok (.aload_n 0, 1) := by decide +kernel
theorem dX0_add_97 : decode cX0_add 97 = .ok (.getfield 18, 3) := by decide +kernel
theorem dX0_add_100 : decode cX0_add 100 = .ok (.iload_n 3, 1) := by decide +kernel
theorem dX0_add_101 : decode cX0_add 101 = .ok (.iaload, 1) := by decide +kernel
theorem dX0_add_102 : decode cX0_add 102 = .ok (.istore_n 3, 1) := by decide +kernel
theorem dX0_add_103 : decode cX0_add 103 = .ok (.iinc 4 1, 3) := by decide +kernel
theorem dX0_add_106 : decode cX0_add 106 = .ok (.goto (-37), 3) := by decide +kernel
theorem dX0_add_109 : decode cX0_add 109 = .ok (.return_, 1) := by decide +kernel
theorem dX0_remove_0 : decode cX0_remove 0 = .ok (.aload_n 0, 1) := by decide +kernel
theorem dX0_remove_1 : decode cX0_remove 1 = .ok (.aload_n 0, 1) := by decide +kernel
theorem dX0_remove_2 : decode cX0_remove 2 = .ok (.getfield 12, 3) := by decide +kernel
theorem dX0_remove_5 : decode cX0_remove 5 = .ok (.iload_n 1, 1) := by decide +kernel
theorem dX0_remove_6 : decode cX0_remove 6 = .ok (.invokevirtual 47, 3) := by decide +kernel
theorem dX0_remove_9 : decode cX0_remove 9 = .ok (.invokevirtual 55, 3) := by decide +kernel
theorem dX0_remove_12 : decode cX0_remove 12 = .ok (.istore_n 2, 1) := by decide +kernel
theorem dX0_remove_13 : decode cX0_remove 13 = .ok (.aload_n 0, 1) := by decide +kernel
theorem dX0_remove_14 : decode cX0_remove 14 = .ok (.iload_n 2, 1) := by decide +kernel
theorem dX0_remove_15 : decode cX0_remove 15 = .ok (.iload_n 1, 1) := by decide +kernel
theorem dX0_remove_16 : decode cX0_remove 16 = .ok (.invokevirtual 75, 3) := by decide +kernel
theorem dX0_remove_19 : decode cX0_remove 19 = .ok (.aload_n 0, 1) := by decide +kernel
theorem dX0_remove_20 : decode cX0_remove 20 = .ok (.getfield 28, 3) := by decide +kernel
theorem dX0_remove_23 : decode cX0_remove 23 = .ok (.iload_n 2, 1) := by decide +kernel
theorem dX0_remove_24 : decode cX0_remove 24 = .ok (.iaload, 1) := by decide +kernel
theorem dX0_remove_25 : decode cX0_remove 25 = .ok (.ifCond .eq 41, 3) := by decide +kernel
theorem dX0_remove_28 : decode cX0_remove 28 = .ok (.aload_n 0, 1) := by decide +kernel
theorem dX0_remove_29 : decode cX0_remove 29 = .ok (.getfield 12, 3) := by decide +kernel
theorem dX0_remove_32 : decode cX0_remove 32 = .ok (.aload_n 0, 1) := by decide +kernel
theorem dX0_remove_33 : decode cX0_remove 33 = .ok (.getfield 28, 3) := by decide +kernel
theorem dX0_remove_36 : decode cX0_remove 36 = .ok (.iload_n 2, 1) := by decide +kernel
theorem dX0_remove_37 : decode cX0_remove 37 = .ok (.iaload, 1) := by decide +kernel
theorem dX0_remove_38 : decode cX0_remove 38 = .ok (.iload_n 1, 1) := by decide +kernel
theorem dX0_remove_39 : decode cX0_remove 39 = .ok (.invokevirtual 78, 3) := by decide +kernel
theorem dX0_remove_42 : decode cX0_remove 42 = .ok (.istore_n 3, 1) := by decide +kernel
theorem dX0_remove_43 : decode cX0_remove 43 = .ok (.aload_n 0, 1) := by decide +kernel
theorem dX0_remove_44 : decode cX0_remove 44 = .ok (.getfield 28, 3) := by decide +kernel
theorem dX0_remove_47 : decode cX0_remove 47 = .ok (.iload_n 2, 1) := by decide +kernel
theorem dX0_remove_48 : decode cX0_remove 48 = .ok (.aload_n 0, 1) := by decide +kernel
theorem dX0_remove_49 : decode cX0_remove 49 = .ok (.getfield 12, 3) := by decide +kernel
theorem dX0_remove_52 : decode cX0_remove 52 = .ok (.iload_n 3, 1) := by decide +kernel
theorem dX0_remove_53 : decode cX0_remove 53 = .ok (.invokevirtual 81, 3) := by decide +kernel
theorem dX0_remove_56 : decode cX0_remove 56 = .ok (.iconst 3, 1) := by decide +kernel
theorem dX0_remove_57 : decode cX0_remove 57 = .ok (.if_icmp .ge 7, 3) := by decide +kernel
theorem dX0_remove_60 : decode cX0_remove 60 = .ok (.iconst 0, 1) := by decide +kernel
theorem dX0_remove_61 : decode cX0_remove 61 = .ok (.goto 4, 3) := by decide +kernel
theorem dX0_remove_64 : decode cX0_remove 64 = .ok (.iload_n 3, 1) := by decide +kernel
theorem dX0_remove_65 : decode cX0_remove 65 = .ok (.iastore, 1) := by decide +kernel
theorem dX0_remove_66 : decode cX0_remove 66 = .ok (.return_, 1) := by decide +kernel
theorem dX0_faults_0 : decode cX0_faults 0 = .ok (.iconst 0, 1) := by decide +kernel
theorem dX0_faults_1 : decode cX0_faults 1 = .ok (.istore_n 2, 1) := by decide +kernel
theorem dX0_faults_2 : decode cX0_faults 2 = .ok (.iconst 0, 1) := by decide +kernel
theorem dX0_faults_3 : decode cX0_faults 3 = .ok (.istore_n 3, 1) := by decide +kernel
theorem dX0_faults_4 : decode cX0_faults 4 = .ok (.iconst 0, 1) := by decide +kernel
theorem dX0_faults_5 : decode cX0_faults 5 = .ok (.istore 4, 2) := by decide +kernel
theorem dX0_faults_7 : decode cX0_faults 7 = .ok (.iload 4, 2) := by decide +kernel
theorem dX0_faults_9 : decode cX0_faults 9 = .ok (.aload_n 0, 1) := by decide +kernel
theorem dX0_faults_10 : decode cX0_faults 10 = .ok (.getfield 31, 3) := by decide +kernel
theorem dX0_faults_13 : decode cX0_faults 13 = .ok (.if_icmp .ge 27, 3) := by decide +kernel
theorem dX0_faults_16 : decode cX0_faults 16 = .ok (.iload_n 2, 1) := by decide +kernel
theorem dX0_faults_17 : decode cX0_faults 17 = .ok (.aload_n 0, 1) := by decide +kernel
theorem dX0_faults_18 : decode cX0_faults 18 = .ok (.iload 4, 2) := by decide +kernel
theorem dX0_faults_20 : decode cX0_faults 20 = .ok (.invokevirtual 84, 3) := by decide +kernel
theorem dX0_faults_23 : decode cX0_faults 23 = .ok (.iadd, 1) := by decide +kernel
theorem dX0_faults_24 : decode cX0_faults 24 = .ok (.istore_n 2, 1) := by decide +kernel
theorem dX0_faults_25 : decode cX0_faults 25 = .ok (.iload_n 3, 1) := by decide +kernel
theorem dX0_faults_26 : decode cX0_faults 26 = .ok (.aload_n 0, 1) := by decide +kernel
theorem dX0_faults_27 : decode cX0_faults 27 = .ok (.iload 4, 2) := by decide +kernel
theorem dX0_faults_29 : decode cX0_faults 29 = .ok (.invokevirtual 87, 3) := by decide +kernel
theorem dX0_faults_32 : decode cX0_faults 32 = .ok (.iadd, 1) := by decide +kernel
theorem dX0_faults_33 : decode cX0_faults 33 = .ok (.istore_n 3, 1) := by decide +kernel
theorem dX0_faults_34 : decode cX0_faults 34 = .ok (.iinc 4 1, 3) := by decide +kernel
theorem dX0_faults_37 : decode cX0_faults 37 = .ok (.goto (-30), 3) := by decide +kernel
theorem dX0_faults_40 : decode cX0_faults 40 = .ok (.iload_n 3, 1) := by decide +kernel
theorem dX0_faults_41 : decode cX0_faults 41 = .ok (.iload_n 1, 1) := by decide +kernel
theorem dX0_faults_42 : decode cX0_faults 42 = .ok (.if_icmp .eq 6, 3) := by decide +kernel
theorem dX0_faults_45 : decode cX0_faults 45 = .ok (.iinc 2 1, 3) := by decide +kernel
theorem dX0_faults_48 : decode cX0_faults 48 = .ok (.aload_n 0, 1) := by decide +kernel
theorem dX0_faults_49 : decode cX0_faults 49 = .ok (.iload_n 1, 1) := by decide +kernel
theorem dX0_faults_50 : decode cX0_faults 50 = .ok (.invokevirtual 90, 3) := by decide +kernel
theorem dX0_faults_53 : decode cX0_faults 53 = .ok (.ifCond .eq 6, 3) := by decide +kernel
theorem dX0_faults_56 : decode cX0_faults 56 = .ok (.iinc 2 1, 3) := by decide +kernel
theorem dX0_faults_59 : decode cX0_faults 59 = .ok (.iload_n 2, 1) := by decide +kernel
theorem dX0_faults_60 : decode cX0_faults 60 = .ok (.ireturn, 1) := by decide +kernel
theorem dX0_faultsAt_0 : decode cX0_faultsAt 0 = .ok (.iconst 0, 1) := by decide +kernel
theorem dX0_faultsAt_1 : decode cX0_faultsAt 1 = .ok (.istore_n 2, 1) := by decide +kernel
theorem dX0_faultsAt_2 : decode cX0_faultsAt 2 = .ok (.iconst 0, 1) := by decide +kernel
theorem dX0_faultsAt_3 : decode cX0_faultsAt 3 = .ok (.istore_n 3, 1) := by decide +kernel
theorem dX0_faultsAt_4 : decode cX0_faultsAt 4 = .ok (.aload_n 0, 1) := by decide +kernel
theorem dX0_faultsAt_5 : decode cX0_faultsAt 5 = .ok (.getfield 25, 3) := by decide +kernel
theorem dX0_faultsAt_8 : decode cX0_faultsAt 8 = .ok (.iload_n 1, 1) := by decide +kernel
theorem dX0_faultsAt_9 : decode cX0_faultsAt 9 = .ok (.iaload, 1) := by decide +kernel
theorem dX0_faultsAt_10 : decode cX0_faultsAt 10 = .ok (.istore 4, 2) := by decide +kernel
theorem dX0_faultsAt_12 : decode cX0_faultsAt 12 = .ok (.iconst 0, 1) := by decide +kernel
theorem dX0_faultsAt_13 : decode cX0_faultsAt 13 = .ok (.istore 5, 2) := by decide +kernel
theorem dX0_faultsAt_15 : decode cX0_faultsAt 15 = .ok (.iload 5, 2) := by decide +kernel
theorem dX0_faultsAt_17 : decode cX0_faultsAt 17 = .ok (.sipush 2002, 3) := by decide +kernel
theorem dX0_faultsAt_20 : decode cX0_faultsAt 20 = .ok (.if_icmp .ge 79, 3) := by decide +kernel
theorem dX0_faultsAt_23 : decode cX0_faultsAt 23 = .ok (.iload 4, 2) := by decide +kernel
theorem dX0_faultsAt_25 : decode cX0_faultsAt 25 = .ok (.ifCond .eq 74, 3) := by decide +kernel
theorem dX0_faultsAt_28 : decode cX0_faultsAt 28 = .ok (.aload_n 0, 1) := by decide +kernel
theorem dX0_faultsAt_29 : decode cX0_faultsAt 29 = .ok (.getfield 12, 3) := by decide +kernel
theorem dX0_faultsAt_32 : decode cX0_faultsAt 32 = .ok (.iload 4, 2) := by decide +kernel
theorem dX0_faultsAt_34 : decode cX0_faultsAt 34 = .ok (.invokevirtual 47, 3) := by decide +kernel
theorem dX0_faultsAt_37 : decode cX0_faultsAt 37 = .ok (.istore 6, 2) := by decide +kernel
theorem dX0_faultsAt_39 : decode cX0_faultsAt 39 = .ok (.aload_n 0, 1) := by decide +kernel
theorem dX0_faultsAt_40 : decode cX0_faultsAt 40 = .ok (.iload 6, 2) := by decide +kernel
theorem dX0_faultsAt_42 : decode cX0_faultsAt 42 = .ok (.invokevirtual 55, 3) := by decide +kernel
theorem dX0_faultsAt_45 : decode cX0_faultsAt 45 = .ok (.iload_n 1, 1) := by decide +kernel
theorem dX0_faultsAt_46 : decode cX0_faultsAt 46 = .ok (.if_icmp .ne 14, 3) := by decide +kernel
theorem dX0_faultsAt_49 : decode cX0_faultsAt 49 = .ok (.aload_n 0, 1) := by decide +kernel
theorem dX0_faultsAt_50 : decode cX0_faultsAt 50 = .ok (.iload 6, 2) := by decide +kernel
theorem dX0_faultsAt_52 : decode cX0_faultsAt 52 = .ok (.invokevirtual 93, 3) := by decide +kernel
theorem dX0_faultsAt_55 : decode cX0_faultsAt 55 = .ok (.iload 4, 2) := by decide +kernel
theorem dX0_faultsAt_57 : decode cX0_faultsAt 57 = .ok (.if_icmp .eq 6, 3) := by decide +kernel
theorem dX0_faultsAt_60 : decode cX0_faultsAt 60 = .ok (.iinc 2 1, 3) := by decide +kernel
theorem dX0_faultsAt_63 : decode cX0_faultsAt 63 = .ok (.iload_n 3, 1) := by decide +kernel
theorem dX0_faultsAt_64 : decode cX0_faultsAt 64 = .ok (.ifCond .eq 17, 3) := by decide +kernel
theorem dX0_faultsAt_67 : decode cX0_faultsAt 67 = .ok (.aload_n 0, 1) := by decide +kernel
theorem dX0_faultsAt_68 : decode cX0_faultsAt 68 = .ok (.getfield 22, 3) := by decide +kernel
theorem dX0_faultsAt_71 : decode cX0_faultsAt 71 = .ok (.iload 4, 2) := by decide +kernel
theorem dX0_faultsAt_73 : decode cX0_faultsAt 73 = .ok (.iaload, 1) := by decide +kernel
theorem dX0_faultsAt_74 : decode cX0_faultsAt 74 = .ok (.iload_n 3, 1) := by decide +kernel
theorem dX0_faultsAt_75 : decode cX0_faultsAt 75 = .ok (.if_icmp .eq 6, 3) := by decide +kernel
theorem dX0_faultsAt_78 : decode cX0_faultsAt 78 = .ok (.iinc 2 1, 3) := by decide +kernel
theorem dX0_faultsAt_81 : decode cX0_faultsAt 81 = .ok (.iload 4, 2) := by decide +kernel
theorem dX0_faultsAt_83 : decode cX0_faultsAt 83 = .ok (.istore_n 3, 1) := by decide +kernel
theorem dX0_faultsAt_84 : decode cX0_faultsAt 84 = .ok (.aload_n 0, 1) := by decide +kernel
theorem dX0_faultsAt_85 : decode cX0_faultsAt 85 = .ok (.getfield 18, 3) := by decide +kernel
theorem dX0_faultsAt_88 : decode cX0_faultsAt 88 = .ok (.iload 4, 2) := by decide +kernel
theorem dX0_faultsAt_90 : decode cX0_faultsAt 90 = .ok (.iaload, 1) := by decide +kernel
theorem dX0_faultsAt_91 : decode cX0_faultsAt 91 = .ok (.istore 4, 2) := by decide +kernel
theorem dX0_faultsAt_93 : decode cX0_faultsAt 93 = .ok (.iinc 5 1, 3) := by decide +kernel
theorem dX0_faultsAt_96 : decode cX0_faultsAt 96 = .ok (.goto (-81), 3) := by decide +kernel
theorem dX0_faultsAt_99 : decode cX0_faultsAt 99 = .ok (.iload_n 3, 1) := by decide +kernel
theorem dX0_faultsAt_100 : decode cX0_faultsAt 100 = .ok (.ifCond .eq 21, 3) := by decide +kernel
theorem dX0_faultsAt_103 : decode cX0_faultsAt 103 = .ok (.aload_n 0, 1) := by decide +kernel
theorem dX0_faultsAt_104 : decode cX0_faultsAt 104 = .ok (.getfield 22, 3) := by decide +kernel
theorem dX0_faultsAt_107 : decode cX0_faultsAt 107 = .ok (.aload_n 0, 1) := by decide +kernel
theorem dX0_faultsAt_108 : decode cX0_faultsAt 108 = .ok (.getfield 25, 3) := by decide +kernel
theorem dX0_faultsAt_111 : decode cX0_faultsAt 111 = .ok (.iload_n 1, 1) := by decide +kernel
theorem dX0_faultsAt_112 : decode cX0_faultsAt 112 = .ok (.iaload, 1) := by decide +kernel
theorem dX0_faultsAt_113 : decode cX0_faultsAt 113 = .ok (.iaload, 1) := by decide +kernel
theorem dX0_faultsAt_114 : decode cX0_faultsAt 114 = .ok (.iload_n 3, 1) := by decide +kernel
theorem dX0_faultsAt_115 : decode cX0_faultsAt 115 = .ok (.if_icmp .eq 6, 3) := by decide +kernel
theorem dX0_faultsAt_118 : decode cX0_faultsAt 118 = .ok (.iinc 2 1, 3) := by decide +kernel
theorem dX0_faultsAt_121 : decode cX0_faultsAt 121 = .ok (.iload_n 2, 1) := by decide +kernel
theorem dX0_faultsAt_122 : decode cX0_faultsAt 122 = .ok (.aload_n 0, 1) := by decide +kernel
theorem dX0_faultsAt_123 : decode cX0_faultsAt 123 = .ok (.iload_n 1, 1) := by decide +kernel
theorem dX0_faultsAt_124 : decode cX0_faultsAt 124 = .ok (.invokevirtual 95, 3) := by decide +kernel
theorem dX0_faultsAt_127 : decode cX0_faultsAt 127 = .ok (.iadd, 1) := by decide +kernel
theorem dX0_faultsAt_128 : decode cX0_faultsAt 128 = .ok (.ireturn, 1) := by decide +kernel
theorem dX0_treeFaultsAt_0 : decode cX0_treeFaultsAt 0 = .ok (.aload_n 0, 1) := by decide +kernel
theorem dX0_treeFaultsAt_1 : decode cX0_treeFaultsAt 1 = .ok (.iload_n 1, 1) := by decide +kernel
theorem dX0_treeFaultsAt_2 : decode cX0_treeFaultsAt 2 = .ok (.invokevirtual 87, 3) := by decide +kernel
theorem dX0_treeFaultsAt_5 : decode cX0_treeFaultsAt 5 = .ok (.istore_n 2, 1) := by decide +kernel
theorem dX0_treeFaultsAt_6 : decode cX0_treeFaultsAt 6 = .ok (.aload_n 0, 1) := by decide +kernel
theorem dX0_treeFaultsAt_7 : decode cX0_treeFaultsAt 7 = .ok (.getfield 28, 3) := by decide +kernel
theorem dX0_treeFaultsAt_10 : decode cX0_treeFaultsAt 10 = .ok (.iload_n 1, 1) := by decide +kernel
theorem dX0_treeFaultsAt_11 : decode cX0_treeFaultsAt 11 = .ok (.iaload, 1) := by decide +kernel
theorem dX0_treeFaultsAt_12 : decode cX0_treeFaultsAt 12 = .ok (.ifCond .ne 15, 3) := by decide +kernel
theorem dX0_treeFaultsAt_15 : decode cX0_treeFaultsAt 15 = .ok (.iload_n 2, 1) := by decide +kernel
theorem dX0_treeFaultsAt_16 : decode cX0_treeFaultsAt 16 = .ok (.bipush 8, 2) := by decide +kernel
theorem dX0_treeFaultsAt_18 : decode cX0_treeFaultsAt 18 = .ok (.if_icmp .le 7, 3) := by decide +kernel
theorem dX0_treeFaultsAt_21 : decode cX0_treeFaultsAt 21 = .ok (.iconst 1, 1) := by decide +kernel
theorem dX0_treeFaultsAt_22 : decode cX0_treeFaultsAt 22 = .ok (.goto 4, 3) := by decide +kernel
theorem dX0_treeFaultsAt_25 : decode cX0_treeFaultsAt 25 = .ok (.iconst 0, 1) := by decide +kernel
theorem dX0_treeFaultsAt_26 : decode cX0_treeFaultsAt 26 = .ok (.ireturn, 1) := by decide +kernel
theorem dX0_treeFaultsAt_27 : decode cX0_treeFaultsAt 27 = .ok (.aload_n 0, 1) := by decide +kernel
theorem dX0_treeFaultsAt_28 : decode cX0_treeFaultsAt 28 = .ok (.getfield 12, 3) := by decide +kernel
theorem dX0_treeFaultsAt_31 : decode cX0_treeFaultsAt 31 = .ok (.aload_n 0, 1) := by decide +kernel
theorem dX0_treeFaultsAt_32 : decode cX0_treeFaultsAt 32 = .ok (.getfield 28, 3) := by decide +kernel
theorem dX0_treeFaultsAt_35 : decode cX0_treeFaultsAt 35 = .ok (.iload_n 1, 1) := by decide +kernel
theorem dX0_treeFaultsAt_36 : decode cX0_treeFaultsAt 36 = .ok (.iaload, 1) := by decide +kernel
theorem dX0_treeFaultsAt_37 : decode cX0_treeFaultsAt 37 = .ok (.invokevirtual 81, 3) := by decide +kernel
theorem dX0_treeFaultsAt_40 : decode cX0_treeFaultsAt 40 = .ok (.iconst 3, 1) := by decide +kernel
theorem dX0_treeFaultsAt_41 : decode cX0_treeFaultsAt 41 = .ok (.if_icmp .ge 7, 3) := by decide +kernel
theorem dX0_treeFaultsAt_44 : decode cX0_treeFaultsAt 44 = .ok (.iconst 1, 1) := by decide +kernel
theorem dX0_treeFaultsAt_45 : decode cX0_treeFaultsAt 45 = .ok (.goto 4, 3) := by decide +kernel
theorem dX0_treeFaultsAt_48 : decode cX0_treeFaultsAt 48 = .ok (.iconst 0, 1) := by decide +kernel
theorem dX0_treeFaultsAt_49 : decode cX0_treeFaultsAt 49 = .ok (.istore_n 3, 1) := by decide +kernel
theorem dX0_treeFaultsAt_50 : decode cX0_treeFaultsAt 50 = .ok (.iconst 0, 1) := by decide +kernel
theorem dX0_treeFaultsAt_51 : decode cX0_treeFaultsAt 51 = .ok (.istore 4, 2) := by decide +kernel
theorem dX0_treeFaultsAt_53 : decode cX0_treeFaultsAt 53 = .ok (.aload_n 0, 1) := by decide +kernel
theorem dX0_treeFaultsAt_54 : decode cX0_treeFaultsAt 54 = .ok (.getfield 25, 3) := by decide +kernel
theorem dX0_treeFaultsAt_57 : decode cX0_treeFaultsAt 57 = .ok (.iload_n 1, 1) := by decide +kernel
theorem dX0_treeFaultsAt_58 : decode cX0_treeFaultsAt 58 = .ok (.iaload, 1) := by decide +kernel
theorem dX0_treeFaultsAt_59 : decode cX0_treeFaultsAt 59 = .ok (.istore 5, 2) := by decide +kernel
theorem dX0_treeFaultsAt_61 : decode cX0_treeFaultsAt 61 = .ok (.iconst 0, 1) := by decide +kernel
theorem dX0_treeFaultsAt_62 : decode cX0_treeFaultsAt 62 = .ok (.istore 6, 2) := by decide +kernel
theorem dX0_treeFaultsAt_64 : decode cX0_treeFaultsAt 64 = .ok (.iload 6, 2) := by decide +kernel
theorem dX0_treeFaultsAt_66 : decode cX0_treeFaultsAt 66 = .ok (.iload_n 2, 1) := by decide +kernel
theorem dX0_treeFaultsAt_67 : decode cX0_treeFaultsAt 67 = .ok (.if_icmp .ge 44, 3) := by decide +kernel
theorem dX0_treeFaultsAt_70 : decode cX0_treeFaultsAt 70 = .ok (.iload_n 3, 1) := by decide +kernel
theorem dX0_treeFaultsAt_71 : decode cX0_treeFaultsAt 71 = .ok (.aload_n 0, 1) := by decide +kernel
theorem dX0_treeFaultsAt_72 : decode cX0_treeFaultsAt 72 = .ok (.getfield 12, 3) := by decide +kernel
theorem dX0_treeFaultsAt_75 : decode cX0_treeFaultsAt 75 = .ok (.iload 5, 2) := by decide +kernel
theorem dX0_treeFaultsAt_77 : decode cX0_treeFaultsAt 77 = .ok (.invokevirtual 98, 3) := by decide +kernel
theorem dX0_treeFaultsAt_80 : decode cX0_treeFaultsAt 80 = .ok (.iadd, 1) := by decide +kernel
theorem dX0_treeFaultsAt_81 : decode cX0_treeFaultsAt 81 = .ok (.istore_n 3, 1) := by decide +kernel
theorem dX0_treeFaultsAt_82 : decode cX0_treeFaultsAt 82 = .ok (.iload 4, 2) := by decide +kernel
theorem dX0_treeFaultsAt_84 : decode cX0_treeFaultsAt 84 = .ok (.aload_n 0, 1) := by decide +kernel
theorem dX0_treeFaultsAt_85 : decode cX0_treeFaultsAt 85 = .ok (.getfield 12, 3) := by decide +kernel
theorem dX0_treeFaultsAt_88 : decode cX0_treeFaultsAt 88 = .ok (.iload 5, 2) := by decide +kernel
theorem dX0_treeFaultsAt_90 : decode cX0_treeFaultsAt 90 = .ok (.invokevirtual 99, 3) := by decide +kernel
theorem dX0_treeFaultsAt_93 : decode cX0_treeFaultsAt 93 = .ok (.iadd, 1) := by decide +kernel
theorem dX0_treeFaultsAt_94 : decode cX0_treeFaultsAt 94 = .ok (.istore 4, 2) := by decide +kernel
theorem dX0_treeFaultsAt_96 : decode cX0_treeFaultsAt 96 = .ok (.aload_n 0, 1) := by decide +kernel
theorem dX0_treeFaultsAt_97 : decode cX0_treeFaultsAt 97 = .ok (.getfield 18, 3) := by decide +kernel
theorem dX0_treeFaultsAt_100 : decode cX0_treeFaultsAt 100 = .ok (.iload 5, 2) := by decide +kernel
theorem dX0_treeFaultsAt_102 : decode cX0_treeFaultsAt 102 = .ok (.iaload, 1) := by decide +kernel
theorem dX0_treeFaultsAt_103 : decode cX0_treeFaultsAt 103 = .ok (.istore 5, 2) := by decide +kernel
theorem dX0_treeFaultsAt_105 : decode cX0_treeFaultsAt 105 = .ok (.iinc 6 1, 3) := by decide +kernel
theorem dX0_treeFaultsAt_108 : decode cX0_treeFaultsAt 108 = .ok (.goto (-44), 3) := by decide +kernel
theorem dX0_treeFaultsAt_111 : decode cX0_treeFaultsAt 111 = .ok (.iload 4, 2) := by decide +kernel
theorem dX0_treeFaultsAt_113 : decode cX0_treeFaultsAt 113 = .ok (.iload_n 2, 1) := by decide +kernel
theorem dX0_treeFaultsAt_114 : decode cX0_treeFaultsAt 114 = .ok (.iconst 1, 1) := by decide +kernel
theorem dX0_treeFaultsAt_115 : decode cX0_treeFaultsAt 115 = .ok (.isub, 1) := by decide +kernel
theorem dX0_treeFaultsAt_116 : decode cX0_treeFaultsAt 116 = .ok (.if_icmp .ne 7, 3) := by decide +kernel
theorem dX0_treeFaultsAt_119 : decode cX0_treeFaultsAt 119 = .ok (.iload_n 3, 1) := by decide +kernel
theorem dX0_treeFaultsAt_120 : decode cX0_treeFaultsAt 120 = .ok (.goto 6, 3) := by decide +kernel
theorem dX0_treeFaultsAt_123 : decode cX0_treeFaultsAt 123 = .ok (.iload_n 3, 1) := by decide +kernel
theorem dX0_treeFaultsAt_124 : decode cX0_treeFaultsAt 124 = .ok (.iconst 1, 1) := by decide +kernel
theorem dX0_treeFaultsAt_125 : decode cX0_treeFaultsAt 125 = .ok (.iadd, 1) := by decide +kernel
theorem dX0_treeFaultsAt_126 : decode cX0_treeFaultsAt 126 = .ok (.ireturn, 1) := by decide +kernel
theorem dX0_lengthOf_0 : decode cX0_lengthOf 0 = .ok (.iconst 0, 1) := by decide +kernel
theorem dX0_lengthOf_1 : decode cX0_lengthOf 1 = .ok (.istore_n 2, 1) := by decide +kernel
theorem dX0_lengthOf_2 : decode cX0_lengthOf 2 = .ok (.aload_n 0, 1) := by decide +kernel
theorem dX0_lengthOf_3 : decode cX0_lengthOf 3 = .ok (.getfield 25, 3) := by decide +kernel
theorem dX0_lengthOf_6 : decode cX0_lengthOf 6 = .ok (.iload_n 1, 1) := by decide +kernel
theorem dX0_lengthOf_7 : decode cX0_lengthOf 7 = .ok (.iaload, 1) := by decide +kernel
theorem dX0_lengthOf_8 : decode cX0_lengthOf 8 = .ok (.istore_n 3, 1) := by decide +kernel
theorem dX0_lengthOf_9 : decode cX0_lengthOf 9 = .ok (.iload_n 3, 1) := by decide +kernel
theorem dX0_lengthOf_10 : decode cX0_lengthOf 10 = .ok (.ifCond .eq 23, 3) := by decide +kernel
theorem dX0_lengthOf_13 : decode cX0_lengthOf 13 = .ok (.iload_n 2, 1) := by decide +kernel
theorem dX0_lengthOf_14 : decode cX0_lengthOf 14 = .ok (.sipush 2002, 3) := by decide +kernel
theorem dX0_lengthOf_17 : decode cX0_lengthOf 17 = .ok (.if_icmp .ge 16, 3) := by decide +kernel
theorem dX0_lengthOf_20 : decode cX0_lengthOf 20 = .ok (.aload_n 0, 1) := by decide +kernel
theorem dX0_lengthOf_21 : decode cX0_lengthOf 21 = .ok (.getfield 18, 3) := by decide +kernel
theorem dX0_lengthOf_24 : decode cX0_lengthOf 24 = .ok (.iload_n 3, 1) := by decide +kernel
theorem dX0_lengthOf_25 : decode cX0_lengthOf 25 = .ok (.iaload, 1) := by decide +kernel
theorem dX0_lengthOf_26 : decode cX0_lengthOf 26 = .ok (.istore_n 3, 1) := by decide +kernel
theorem dX0_lengthOf_27 : decode cX0_lengthOf 27 = .ok (.iinc 2 1, 3) := by decide +kernel
theorem dX0_lengthOf_30 : decode cX0_lengthOf 30 = .ok (.goto (-21), 3) := by decide +kernel
theorem dX0_lengthOf_33 : decode cX0_lengthOf 33 = .ok (.iload_n 2, 1) := by decide +kernel
theorem dX0_lengthOf_34 : decode cX0_lengthOf 34 = .ok (.ireturn, 1) := by decide +kernel
theorem dX0_isLong_0 : decode cX0_isLong 0 = .ok (.aload_n 0, 1) := by decide +kernel
theorem dX0_isLong_1 : decode cX0_isLong 1 = .ok (.getfield 25, 3) := by decide +kernel
theorem dX0_isLong_4 : decode cX0_isLong 4 = .ok (.iload_n 1, 1) := by decide +kernel
theorem dX0_isLong_5 : decode cX0_isLong 5 = .ok (.iaload, 1) := by decide +kernel
theorem dX0_isLong_6 : decode cX0_isLong 6 = .ok (.istore_n 2, 1) := by decide +kernel
theorem dX0_isLong_7 : decode cX0_isLong 7 = .ok (.iconst 0, 1) := by decide +kernel
theorem dX0_isLong_8 : decode cX0_isLong 8 = .ok (.istore_n 3, 1) := by decide +kernel
theorem dX0_isLong_9 : decode cX0_isLong 9 = .ok (.iload_n 3, 1) := by decide +kernel
theorem dX0_isLong_10 : decode cX0_isLong 10 = .ok (.bipush 8, 2) := by decide +kernel
theorem dX0_isLong_12 : decode cX0_isLong 12 = .ok (.if_icmp .ge 20, 3) := by decide +kernel
theorem dX0_isLong_15 : decode cX0_isLong 15 = .ok (.iload_n 2, 1) := by decide +kernel
theorem dX0_isLong_16 : decode cX0_isLong 16 = .ok (.ifCond .eq 16, 3) := by decide +kernel
theorem dX0_isLong_19 : decode cX0_isLong 19 = .ok (.aload_n 0, 1) := by decide +kernel
theorem dX0_isLong_20 : decode cX0_isLong 20 = .ok (.getfield 18, 3) := by decide +kernel
theorem dX0_isLong_23 : decode cX0_isLong 23 = .ok (.iload_n 2, 1) := by decide +kernel
theorem dX0_isLong_24 : decode cX0_isLong 24 = .ok (.iaload, 1) := by decide +kernel
theorem dX0_isLong_25 : decode cX0_isLong 25 = .ok (.istore_n 2, 1) := by decide +kernel
theorem dX0_isLong_26 : decode cX0_isLong 26 = .ok (.iinc 3 1, 3) := by decide +kernel
theorem dX0_isLong_29 : decode cX0_isLong 29 = .ok (.goto (-20), 3) := by decide +kernel
theorem dX0_isLong_32 : decode cX0_isLong 32 = .ok (.iload_n 2, 1) := by decide +kernel
theorem dX0_isLong_33 : decode cX0_isLong 33 = .ok (.ifCond .eq 7, 3) := by decide +kernel
theorem dX0_isLong_36 : decode cX0_isLong 36 = .ok (.iconst 1, 1) := by decide +kernel
theorem dX0_isLong_37 : decode cX0_isLong 37 = .ok (.goto 4, 3) := by decide +kernel
theorem dX0_isLong_40 : decode cX0_isLong 40 = .ok (.iconst 0, 1) := by decide +kernel
theorem dX0_isLong_41 : decode cX0_isLong 41 = .ok (.ireturn, 1) := by decide +kernel
theorem dX0_placeOf_0 : decode cX0_placeOf 0 = .ok (.aload_n 0, 1) := by decide +kernel
theorem dX0_placeOf_1 : decode cX0_placeOf 1 = .ok (.iload_n 1, 1) := by decide +kernel
theorem dX0_placeOf_2 : decode cX0_placeOf 2 = .ok (.invokevirtual 102, 3) := by decide +kernel
theorem dX0_placeOf_5 : decode cX0_placeOf 5 = .ok (.istore_n 2, 1) := by decide +kernel
theorem dX0_placeOf_6 : decode cX0_placeOf 6 = .ok (.iload_n 2, 1) := by decide +kernel
theorem dX0_placeOf_7 : decode cX0_placeOf 7 = .ok (.iload_n 2, 1) := by decide +kernel
theorem dX0_placeOf_8 : decode cX0_placeOf 8 = .ok (.bipush 16, 2) := by decide +kernel
theorem dX0_placeOf_10 : decode cX0_placeOf 10 = .ok (.iushr, 1) := by decide +kernel
theorem dX0_placeOf_11 : decode cX0_placeOf 11 = .ok (.ixor, 1) := by decide +kernel
theorem dX0_placeOf_12 : decode cX0_placeOf 12 = .ok (.aload_n 0, 1) := by decide +kernel
theorem dX0_placeOf_13 : decode cX0_placeOf 13 = .ok (.getfield 31, 3) := by decide +kernel
theorem dX0_placeOf_16 : decode cX0_placeOf 16 = .ok (.iconst 1, 1) := by decide +kernel
theorem dX0_placeOf_17 : decode cX0_placeOf 17 = .ok (.isub, 1) := by decide +kernel
theorem dX0_placeOf_18 : decode cX0_placeOf 18 = .ok (.iand, 1) := by decide +kernel
theorem dX0_placeOf_19 : decode cX0_placeOf 19 = .ok (.ireturn, 1) := by decide +kernel
theorem dX0_codeOf_0 : decode cX0_codeOf 0 = .ok (.aload_n 0, 1) := by decide +kernel
theorem dX0_codeOf_1 : decode cX0_codeOf 1 = .ok (.getfield 35, 3) := by decide +kernel
theorem dX0_codeOf_4 : decode cX0_codeOf 4 = .ok (.lookupswitch 37 #[(1, 28), (2, 32)], 28) := by decide +kernel
theorem dX0_codeOf_32 : decode cX0_codeOf 32 = .ok (.iload_n 1, 1) := by decide +kernel
theorem dX0_codeOf_33 : decode cX0_codeOf 33 = .ok (.iconst 3, 1) := by decide +kernel
theorem dX0_codeOf_34 : decode cX0_codeOf 34 = .ok (.iand, 1) := by decide +kernel
theorem dX0_codeOf_35 : decode cX0_codeOf 35 = .ok (.ireturn, 1) := by decide +kernel
theorem dX0_codeOf_36 : decode cX0_codeOf 36 = .ok (.iload_n 1, 1) := by decide +kernel
theorem dX0_codeOf_37 : decode cX0_codeOf 37 = .ok (.ldc 105, 2) := by decide +kernel
theorem dX0_codeOf_39 : decode cX0_codeOf 39 = .ok (.imul, 1) := by decide +kernel
theorem dX0_codeOf_40 : decode cX0_codeOf 40 = .ok (.ireturn, 1) := by decide +kernel
theorem dX0_codeOf_41 : decode cX0_codeOf 41 = .ok (.iload_n 1, 1) := by decide +kernel
theorem dX0_codeOf_42 : decode cX0_codeOf 42 = .ok (.ireturn, 1) := by decide +kernel
theorem dX0_append_0 : decode cX0_append 0 = .ok (.aload_n 0, 1) := by decide +kernel
theorem dX0_append_1 : decode cX0_append 1 = .ok (.getfield 25, 3) := by decide +kernel
theorem dX0_append_4 : decode cX0_append 4 = .ok (.iload_n 1, 1) := by decide +kernel
theorem dX0_append_5 : decode cX0_append 5 = .ok (.iaload, 1) := by decide +kernel
theorem dX0_append_6 : decode cX0_append 6 = .ok (.istore_n 3, 1) := by decide +kernel
theorem dX0_append_7 : decode cX0_append 7 = .ok (.aload_n 0, 1) := by decide +kernel
theorem dX0_append_8 : decode cX0_append 8 = .ok (.getfield 18, 3) := by decide +kernel
theorem dX0_append_11 : decode cX0_append 11 = .ok (.iload_n 2, 1) := by decide +kernel
theorem dX0_append_12 : decode cX0_append 12 = .ok (.iconst 0, 1) := by decide +kernel
theorem dX0_append_13 : decode cX0_append 13 = .ok (.iastore, 1) := by decide +kernel
theorem dX0_append_14 : decode cX0_append 14 = .ok (.iload_n 3, 1) := by decide +kernel
theorem dX0_append_15 : decode cX0_append 15 = .ok (.ifCond .ne 20, 3) := by decide +kernel
theorem dX0_append_18 : decode cX0_append 18 = .ok (.aload_n 0, 1) := by decide +kernel
theorem dX0_append_19 : decode cX0_append 19 = .ok (.getfield 25, 3) := by decide +kernel
theorem dX0_append_22 : decode cX0_append 22 = .ok (.iload_n 1, 1) := by decide +kernel
theorem dX0_append_23 : decode cX0_append 23 = .ok (.iload_n 2, 1) := by decide +kernel
theorem dX0_append_24 : decode cX0_append 24 = .ok (.iastore, 1) := by decide +kernel
theorem dX0_append_25 : decode cX0_append 25 = .ok (.aload_n 0, 1) := by decide +kernel
theorem dX0_append_26 : decode cX0_append 26 = .ok (.getfield 22, 3) := by decide +kernel
theorem dX0_append_29 : decode cX0_append 29 = .ok (.iload_n 2, 1) := by decide +kernel
theorem dX0_append_30 : decode cX0_append 30 = .ok (.iload_n 2, 1) := by decide +kernel
theorem dX0_append_31 : decode cX0_append 31 = .ok (.iastore, 1) := by decide +kernel
theorem dX0_append_32 : decode cX0_append 32 = .ok (.goto 34, 3) := by decide +kernel
theorem dX0_append_35 : decode cX0_append 35 = .ok (.aload_n 0, 1) := by decide +kernel
theorem dX0_append_36 : decode cX0_append 36 = .ok (.getfield 22, 3) := by decide +kernel
theorem dX0_append_39 : decode cX0_append 39 = .ok (.iload_n 3, 1) := by decide +kernel
theorem dX0_append_40 : decode cX0_append 40 = .ok (.iaload, 1) := by decide +kernel
theorem dX0_append_41 : decode cX0_append 41 = .ok (.istore 4, 2) := by decide +kernel
theorem dX0_append_43 : decode cX0_append 43 = .ok (.aload_n 0, 1) := by decide +kernel
theorem dX0_append_44 : decode cX0_append 44 = .ok (.getfield 18, 3) := by decide +kernel
theorem dX0_append_47 : decode cX0_append 47 = .ok (.iload 4, 2) := by decide +kernel
theorem dX0_append_49 : decode cX0_append 49 = .ok (.iload_n 2, 1) := by decide +kernel
theorem dX0_append_50 : decode cX0_append 50 = .ok (.iastore, 1) := by decide +kernel
theorem dX0_append_51 : decode cX0_append 51 = .ok (.aload_n 0, 1) := by decide +kernel
theorem dX0_append_52 : decode cX0_append 52 = .ok (.getfield 22, 3) := by decide +kernel
theorem dX0_append_55 : decode cX0_append 55 = .ok (.iload_n 2, 1) := by decide +kernel
theorem dX0_append_56 : decode cX0_append 56 = .ok (.iload 4, 2) := by decide +kernel
theorem dX0_append_58 : decode cX0_append 58 = .ok (.iastore, 1) := by decide +kernel
theorem dX0_append_59 : decode cX0_append 59 = .ok (.aload_n 0, 1) := by decide +kernel
theorem dX0_append_60 : decode cX0_append 60 = .ok (.getfield 22, 3) := by decide +kernel
theorem dX0_append_63 : decode cX0_append 63 = .ok (.iload_n 3, 1) := by decide +kernel
theorem dX0_append_64 : decode cX0_append 64 = .ok (.iload_n 2, 1) := by decide +kernel
theorem dX0_append_65 : decode cX0_append 65 = .ok (.iastore, 1) := by decide +kernel
theorem dX0_append_66 : decode cX0_append 66 = .ok (.return_, 1) := by decide +kernel
theorem dX0_unlink_0 : decode cX0_unlink 0 = .ok (.aload_n 0, 1) := by decide +kernel
theorem dX0_unlink_1 : decode cX0_unlink 1 = .ok (.getfield 25, 3) := by decide +kernel
theorem dX0_unlink_4 : decode cX0_unlink 4 = .ok (.iload_n 1, 1) := by decide +kernel
theorem dX0_unlink_5 : decode cX0_unlink 5 = .ok (.iaload, 1) := by decide +kernel
theorem dX0_unlink_6 : decode cX0_unlink 6 = .ok (.istore_n 3, 1) := by decide +kernel
theorem dX0_unlink_7 : decode cX0_unlink 7 = .ok (.aload_n 0, 1) := by decide +kernel
theorem dX0_unlink_8 : decode cX0_unlink 8 = .ok (.getfield 22, 3) := by decide +kernel
theorem dX0_unlink_11 : decode cX0_unlink 11 = .ok (.iload_n 2, 1) := by decide +kernel
theorem dX0_unlink_12 : decode cX0_unlink 12 = .ok (.iaload, 1) := by decide +kernel
theorem dX0_unlink_13 : decode cX0_unlink 13 = .ok (.istore 4, 2) := by decide +kernel
theorem dX0_unlink_15 : decode cX0_unlink 15 = .ok (.aload_n 0, 1) := by decide +kernel
theorem dX0_unlink_16 : decode cX0_unlink 16 = .ok (.getfield 18, 3) := by decide +kernel
theorem dX0_unlink_19 : decode cX0_unlink 19 = .ok (.iload_n 2, 1) := by decide +kernel
theorem dX0_unlink_20 : decode cX0_unlink 20 = .ok (.iaload, 1) := by decide +kernel
theorem dX0_unlink_21 : decode cX0_unlink 21 = .ok (.istore 5, 2) := by decide +kernel
theorem dX0_unlink_23 : decode cX0_unlink 23 = .ok (.iload_n 2, 1) := by decide +kernel
theorem dX0_unlink_24 : decode cX0_unlink 24 = .ok (.iload_n 3, 1) := by decide +kernel
theorem dX0_unlink_25 : decode cX0_unlink 25 = .ok (.if_icmp .ne 14, 3) := by decide +kernel
theorem dX0_unlink_28 : decode cX0_unlink 28 = .ok (.aload_n 0, 1) := by decide +kernel
theorem dX0_unlink_29 : decode cX0_unlink 29 = .ok (.getfield 25, 3) := by decide +kernel
theorem dX0_unlink_32 : decode cX0_unlink 32 = .ok (.iload_n 1, 1) := by decide +kernel
theorem dX0_unlink_33 : decode cX0_unlink 33 = .ok (.iload 5, 2) := by decide +kernel
theorem dX0_unlink_35 : decode cX0_unlink 35 = .ok (.iastore, 1) := by decide +kernel
theorem dX0_unlink_36 : decode cX0_unlink 36 = .ok (.goto 12, 3) := by decide +kernel
theorem dX0_unlink_39 : decode cX0_unlink 39 = .ok (.aload_n 0, 1) := by decide +kernel
theorem dX0_unlink_40 : decode cX0_unlink 40 = .ok (.getfield 18, 3) := by decide +kernel
theorem dX0_unlink_43 : decode cX0_unlink 43 = .ok (.iload 4, 2) := by decide +kernel
theorem dX0_unlink_45 : decode cX0_unlink 45 = .ok (.iload 5, 2) := by decide +kernel
theorem dX0_unlink_47 : decode cX0_unlink 47 = .ok (.iastore, 1) := by decide +kernel
theorem dX0_unlink_48 : decode cX0_unlink 48 = .ok (.iload 5, 2) := by decide +kernel
theorem dX0_unlink_50 : decode cX0_unlink 50 = .ok (.ifCond .eq 15, 3) := by decide +kernel
theorem dX0_unlink_53 : decode cX0_unlink 53 = .ok (.aload_n 0, 1) := by decide +kernel
theorem dX0_unlink_54 : decode cX0_unlink 54 = .ok (.getfield 22, 3) := by decide +kernel
theorem dX0_unlink_57 : decode cX0_unlink 57 = .ok (.iload 5, 2) := by decide +kernel
theorem dX0_unlink_59 : decode cX0_unlink 59 = .ok (.iload 4, 2) := by decide +kernel
theorem dX0_unlink_61 : decode cX0_unlink 61 = .ok (.iastore, 1) := by decide +kernel
theorem dX0_unlink_62 : decode cX0_unlink 62 = .ok (.goto 16, 3) := by decide +kernel
theorem dX0_unlink_65 : decode cX0_unlink 65 = .ok (.iload_n 2, 1) := by decide +kernel
theorem dX0_unlink_66 : decode cX0_unlink 66 = .ok (.iload_n 3, 1) := by decide +kernel
theorem dX0_unlink_67 : decode cX0_unlink 67 = .ok (.if_icmp .eq 11, 3) := by decide +kernel
theorem dX0_unlink_70 : decode cX0_unlink 70 = .ok (.aload_n 0, 1) := by decide +kernel
theorem dX0_unlink_71 : decode cX0_unlink 71 = .ok (.getfield 22, 3) := by decide +kernel
theorem dX0_unlink_74 : decode cX0_unlink 74 = .ok (.iload_n 3, 1) := by decide +kernel
theorem dX0_unlink_75 : decode cX0_unlink 75 = .ok (.iload 4, 2) := by decide +kernel
theorem dX0_unlink_77 : decode cX0_unlink 77 = .ok (.iastore, 1) := by decide +kernel
theorem dX0_unlink_78 : decode cX0_unlink 78 = .ok (.return_, 1) := by decide +kernel
theorem dJ7_fill_0 : decode cJ7_fill 0 = .ok (.iconst 0, 1) := by decide +kernel
theorem dJ7_fill_1 : decode cJ7_fill 1 = .ok (.istore_n 2, 1) := by decide +kernel
theorem dJ7_fill_2 : decode cJ7_fill 2 = .ok (.aload_n 0, 1) := by decide +kernel
theorem dJ7_fill_3 : decode cJ7_fill 3 = .ok (.arraylength, 1) := by decide +kernel
theorem dJ7_fill_4 : decode cJ7_fill 4 = .ok (.istore_n 3, 1) := by decide +kernel
theorem dJ7_fill_5 : decode cJ7_fill 5 = .ok (.iload_n 2, 1) := by decide +kernel
theorem dJ7_fill_6 : decode cJ7_fill 6 = .ok (.iload_n 3, 1) := by decide +kernel
theorem dJ7_fill_7 : decode cJ7_fill 7 = .ok (.if_icmp .ge 13, 3) := by decide +kernel
theorem dJ7_fill_10 : decode cJ7_fill 10 = .ok (.aload_n 0, 1) := by decide +kernel
theorem dJ7_fill_11 : decode cJ7_fill 11 = .ok (.iload_n 2, 1) := by decide +kernel
theorem dJ7_fill_12 : decode cJ7_fill 12 = .ok (.iload_n 1, 1) := by decide +kernel
theorem dJ7_fill_13 : decode cJ7_fill 13 = .ok (.iastore, 1) := by decide +kernel
theorem dJ7_fill_14 : decode cJ7_fill 14 = .ok (.iinc 2 1, 3) := by decide +kernel
theorem dJ7_fill_17 : decode cJ7_fill 17 = .ok (.goto (-12), 3) := by decide +kernel
theorem dJ7_fill_20 : decode cJ7_fill 20 = .ok (.return_, 1) := by decide +kernel
