theorem dX2_init_0 : decode cX2_init 0 = .ok (.aload_n 0, 1) := by decide +kernel
theorem dX2_init_1 : decode cX2_init 1 = .ok (.invokespecial 3, 3) := by decide +kernel
theorem dX2_init_4 : decode cX2_init 4 = .ok (.aload_n 0, 1) := by decide +kernel
theorem dX2_init_5 : decode cX2_init 5 = .ok (.sipush 2002, 3) := by decide +kernel
theorem dX2_init_8 : decode cX2_init 8 = .ok (.newarray .int, 2) := by decide +kernel
theorem dX2_init_10 : decode cX2_init 10 = .ok (.putfield 9, 3) := by decide +kernel
theorem dX2_init_13 : decode cX2_init 13 = .ok (.aload_n 0, 1) := by decide +kernel
theorem dX2_init_14 : decode cX2_init 14 = .ok (.sipush 2002, 3) := by decide +kernel
theorem dX2_init_17 : decode cX2_init 17 = .ok (.newarray .int, 2) := by decide +kernel
theorem dX2_init_19 : decode cX2_init 19 = .ok (.putfield 15, 3) := by decide +kernel
theorem dX2_init_22 : decode cX2_init 22 = .ok (.aload_n 0, 1) := by decide +kernel
theorem dX2_init_23 : decode cX2_init 23 = .ok (.sipush 2002, 3) := by decide +kernel
theorem dX2_init_26 : decode cX2_init 26 = .ok (.newarray .int, 2) := by decide +kernel
theorem dX2_init_28 : decode cX2_init 28 = .ok (.putfield 18, 3) := by decide +kernel
theorem dX2_init_31 : decode cX2_init 31 = .ok (.aload_n 0, 1) := by decide +kernel
theorem dX2_init_32 : decode cX2_init 32 = .ok (.sipush 2002, 3) := by decide +kernel
theorem dX2_init_35 : decode cX2_init 35 = .ok (.newarray .int, 2) := by decide +kernel
theorem dX2_init_37 : decode cX2_init 37 = .ok (.putfield 21, 3) := by decide +kernel
theorem dX2_init_40 : decode cX2_init 40 = .ok (.aload_n 0, 1) := by decide +kernel
theorem dX2_init_41 : decode cX2_init 41 = .ok (.bipush 40, 2) := by decide +kernel
theorem dX2_init_43 : decode cX2_init 43 = .ok (.newarray .int, 2) := by decide +kernel
theorem dX2_init_45 : decode cX2_init 45 = .ok (.putfield 24, 3) := by decide +kernel
theorem dX2_init_48 : decode cX2_init 48 = .ok (.return_, 1) := by decide +kernel
theorem dX2_keyOf_0 : decode cX2_keyOf 0 = .ok (.aload_n 0, 1) := by decide +kernel
theorem dX2_keyOf_1 : decode cX2_keyOf 1 = .ok (.getfield 9, 3) := by decide +kernel
theorem dX2_keyOf_4 : decode cX2_keyOf 4 = .ok (.iload_n 1, 1) := by decide +kernel
theorem dX2_keyOf_5 : decode cX2_keyOf 5 = .ok (.iaload, 1) := by decide +kernel
theorem dX2_keyOf_6 : decode cX2_keyOf 6 = .ok (.ireturn, 1) := by decide +kernel
theorem dX2_name_0 : decode cX2_name 0 = .ok (.aload_n 0, 1) := by decide +kernel
theorem dX2_name_1 : decode cX2_name 1 = .ok (.getfield 9, 3) := by decide +kernel
theorem dX2_name_4 : decode cX2_name 4 = .ok (.iload_n 1, 1) := by decide +kernel
theorem dX2_name_5 : decode cX2_name 5 = .ok (.iload_n 2, 1) := by decide +kernel
theorem dX2_name_6 : decode cX2_name 6 = .ok (.iastore, 1) := by decide +kernel
theorem dX2_name_7 : decode cX2_name 7 = .ok (.return_, 1) := by decide +kernel
theorem dX2_heightOf_0 : decode cX2_heightOf 0 = .ok (.aload_n 0, 1) := by decide +kernel
theorem dX2_heightOf_1 : decode cX2_heightOf 1 = .ok (.getfield 21, 3) := by decide +kernel
theorem dX2_heightOf_4 : decode cX2_heightOf 4 = .ok (.iload_n 1, 1) := by decide +kernel
theorem dX2_heightOf_5 : decode cX2_heightOf 5 = .ok (.iaload, 1) := by decide +kernel
theorem dX2_heightOf_6 : decode cX2_heightOf 6 = .ok (.ireturn, 1) := by decide +kernel
theorem dX2_slotOf_0 : decode cX2_slotOf 0 = .ok (.iload_n 1, 1) := by decide +kernel
theorem dX2_slotOf_1 : decode cX2_slotOf 1 = .ok (.istore_n 3, 1) := by decide +kernel
theorem dX2_slotOf_2 : decode cX2_slotOf 2 = .ok (.iconst 0, 1) := by decide +kernel
theorem dX2_slotOf_3 : decode cX2_slotOf 3 = .ok (.istore 4, 2) := by decide +kernel
theorem dX2_slotOf_5 : decode cX2_slotOf 5 = .ok (.iload 4, 2) := by decide +kernel
theorem dX2_slotOf_7 : decode cX2_slotOf 7 = .ok (.bipush 40, 2) := by decide +kernel
theorem dX2_slotOf_9 : decode cX2_slotOf 9 = .ok (.if_icmp .ge 51, 3) := by decide +kernel
theorem dX2_slotOf_12 : decode cX2_slotOf 12 = .ok (.iload_n 3, 1) := by decide +kernel
theorem dX2_slotOf_13 : decode cX2_slotOf 13 = .ok (.ifCond .eq 47, 3) := by decide +kernel
theorem dX2_slotOf_16 : decode cX2_slotOf 16 = .ok (.aload_n 0, 1) := by decide +kernel
theorem dX2_slotOf_17 : decode cX2_slotOf 17 = .ok (.getfield 9, 3) := by decide +kernel
theorem dX2_slotOf_20 : decode cX2_slotOf 20 = .ok (.iload_n 3, 1) := by decide +kernel
theorem dX2_slotOf_21 : decode cX2_slotOf 21 = .ok (.iaload, 1) := by decide +kernel
theorem dX2_slotOf_22 : decode cX2_slotOf 22 = .ok (.iload_n 2, 1) := by decide +kernel
theorem dX2_slotOf_23 : decode cX2_slotOf 23 = .ok (.if_icmp .ne 5, 3) := by decide +kernel
theorem dX2_slotOf_26 : decode cX2_slotOf 26 = .ok (.iload_n 3, 1) := by decide +kernel
theorem dX2_slotOf_27 : decode cX2_slotOf 27 = .ok (.ireturn, 1) := by decide +kernel
theorem dX2_slotOf_28 : decode cX2_slotOf 28 = .ok (.iload_n 2, 1) := by decide +kernel
theorem dX2_slotOf_29 : decode cX2_slotOf 29 = .ok (.aload_n 0, 1) := by decide +kernel
theorem dX2_slotOf_30 : decode cX2_slotOf 30 = .ok (.getfield 9, 3) := by decide +kernel
theorem dX2_slotOf_33 : decode cX2_slotOf 33 = .ok (.iload_n 3, 1) := by decide +kernel
theorem dX2_slotOf_34 : decode cX2_slotOf 34 = .ok (.iaload, 1) := by decide +kernel
theorem dX2_slotOf_35 : decode cX2_slotOf 35 = .ok (.if_icmp .ge 12, 3) := by decide +kernel
theorem dX2_slotOf_38 : decode cX2_slotOf 38 = .ok (.aload_n 0, 1) := by decide +kernel
theorem dX2_slotOf_39 : decode cX2_slotOf 39 = .ok (.getfield 15, 3) := by decide +kernel
theorem dX2_slotOf_42 : decode cX2_slotOf 42 = .ok (.iload_n 3, 1) := by decide +kernel
theorem dX2_slotOf_43 : decode cX2_slotOf 43 = .ok (.iaload, 1) := by decide +kernel
theorem dX2_slotOf_44 : decode cX2_slotOf 44 = .ok (.goto 9, 3) := by decide +kernel
theorem dX2_slotOf_47 : decode cX2_slotOf 47 = .ok (.aload_n 0, 1) := by decide +kernel
theorem dX2_slotOf_48 : decode cX2_slotOf 48 = .ok (.getfield 18, 3) := by decide +kernel
theorem dX2_slotOf_51 : decode cX2_slotOf 51 = .ok (.iload_n 3, 1) := by decide +kernel
theorem dX2_slotOf_52 : decode cX2_slotOf 52 = .ok (.iaload, 1) := by decide +kernel
theorem dX2_slotOf_53 : decode cX2_slotOf 53 = .ok (.istore_n 3, 1) := by decide +kernel
theorem dX2_slotOf_54 : decode cX2_slotOf 54 = .ok (.iinc 4 1, 3) := by decide +kernel
theorem dX2_slotOf_57 : decode cX2_slotOf 57 = .ok (.goto (-52), 3) := by decide +kernel
theorem dX2_slotOf_60 : decode cX2_slotOf 60 = .ok (.iconst 0, 1) := by decide +kernel
theorem dX2_slotOf_61 : decode cX2_slotOf 61 = .ok (.ireturn, 1) := by decide +kernel
theorem dX2_with_0 : decode cX2_with 0 = .ok (.aload_n 0, 1) := by decide +kernel
theorem dX2_with_1 : decode cX2_with 1 = .ok (.getfield 15, 3) := by decide +kernel
theorem dX2_with_4 : decode cX2_with 4 = .ok (.iload_n 2, 1) := by decide +kernel
theorem dX2_with_5 : decode cX2_with 5 = .ok (.iconst 0, 1) := by decide +kernel
theorem dX2_with_6 : decode cX2_with 6 = .ok (.iastore, 1) := by decide +kernel
theorem dX2_with_7 : decode cX2_with 7 = .ok (.aload_n 0, 1) := by decide +kernel
theorem dX2_with_8 : decode cX2_with 8 = .ok (.getfield 18, 3) := by decide +kernel
theorem dX2_with_11 : decode cX2_with 11 = .ok (.iload_n 2, 1) := by decide +kernel
theorem dX2_with_12 : decode cX2_with 12 = .ok (.iconst 0, 1) := by decide +kernel
theorem dX2_with_13 : decode cX2_with 13 = .ok (.iastore, 1) := by decide +kernel
theorem dX2_with_14 : decode cX2_with 14 = .ok (.aload_n 0, 1) := by decide +kernel
theorem dX2_with_15 : decode cX2_with 15 = .ok (.getfield 21, 3) := by decide +kernel
theorem dX2_with_18 : decode cX2_with 18 = .ok (.iload_n 2, 1) := by decide +kernel
theorem dX2_with_19 : decode cX2_with 19 = .ok (.iconst 1, 1) := by decide +kernel
theorem dX2_with_20 : decode cX2_with 20 = .ok (.iastore, 1) := by decide +kernel
theorem dX2_with_21 : decode cX2_with 21 = .ok (.aload_n 0, 1) := by decide +kernel
theorem dX2_with_22 : decode cX2_with 22 = .ok (.iload_n 1, 1) := by decide +kernel
theorem dX2_with_23 : decode cX2_with 23 = .ok (.iload_n 2, 1) := by decide +kernel
theorem dX2_with_24 : decode cX2_with 24 = .ok (.invokevirtual 27, 3) := by decide +kernel
theorem dX2_with_27 : decode cX2_with 27 = .ok (.istore_n 3, 1) := by decide +kernel
theorem dX2_with_28 : decode cX2_with 28 = .ok (.aload_n 0, 1) := by decide +kernel
theorem dX2_with_29 : decode cX2_with 29 = .ok (.iload_n 3, 1) := by decide +kernel
theorem dX2_with_30 : decode cX2_with 30 = .ok (.aload_n 0, 1) := by decide +kernel
theorem dX2_with_31 : decode cX2_with 31 = .ok (.getfield 9, 3) := by decide +kernel
theorem dX2_with_34 : decode cX2_with 34 = .ok (.iload_n 2, 1) := by decide +kernel
theorem dX2_with_35 : decode cX2_with 35 = .ok (.iaload, 1) := by decide +kernel
theorem dX2_with_36 : decode cX2_with 36 = .ok (.iload_n 2, 1) := by decide +kernel
theorem dX2_with_37 : decode cX2_with 37 = .ok (.invokevirtual 31, 3) := by decide +kernel
theorem dX2_with_40 : decode cX2_with 40 = .ok (.ireturn, 1) := by decide +kernel
theorem dX2_without_0 : decode cX2_without 0 = .ok (.aload_n 0, 1) := by decide +kernel
theorem dX2_without_1 : decode cX2_without 1 = .ok (.iload_n 1, 1) := by decide +kernel
theorem dX2_without_2 : decode cX2_without 2 = .ok (.iload_n 2, 1) := by decide +kernel
theorem dX2_without_3 : decode cX2_without 3 = .ok (.invokevirtual 27, 3) := by decide +kernel
theorem dX2_without_6 : decode cX2_without 6 = .ok (.istore_n 3, 1) := by decide +kernel
theorem dX2_without_7 : decode cX2_without 7 = .ok (.aload_n 0, 1) := by decide +kernel
theorem dX2_without_8 : decode cX2_without 8 = .ok (.getfield 18, 3) := by decide +kernel
theorem dX2_without_11 : decode cX2_without 11 = .ok (.iload_n 2, 1) := by decide +kernel
theorem dX2_without_12 : decode cX2_without 12 = .ok (.iaload, 1) := by decide +kernel
theorem dX2_without_13 : decode cX2_without 13 = .ok (.ifCond .ne 21, 3) := by decide +kernel
theorem dX2_without_16 : decode cX2_without 16 = .ok (.aload_n 0, 1) := by decide +kernel
theorem dX2_without_17 : decode cX2_without 17 = .ok (.iload_n 3, 1) := by decide +kernel
theorem dX2_without_18 : decode cX2_without 18 = .ok (.aload_n 0, 1) := by decide +kernel
theorem dX2_without_19 : decode cX2_without 19 = .ok (.getfield 9, 3) := by decide +kernel
theorem dX2_without_22 : decode cX2_without 22 = .ok (.iload_n 2, 1) := by decide +kernel
theorem dX2_without_23 : decode cX2_without 23 = .ok (.iaload, 1) := by decide +kernel
theorem dX2_without_24 : decode cX2_without 24 = .ok (.aload_n 0, 1) := by decide +kernel
theorem dX2_without_25 : decode cX2_without 25 = .ok (.getfield 15, 3) := by decide +kernel
theorem dX2_without_28 : decode cX2_without 28 = .ok (.iload_n 2, 1) := by decide +kernel
theorem dX2_without_29 : decode cX2_without 29 = .ok (.iaload, 1) := by decide +kernel
theorem dX2_without_30 : decode cX2_without 30 = .ok (.invokevirtual 31, 3) := by decide +kernel
theorem dX2_without_33 : decode cX2_without 33 = .ok (.ireturn, 1) := by decide +kernel
theorem dX2_without_34 : decode cX2_without 34 = .ok (.iload_n 3, 1) := by decide +kernel
theorem dX2_without_35 : decode cX2_without 35 = .ok (.istore 4, 2) := by decide +kernel
theorem dX2_without_37 : decode cX2_without 37 = .ok (.aload_n 0, 1) := by decide +kernel
theorem dX2_without_38 : decode cX2_without 38 = .ok (.getfield 18, 3) := by decide +kernel
theorem dX2_without_41 : decode cX2_without 41 = .ok (.iload_n 2, 1) := by decide +kernel
theorem dX2_without_42 : decode cX2_without 42 = .ok (.iaload, 1) := by decide +kernel
theorem dX2_without_43 : decode cX2_without 43 = .ok (.istore 5, 2) := by decide +kernel
theorem dX2_without_45 : decode cX2_without 45 = .ok (.iinc 3 1, 3) := by decide +kernel
theorem dX2_without_48 : decode cX2_without 48 = .ok (.aload_n 0, 1) := by decide +kernel
theorem dX2_without_49 : decode cX2_without 49 = .ok (.getfield 15, 3) := by decide +kernel
theorem dX2_without_52 : decode cX2_without 52 = .ok (.iload 5, 2) := by decide +kernel
theorem dX2_without_54 : decode cX2_without 54 = .ok (.iaload, 1) := by decide +kernel
theorem dX2_without_55 : decode cX2_without 55 = .ok (.ifCond .eq 32, 3) := by decide +kernel
theorem dX2_without_58 : decode cX2_without 58 = .ok (.iload_n 3, 1) := by decide +kernel
theorem dX2_without_59 : decode cX2_without 59 = .ok (.bipush 40, 2) := by decide +kernel
theorem dX2_without_61 : decode cX2_without 61 = .ok (.if_icmp .ge 26, 3) := by decide +kernel
theorem dX2_without_64 : decode cX2_without 64 = .ok (.aload_n 0, 1) := by decide +kernel
theorem dX2_without_65 : decode cX2_without 65 = .ok (.getfield 24, 3) := by decide +kernel
theorem dX2_without_68 : decode cX2_without 68 = .ok (.iload_n 3, 1) := by decide +kernel
theorem dX2_without_69 : decode cX2_without 69 = .ok (.iload 5, 2) := by decide +kernel
theorem dX2_without_71 : decode cX2_without 71 = .ok (.iastore, 1) := by decide +kernel
theorem dX2_without_72 : decode cX2_without 72 = .ok (.iinc 3 1, 3) := by decide +kernel
theorem dX2_without_75 : decode cX2_without 75 = .ok (.aload_n 0, 1) := by decide +kernel
theorem dX2_without_76 : decode cX2_without 76 = .ok (.getfield 15, 3) := by decide +kernel
theorem dX2_without_79 : decode cX2_without 79 = .ok (.iload 5, 2) := by decide +kernel
theorem dX2_without_81 : decode cX2_without 81 = .ok (.iaload, 1) := by decide +kernel
theorem dX2_without_82 : decode cX2_without 82 = .ok (.istore 5, 2) := by decide +kernel
theorem dX2_without_84 : decode cX2_without 84 = .ok (.goto (-36), 3) := by decide +kernel
theorem dX2_without_87 : decode cX2_without 87 = .ok (.aload_n 0, 1) := by decide +kernel
theorem dX2_without_88 : decode cX2_without 88 = .ok (.getfield 24, 3) := by decide +kernel
theorem dX2_without_91 : decode cX2_without 91 = .ok (.iload 4, 2) := by decide +kernel
theorem dX2_without_93 : decode cX2_without 93 = .ok (.iload 5, 2) := by decide +kernel
theorem dX2_without_95 : decode cX2_without 95 = .ok (.iastore, 1) := by decide +kernel
theorem dX2_without_96 : decode cX2_without 96 = .ok (.aload_n 0, 1) := by decide +kernel
theorem dX2_without_97 : decode cX2_without 97 = .ok (.getfield 15, 3) := by decide +kernel
theorem dX2_without_100 : decode cX2_without 100 = .ok (.iload 5, 2) := by decide +kernel
theorem dX2_without_102 : decode cX2_without 102 = .ok (.aload_n 0, 1) := by decide +kernel
theorem dX2_without_103 : decode cX2_without 103 = .ok (.getfield 15, 3) := by decide +kernel
theorem dX2_without_106 : decode cX2_without 106 = .ok (.iload_n 2, 1) := by decide +kernel
theorem dX2_without_107 : decode cX2_without 107 = .ok (.iaload, 1) := by decide +kernel
theorem dX2_without_108 : decode cX2_without 108 = .ok (.iastore, 1) := by decide +kernel
theorem dX2_without_109 : decode cX2_without 109 = .ok (.aload_n 0, 1) := by decide +kernel
theorem dX2_without_110 : decode cX2_without 110 = .ok (.iload_n 3, 1) := by decide +kernel
theorem dX2_without_111 : decode cX2_without 111 = .ok (.aload_n 0, 1) := by decide +kernel
theorem dX2_without_112 : decode cX2_without 112 = .ok (.getfield 9, 3) := by decide +kernel
theorem dX2_without_115 : decode cX2_without 115 = .ok (.iload 5, 2) := by decide +kernel
theorem dX2_without_117 : decode cX2_without 117 = .ok (.iaload, 1) := by decide +kernel
theorem dX2_without_118 : decode cX2_without 118 = .ok (.aload_n 0, 1) := by decide +kernel
theorem dX2_without_119 : decode cX2_without 119 = .ok (.getfield 18, 3) := by decide +kernel
theorem dX2_without_122 : decode cX2_without 122 = .ok (.iload 5, 2) := by decide +kernel
theorem dX2_without_124 : decode cX2_without 124 = .ok (.iaload, 1) := by decide +kernel
theorem dX2_without_125 : decode cX2_without 125 = .ok (.invokevirtual 31, 3) := by decide +kernel
theorem dX2_without_128 : decode cX2_without 128 = .ok (.ireturn, 1) := by decide +kernel
theorem dX2_faultsAt_0 : decode cX2_faultsAt 0 = .ok (.iconst 0, 1) := by decide +kernel
theorem dX2_faultsAt_1 : decode cX2_faultsAt 1 = .ok (.istore_n 2, 1) := by decide +kernel
theorem dX2_faultsAt_2 : decode cX2_faultsAt 2 = .ok (.aload_n 0, 1) := by decide +kernel
theorem dX2_faultsAt_3 : decode cX2_faultsAt 3 = .ok (.getfield 15, 3) := by decide +kernel
theorem dX2_faultsAt_6 : decode cX2_faultsAt 6 = .ok (.iload_n 1, 1) := by decide +kernel
theorem dX2_faultsAt_7 : decode cX2_faultsAt 7 = .ok (.iaload, 1) := by decide +kernel
theorem dX2_faultsAt_8 : decode cX2_faultsAt 8 = .ok (.istore_n 3, 1) := by decide +kernel
theorem dX2_faultsAt_9 : decode cX2_faultsAt 9 = .ok (.aload_n 0, 1) := by decide +kernel
theorem dX2_faultsAt_10 : decode cX2_faultsAt 10 = .ok (.getfield 18, 3) := by decide +kernel
theorem dX2_faultsAt_13 : decode cX2_faultsAt 13 = .ok (.iload_n 1, 1) := by decide +kernel
theorem dX2_faultsAt_14 : decode cX2_faultsAt 14 = .ok (.iaload, 1) := by decide +kernel
theorem dX2_faultsAt_15 : decode cX2_faultsAt 15 = .ok (.istore 4, 2) := by decide +kernel
theorem dX2_faultsAt_17 : decode cX2_faultsAt 17 = .ok (.iload_n 3, 1) := by decide +kernel
theorem dX2_faultsAt_18 : decode cX2_faultsAt 18 = .ok (.ifCond .eq 21, 3) := by decide +kernel
theorem dX2_faultsAt_21 : decode cX2_faultsAt 21 = .ok (.aload_n 0, 1) := by decide +kernel
theorem dX2_faultsAt_22 : decode cX2_faultsAt 22 = .ok (.getfield 9, 3) := by decide +kernel
theorem dX2_faultsAt_25 : decode cX2_faultsAt 25 = .ok (.iload_n 3, 1) := by decide +kernel
theorem dX2_faultsAt_26 : decode cX2_faultsAt 26 = .ok (.iaload, 1) := by decide +kernel
theorem dX2_faultsAt_27 : decode cX2_faultsAt 27 = .ok (.aload_n 0, 1) := by decide +kernel
theorem dX2_faultsAt_28 : decode cX2_faultsAt 28 = .ok (.getfield 9, 3) := by decide +kernel
theorem dX2_faultsAt_31 : decode cX2_faultsAt 31 = .ok (.iload_n 1, 1) := by decide +kernel
theorem dX2_faultsAt_32 : decode cX2_faultsAt 32 = .ok (.iaload, 1) := by decide +kernel
theorem dX2_faultsAt_33 : decode cX2_faultsAt 33 = .ok (.if_icmp .lt 6, 3) := by decide +kernel
theorem dX2_faultsAt_36 : decode cX2_faultsAt 36 = .ok (.iinc 2 1, 3) := by decide +kernel
theorem dX2_faultsAt_39 : decode cX2_faultsAt 39 = .ok (.iload 4, 2) := by decide +kernel
theorem dX2_faultsAt_41 : decode cX2_faultsAt 41 = .ok (.ifCond .eq 22, 3) := by decide +kernel
theorem dX2_faultsAt_44 : decode cX2_faultsAt 44 = .ok (.aload_n 0, 1) := by decide +kernel
theorem dX2_faultsAt_45 : decode cX2_faultsAt 45 = .ok (.getfield 9, 3) := by decide +kernel
theorem dX2_faultsAt_48 : decode cX2_faultsAt 48 = .ok (.iload 4, 2) := by decide +kernel
theorem dX2_faultsAt_50 : decode cX2_faultsAt 50 = .ok (.iaload, 1) := by decide +kernel
theorem dX2_faultsAt_51 : decode cX2_faultsAt 51 = .ok (.aload_n 0, 1) := by decide +kernel
theorem dX2_faultsAt_52 : decode cX2_faultsAt 52 = .ok (.getfield 9, 3) := by decide +kernel
theorem dX2_faultsAt_55 : decode cX2_faultsAt 55 = .ok (.iload_n 1, 1) := by decide +kernel
theorem dX2_faultsAt_56 : decode cX2_faultsAt 56 = .ok (.iaload, 1) := by decide +kernel
theorem dX2_faultsAt_57 : decode cX2_faultsAt 57 = .ok (.if_icmp .gt 6, 3) := by decide +kernel
theorem dX2_faultsAt_60 : decode cX2_faultsAt 60 = .ok (.iinc 2 1, 3) := by decide +kernel
theorem dX2_faultsAt_63 : decode cX2_faultsAt 63 = .ok (.aload_n 0, 1) := by decide +kernel
theorem dX2_faultsAt_64 : decode cX2_faultsAt 64 = .ok (.getfield 21, 3) := by decide +kernel
theorem dX2_faultsAt_67 : decode cX2_faultsAt 67 = .ok (.iload_n 3, 1) := by decide +kernel
theorem dX2_faultsAt_68 : decode cX2_faultsAt 68 = .ok (.iaload, 1) := by decide +kernel
theorem dX2_faultsAt_69 : decode cX2_faultsAt 69 = .ok (.aload_n 0, 1) := by decide +kernel
theorem dX2_faultsAt_70 : decode cX2_faultsAt 70 = .ok (.getfield 21, 3) := by decide +kernel
theorem dX2_faultsAt_73 : decode cX2_faultsAt 73 = .ok (.iload 4, 2) := by decide +kernel
theorem dX2_faultsAt_75 : decode cX2_faultsAt 75 = .ok (.iaload, 1) := by decide +kernel
theorem dX2_faultsAt_76 : decode cX2_faultsAt 76 = .ok (.isub, 1) := by decide +kernel
theorem dX2_faultsAt_77 : decode cX2_faultsAt 77 = .ok (.istore 5, 2) := by decide +kernel
theorem dX2_faultsAt_79 : decode cX2_faultsAt 79 = .ok (.iload 5, 2) := by decide +kernel
theorem dX2_faultsAt_81 : decode cX2_faultsAt 81 = .ok (.iconst (-1), 1) := by decide +kernel
theorem dX2_faultsAt_82 : decode cX2_faultsAt 82 = .ok (.if_icmp .lt 9, 3) := by decide +kernel
theorem dX2_faultsAt_85 : decode cX2_faultsAt 85 = .ok (.iload 5, 2) := by decide +kernel
theorem dX2_faultsAt_87 : decode cX2_faultsAt 87 = .ok (.iconst 1, 1) := by decide +kernel
theorem dX2_faultsAt_88 : decode cX2_faultsAt 88 = .ok (.if_icmp .le 6, 3) := by decide +kernel
theorem dX2_faultsAt_91 : decode cX2_faultsAt 91 = .ok (.iinc 2 1, 3) := by decide +kernel
theorem dX2_faultsAt_94 : decode cX2_faultsAt 94 = .ok (.aload_n 0, 1) := by decide +kernel
theorem dX2_faultsAt_95 : decode cX2_faultsAt 95 = .ok (.getfield 21, 3) := by decide +kernel
theorem dX2_faultsAt_98 : decode cX2_faultsAt 98 = .ok (.iload_n 1, 1) := by decide +kernel
theorem dX2_faultsAt_99 : decode cX2_faultsAt 99 = .ok (.iaload, 1) := by decide +kernel
theorem dX2_faultsAt_100 : decode cX2_faultsAt 100 = .ok (.aload_n 0, 1) := by decide +kernel
theorem dX2_faultsAt_101 : decode cX2_faultsAt 101 = .ok (.iload_n 1, 1) := by decide +kernel
theorem dX2_faultsAt_102 : decode cX2_faultsAt 102 = .ok (.invokevirtual 35, 3) := by decide +kernel
theorem dX2_faultsAt_105 : decode cX2_faultsAt 105 = .ok (.if_icmp .eq 6, 3) := by decide +kernel
theorem dX2_faultsAt_108 : decode cX2_faultsAt 108 = .ok (.iinc 2 1, 3) := by decide +kernel
theorem dX2_faultsAt_111 : decode cX2_faultsAt 111 = .ok (.iload_n 2, 1) := by decide +kernel
theorem dX2_faultsAt_112 : decode cX2_faultsAt 112 = .ok (.ireturn, 1) := by decide +kernel
theorem dX2_branchesOf_0 : decode cX2_branchesOf 0 = .ok (.aload_n 0, 1) := by decide +kernel
theorem dX2_branchesOf_1 : decode cX2_branchesOf 1 = .ok (.getfield 15, 3) := by decide +kernel
theorem dX2_branchesOf_4 : decode cX2_branchesOf 4 = .ok (.iload_n 1, 1) := by decide +kernel
theorem dX2_branchesOf_5 : decode cX2_branchesOf 5 = .ok (.iaload, 1) := by decide +kernel
theorem dX2_branchesOf_6 : decode cX2_branchesOf 6 = .ok (.ifCond .ne 7, 3) := by decide +kernel
theorem dX2_branchesOf_9 : decode cX2_branchesOf 9 = .ok (.iconst 0, 1) := by decide +kernel
theorem dX2_branchesOf_10 : decode cX2_branchesOf 10 = .ok (.goto 4, 3) := by decide +kernel
theorem dX2_branchesOf_13 : decode cX2_branchesOf 13 = .ok (.iconst 1, 1) := by decide +kernel
theorem dX2_branchesOf_14 : decode cX2_branchesOf 14 = .ok (.aload_n 0, 1) := by decide +kernel
theorem dX2_branchesOf_15 : decode cX2_branchesOf 15 = .ok (.getfield 18, 3) := by decide +kernel
theorem dX2_branchesOf_18 : decode cX2_branchesOf 18 = .ok (.iload_n 1, 1) := by decide +kernel
theorem dX2_branchesOf_19 : decode cX2_branchesOf 19 = .ok (.iaload, 1) := by decide +kernel
theorem dX2_branchesOf_20 : decode cX2_branchesOf 20 = .ok (.ifCond .ne 7, 3) := by decide +kernel
theorem dX2_branchesOf_23 : decode cX2_branchesOf 23 = .ok (.iconst 0, 1) := by decide +kernel
theorem dX2_branchesOf_24 : decode cX2_branchesOf 24 = .ok (.goto 4, 3) := by decide +kernel
theorem dX2_branchesOf_27 : decode cX2_branchesOf 27 = .ok (.iconst 1, 1) := by decide +kernel
theorem dX2_branchesOf_28 : decode cX2_branchesOf 28 = .ok (.iadd, 1) := by decide +kernel
theorem dX2_branchesOf_29 : decode cX2_branchesOf 29 = .ok (.ireturn, 1) := by decide +kernel
theorem dX2_descend_0 : decode cX2_descend 0 = .ok (.iconst 0, 1) := by decide +kernel
theorem dX2_descend_1 : decode cX2_descend 1 = .ok (.istore_n 3, 1) := by decide +kernel
theorem dX2_descend_2 : decode cX2_descend 2 = .ok (.iload_n 1, 1) := by decide +kernel
theorem dX2_descend_3 : decode cX2_descend 3 = .ok (.istore 4, 2) := by decide +kernel
theorem dX2_descend_5 : decode cX2_descend 5 = .ok (.iload 4, 2) := by decide +kernel
theorem dX2_descend_7 : decode cX2_descend 7 = .ok (.ifCond .eq 64, 3) := by decide +kernel
theorem dX2_descend_10 : decode cX2_descend 10 = .ok (.iload 4, 2) := by decide +kernel
theorem dX2_descend_12 : decode cX2_descend 12 = .ok (.iload_n 2, 1) := by decide +kernel
theorem dX2_descend_13 : decode cX2_descend 13 = .ok (.if_icmp .eq 58, 3) := by decide +kernel
theorem dX2_descend_16 : decode cX2_descend 16 = .ok (.iload_n 3, 1) := by decide +kernel
theorem dX2_descend_17 : decode cX2_descend 17 = .ok (.bipush 39, 2) := by decide +kernel
theorem dX2_descend_19 : decode cX2_descend 19 = .ok (.if_icmp .ge 52, 3) := by decide +kernel
theorem dX2_descend_22 : decode cX2_descend 22 = .ok (.aload_n 0, 1) := by decide +kernel
theorem dX2_descend_23 : decode cX2_descend 23 = .ok (.getfield 24, 3) := by decide +kernel
theorem dX2_descend_26 : decode cX2_descend 26 = .ok (.iload_n 3, 1) := by decide +kernel
theorem dX2_descend_27 : decode cX2_descend 27 = .ok (.iload 4, 2) := by decide +kernel
theorem dX2_descend_29 : decode cX2_descend 29 = .ok (.iastore, 1) := by decide +kernel
theorem dX2_descend_30 : decode cX2_descend 30 = .ok (.iinc 3 1, 3) := by decide +kernel
theorem dX2_descend_33 : decode cX2_descend 33 = .ok (.aload_n 0, 1) := by decide +kernel
theorem dX2_descend_34 : decode cX2_descend 34 = .ok (.getfield 9, 3) := by decide +kernel
theorem dX2_descend_37 : decode cX2_descend 37 = .ok (.iload_n 2, 1) := by decide +kernel
theorem dX2_descend_38 : decode cX2_descend 38 = .ok (.iaload, 1) := by decide +kernel
theorem dX2_descend_39 : decode cX2_descend 39 = .ok (.aload_n 0, 1) := by decide +kernel
theorem dX2_descend_40 : decode cX2_descend 40 = .ok (.getfield 9, 3) := by decide +kernel
theorem dX2_descend_43 : decode cX2_descend 43 = .ok (.iload 4, 2) := by decide +kernel
theorem dX2_descend_45 : decode cX2_descend 45 = .ok (.iaload, 1) := by decide +kernel
theorem dX2_descend_46 : decode cX2_descend 46 = .ok (.if_icmp .ge 13, 3) := by decide +kernel
theorem dX2_descend_49 : decode cX2_descend 49 = .ok (.aload_n 0, 1) := by decide +kernel
theorem dX2_descend_50 : decode cX2_descend 50 = .ok (.getfield 15, 3) := by decide +kernel
theorem dX2_descend_53 : decode cX2_descend 53 = .ok (.iload 4, 2) := by decide +kernel
theorem dX2_descend_55 : decode cX2_descend 55 = .ok (.iaload, 1) := by decide +kernel
theorem dX2_descend_56 : decode cX2_descend 56 = .ok (.goto 10, 3) := by decide +kernel
theorem dX2_descend_59 : decode cX2_descend 59 = .ok (.aload_n 0, 1) := by decide +kernel
theorem dX2_descend_60 : decode cX2_descend 60 = .ok (.getfield 18, 3) := by decide +kernel
theorem dX2_descend_63 : decode cX2_descend 63 = .ok (.iload 4, 2) := by decide +kernel
theorem dX2_descend_65 : decode cX2_descend 65 = .ok (.iaload, 1) := by decide +kernel
theorem dX2_descend_66 : decode cX2_descend 66 = .ok (.istore 4, 2) := by decide +kernel
theorem dX2_descend_68 : decode cX2_descend 68 = .ok (.goto (-63), 3) := by decide +kernel
theorem dX2_descend_71 : decode cX2_descend 71 = .ok (.iload_n 3, 1) := by decide +kernel
theorem dX2_descend_72 : decode cX2_descend 72 = .ok (.ireturn, 1) := by decide +kernel
theorem dX2_climb_0 : decode cX2_climb 0 = .ok (.iload_n 3, 1) := by decide +kernel
theorem dX2_climb_1 : decode cX2_climb 1 = .ok (.istore 4, 2) := by decide +kernel
theorem dX2_climb_3 : decode cX2_climb 3 = .ok (.iload_n 1, 1) := by decide +kernel
theorem dX2_climb_4 : decode cX2_climb 4 = .ok (.iconst 1, 1) := by decide +kernel
theorem dX2_climb_5 : decode cX2_climb 5 = .ok (.isub, 1) := by decide +kernel
theorem dX2_climb_6 : decode cX2_climb 6 = .ok (.istore 5, 2) := by decide +kernel
theorem dX2_climb_8 : decode cX2_climb 8 = .ok (.iload 5, 2) := by decide +kernel
theorem dX2_climb_10 : decode cX2_climb 10 = .ok (.ifCond .lt 58, 3) := by decide +kernel
theorem dX2_climb_13 : decode cX2_climb 13 = .ok (.aload_n 0, 1) := by decide +kernel
theorem dX2_climb_14 : decode cX2_climb 14 = .ok (.getfield 24, 3) := by decide +kernel
theorem dX2_climb_17 : decode cX2_climb 17 = .ok (.iload 5, 2) := by decide +kernel
theorem dX2_climb_19 : decode cX2_climb 19 = .ok (.iaload, 1) := by decide +kernel
theorem dX2_climb_20 : decode cX2_climb 20 = .ok (.istore 6, 2) := by decide +kernel
theorem dX2_climb_22 : decode cX2_climb 22 = .ok (.iload_n 2, 1) := by decide +kernel
theorem dX2_climb_23 : decode cX2_climb 23 = .ok (.aload_n 0, 1) := by decide +kernel
theorem dX2_climb_24 : decode cX2_climb 24 = .ok (.getfield 9, 3) := by decide +kernel
theorem dX2_climb_27 : decode cX2_climb 27 = .ok (.iload 6, 2) := by decide +kernel
theorem dX2_climb_29 : decode cX2_climb 29 = .ok (.iaload, 1) := by decide +kernel
theorem dX2_climb_30 : decode cX2_climb 30 = .ok (.if_icmp .ge 15, 3) := by decide +kernel
theorem dX2_climb_33 : decode cX2_climb 33 = .ok (.aload_n 0, 1) := by decide +kernel
theorem dX2_climb_34 : decode cX2_climb 34 = .ok (.getfield 15, 3) := by decide +kernel
theorem dX2_climb_37 : decode cX2_climb 37 = .ok (.iload 6, 2) := by decide +kernel
theorem dX2_climb_39 : decode cX2_climb 39 = .ok (.iload 4, 2) := by decide +kernel
theorem dX2_climb_41 : decode cX2_climb 41 = .ok (.iastore, 1) := by decide +kernel
theorem dX2_climb_42 : decode cX2_climb 42 = .ok (.goto 12, 3) := by decide +kernel
theorem dX2_climb_45 : decode cX2_climb 45 = .ok (.aload_n 0, 1) := by decide +kernel
theorem dX2_climb_46 : decode cX2_climb 46 = .ok (.getfield 18, 3) := by decide +kernel
theorem dX2_climb_49 : decode cX2_climb 49 = .ok (.iload 6, 2) := by decide +kernel
theorem dX2_climb_51 : decode cX2_climb 51 = .ok (.iload 4, 2) := by decide +kernel
theorem dX2_climb_53 : decode cX2_climb 53 = .ok (.iastore, 1) := by decide +kernel
theorem dX2_climb_54 : decode cX2_climb 54 = .ok (.aload_n 0, 1) := by decide +kernel
theorem dX2_climb_55 : decode cX2_climb 55 = .ok (.iload 6, 2) := by decide +kernel
theorem dX2_climb_57 : decode cX2_climb 57 = .ok (.invokevirtual 39, 3) := by decide +kernel
theorem dX2_climb_60 : decode cX2_climb 60 = .ok (.istore 4, 2) := by decide +kernel
theorem dX2_climb_62 : decode cX2_climb 62 = .ok (.iinc 5 (-1), 3) := by decide +kernel
theorem dX2_climb_65 : decode cX2_climb 65 = .ok (.goto (-57), 3) := by decide +kernel
theorem dX2_climb_68 : decode cX2_climb 68 = .ok (.iload 4, 2) := by decide +kernel
theorem dX2_climb_70 : decode cX2_climb 70 = .ok (.ireturn, 1) := by decide +kernel
theorem dX2_balance_0 : decode cX2_balance 0 = .ok (.aload_n 0, 1) := by decide +kernel
theorem dX2_balance_1 : decode cX2_balance 1 = .ok (.getfield 21, 3) := by decide +kernel
theorem dX2_balance_4 : decode cX2_balance 4 = .ok (.aload_n 0, 1) := by decide +kernel
theorem dX2_balance_5 : decode cX2_balance 5 = .ok (.getfield 15, 3) := by decide +kernel
theorem dX2_balance_8 : decode cX2_balance 8 = .ok (.iload_n 1, 1) := by decide +kernel
theorem dX2_balance_9 : decode cX2_balance 9 = .ok (.iaload, 1) := by decide +kernel
theorem dX2_balance_10 : decode cX2_balance 10 = .ok (.iaload, 1) := by decide +kernel
theorem dX2_balance_11 : decode cX2_balance 11 = .ok (.aload_n 0, 1) := by decide +kernel
theorem dX2_balance_12 : decode cX2_balance 12 = .ok (.getfield 21, 3) := by decide +kernel
theorem dX2_balance_15 : decode cX2_balance 15 = .ok (.aload_n 0, 1) := by decide +kernel
theorem dX2_balance_16 : decode cX2_balance 16 = .ok (.getfield 18, 3) := by decide +kernel
theorem dX2_balance_19 : decode cX2_balance 19 = .ok (.iload_n 1, 1) := by decide +kernel
theorem dX2_balance_20 : decode cX2_balance 20 = .ok (.iaload, 1) := by decide +kernel
theorem dX2_balance_21 : decode cX2_balance 21 = .ok (.iaload, 1) := by decide +kernel
theorem dX2_balance_22 : decode cX2_balance 22 = .ok (.isub, 1) := by decide +kernel
theorem dX2_balance_23 : decode cX2_balance 23 = .ok (.istore_n 2, 1) := by decide +kernel
theorem dX2_balance_24 : decode cX2_balance 24 = .ok (.iload_n 2, 1) := by decide +kernel
theorem dX2_balance_25 : decode cX2_balance 25 = .ok (.iconst (-1), 1) := by decide +kernel
theorem dX2_balance_26 : decode cX2_balance 26 = .ok (.if_icmp .lt 21, 3) := by decide +kernel
theorem dX2_balance_29 : decode cX2_balance 29 = .ok (.iload_n 2, 1) := by decide +kernel
theorem dX2_balance_30 : decode cX2_balance 30 = .ok (.iconst 1, 1) := by decide +kernel
theorem dX2_balance_31 : decode cX2_balance 31 = .ok (.if_icmp .gt 16, 3) := by decide +kernel
theorem dX2_balance_34 : decode cX2_balance 34 = .ok (.aload_n 0, 1) := by decide +kernel
theorem dX2_balance_35 : decode cX2_balance 35 = .ok (.getfield 21, 3) := by decide +kernel
theorem dX2_balance_38 : decode cX2_balance 38 = .ok (.iload_n 1, 1) := by decide +kernel
theorem dX2_balance_39 : decode cX2_balance 39 = .ok (.aload_n 0, 1) := by decide +kernel
theorem dX2_balance_40 : decode cX2_balance 40 = .ok (.iload_n 1, 1) := by decide +kernel
theorem dX2_balance_41 : decode cX2_balance 41 = .ok (.invokevirtual 35, 3) := by decide +kernel
theorem dX2_balance_44 : decode cX2_balance 44 = .ok (.iastore, 1) := by decide +kernel
theorem dX2_balance_45 : decode cX2_balance 45 = .ok (.iload_n 1, 1) := by decide +kernel
theorem dX2_balance_46 : decode cX2_balance 46 = .ok (.ireturn, 1) := by decide +kernel
theorem dX2_balance_47 : decode cX2_balance 47 = .ok (.iload_n 2, 1) := by decide +kernel
theorem dX2_balance_48 : decode cX2_balance 48 = .ok (.iconst 1, 1) := by decide +kernel
theorem dX2_balance_49 : decode cX2_balance 49 = .ok (.if_icmp .le 11, 3) := by decide +kernel
theorem dX2_balance_52 : decode cX2_balance 52 = .ok (.aload_n 0, 1) := by decide +kernel
theorem dX2_balance_53 : decode cX2_balance 53 = .ok (.iload_n 1, 1) := by decide +kernel
theorem dX2_balance_54 : decode cX2_balance 54 = .ok (.invokevirtual 42, 3) := by decide +kernel
theorem dX2_balance_57 : decode cX2_balance 57 = .ok (.goto 8, 3) := by decide +kernel
theorem dX2_balance_60 : decode cX2_balance 60 = .ok (.aload_n 0, 1) := by decide +kernel
theorem dX2_balance_61 : decode cX2_balance 61 = .ok (.iload_n 1, 1) := by decide +kernel
theorem dX2_balance_62 : decode cX2_balance 62 = .ok (.invokevirtual 45, 3) := by decide +kernel
theorem dX2_balance_65 : decode cX2_balance 65 = .ok (.istore_n 3, 1) := by decide +kernel
theorem dX2_balance_66 : decode cX2_balance 66 = .ok (.aload_n 0, 1) := by decide +kernel
theorem dX2_balance_67 : decode cX2_balance 67 = .ok (.getfield 21, 3) := by decide +kernel
theorem dX2_balance_70 : decode cX2_balance 70 = .ok (.aload_n 0, 1) := by decide +kernel
theorem dX2_balance_71 : decode cX2_balance 71 = .ok (.getfield 15, 3) := by decide +kernel
theorem dX2_balance_74 : decode cX2_balance 74 = .ok (.iload_n 3, 1) := by decide +kernel
theorem dX2_balance_75 : decode cX2_balance 75 = .ok (.iaload, 1) := by decide +kernel
theorem dX2_balance_76 : decode cX2_balance 76 = .ok (.aload_n 0, 1) := by decide +kernel
theorem dX2_balance_77 : decode cX2_balance 77 = .ok (.aload_n 0, 1) := by decide +kernel
theorem dX2_balance_78 : decode cX2_balance 78 = .ok (.getfield 15, 3) := by decide +kernel
theorem dX2_balance_81 : decode cX2_balance 81 = .ok (.iload_n 3, 1) := by decide +kernel
theorem dX2_balance_82 : decode cX2_balance 82 = .ok (.iaload, 1) := by decide +kernel
theorem dX2_balance_83 : decode cX2_balance 83 = .ok (.invokevirtual 35, 3) := by decide +kernel
theorem dX2_balance_86 : decode cX2_balance 86 = .ok (.iastore, 1) := by decide +kernel
theorem dX2_balance_87 : decode cX2_balance 87 = .ok (.aload_n 0, 1) := by decide +kernel
theorem dX2_balance_88 : decode cX2_balance 88 = .ok (.getfield 21, 3) := by decide +kernel
theorem dX2_balance_91 : decode cX2_balance 91 = .ok (.aload_n 0, 1) := by decide +kernel
theorem dX2_balance_92 : decode cX2_balance 92 = .ok (.getfield 18, 3) := by decide +kernel
theorem dX2_balance_95 : decode cX2_balance 95 = .ok (.iload_n 3, 1) := by decide +kernel
theorem dX2_balance_96 : decode cX2_balance 96 = .ok (.iaload, 1) := by decide +kernel
theorem dX2_balance_97 : decode cX2_balance 97 = .ok (.aload_n 0, 1) := by decide +kernel
theorem dX2_balance_98 : decode cX2_balance 98 = .ok (.aload_n 0, 1) := by decide +kernel
theorem dX2_balance_99 : decode cX2_balance 99 = .ok (.getfield 18, 3) := by decide +kernel
theorem dX2_balance_102 : decode cX2_balance 102 = .ok (.iload_n 3, 1) := by decide +kernel
theorem dX2_balance_103 : decode cX2_balance 103 = .ok (.iaload, 1) := by decide +kernel
theorem dX2_balance_104 : decode cX2_balance 104 = .ok (.invokevirtual 35, 3) := by decide +kernel
theorem dX2_balance_107 : decode cX2_balance 107 = .ok (.iastore, 1) := by decide +kernel
theorem dX2_balance_108 : decode cX2_balance 108 = .ok (.aload_n 0, 1) := by decide +kernel
theorem dX2_balance_109 : decode cX2_balance 109 = .ok (.getfield 21, 3) := by decide +kernel
theorem dX2_balance_112 : decode cX2_balance 112 = .ok (.iload_n 3, 1) := by decide +kernel
theorem dX2_balance_113 : decode cX2_balance 113 = .ok (.aload_n 0, 1) := by decide +kernel
theorem dX2_balance_114 : decode cX2_balance 114 = .ok (.iload_n 3, 1) := by decide +kernel
theorem dX2_balance_115 : decode cX2_balance 115 = .ok (.invokevirtual 35, 3) := by decide +kernel
theorem dX2_balance_118 : decode cX2_balance 118 = .ok (.iastore, 1) := by decide +kernel
theorem dX2_balance_119 : decode cX2_balance 119 = .ok (.iload_n 3, 1) := by decide +kernel
theorem dX2_balance_120 : decode cX2_balance 120 = .ok (.ireturn, 1) := by decide +kernel
theorem dX2_liftFromLeft_0 : decode cX2_liftFromLeft 0 = .ok (.aload_n 0, 1) := by decide +kernel
theorem dX2_liftFromLeft_1 : decode cX2_liftFromLeft 1 = .ok (.getfield 15, 3) := by decide +kernel
theorem dX2_liftFromLeft_4 : decode cX2_liftFromLeft 4 = .ok (.iload_n 1, 1) := by decide +kernel
theorem dX2_liftFromLeft_5 : decode cX2_liftFromLeft 5 = .ok (.iaload, 1) := by decide +kernel
theorem dX2_liftFromLeft_6 : decode cX2_liftFromLeft 6 = .ok (.istore_n 2, 1) := by decide +kernel
theorem dX2_liftFromLeft_7 : decode cX2_liftFromLeft 7 = .ok (.iload_n 2, 1) := by decide +kernel
theorem dX2_liftFromLeft_8 : decode cX2_liftFromLeft 8 = .ok (.istore_n 3, 1) := by decide +kernel
theorem dX2_liftFromLeft_9 : decode cX2_liftFromLeft 9 = .ok (.aload_n 0, 1) := by decide +kernel
theorem dX2_liftFromLeft_10 : decode cX2_liftFromLeft 10 = .ok (.getfield 21, 3) := by decide +kernel
theorem dX2_liftFromLeft_13 : decode cX2_liftFromLeft 13 = .ok (.aload_n 0, 1) := by decide +kernel
theorem dX2_liftFromLeft_14 : decode cX2_liftFromLeft 14 = .ok (.getfield 15, 3) := by decide +kernel
theorem dX2_liftFromLeft_17 : decode cX2_liftFromLeft 17 = .ok (.iload_n 2, 1) := by decide +kernel
theorem dX2_liftFromLeft_18 : decode cX2_liftFromLeft 18 = .ok (.iaload, 1) := by decide +kernel
theorem dX2_liftFromLeft_19 : decode cX2_liftFromLeft 19 = .ok (.iaload, 1) := by decide +kernel
theorem dX2_liftFromLeft_20 : decode cX2_liftFromLeft 20 = .ok (.aload_n 0, 1) := by decide +kernel
theorem dX2_liftFromLeft_21 : decode cX2_liftFromLeft 21 = .ok (.getfield 21, 3) := by decide +kernel
theorem dX2_liftFromLeft_24 : decode cX2_liftFromLeft 24 = .ok (.aload_n 0, 1) := by decide +kernel
theorem dX2_liftFromLeft_25 : decode cX2_liftFromLeft 25 = .ok (.getfield 18, 3) := by decide +kernel
theorem dX2_liftFromLeft_28 : decode cX2_liftFromLeft 28 = .ok (.iload_n 2, 1) := by decide +kernel
theorem dX2_liftFromLeft_29 : decode cX2_liftFromLeft 29 = .ok (.iaload, 1) := by decide +kernel
theorem dX2_liftFromLeft_30 : decode cX2_liftFromLeft 30 = .ok (.iaload, 1) := by decide +kernel
theorem dX2_liftFromLeft_31 : decode cX2_liftFromLeft 31 = .ok (.if_icmp .ge 29, 3) := by decide +kernel
theorem dX2_liftFromLeft_34 : decode cX2_liftFromLeft 34 = .ok (.aload_n 0, 1) := by decide +kernel
theorem dX2_liftFromLeft_35 : decode cX2_liftFromLeft 35 = .ok (.getfield 18, 3) := by decide +kernel
theorem dX2_liftFromLeft_38 : decode cX2_liftFromLeft 38 = .ok (.iload_n 2, 1) := by decide +kernel
theorem dX2_liftFromLeft_39 : decode cX2_liftFromLeft 39 = .ok (.iaload, 1) := by decide +kernel
theorem dX2_liftFromLeft_40 : decode cX2_liftFromLeft 40 = .ok (.istore_n 3, 1) := by decide +kernel
theorem dX2_liftFromLeft_41 : decode cX2_liftFromLeft 41 = .ok (.aload_n 0, 1) := by decide +kernel
theorem dX2_liftFromLeft_42 : decode cX2_liftFromLeft 42 = .ok (.getfield 18, 3) := by decide +kernel
theorem dX2_liftFromLeft_45 : decode cX2_liftFromLeft 45 = .ok (.iload_n 2, 1) := by decide +kernel
theorem dX2_liftFromLeft_46 : decode cX2_liftFromLeft 46 = .ok (.aload_n 0, 1) := by decide +kernel
theorem dX2_liftFromLeft_47 : decode cX2_liftFromLeft 47 = .ok (.getfield 15, 3) := by decide +kernel
theorem dX2_liftFromLeft_50 : decode cX2_liftFromLeft 50 = .ok (.iload_n 3, 1) := by decide +kernel
theorem dX2_liftFromLeft_51 : decode cX2_liftFromLeft 51 = .ok (.iaload, 1) := by decide +kernel
theorem dX2_liftFromLeft_52 : decode cX2_liftFromLeft 52 = .ok (.iastore, 1) := by decide +kernel
theorem dX2_liftFromLeft_53 : decode cX2_liftFromLeft 53 = .ok (.aload_n 0, 1) := by decide +kernel
theorem dX2_liftFromLeft_54 : decode cX2_liftFromLeft 54 = .ok (.getfield 15, 3) := by decide +kernel
theorem dX2_liftFromLeft_57 : decode cX2_liftFromLeft 57 = .ok (.iload_n 3, 1) := by decide +kernel
theorem dX2_liftFromLeft_58 : decode cX2_liftFromLeft 58 = .ok (.iload_n 2, 1) := by decide +kernel
theorem dX2_liftFromLeft_59 : decode cX2_liftFromLeft 59 = .ok (.iastore, 1) := by decide +kernel
theorem dX2_liftFromLeft_60 : decode cX2_liftFromLeft 60 = .ok (.aload_n 0, 1) := by decide +kernel
theorem dX2_liftFromLeft_61 : decode cX2_liftFromLeft 61 = .ok (.getfield 15, 3) := by decide +kernel
theorem dX2_liftFromLeft_64 : decode cX2_liftFromLeft 64 = .ok (.iload_n 1, 1) := by decide +kernel
theorem dX2_liftFromLeft_65 : decode cX2_liftFromLeft 65 = .ok (.aload_n 0, 1) := by decide +kernel
theorem dX2_liftFromLeft_66 : decode cX2_liftFromLeft 66 = .ok (.getfield 18, 3) := by decide +kernel
theorem dX2_liftFromLeft_69 : decode cX2_liftFromLeft 69 = .ok (.iload_n 3, 1) := by decide +kernel
theorem dX2_liftFromLeft_70 : decode cX2_liftFromLeft 70 = .ok (.iaload, 1) := by decide +kernel
theorem dX2_liftFromLeft_71 : decode cX2_liftFromLeft 71 = .ok (.iastore, 1) := by decide +kernel
theorem dX2_liftFromLeft_72 : decode cX2_liftFromLeft 72 = .ok (.aload_n 0, 1) := by decide +kernel
theorem dX2_liftFromLeft_73 : decode cX2_liftFromLeft 73 = .ok (.getfield 18, 3) := by decide +kernel
theorem dX2_liftFromLeft_76 : decode cX2_liftFromLeft 76 = .ok (.iload_n 3, 1) := by decide +kernel
theorem dX2_liftFromLeft_77 : decode cX2_liftFromLeft 77 = .ok (.iload_n 1, 1) := by decide +kernel
theorem dX2_liftFromLeft_78 : decode cX2_liftFromLeft 78 = .ok (.iastore, 1) := by decide +kernel
theorem dX2_liftFromLeft_79 : decode cX2_liftFromLeft 79 = .ok (.iload_n 3, 1) := by decide +kernel
theorem dX2_liftFromLeft_80 : decode cX2_liftFromLeft 80 = .ok (.ireturn, 1) := by decide +kernel
theorem dX2_liftFromRight_0 : decode cX2_liftFromRight 0 = .ok (.aload_n 0, 1) := by decide +kernel
theorem dX2_liftFromRight_1 : decode cX2_liftFromRight 1 = .ok (.getfield 18, 3) := by decide +kernel
theorem dX2_liftFromRight_4 : decode cX2_liftFromRight 4 = .ok (.iload_n 1, 1) := by decide +kernel
theorem dX2_liftFromRight_5 : decode cX2_liftFromRight 5 = .ok (.iaload, 1) := by decide +kernel
theorem dX2_liftFromRight_6 : decode cX2_liftFromRight 6 = .ok (.istore_n 2, 1) := by decide +kernel
theorem dX2_liftFromRight_7 : decode cX2_liftFromRight 7 = .ok (.iload_n 2, 1) := by decide +kernel
theorem dX2_liftFromRight_8 : decode cX2_liftFromRight 8 = .ok (.istore_n 3, 1) := by decide +kernel
theorem dX2_liftFromRight_9 : decode cX2_liftFromRight 9 = .ok (.aload_n 0, 1) := by decide +kernel
theorem dX2_liftFromRight_10 : decode cX2_liftFromRight 10 = .ok (.getfield 21, 3) := by decide +kernel
theorem dX2_liftFromRight_13 : decode cX2_liftFromRight 13 = .ok (.aload_n 0, 1) := by decide +kernel
theorem dX2_liftFromRight_14 : decode cX2_liftFromRight 14 = .ok (.getfield 18, 3) := by decide +kernel
theorem dX2_liftFromRight_17 : decode cX2_liftFromRight 17 = .ok (.iload_n 2, 1) := by decide +kernel
theorem dX2_liftFromRight_18 : decode cX2_liftFromRight 18 = .ok (.iaload, 1) := by decide +kernel
theorem dX2_liftFromRight_19 : decode cX2_liftFromRight 19 = .ok (.iaload, 1) := by decide +kernel
theorem dX2_liftFromRight_20 : decode cX2_liftFromRight 20 = .ok (.aload_n 0, 1) := by decide +kernel
theorem dX2_liftFromRight_21 : decode cX2_liftFromRight 21 = .ok (.getfield 21, 3) := by decide +kernel
theorem dX2_liftFromRight_24 : decode cX2_liftFromRight 24 = .ok (.aload_n 0, 1) := by decide +kernel
theorem dX2_liftFromRight_25 : decode cX2_liftFromRight 25 = .ok (.getfield 15, 3) := by decide +kernel
theorem dX2_liftFromRight_28 : decode cX2_liftFromRight 28 = .ok (.iload_n 2, 1) := by decide +kernel
theorem dX2_liftFromRight_29 : decode cX2_liftFromRight 29 = .ok (.iaload, 1) := by decide +kernel
theorem dX2_liftFromRight_30 : decode cX2_liftFromRight 30 = .ok (.iaload, 1) := by decide +kernel
theorem dX2_liftFromRight_31 : decode cX2_liftFromRight 31 = .ok (.if_icmp .ge 29, 3) := by decide +kernel
theorem dX2_liftFromRight_34 : decode cX2_liftFromRight 34 = .ok (.aload_n 0, 1) := by decide +kernel
theorem dX2_liftFromRight_35 : decode cX2_liftFromRight 35 = .ok (.getfield 15, 3) := by decide +kernel
theorem dX2_liftFromRight_38 : decode cX2_liftFromRight 38 = .ok (.iload_n 2, 1) := by decide +kernel
theorem dX2_liftFromRight_39 : decode cX2_liftFromRight 39 = .ok (.iaload, 1) := by decide +kernel
theorem dX2_liftFromRight_40 : decode cX2_liftFromRight 40 = .ok (.istore_n 3, 1) := by decide +kernel
theorem dX2_liftFromRight_41 : decode cX2_liftFromRight 41 = .ok (.aload_n 0, 1) := by decide +kernel
theorem dX2_liftFromRight_42 : decode cX2_liftFromRight 42 = .ok (.getfield 15, 3) := by decide +kernel
theorem dX2_liftFromRight_45 : decode cX2_liftFromRight 45 = .ok (.iload_n 2, 1) := by decide +kernel
theorem dX2_liftFromRight_46 : decode cX2_liftFromRight 46 = .ok (.aload_n 0, 1) := by decide +kernel
theorem dX2_liftFromRight_47 : decode cX2_liftFromRight 47 = .ok (.getfield 18, 3) := by decide +kernel
theorem dX2_liftFromRight_50 : decode cX2_liftFromRight 50 = .ok (.iload_n 3, 1) := by decide +kernel
theorem dX2_liftFromRight_51 : decode cX2_liftFromRight 51 = .ok (.iaload, 1) := by decide +kernel
theorem dX2_liftFromRight_52 : decode cX2_liftFromRight 52 = .ok (.iastore, 1) := by decide +kernel
theorem dX2_liftFromRight_53 : decode cX2_liftFromRight 53 = .ok (.aload_n 0, 1) := by decide +kernel
theorem dX2_liftFromRight_54 : decode cX2_liftFromRight 54 = .ok (.getfield 18, 3) := by decide +kernel
theorem dX2_liftFromRight_57 : decode cX2_liftFromRight 57 = .ok (.iload_n 3, 1) := by decide +kernel
theorem dX2_liftFromRight_58 : decode cX2_liftFromRight 58 = .ok (.iload_n 2, 1) := by decide +kernel
theorem dX2_liftFromRight_59 : decode cX2_liftFromRight 59 = .ok (.iastore, 1) := by decide +kernel
theorem dX2_liftFromRight_60 : decode cX2_liftFromRight 60 = .ok (.aload_n 0, 1) := by decide +kernel
theorem dX2_liftFromRight_61 : decode cX2_liftFromRight 61 = .ok (.getfield 18, 3) := by decide +kernel
theorem dX2_liftFromRight_64 : decode cX2_liftFromRight 64 = .ok (.iload_n 1, 1) := by decide +kernel
theorem dX2_liftFromRight_65 : decode cX2_liftFromRight 65 = .ok (.aload_n 0, 1) := by decide +kernel
theorem dX2_liftFromRight_66 : decode cX2_liftFromRight 66 = .ok (.getfield 15, 3) := by decide +kernel
theorem dX2_liftFromRight_69 : decode cX2_liftFromRight 69 = .ok (.iload_n 3, 1) := by decide +kernel
theorem dX2_liftFromRight_70 : decode cX2_liftFromRight 70 = .ok (.iaload, 1) := by decide +kernel
theorem dX2_liftFromRight_71 : decode cX2_liftFromRight 71 = .ok (.iastore, 1) := by decide +kernel
theorem dX2_liftFromRight_72 : decode cX2_liftFromRight 72 = .ok (.aload_n 0, 1) := by decide +kernel
theorem dX2_liftFromRight_73 : decode cX2_liftFromRight 73 = .ok (.getfield 15, 3) := by decide +kernel
theorem dX2_liftFromRight_76 : decode cX2_liftFromRight 76 = .ok (.iload_n 3, 1) := by decide +kernel
theorem dX2_liftFromRight_77 : decode cX2_liftFromRight 77 = .ok (.iload_n 1, 1) := by decide +kernel
theorem dX2_liftFromRight_78 : decode cX2_liftFromRight 78 = .ok (.iastore, 1) := by decide +kernel
theorem dX2_liftFromRight_79 : decode cX2_liftFromRight 79 = .ok (.iload_n 3, 1) := by decide +kernel
theorem dX2_liftFromRight_80 : decode cX2_liftFromRight 80 = .ok (.ireturn, 1) := by decide +kernel
theorem dX2_heightOver_0 : decode cX2_heightOver 0 = .ok (.aload_n 0, 1) := by decide +kernel
theorem dX2_heightOver_1 : decode cX2_heightOver 1 = .ok (.getfield 21, 3) := by decide +kernel
theorem dX2_heightOver_4 : decode cX2_heightOver 4 = .ok (.aload_n 0, 1) := by decide +kernel
theorem dX2_heightOver_5 : decode cX2_heightOver 5 = .ok (.getfield 15, 3) := by decide +kernel
theorem dX2_heightOver_8 : decode cX2_heightOver 8 = .ok (.iload_n 1, 1) := by decide +kernel
theorem dX2_heightOver_9 : decode cX2_heightOver 9 = .ok (.iaload, 1) := by decide +kernel
theorem dX2_heightOver_10 : decode cX2_heightOver 10 = .ok (.iaload, 1) := by decide +kernel
theorem dX2_heightOver_11 : decode cX2_heightOver 11 = .ok (.istore_n 2, 1) := by decide +kernel
theorem dX2_heightOver_12 : decode cX2_heightOver 12 = .ok (.aload_n 0, 1) := by decide +kernel
theorem dX2_heightOver_13 : decode cX2_heightOver 13 = .ok (.getfield 21, 3) := by decide +kernel
theorem dX2_heightOver_16 : decode cX2_heightOver 16 = .ok (.aload_n 0, 1) := by decide +kernel
theorem dX2_heightOver_17 : decode cX2_heightOver 17 = .ok (.getfield 18, 3) := by decide +kernel
theorem dX2_heightOver_20 : decode cX2_heightOver 20 = .ok (.iload_n 1, 1) := by decide +kernel
theorem dX2_heightOver_21 : decode cX2_heightOver 21 = .ok (.iaload, 1) := by decide +kernel
theorem dX2_heightOver_22 : decode cX2_heightOver 22 = .ok (.iaload, 1) := by decide +kernel
theorem dX2_heightOver_23 : decode cX2_heightOver 23 = .ok (.istore_n 3, 1) := by decide +kernel
theorem dX2_heightOver_24 : decode cX2_heightOver 24 = .ok (.iconst 1, 1) := by decide +kernel
theorem dX2_heightOver_25 : decode cX2_heightOver 25 = .ok (.iload_n 2, 1) := by decide +kernel
theorem dX2_heightOver_26 : decode cX2_heightOver 26 = .ok (.iload_n 3, 1) := by decide +kernel
theorem dX2_heightOver_27 : decode cX2_heightOver 27 = .ok (.if_icmp .lt 7, 3) := by decide +kernel
theorem dX2_heightOver_30 : decode cX2_heightOver 30 = .ok (.iload_n 2, 1) := by decide +kernel
theorem dX2_heightOver_31 : decode cX2_heightOver 31 = .ok (.goto 4, 3) := by decide +kernel
theorem dX2_heightOver_34 : decode cX2_heightOver 34 = .ok (.iload_n 3, 1) := by decide +kernel
theorem dX2_heightOver_35 : decode cX2_heightOver 35 = .ok (.iadd, 1) := by decide +kernel
theorem dX2_heightOver_36 : decode cX2_heightOver 36 = .ok (.ireturn, 1) := by decide +kernel
