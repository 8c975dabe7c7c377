theorem dX1_init_0 : decode cX1_init 0 = .ok (.aload_n 0, 1) := by decide +kernel
theorem dX1_init_1 : decode cX1_init 1 = .ok (.invokespecial 3, 3) := by decide +kernel
theorem dX1_init_4 : decode cX1_init 4 = .ok (.aload_n 0, 1) := by decide +kernel
theorem dX1_init_5 : decode cX1_init 5 = .ok (.sipush 2002, 3) := by decide +kernel
theorem dX1_init_8 : decode cX1_init 8 = .ok (.newarray .int, 2) := by decide +kernel
theorem dX1_init_10 : decode cX1_init 10 = .ok (.putfield 9, 3) := by decide +kernel
theorem dX1_init_13 : decode cX1_init 13 = .ok (.aload_n 0, 1) := by decide +kernel
theorem dX1_init_14 : decode cX1_init 14 = .ok (.sipush 2002, 3) := by decide +kernel
theorem dX1_init_17 : decode cX1_init 17 = .ok (.newarray .int, 2) := by decide +kernel
theorem dX1_init_19 : decode cX1_init 19 = .ok (.putfield 15, 3) := by decide +kernel
theorem dX1_init_22 : decode cX1_init 22 = .ok (.aload_n 0, 1) := by decide +kernel
theorem dX1_init_23 : decode cX1_init 23 = .ok (.sipush 2002, 3) := by decide +kernel
theorem dX1_init_26 : decode cX1_init 26 = .ok (.newarray .int, 2) := by decide +kernel
theorem dX1_init_28 : decode cX1_init 28 = .ok (.putfield 18, 3) := by decide +kernel
theorem dX1_init_31 : decode cX1_init 31 = .ok (.iconst 1, 1) := by decide +kernel
theorem dX1_init_32 : decode cX1_init 32 = .ok (.istore_n 1, 1) := by decide +kernel
theorem dX1_init_33 : decode cX1_init 33 = .ok (.iload_n 1, 1) := by decide +kernel
theorem dX1_init_34 : decode cX1_init 34 = .ok (.sipush 2001, 3) := by decide +kernel
theorem dX1_init_37 : decode cX1_init 37 = .ok (.if_icmp .ge 18, 3) := by decide +kernel
theorem dX1_init_40 : decode cX1_init 40 = .ok (.aload_n 0, 1) := by decide +kernel
theorem dX1_init_41 : decode cX1_init 41 = .ok (.getfield 15, 3) := by decide +kernel
theorem dX1_init_44 : decode cX1_init 44 = .ok (.iload_n 1, 1) := by decide +kernel
theorem dX1_init_45 : decode cX1_init 45 = .ok (.iload_n 1, 1) := by decide +kernel
theorem dX1_init_46 : decode cX1_init 46 = .ok (.iconst 1, 1) := by decide +kernel
theorem dX1_init_47 : decode cX1_init 47 = .ok (.iadd, 1) := by decide +kernel
theorem dX1_init_48 : decode cX1_init 48 = .ok (.iastore, 1) := by decide +kernel
theorem dX1_init_49 : decode cX1_init 49 = .ok (.iinc 1 1, 3) := by decide +kernel
theorem dX1_init_52 : decode cX1_init 52 = .ok (.goto (-19), 3) := by decide +kernel
theorem dX1_init_55 : decode cX1_init 55 = .ok (.aload_n 0, 1) := by decide +kernel
theorem dX1_init_56 : decode cX1_init 56 = .ok (.iconst 0, 1) := by decide +kernel
theorem dX1_init_57 : decode cX1_init 57 = .ok (.putfield 21, 3) := by decide +kernel
theorem dX1_init_60 : decode cX1_init 60 = .ok (.aload_n 0, 1) := by decide +kernel
theorem dX1_init_61 : decode cX1_init 61 = .ok (.iconst 0, 1) := by decide +kernel
theorem dX1_init_62 : decode cX1_init 62 = .ok (.putfield 25, 3) := by decide +kernel
theorem dX1_init_65 : decode cX1_init 65 = .ok (.aload_n 0, 1) := by decide +kernel
theorem dX1_init_66 : decode cX1_init 66 = .ok (.iconst 0, 1) := by decide +kernel
theorem dX1_init_67 : decode cX1_init 67 = .ok (.putfield 28, 3) := by decide +kernel
theorem dX1_init_70 : decode cX1_init 70 = .ok (.aload_n 0, 1) := by decide +kernel
theorem dX1_init_71 : decode cX1_init 71 = .ok (.iconst 1, 1) := by decide +kernel
theorem dX1_init_72 : decode cX1_init 72 = .ok (.putfield 31, 3) := by decide +kernel
theorem dX1_init_75 : decode cX1_init 75 = .ok (.return_, 1) := by decide +kernel
theorem dX1_count_0 : decode cX1_count 0 = .ok (.aload_n 0, 1) := by decide +kernel
theorem dX1_count_1 : decode cX1_count 1 = .ok (.getfield 28, 3) := by decide +kernel
theorem dX1_count_4 : decode cX1_count 4 = .ok (.ireturn, 1) := by decide +kernel
theorem dX1_first_0 : decode cX1_first 0 = .ok (.aload_n 0, 1) := by decide +kernel
theorem dX1_first_1 : decode cX1_first 1 = .ok (.getfield 21, 3) := by decide +kernel
theorem dX1_first_4 : decode cX1_first 4 = .ok (.ireturn, 1) := by decide +kernel
theorem dX1_behind_0 : decode cX1_behind 0 = .ok (.aload_n 0, 1) := by decide +kernel
theorem dX1_behind_1 : decode cX1_behind 1 = .ok (.getfield 15, 3) := by decide +kernel
theorem dX1_behind_4 : decode cX1_behind 4 = .ok (.iload_n 1, 1) := by decide +kernel
theorem dX1_behind_5 : decode cX1_behind 5 = .ok (.iaload, 1) := by decide +kernel
theorem dX1_behind_6 : decode cX1_behind 6 = .ok (.ireturn, 1) := by decide +kernel
theorem dX1_rankOf_0 : decode cX1_rankOf 0 = .ok (.aload_n 0, 1) := by decide +kernel
theorem dX1_rankOf_1 : decode cX1_rankOf 1 = .ok (.getfield 18, 3) := by decide +kernel
theorem dX1_rankOf_4 : decode cX1_rankOf 4 = .ok (.iload_n 1, 1) := by decide +kernel
theorem dX1_rankOf_5 : decode cX1_rankOf 5 = .ok (.iaload, 1) := by decide +kernel
theorem dX1_rankOf_6 : decode cX1_rankOf 6 = .ok (.ireturn, 1) := by decide +kernel
theorem dX1_rank_0 : decode cX1_rank 0 = .ok (.aload_n 0, 1) := by decide +kernel
theorem dX1_rank_1 : decode cX1_rank 1 = .ok (.getfield 21, 3) := by decide +kernel
theorem dX1_rank_4 : decode cX1_rank 4 = .ok (.istore_n 1, 1) := by decide +kernel
theorem dX1_rank_5 : decode cX1_rank 5 = .ok (.iconst 0, 1) := by decide +kernel
theorem dX1_rank_6 : decode cX1_rank 6 = .ok (.istore_n 2, 1) := by decide +kernel
theorem dX1_rank_7 : decode cX1_rank 7 = .ok (.iload_n 2, 1) := by decide +kernel
theorem dX1_rank_8 : decode cX1_rank 8 = .ok (.aload_n 0, 1) := by decide +kernel
theorem dX1_rank_9 : decode cX1_rank 9 = .ok (.getfield 28, 3) := by decide +kernel
theorem dX1_rank_12 : decode cX1_rank 12 = .ok (.if_icmp .ge 23, 3) := by decide +kernel
theorem dX1_rank_15 : decode cX1_rank 15 = .ok (.aload_n 0, 1) := by decide +kernel
theorem dX1_rank_16 : decode cX1_rank 16 = .ok (.getfield 18, 3) := by decide +kernel
theorem dX1_rank_19 : decode cX1_rank 19 = .ok (.iload_n 1, 1) := by decide +kernel
theorem dX1_rank_20 : decode cX1_rank 20 = .ok (.iload_n 2, 1) := by decide +kernel
theorem dX1_rank_21 : decode cX1_rank 21 = .ok (.iastore, 1) := by decide +kernel
theorem dX1_rank_22 : decode cX1_rank 22 = .ok (.aload_n 0, 1) := by decide +kernel
theorem dX1_rank_23 : decode cX1_rank 23 = .ok (.getfield 15, 3) := by decide +kernel
theorem dX1_rank_26 : decode cX1_rank 26 = .ok (.iload_n 1, 1) := by decide +kernel
theorem dX1_rank_27 : decode cX1_rank 27 = .ok (.iaload, 1) := by decide +kernel
theorem dX1_rank_28 : decode cX1_rank 28 = .ok (.istore_n 1, 1) := by decide +kernel
theorem dX1_rank_29 : decode cX1_rank 29 = .ok (.iinc 2 1, 3) := by decide +kernel
theorem dX1_rank_32 : decode cX1_rank 32 = .ok (.goto (-25), 3) := by decide +kernel
theorem dX1_rank_35 : decode cX1_rank 35 = .ok (.return_, 1) := by decide +kernel
theorem dX1_join_0 : decode cX1_join 0 = .ok (.aload_n 0, 1) := by decide +kernel
theorem dX1_join_1 : decode cX1_join 1 = .ok (.getfield 31, 3) := by decide +kernel
theorem dX1_join_4 : decode cX1_join 4 = .ok (.istore_n 1, 1) := by decide +kernel
theorem dX1_join_5 : decode cX1_join 5 = .ok (.aload_n 0, 1) := by decide +kernel
theorem dX1_join_6 : decode cX1_join 6 = .ok (.aload_n 0, 1) := by decide +kernel
theorem dX1_join_7 : decode cX1_join 7 = .ok (.getfield 15, 3) := by decide +kernel
theorem dX1_join_10 : decode cX1_join 10 = .ok (.iload_n 1, 1) := by decide +kernel
theorem dX1_join_11 : decode cX1_join 11 = .ok (.iaload, 1) := by decide +kernel
theorem dX1_join_12 : decode cX1_join 12 = .ok (.putfield 31, 3) := by decide +kernel
theorem dX1_join_15 : decode cX1_join 15 = .ok (.aload_n 0, 1) := by decide +kernel
theorem dX1_join_16 : decode cX1_join 16 = .ok (.iload_n 1, 1) := by decide +kernel
theorem dX1_join_17 : decode cX1_join 17 = .ok (.invokevirtual 34, 3) := by decide +kernel
theorem dX1_join_20 : decode cX1_join 20 = .ok (.aload_n 0, 1) := by decide +kernel
theorem dX1_join_21 : decode cX1_join 21 = .ok (.dup, 1) := by decide +kernel
theorem dX1_join_22 : decode cX1_join 22 = .ok (.getfield 28, 3) := by decide +kernel
theorem dX1_join_25 : decode cX1_join 25 = .ok (.iconst 1, 1) := by decide +kernel
theorem dX1_join_26 : decode cX1_join 26 = .ok (.iadd, 1) := by decide +kernel
theorem dX1_join_27 : decode cX1_join 27 = .ok (.putfield 28, 3) := by decide +kernel
theorem dX1_join_30 : decode cX1_join 30 = .ok (.iload_n 1, 1) := by decide +kernel
theorem dX1_join_31 : decode cX1_join 31 = .ok (.ireturn, 1) := by decide +kernel
theorem dX1_leave_0 : decode cX1_leave 0 = .ok (.aload_n 0, 1) := by decide +kernel
theorem dX1_leave_1 : decode cX1_leave 1 = .ok (.iload_n 1, 1) := by decide +kernel
theorem dX1_leave_2 : decode cX1_leave 2 = .ok (.invokevirtual 38, 3) := by decide +kernel
theorem dX1_leave_5 : decode cX1_leave 5 = .ok (.aload_n 0, 1) := by decide +kernel
theorem dX1_leave_6 : decode cX1_leave 6 = .ok (.getfield 15, 3) := by decide +kernel
theorem dX1_leave_9 : decode cX1_leave 9 = .ok (.iload_n 1, 1) := by decide +kernel
theorem dX1_leave_10 : decode cX1_leave 10 = .ok (.aload_n 0, 1) := by decide +kernel
theorem dX1_leave_11 : decode cX1_leave 11 = .ok (.getfield 31, 3) := by decide +kernel
theorem dX1_leave_14 : decode cX1_leave 14 = .ok (.iastore, 1) := by decide +kernel
theorem dX1_leave_15 : decode cX1_leave 15 = .ok (.aload_n 0, 1) := by decide +kernel
theorem dX1_leave_16 : decode cX1_leave 16 = .ok (.iload_n 1, 1) := by decide +kernel
theorem dX1_leave_17 : decode cX1_leave 17 = .ok (.putfield 31, 3) := by decide +kernel
theorem dX1_leave_20 : decode cX1_leave 20 = .ok (.aload_n 0, 1) := by decide +kernel
theorem dX1_leave_21 : decode cX1_leave 21 = .ok (.dup, 1) := by decide +kernel
theorem dX1_leave_22 : decode cX1_leave 22 = .ok (.getfield 28, 3) := by decide +kernel
theorem dX1_leave_25 : decode cX1_leave 25 = .ok (.iconst 1, 1) := by decide +kernel
theorem dX1_leave_26 : decode cX1_leave 26 = .ok (.isub, 1) := by decide +kernel
theorem dX1_leave_27 : decode cX1_leave 27 = .ok (.putfield 28, 3) := by decide +kernel
theorem dX1_leave_30 : decode cX1_leave 30 = .ok (.return_, 1) := by decide +kernel
theorem dX1_moveToEnd_0 : decode cX1_moveToEnd 0 = .ok (.aload_n 0, 1) := by decide +kernel
theorem dX1_moveToEnd_1 : decode cX1_moveToEnd 1 = .ok (.iload_n 1, 1) := by decide +kernel
theorem dX1_moveToEnd_2 : decode cX1_moveToEnd 2 = .ok (.invokevirtual 38, 3) := by decide +kernel
theorem dX1_moveToEnd_5 : decode cX1_moveToEnd 5 = .ok (.aload_n 0, 1) := by decide +kernel
theorem dX1_moveToEnd_6 : decode cX1_moveToEnd 6 = .ok (.iload_n 1, 1) := by decide +kernel
theorem dX1_moveToEnd_7 : decode cX1_moveToEnd 7 = .ok (.invokevirtual 34, 3) := by decide +kernel
theorem dX1_moveToEnd_10 : decode cX1_moveToEnd 10 = .ok (.return_, 1) := by decide +kernel
theorem dX1_drain_0 : decode cX1_drain 0 = .ok (.aload_n 0, 1) := by decide +kernel
theorem dX1_drain_1 : decode cX1_drain 1 = .ok (.getfield 25, 3) := by decide +kernel
theorem dX1_drain_4 : decode cX1_drain 4 = .ok (.ifCond .eq 24, 3) := by decide +kernel
theorem dX1_drain_7 : decode cX1_drain 7 = .ok (.aload_n 0, 1) := by decide +kernel
theorem dX1_drain_8 : decode cX1_drain 8 = .ok (.getfield 15, 3) := by decide +kernel
theorem dX1_drain_11 : decode cX1_drain 11 = .ok (.aload_n 0, 1) := by decide +kernel
theorem dX1_drain_12 : decode cX1_drain 12 = .ok (.getfield 25, 3) := by decide +kernel
theorem dX1_drain_15 : decode cX1_drain 15 = .ok (.aload_n 0, 1) := by decide +kernel
theorem dX1_drain_16 : decode cX1_drain 16 = .ok (.getfield 31, 3) := by decide +kernel
theorem dX1_drain_19 : decode cX1_drain 19 = .ok (.iastore, 1) := by decide +kernel
theorem dX1_drain_20 : decode cX1_drain 20 = .ok (.aload_n 0, 1) := by decide +kernel
theorem dX1_drain_21 : decode cX1_drain 21 = .ok (.aload_n 0, 1) := by decide +kernel
theorem dX1_drain_22 : decode cX1_drain 22 = .ok (.getfield 21, 3) := by decide +kernel
theorem dX1_drain_25 : decode cX1_drain 25 = .ok (.putfield 31, 3) := by decide +kernel
theorem dX1_drain_28 : decode cX1_drain 28 = .ok (.aload_n 0, 1) := by decide +kernel
theorem dX1_drain_29 : decode cX1_drain 29 = .ok (.iconst 0, 1) := by decide +kernel
theorem dX1_drain_30 : decode cX1_drain 30 = .ok (.putfield 21, 3) := by decide +kernel
theorem dX1_drain_33 : decode cX1_drain 33 = .ok (.aload_n 0, 1) := by decide +kernel
theorem dX1_drain_34 : decode cX1_drain 34 = .ok (.iconst 0, 1) := by decide +kernel
theorem dX1_drain_35 : decode cX1_drain 35 = .ok (.putfield 25, 3) := by decide +kernel
theorem dX1_drain_38 : decode cX1_drain 38 = .ok (.aload_n 0, 1) := by decide +kernel
theorem dX1_drain_39 : decode cX1_drain 39 = .ok (.iconst 0, 1) := by decide +kernel
theorem dX1_drain_40 : decode cX1_drain 40 = .ok (.putfield 28, 3) := by decide +kernel
theorem dX1_drain_43 : decode cX1_drain 43 = .ok (.return_, 1) := by decide +kernel
theorem dX1_faults_0 : decode cX1_faults 0 = .ok (.iconst 0, 1) := by decide +kernel
theorem dX1_faults_1 : decode cX1_faults 1 = .ok (.istore_n 1, 1) := by decide +kernel
theorem dX1_faults_2 : decode cX1_faults 2 = .ok (.iconst 0, 1) := by decide +kernel
theorem dX1_faults_3 : decode cX1_faults 3 = .ok (.istore_n 2, 1) := by decide +kernel
theorem dX1_faults_4 : decode cX1_faults 4 = .ok (.iconst 0, 1) := by decide +kernel
theorem dX1_faults_5 : decode cX1_faults 5 = .ok (.istore_n 3, 1) := by decide +kernel
theorem dX1_faults_6 : decode cX1_faults 6 = .ok (.aload_n 0, 1) := by decide +kernel
theorem dX1_faults_7 : decode cX1_faults 7 = .ok (.getfield 21, 3) := by decide +kernel
theorem dX1_faults_10 : decode cX1_faults 10 = .ok (.istore 4, 2) := by decide +kernel
theorem dX1_faults_12 : decode cX1_faults 12 = .ok (.iload 4, 2) := by decide +kernel
theorem dX1_faults_14 : decode cX1_faults 14 = .ok (.ifCond .eq 42, 3) := by decide +kernel
theorem dX1_faults_17 : decode cX1_faults 17 = .ok (.iload_n 2, 1) := by decide +kernel
theorem dX1_faults_18 : decode cX1_faults 18 = .ok (.sipush 2002, 3) := by decide +kernel
theorem dX1_faults_21 : decode cX1_faults 21 = .ok (.if_icmp .ge 35, 3) := by decide +kernel
theorem dX1_faults_24 : decode cX1_faults 24 = .ok (.aload_n 0, 1) := by decide +kernel
theorem dX1_faults_25 : decode cX1_faults 25 = .ok (.getfield 9, 3) := by decide +kernel
theorem dX1_faults_28 : decode cX1_faults 28 = .ok (.iload 4, 2) := by decide +kernel
theorem dX1_faults_30 : decode cX1_faults 30 = .ok (.iaload, 1) := by decide +kernel
theorem dX1_faults_31 : decode cX1_faults 31 = .ok (.iload_n 3, 1) := by decide +kernel
theorem dX1_faults_32 : decode cX1_faults 32 = .ok (.if_icmp .eq 6, 3) := by decide +kernel
theorem dX1_faults_35 : decode cX1_faults 35 = .ok (.iinc 1 1, 3) := by decide +kernel
theorem dX1_faults_38 : decode cX1_faults 38 = .ok (.iload 4, 2) := by decide +kernel
theorem dX1_faults_40 : decode cX1_faults 40 = .ok (.istore_n 3, 1) := by decide +kernel
theorem dX1_faults_41 : decode cX1_faults 41 = .ok (.aload_n 0, 1) := by decide +kernel
theorem dX1_faults_42 : decode cX1_faults 42 = .ok (.getfield 15, 3) := by decide +kernel
theorem dX1_faults_45 : decode cX1_faults 45 = .ok (.iload 4, 2) := by decide +kernel
theorem dX1_faults_47 : decode cX1_faults 47 = .ok (.iaload, 1) := by decide +kernel
theorem dX1_faults_48 : decode cX1_faults 48 = .ok (.istore 4, 2) := by decide +kernel
theorem dX1_faults_50 : decode cX1_faults 50 = .ok (.iinc 2 1, 3) := by decide +kernel
theorem dX1_faults_53 : decode cX1_faults 53 = .ok (.goto (-41), 3) := by decide +kernel
theorem dX1_faults_56 : decode cX1_faults 56 = .ok (.iload_n 3, 1) := by decide +kernel
theorem dX1_faults_57 : decode cX1_faults 57 = .ok (.aload_n 0, 1) := by decide +kernel
theorem dX1_faults_58 : decode cX1_faults 58 = .ok (.getfield 25, 3) := by decide +kernel
theorem dX1_faults_61 : decode cX1_faults 61 = .ok (.if_icmp .eq 6, 3) := by decide +kernel
theorem dX1_faults_64 : decode cX1_faults 64 = .ok (.iinc 1 1, 3) := by decide +kernel
theorem dX1_faults_67 : decode cX1_faults 67 = .ok (.iload_n 2, 1) := by decide +kernel
theorem dX1_faults_68 : decode cX1_faults 68 = .ok (.aload_n 0, 1) := by decide +kernel
theorem dX1_faults_69 : decode cX1_faults 69 = .ok (.getfield 28, 3) := by decide +kernel
theorem dX1_faults_72 : decode cX1_faults 72 = .ok (.if_icmp .eq 6, 3) := by decide +kernel
theorem dX1_faults_75 : decode cX1_faults 75 = .ok (.iinc 1 1, 3) := by decide +kernel
theorem dX1_faults_78 : decode cX1_faults 78 = .ok (.iload_n 2, 1) := by decide +kernel
theorem dX1_faults_79 : decode cX1_faults 79 = .ok (.aload_n 0, 1) := by decide +kernel
theorem dX1_faults_80 : decode cX1_faults 80 = .ok (.invokevirtual 41, 3) := by decide +kernel
theorem dX1_faults_83 : decode cX1_faults 83 = .ok (.iadd, 1) := by decide +kernel
theorem dX1_faults_84 : decode cX1_faults 84 = .ok (.sipush 2001, 3) := by decide +kernel
theorem dX1_faults_87 : decode cX1_faults 87 = .ok (.if_icmp .eq 6, 3) := by decide +kernel
theorem dX1_faults_90 : decode cX1_faults 90 = .ok (.iinc 1 1, 3) := by decide +kernel
theorem dX1_faults_93 : decode cX1_faults 93 = .ok (.iload_n 1, 1) := by decide +kernel
theorem dX1_faults_94 : decode cX1_faults 94 = .ok (.ireturn, 1) := by decide +kernel
theorem dX1_freeSlots_0 : decode cX1_freeSlots 0 = .ok (.iconst 0, 1) := by decide +kernel
theorem dX1_freeSlots_1 : decode cX1_freeSlots 1 = .ok (.istore_n 1, 1) := by decide +kernel
theorem dX1_freeSlots_2 : decode cX1_freeSlots 2 = .ok (.aload_n 0, 1) := by decide +kernel
theorem dX1_freeSlots_3 : decode cX1_freeSlots 3 = .ok (.getfield 31, 3) := by decide +kernel
theorem dX1_freeSlots_6 : decode cX1_freeSlots 6 = .ok (.istore_n 2, 1) := by decide +kernel
theorem dX1_freeSlots_7 : decode cX1_freeSlots 7 = .ok (.iload_n 2, 1) := by decide +kernel
theorem dX1_freeSlots_8 : decode cX1_freeSlots 8 = .ok (.ifCond .eq 23, 3) := by decide +kernel
theorem dX1_freeSlots_11 : decode cX1_freeSlots 11 = .ok (.iload_n 1, 1) := by decide +kernel
theorem dX1_freeSlots_12 : decode cX1_freeSlots 12 = .ok (.sipush 2002, 3) := by decide +kernel
theorem dX1_freeSlots_15 : decode cX1_freeSlots 15 = .ok (.if_icmp .ge 16, 3) := by decide +kernel
theorem dX1_freeSlots_18 : decode cX1_freeSlots 18 = .ok (.aload_n 0, 1) := by decide +kernel
theorem dX1_freeSlots_19 : decode cX1_freeSlots 19 = .ok (.getfield 15, 3) := by decide +kernel
theorem dX1_freeSlots_22 : decode cX1_freeSlots 22 = .ok (.iload_n 2, 1) := by decide +kernel
theorem dX1_freeSlots_23 : decode cX1_freeSlots 23 = .ok (.iaload, 1) := by decide +kernel
theorem dX1_freeSlots_24 : decode cX1_freeSlots 24 = .ok (.istore_n 2, 1) := by decide +kernel
theorem dX1_freeSlots_25 : decode cX1_freeSlots 25 = .ok (.iinc 1 1, 3) := by decide +kernel
theorem dX1_freeSlots_28 : decode cX1_freeSlots 28 = .ok (.goto (-21), 3) := by decide +kernel
theorem dX1_freeSlots_31 : decode cX1_freeSlots 31 = .ok (.iload_n 1, 1) := by decide +kernel
theorem dX1_freeSlots_32 : decode cX1_freeSlots 32 = .ok (.ireturn, 1) := by decide +kernel
theorem dX1_append_0 : decode cX1_append 0 = .ok (.aload_n 0, 1) := by decide +kernel
theorem dX1_append_1 : decode cX1_append 1 = .ok (.getfield 9, 3) := by decide +kernel
theorem dX1_append_4 : decode cX1_append 4 = .ok (.iload_n 1, 1) := by decide +kernel
theorem dX1_append_5 : decode cX1_append 5 = .ok (.aload_n 0, 1) := by decide +kernel
theorem dX1_append_6 : decode cX1_append 6 = .ok (.getfield 25, 3) := by decide +kernel
theorem dX1_append_9 : decode cX1_append 9 = .ok (.iastore, 1) := by decide +kernel
theorem dX1_append_10 : decode cX1_append 10 = .ok (.aload_n 0, 1) := by decide +kernel
theorem dX1_append_11 : decode cX1_append 11 = .ok (.getfield 15, 3) := by decide +kernel
theorem dX1_append_14 : decode cX1_append 14 = .ok (.iload_n 1, 1) := by decide +kernel
theorem dX1_append_15 : decode cX1_append 15 = .ok (.iconst 0, 1) := by decide +kernel
theorem dX1_append_16 : decode cX1_append 16 = .ok (.iastore, 1) := by decide +kernel
theorem dX1_append_17 : decode cX1_append 17 = .ok (.aload_n 0, 1) := by decide +kernel
theorem dX1_append_18 : decode cX1_append 18 = .ok (.getfield 25, 3) := by decide +kernel
theorem dX1_append_21 : decode cX1_append 21 = .ok (.ifCond .ne 11, 3) := by decide +kernel
theorem dX1_append_24 : decode cX1_append 24 = .ok (.aload_n 0, 1) := by decide +kernel
theorem dX1_append_25 : decode cX1_append 25 = .ok (.iload_n 1, 1) := by decide +kernel
theorem dX1_append_26 : decode cX1_append 26 = .ok (.putfield 21, 3) := by decide +kernel
theorem dX1_append_29 : decode cX1_append 29 = .ok (.goto 13, 3) := by decide +kernel
theorem dX1_append_32 : decode cX1_append 32 = .ok (.aload_n 0, 1) := by decide +kernel
theorem dX1_append_33 : decode cX1_append 33 = .ok (.getfield 15, 3) := by decide +kernel
theorem dX1_append_36 : decode cX1_append 36 = .ok (.aload_n 0, 1) := by decide +kernel
theorem dX1_append_37 : decode cX1_append 37 = .ok (.getfield 25, 3) := by decide +kernel
theorem dX1_append_40 : decode cX1_append 40 = .ok (.iload_n 1, 1) := by decide +kernel
theorem dX1_append_41 : decode cX1_append 41 = .ok (.iastore, 1) := by decide +kernel
theorem dX1_append_42 : decode cX1_append 42 = .ok (.aload_n 0, 1) := by decide +kernel
theorem dX1_append_43 : decode cX1_append 43 = .ok (.iload_n 1, 1) := by decide +kernel
theorem dX1_append_44 : decode cX1_append 44 = .ok (.putfield 25, 3) := by decide +kernel
theorem dX1_append_47 : decode cX1_append 47 = .ok (.return_, 1) := by decide +kernel
theorem dX1_unlink_0 : decode cX1_unlink 0 = .ok (.aload_n 0, 1) := by decide +kernel
theorem dX1_unlink_1 : decode cX1_unlink 1 = .ok (.getfield 9, 3) := by decide +kernel
theorem dX1_unlink_4 : decode cX1_unlink 4 = .ok (.iload_n 1, 1) := by decide +kernel
theorem dX1_unlink_5 : decode cX1_unlink 5 = .ok (.iaload, 1) := by decide +kernel
theorem dX1_unlink_6 : decode cX1_unlink 6 = .ok (.istore_n 2, 1) := by decide +kernel
theorem dX1_unlink_7 : decode cX1_unlink 7 = .ok (.aload_n 0, 1) := by decide +kernel
theorem dX1_unlink_8 : decode cX1_unlink 8 = .ok (.getfield 15, 3) := by decide +kernel
theorem dX1_unlink_11 : decode cX1_unlink 11 = .ok (.iload_n 1, 1) := by decide +kernel
theorem dX1_unlink_12 : decode cX1_unlink 12 = .ok (.iaload, 1) := by decide +kernel
theorem dX1_unlink_13 : decode cX1_unlink 13 = .ok (.istore_n 3, 1) := by decide +kernel
theorem dX1_unlink_14 : decode cX1_unlink 14 = .ok (.iload_n 2, 1) := by decide +kernel
theorem dX1_unlink_15 : decode cX1_unlink 15 = .ok (.ifCond .ne 11, 3) := by decide +kernel
theorem dX1_unlink_18 : decode cX1_unlink 18 = .ok (.aload_n 0, 1) := by decide +kernel
theorem dX1_unlink_19 : decode cX1_unlink 19 = .ok (.iload_n 3, 1) := by decide +kernel
theorem dX1_unlink_20 : decode cX1_unlink 20 = .ok (.putfield 21, 3) := by decide +kernel
theorem dX1_unlink_23 : decode cX1_unlink 23 = .ok (.goto 10, 3) := by decide +kernel
theorem dX1_unlink_26 : decode cX1_unlink 26 = .ok (.aload_n 0, 1) := by decide +kernel
theorem dX1_unlink_27 : decode cX1_unlink 27 = .ok (.getfield 15, 3) := by decide +kernel
theorem dX1_unlink_30 : decode cX1_unlink 30 = .ok (.iload_n 2, 1) := by decide +kernel
theorem dX1_unlink_31 : decode cX1_unlink 31 = .ok (.iload_n 3, 1) := by decide +kernel
theorem dX1_unlink_32 : decode cX1_unlink 32 = .ok (.iastore, 1) := by decide +kernel
theorem dX1_unlink_33 : decode cX1_unlink 33 = .ok (.iload_n 3, 1) := by decide +kernel
theorem dX1_unlink_34 : decode cX1_unlink 34 = .ok (.ifCond .ne 11, 3) := by decide +kernel
theorem dX1_unlink_37 : decode cX1_unlink 37 = .ok (.aload_n 0, 1) := by decide +kernel
theorem dX1_unlink_38 : decode cX1_unlink 38 = .ok (.iload_n 2, 1) := by decide +kernel
theorem dX1_unlink_39 : decode cX1_unlink 39 = .ok (.putfield 25, 3) := by decide +kernel
theorem dX1_unlink_42 : decode cX1_unlink 42 = .ok (.goto 10, 3) := by decide +kernel
theorem dX1_unlink_45 : decode cX1_unlink 45 = .ok (.aload_n 0, 1) := by decide +kernel
theorem dX1_unlink_46 : decode cX1_unlink 46 = .ok (.getfield 9, 3) := by decide +kernel
theorem dX1_unlink_49 : decode cX1_unlink 49 = .ok (.iload_n 3, 1) := by decide +kernel
theorem dX1_unlink_50 : decode cX1_unlink 50 = .ok (.iload_n 2, 1) := by decide +kernel
theorem dX1_unlink_51 : decode cX1_unlink 51 = .ok (.iastore, 1) := by decide +kernel
theorem dX1_unlink_52 : decode cX1_unlink 52 = .ok (.return_, 1) := by decide +kernel
