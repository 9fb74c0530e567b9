theorem dX5_leastLimit_35 : decode cX5_leastLimit 35 = .ok (.if_icmp .ne 8, 3) := by decide +kernel
theorem dX5_leastLimit_38 : decode cX5_leastLimit 38 = .ok (.iconst (-1), 1) := by decide +kernel
theorem dX5_leastLimit_39 : decode cX5_leastLimit 39 = .ok (.istore_n 2, 1) := by decide +kernel
theorem dX5_leastLimit_40 : decode cX5_leastLimit 40 = .ok (.goto 41, 3) := by decide +kernel
theorem dX5_leastLimit_43 : decode cX5_leastLimit 43 = .ok (.iload_n 2, 1) := by decide +kernel
theorem dX5_leastLimit_44 : decode cX5_leastLimit 44 = .ok (.aload_n 0, 1) := by decide +kernel
theorem dX5_leastLimit_45 : decode cX5_leastLimit 45 = .ok (.iload 5, 2) := by decide +kernel
theorem dX5_leastLimit_47 : decode cX5_leastLimit 47 = .ok (.invokevirtual 48, 3) := by decide +kernel
theorem dX5_leastLimit_50 : decode cX5_leastLimit 50 = .ok (.invokestatic 115, 3) := by decide +kernel
theorem dX5_leastLimit_53 : decode cX5_leastLimit 53 = .ok (.istore_n 2, 1) := by decide +kernel
theorem dX5_leastLimit_54 : decode cX5_leastLimit 54 = .ok (.aload_n 0, 1) := by decide +kernel
theorem dX5_leastLimit_55 : decode cX5_leastLimit 55 = .ok (.getfield 22, 3) := by decide +kernel
theorem dX5_leastLimit_58 : decode cX5_leastLimit 58 = .ok (.iload 5, 2) := by decide +kernel
theorem dX5_leastLimit_60 : decode cX5_leastLimit 60 = .ok (.invokevirtual 50, 3) := by decide +kernel
theorem dX5_leastLimit_63 : decode cX5_leastLimit 63 = .ok (.aload_n 0, 1) := by decide +kernel
theorem dX5_leastLimit_64 : decode cX5_leastLimit 64 = .ok (.getfield 18, 3) := by decide +kernel
theorem dX5_leastLimit_67 : decode cX5_leastLimit 67 = .ok (.iload 4, 2) := by decide +kernel
theorem dX5_leastLimit_69 : decode cX5_leastLimit 69 = .ok (.iload 5, 2) := by decide +kernel
theorem dX5_leastLimit_71 : decode cX5_leastLimit 71 = .ok (.iastore, 1) := by decide +kernel
theorem dX5_leastLimit_72 : decode cX5_leastLimit 72 = .ok (.iinc 3 1, 3) := by decide +kernel
theorem dX5_leastLimit_75 : decode cX5_leastLimit 75 = .ok (.iinc 4 1, 3) := by decide +kernel
theorem dX5_leastLimit_78 : decode cX5_leastLimit 78 = .ok (.goto (-71), 3) := by decide +kernel
theorem dX5_leastLimit_81 : decode cX5_leastLimit 81 = .ok (.iconst 0, 1) := by decide +kernel
theorem dX5_leastLimit_82 : decode cX5_leastLimit 82 = .ok (.istore 4, 2) := by decide +kernel
theorem dX5_leastLimit_84 : decode cX5_leastLimit 84 = .ok (.iload 4, 2) := by decide +kernel
theorem dX5_leastLimit_86 : decode cX5_leastLimit 86 = .ok (.iload_n 3, 1) := by decide +kernel
theorem dX5_leastLimit_87 : decode cX5_leastLimit 87 = .ok (.if_icmp .ge 23, 3) := by decide +kernel
theorem dX5_leastLimit_90 : decode cX5_leastLimit 90 = .ok (.aload_n 0, 1) := by decide +kernel
theorem dX5_leastLimit_91 : decode cX5_leastLimit 91 = .ok (.getfield 22, 3) := by decide +kernel
theorem dX5_leastLimit_94 : decode cX5_leastLimit 94 = .ok (.aload_n 0, 1) := by decide +kernel
theorem dX5_leastLimit_95 : decode cX5_leastLimit 95 = .ok (.getfield 18, 3) := by decide +kernel
theorem dX5_leastLimit_98 : decode cX5_leastLimit 98 = .ok (.iload 4, 2) := by decide +kernel
theorem dX5_leastLimit_100 : decode cX5_leastLimit 100 = .ok (.iaload, 1) := by decide +kernel
theorem dX5_leastLimit_101 : decode cX5_leastLimit 101 = .ok (.invokevirtual 50, 3) := by decide +kernel
theorem dX5_leastLimit_104 : decode cX5_leastLimit 104 = .ok (.iinc 4 1, 3) := by decide +kernel
theorem dX5_leastLimit_107 : decode cX5_leastLimit 107 = .ok (.goto (-23), 3) := by decide +kernel
theorem dX5_leastLimit_110 : decode cX5_leastLimit 110 = .ok (.iload_n 2, 1) := by decide +kernel
theorem dX5_leastLimit_111 : decode cX5_leastLimit 111 = .ok (.ireturn, 1) := by decide +kernel
theorem dX5_insertAll_0 : decode cX5_insertAll 0 = .ok (.iconst 0, 1) := by decide +kernel
theorem dX5_insertAll_1 : decode cX5_insertAll 1 = .ok (.istore_n 1, 1) := by decide +kernel
theorem dX5_insertAll_2 : decode cX5_insertAll 2 = .ok (.iconst 0, 1) := by decide +kernel
theorem dX5_insertAll_3 : decode cX5_insertAll 3 = .ok (.istore_n 2, 1) := by decide +kernel
theorem dX5_insertAll_4 : decode cX5_insertAll 4 = .ok (.iload_n 2, 1) := by decide +kernel
theorem dX5_insertAll_5 : decode cX5_insertAll 5 = .ok (.aload_n 0, 1) := by decide +kernel
theorem dX5_insertAll_6 : decode cX5_insertAll 6 = .ok (.getfield 22, 3) := by decide +kernel
theorem dX5_insertAll_9 : decode cX5_insertAll 9 = .ok (.getfield 86, 3) := by decide +kernel
theorem dX5_insertAll_12 : decode cX5_insertAll 12 = .ok (.if_icmp .ge 38, 3) := by decide +kernel
theorem dX5_insertAll_15 : decode cX5_insertAll 15 = .ok (.aload_n 0, 1) := by decide +kernel
theorem dX5_insertAll_16 : decode cX5_insertAll 16 = .ok (.getfield 22, 3) := by decide +kernel
theorem dX5_insertAll_19 : decode cX5_insertAll 19 = .ok (.getfield 61, 3) := by decide +kernel
theorem dX5_insertAll_22 : decode cX5_insertAll 22 = .ok (.iload_n 2, 1) := by decide +kernel
theorem dX5_insertAll_23 : decode cX5_insertAll 23 = .ok (.baload, 1) := by decide +kernel
theorem dX5_insertAll_24 : decode cX5_insertAll 24 = .ok (.ifCond .ne 20, 3) := by decide +kernel
theorem dX5_insertAll_27 : decode cX5_insertAll 27 = .ok (.aload_n 0, 1) := by decide +kernel
theorem dX5_insertAll_28 : decode cX5_insertAll 28 = .ok (.iload_n 2, 1) := by decide +kernel
theorem dX5_insertAll_29 : decode cX5_insertAll 29 = .ok (.invokevirtual 69, 3) := by decide +kernel
theorem dX5_insertAll_32 : decode cX5_insertAll 32 = .ok (.ifCond .eq 12, 3) := by decide +kernel
theorem dX5_insertAll_35 : decode cX5_insertAll 35 = .ok (.aload_n 0, 1) := by decide +kernel
theorem dX5_insertAll_36 : decode cX5_insertAll 36 = .ok (.iload_n 2, 1) := by decide +kernel
theorem dX5_insertAll_37 : decode cX5_insertAll 37 = .ok (.invokevirtual 112, 3) := by decide +kernel
theorem dX5_insertAll_40 : decode cX5_insertAll 40 = .ok (.pop, 1) := by decide +kernel
theorem dX5_insertAll_41 : decode cX5_insertAll 41 = .ok (.iinc 1 1, 3) := by decide +kernel
theorem dX5_insertAll_44 : decode cX5_insertAll 44 = .ok (.iinc 2 1, 3) := by decide +kernel
theorem dX5_insertAll_47 : decode cX5_insertAll 47 = .ok (.goto (-43), 3) := by decide +kernel
theorem dX5_insertAll_50 : decode cX5_insertAll 50 = .ok (.iload_n 1, 1) := by decide +kernel
theorem dX5_insertAll_51 : decode cX5_insertAll 51 = .ok (.ireturn, 1) := by decide +kernel
theorem dX6_init_0 : decode cX6_init 0 = .ok (.aload_n 0, 1) := by decide +kernel
theorem dX6_init_1 : decode cX6_init 1 = .ok (.invokespecial 3, 3) := by decide +kernel
theorem dX6_init_4 : decode cX6_init 4 = .ok (.aload_n 0, 1) := by decide +kernel
theorem dX6_init_5 : decode cX6_init 5 = .ok (.sipush 600, 3) := by decide +kernel
theorem dX6_init_8 : decode cX6_init 8 = .ok (.newarray .int, 2) := by decide +kernel
theorem dX6_init_10 : decode cX6_init 10 = .ok (.putfield 9, 3) := by decide +kernel
theorem dX6_init_13 : decode cX6_init 13 = .ok (.return_, 1) := by decide +kernel
theorem dX6_clear_0 : decode cX6_clear 0 = .ok (.aload_n 0, 1) := by decide +kernel
theorem dX6_clear_1 : decode cX6_clear 1 = .ok (.iconst 0, 1) := by decide +kernel
theorem dX6_clear_2 : decode cX6_clear 2 = .ok (.putfield 15, 3) := by decide +kernel
theorem dX6_clear_5 : decode cX6_clear 5 = .ok (.aload_n 0, 1) := by decide +kernel
theorem dX6_clear_6 : decode cX6_clear 6 = .ok (.iconst 0, 1) := by decide +kernel
theorem dX6_clear_7 : decode cX6_clear 7 = .ok (.putfield 19, 3) := by decide +kernel
theorem dX6_clear_10 : decode cX6_clear 10 = .ok (.return_, 1) := by decide +kernel
theorem dX6_add_0 : decode cX6_add 0 = .ok (.aload_n 0, 1) := by decide +kernel
theorem dX6_add_1 : decode cX6_add 1 = .ok (.getfield 9, 3) := by decide +kernel
theorem dX6_add_4 : decode cX6_add 4 = .ok (.aload_n 0, 1) := by decide +kernel
theorem dX6_add_5 : decode cX6_add 5 = .ok (.getfield 15, 3) := by decide +kernel
theorem dX6_add_8 : decode cX6_add 8 = .ok (.iload_n 1, 1) := by decide +kernel
theorem dX6_add_9 : decode cX6_add 9 = .ok (.iastore, 1) := by decide +kernel
theorem dX6_add_10 : decode cX6_add 10 = .ok (.aload_n 0, 1) := by decide +kernel
theorem dX6_add_11 : decode cX6_add 11 = .ok (.aload_n 0, 1) := by decide +kernel
theorem dX6_add_12 : decode cX6_add 12 = .ok (.getfield 15, 3) := by decide +kernel
theorem dX6_add_15 : decode cX6_add 15 = .ok (.iconst 1, 1) := by decide +kernel
theorem dX6_add_16 : decode cX6_add 16 = .ok (.iadd, 1) := by decide +kernel
theorem dX6_add_17 : decode cX6_add 17 = .ok (.sipush 600, 3) := by decide +kernel
theorem dX6_add_20 : decode cX6_add 20 = .ok (.if_icmp .ge 12, 3) := by decide +kernel
theorem dX6_add_23 : decode cX6_add 23 = .ok (.aload_n 0, 1) := by decide +kernel
theorem dX6_add_24 : decode cX6_add 24 = .ok (.getfield 15, 3) := by decide +kernel
theorem dX6_add_27 : decode cX6_add 27 = .ok (.iconst 1, 1) := by decide +kernel
theorem dX6_add_28 : decode cX6_add 28 = .ok (.iadd, 1) := by decide +kernel
theorem dX6_add_29 : decode cX6_add 29 = .ok (.goto 4, 3) := by decide +kernel
theorem dX6_add_32 : decode cX6_add 32 = .ok (.iconst 0, 1) := by decide +kernel
theorem dX6_add_33 : decode cX6_add 33 = .ok (.putfield 15, 3) := by decide +kernel
theorem dX6_add_36 : decode cX6_add 36 = .ok (.aload_n 0, 1) := by decide +kernel
theorem dX6_add_37 : decode cX6_add 37 = .ok (.aload_n 0, 1) := by decide +kernel
theorem dX6_add_38 : decode cX6_add 38 = .ok (.getfield 19, 3) := by decide +kernel
theorem dX6_add_41 : decode cX6_add 41 = .ok (.iconst 1, 1) := by decide +kernel
theorem dX6_add_42 : decode cX6_add 42 = .ok (.iadd, 1) := by decide +kernel
theorem dX6_add_43 : decode cX6_add 43 = .ok (.sipush 600, 3) := by decide +kernel
theorem dX6_add_46 : decode cX6_add 46 = .ok (.invokestatic 22, 3) := by decide +kernel
theorem dX6_add_49 : decode cX6_add 49 = .ok (.putfield 19, 3) := by decide +kernel
theorem dX6_add_52 : decode cX6_add 52 = .ok (.return_, 1) := by decide +kernel
theorem dX6_takeLatest_0 : decode cX6_takeLatest 0 = .ok (.aload_n 0, 1) := by decide +kernel
theorem dX6_takeLatest_1 : decode cX6_takeLatest 1 = .ok (.getfield 19, 3) := by decide +kernel
theorem dX6_takeLatest_4 : decode cX6_takeLatest 4 = .ok (.ifCond .ne 5, 3) := by decide +kernel
theorem dX6_takeLatest_7 : decode cX6_takeLatest 7 = .ok (.iconst (-1), 1) := by decide +kernel
theorem dX6_takeLatest_8 : decode cX6_takeLatest 8 = .ok (.ireturn, 1) := by decide +kernel
theorem dX6_takeLatest_9 : decode cX6_takeLatest 9 = .ok (.aload_n 0, 1) := by decide +kernel
theorem dX6_takeLatest_10 : decode cX6_takeLatest 10 = .ok (.aload_n 0, 1) := by decide +kernel
theorem dX6_takeLatest_11 : decode cX6_takeLatest 11 = .ok (.getfield 15, 3) := by decide +kernel
theorem dX6_takeLatest_14 : decode cX6_takeLatest 14 = .ok (.ifCond .le 12, 3) := by decide +kernel
theorem dX6_takeLatest_17 : decode cX6_takeLatest 17 = .ok (.aload_n 0, 1) := by decide +kernel
theorem dX6_takeLatest_18 : decode cX6_takeLatest 18 = .ok (.getfield 15, 3) := by decide +kernel
theorem dX6_takeLatest_21 : decode cX6_takeLatest 21 = .ok (.iconst 1, 1) := by decide +kernel
theorem dX6_takeLatest_22 : decode cX6_takeLatest 22 = .ok (.isub, 1) := by decide +kernel
theorem dX6_takeLatest_23 : decode cX6_takeLatest 23 = .ok (.goto 6, 3) := by decide +kernel
theorem dX6_takeLatest_26 : decode cX6_takeLatest 26 = .ok (.sipush 599, 3) := by decide +kernel
theorem dX6_takeLatest_29 : decode cX6_takeLatest 29 = .ok (.putfield 15, 3) := by decide +kernel
theorem dX6_takeLatest_32 : decode cX6_takeLatest 32 = .ok (.aload_n 0, 1) := by decide +kernel
theorem dX6_takeLatest_33 : decode cX6_takeLatest 33 = .ok (.dup, 1) := by decide +kernel
theorem dX6_takeLatest_34 : decode cX6_takeLatest 34 = .ok (.getfield 19, 3) := by decide +kernel
theorem dX6_takeLatest_37 : decode cX6_takeLatest 37 = .ok (.iconst 1, 1) := by decide +kernel
theorem dX6_takeLatest_38 : decode cX6_takeLatest 38 = .ok (.isub, 1) := by decide +kernel
theorem dX6_takeLatest_39 : decode cX6_takeLatest 39 = .ok (.putfield 19, 3) := by decide +kernel
theorem dX6_takeLatest_42 : decode cX6_takeLatest 42 = .ok (.aload_n 0, 1) := by decide +kernel
theorem dX6_takeLatest_43 : decode cX6_takeLatest 43 = .ok (.getfield 9, 3) := by decide +kernel
theorem dX6_takeLatest_46 : decode cX6_takeLatest 46 = .ok (.aload_n 0, 1) := by decide +kernel
theorem dX6_takeLatest_47 : decode cX6_takeLatest 47 = .ok (.getfield 15, 3) := by decide +kernel
theorem dX6_takeLatest_50 : decode cX6_takeLatest 50 = .ok (.iaload, 1) := by decide +kernel
theorem dX6_takeLatest_51 : decode cX6_takeLatest 51 = .ok (.ireturn, 1) := by decide +kernel
theorem dX7_init_0 : decode cX7_init 0 = .ok (.aload_n 0, 1) := by decide +kernel
theorem dX7_init_1 : decode cX7_init 1 = .ok (.invokespecial 3, 3) := by decide +kernel
theorem dX7_init_4 : decode cX7_init 4 = .ok (.aload_n 0, 1) := by decide +kernel
theorem dX7_init_5 : decode cX7_init 5 = .ok (.sipush 200, 3) := by decide +kernel
theorem dX7_init_8 : decode cX7_init 8 = .ok (.newarray .char, 2) := by decide +kernel
theorem dX7_init_10 : decode cX7_init 10 = .ok (.putfield 9, 3) := by decide +kernel
theorem dX7_init_13 : decode cX7_init 13 = .ok (.return_, 1) := by decide +kernel
theorem dX7_append_0 : decode cX7_append 0 = .ok (.aload_n 0, 1) := by decide +kernel
theorem dX7_append_1 : decode cX7_append 1 = .ok (.getfield 15, 3) := by decide +kernel
theorem dX7_append_4 : decode cX7_append 4 = .ok (.sipush 200, 3) := by decide +kernel
theorem dX7_append_7 : decode cX7_append 7 = .ok (.if_icmp .lt 5, 3) := by decide +kernel
theorem dX7_append_10 : decode cX7_append 10 = .ok (.iconst 0, 1) := by decide +kernel
theorem dX7_append_11 : decode cX7_append 11 = .ok (.ireturn, 1) := by decide +kernel
theorem dX7_append_12 : decode cX7_append 12 = .ok (.aload_n 0, 1) := by decide +kernel
theorem dX7_append_13 : decode cX7_append 13 = .ok (.getfield 9, 3) := by decide +kernel
theorem dX7_append_16 : decode cX7_append 16 = .ok (.aload_n 0, 1) := by decide +kernel
theorem dX7_append_17 : decode cX7_append 17 = .ok (.getfield 15, 3) := by decide +kernel
theorem dX7_append_20 : decode cX7_append 20 = .ok (.iload_n 1, 1) := by decide +kernel
theorem dX7_append_21 : decode cX7_append 21 = .ok (.castore, 1) := by decide +kernel
theorem dX7_append_22 : decode cX7_append 22 = .ok (.aload_n 0, 1) := by decide +kernel
theorem dX7_append_23 : decode cX7_append 23 = .ok (.dup, 1) := by decide +kernel
theorem dX7_append_24 : decode cX7_append 24 = .ok (.getfield 15, 3) := by decide +kernel
theorem dX7_append_27 : decode cX7_append 27 = .ok (.iconst 1, 1) := by decide +kernel
theorem dX7_append_28 : decode cX7_append 28 = .ok (.iadd, 1) := by decide +kernel
theorem dX7_append_29 : decode cX7_append 29 = .ok (.putfield 15, 3) := by decide +kernel
theorem dX7_append_32 : decode cX7_append 32 = .ok (.iconst 1, 1) := by decide +kernel
theorem dX7_append_33 : decode cX7_append 33 = .ok (.ireturn, 1) := by decide +kernel
theorem dX8_init_0 : decode cX8_init 0 = .ok (.aload_n 0, 1) := by decide +kernel
theorem dX8_init_1 : decode cX8_init 1 = .ok (.invokespecial 3, 3) := by decide +kernel
theorem dX8_init_4 : decode cX8_init 4 = .ok (.aload_n 0, 1) := by decide +kernel
theorem dX8_init_5 : decode cX8_init 5 = .ok (.sipush 192, 3) := by decide +kernel
theorem dX8_init_8 : decode cX8_init 8 = .ok (.newarray .boolean, 2) := by decide +kernel
theorem dX8_init_10 : decode cX8_init 10 = .ok (.putfield 9, 3) := by decide +kernel
theorem dX8_init_13 : decode cX8_init 13 = .ok (.aload_n 0, 1) := by decide +kernel
theorem dX8_init_14 : decode cX8_init 14 = .ok (.aload_n 1, 1) := by decide +kernel
theorem dX8_init_15 : decode cX8_init 15 = .ok (.putfield 15, 3) := by decide +kernel
theorem dX8_init_18 : decode cX8_init 18 = .ok (.aload_n 0, 1) := by decide +kernel
theorem dX8_init_19 : decode cX8_init 19 = .ok (.aload_n 2, 1) := by decide +kernel
theorem dX8_init_20 : decode cX8_init 20 = .ok (.putfield 19, 3) := by decide +kernel
theorem dX8_init_23 : decode cX8_init 23 = .ok (.return_, 1) := by decide +kernel
theorem dX8_traceAll_0 : decode cX8_traceAll 0 = .ok (.aload_n 0, 1) := by decide +kernel
theorem dX8_traceAll_1 : decode cX8_traceAll 1 = .ok (.iload_n 1, 1) := by decide +kernel
theorem dX8_traceAll_2 : decode cX8_traceAll 2 = .ok (.putfield 23, 3) := by decide +kernel
theorem dX8_traceAll_5 : decode cX8_traceAll 5 = .ok (.aload_n 0, 1) := by decide +kernel
theorem dX8_traceAll_6 : decode cX8_traceAll 6 = .ok (.iload_n 2, 1) := by decide +kernel
theorem dX8_traceAll_7 : decode cX8_traceAll 7 = .ok (.iconst 4, 1) := by decide +kernel
theorem dX8_traceAll_8 : decode cX8_traceAll 8 = .ok (.if_icmp .ne 7, 3) := by decide +kernel
theorem dX8_traceAll_11 : decode cX8_traceAll 11 = .ok (.iconst 1, 1) := by decide +kernel
theorem dX8_traceAll_12 : decode cX8_traceAll 12 = .ok (.goto 4, 3) := by decide +kernel
theorem dX8_traceAll_15 : decode cX8_traceAll 15 = .ok (.iconst 3, 1) := by decide +kernel
theorem dX8_traceAll_16 : decode cX8_traceAll 16 = .ok (.putfield 27, 3) := by decide +kernel
theorem dX8_traceAll_19 : decode cX8_traceAll 19 = .ok (.aload_n 0, 1) := by decide +kernel
theorem dX8_traceAll_20 : decode cX8_traceAll 20 = .ok (.getfield 19, 3) := by decide +kernel
theorem dX8_traceAll_23 : decode cX8_traceAll 23 = .ok (.iload_n 1, 1) := by decide +kernel
theorem dX8_traceAll_24 : decode cX8_traceAll 24 = .ok (.putfield 30, 3) := by decide +kernel
theorem dX8_traceAll_27 : decode cX8_traceAll 27 = .ok (.iconst 0, 1) := by decide +kernel
theorem dX8_traceAll_28 : decode cX8_traceAll 28 = .ok (.istore_n 3, 1) := by decide +kernel
theorem dX8_traceAll_29 : decode cX8_traceAll 29 = .ok (.iload_n 3, 1) := by decide +kernel
theorem dX8_traceAll_30 : decode cX8_traceAll 30 = .ok (.sipush 192, 3) := by decide +kernel
theorem dX8_traceAll_33 : decode cX8_traceAll 33 = .ok (.if_icmp .ge 16, 3) := by decide +kernel
theorem dX8_traceAll_36 : decode cX8_traceAll 36 = .ok (.aload_n 0, 1) := by decide +kernel
theorem dX8_traceAll_37 : decode cX8_traceAll 37 = .ok (.getfield 9, 3) := by decide +kernel
theorem dX8_traceAll_40 : decode cX8_traceAll 40 = .ok (.iload_n 3, 1) := by decide +kernel
theorem dX8_traceAll_41 : decode cX8_traceAll 41 = .ok (.iconst 0, 1) := by decide +kernel
theorem dX8_traceAll_42 : decode cX8_traceAll 42 = .ok (.bastore, 1) := by decide +kernel
theorem dX8_traceAll_43 : decode cX8_traceAll 43 = .ok (.iinc 3 1, 3) := by decide +kernel
theorem dX8_traceAll_46 : decode cX8_traceAll 46 = .ok (.goto (-17), 3) := by decide +kernel
theorem dX8_traceAll_49 : decode cX8_traceAll 49 = .ok (.iconst 0, 1) := by decide +kernel
theorem dX8_traceAll_50 : decode cX8_traceAll 50 = .ok (.istore_n 3, 1) := by decide +kernel
theorem dX8_traceAll_51 : decode cX8_traceAll 51 = .ok (.iload_n 3, 1) := by decide +kernel
theorem dX8_traceAll_52 : decode cX8_traceAll 52 = .ok (.aload_n 0, 1) := by decide +kernel
theorem dX8_traceAll_53 : decode cX8_traceAll 53 = .ok (.getfield 15, 3) := by decide +kernel
theorem dX8_traceAll_56 : decode cX8_traceAll 56 = .ok (.getfield 33, 3) := by decide +kernel
theorem dX8_traceAll_59 : decode cX8_traceAll 59 = .ok (.if_icmp .ge 58, 3) := by decide +kernel
theorem dX8_traceAll_62 : decode cX8_traceAll 62 = .ok (.iconst 0, 1) := by decide +kernel
theorem dX8_traceAll_63 : decode cX8_traceAll 63 = .ok (.istore 4, 2) := by decide +kernel
theorem dX8_traceAll_65 : decode cX8_traceAll 65 = .ok (.iload 4, 2) := by decide +kernel
theorem dX8_traceAll_67 : decode cX8_traceAll 67 = .ok (.aload_n 0, 1) := by decide +kernel
theorem dX8_traceAll_68 : decode cX8_traceAll 68 = .ok (.getfield 15, 3) := by decide +kernel
theorem dX8_traceAll_71 : decode cX8_traceAll 71 = .ok (.getfield 38, 3) := by decide +kernel
theorem dX8_traceAll_74 : decode cX8_traceAll 74 = .ok (.if_icmp .ge 37, 3) := by decide +kernel
theorem dX8_traceAll_77 : decode cX8_traceAll 77 = .ok (.aload_n 0, 1) := by decide +kernel
theorem dX8_traceAll_78 : decode cX8_traceAll 78 = .ok (.iload 4, 2) := by decide +kernel
theorem dX8_traceAll_80 : decode cX8_traceAll 80 = .ok (.iload_n 3, 1) := by decide +kernel
theorem dX8_traceAll_81 : decode cX8_traceAll 81 = .ok (.iconst 0, 1) := by decide +kernel
theorem dX8_traceAll_82 : decode cX8_traceAll 82 = .ok (.invokevirtual 41, 3) := by decide +kernel
theorem dX8_traceAll_85 : decode cX8_traceAll 85 = .ok (.ifCond .eq 20, 3) := by decide +kernel
theorem dX8_traceAll_88 : decode cX8_traceAll 88 = .ok (.aload_n 0, 1) := by decide +kernel
theorem dX8_traceAll_89 : decode cX8_traceAll 89 = .ok (.iload 4, 2) := by decide +kernel
theorem dX8_traceAll_91 : decode cX8_traceAll 91 = .ok (.iload_n 3, 1) := by decide +kernel
theorem dX8_traceAll_92 : decode cX8_traceAll 92 = .ok (.invokevirtual 45, 3) := by decide +kernel
theorem dX8_traceAll_95 : decode cX8_traceAll 95 = .ok (.ifCond .ne 10, 3) := by decide +kernel
theorem dX8_traceAll_98 : decode cX8_traceAll 98 = .ok (.aload_n 0, 1) := by decide +kernel
theorem dX8_traceAll_99 : decode cX8_traceAll 99 = .ok (.iload 4, 2) := by decide +kernel
theorem dX8_traceAll_101 : decode cX8_traceAll 101 = .ok (.iload_n 3, 1) := by decide +kernel
theorem dX8_traceAll_102 : decode cX8_traceAll 102 = .ok (.invokevirtual 49, 3) := by decide +kernel
theorem dX8_traceAll_105 : decode cX8_traceAll 105 = .ok (.iinc 4 1, 3) := by decide +kernel
theorem dX8_traceAll_108 : decode cX8_traceAll 108 = .ok (.goto (-43), 3) := by decide +kernel
theorem dX8_traceAll_111 : decode cX8_traceAll 111 = .ok (.iinc 3 1, 3) := by decide +kernel
theorem dX8_traceAll_114 : decode cX8_traceAll 114 = .ok (.goto (-63), 3) := by decide +kernel
theorem dX8_traceAll_117 : decode cX8_traceAll 117 = .ok (.iconst 0, 1) := by decide +kernel
theorem dX8_traceAll_118 : decode cX8_traceAll 118 = .ok (.istore_n 3, 1) := by decide +kernel
theorem dX8_traceAll_119 : decode cX8_traceAll 119 = .ok (.iload_n 3, 1) := by decide +kernel
theorem dX8_traceAll_120 : decode cX8_traceAll 120 = .ok (.aload_n 0, 1) := by decide +kernel
theorem dX8_traceAll_121 : decode cX8_traceAll 121 = .ok (.getfield 19, 3) := by decide +kernel
theorem dX8_traceAll_124 : decode cX8_traceAll 124 = .ok (.getfield 53, 3) := by decide +kernel
theorem dX8_traceAll_127 : decode cX8_traceAll 127 = .ok (.if_icmp .ge 26, 3) := by decide +kernel
theorem dX8_traceAll_130 : decode cX8_traceAll 130 = .ok (.aload_n 0, 1) := by decide +kernel
theorem dX8_traceAll_131 : decode cX8_traceAll 131 = .ok (.getfield 19, 3) := by decide +kernel
theorem dX8_traceAll_134 : decode cX8_traceAll 134 = .ok (.getfield 56, 3) := by decide +kernel
theorem dX8_traceAll_137 : decode cX8_traceAll 137 = .ok (.iload_n 3, 1) := by decide +kernel
theorem dX8_traceAll_138 : decode cX8_traceAll 138 = .ok (.aload_n 0, 1) := by decide +kernel
theorem dX8_traceAll_139 : decode cX8_traceAll 139 = .ok (.getfield 19, 3) := by decide +kernel
theorem dX8_traceAll_142 : decode cX8_traceAll 142 = .ok (.iload_n 3, 1) := by decide +kernel
theorem dX8_traceAll_143 : decode cX8_traceAll 143 = .ok (.invokevirtual 60, 3) := by decide +kernel
theorem dX8_traceAll_146 : decode cX8_traceAll 146 = .ok (.iastore, 1) := by decide +kernel
theorem dX8_traceAll_147 : decode cX8_traceAll 147 = .ok (.iinc 3 1, 3) := by decide +kernel
theorem dX8_traceAll_150 : decode cX8_traceAll 150 = .ok (.goto (-31), 3) := by decide +kernel
theorem dX8_traceAll_153 : decode cX8_traceAll 153 = .ok (.iconst 0, 1) := by decide +kernel
theorem dX8_traceAll_154 : decode cX8_traceAll 154 = .ok (.istore_n 3, 1) := by decide +kernel
theorem dX8_traceAll_155 : decode cX8_traceAll 155 = .ok (.iload_n 3, 1) := by decide +kernel
theorem dX8_traceAll_156 : decode cX8_traceAll 156 = .ok (.aload_n 0, 1) := by decide +kernel
theorem dX8_traceAll_157 : decode cX8_traceAll 157 = .ok (.getfield 19, 3) := by decide +kernel
theorem dX8_traceAll_160 : decode cX8_traceAll 160 = .ok (.getfield 53, 3) := by decide +kernel
theorem dX8_traceAll_163 : decode cX8_traceAll 163 = .ok (.if_icmp .ge 23, 3) := by decide +kernel
theorem dX8_traceAll_166 : decode cX8_traceAll 166 = .ok (.aload_n 0, 1) := by decide +kernel
theorem dX8_traceAll_167 : decode cX8_traceAll 167 = .ok (.getfield 19, 3) := by decide +kernel
theorem dX8_traceAll_170 : decode cX8_traceAll 170 = .ok (.getfield 64, 3) := by decide +kernel
theorem dX8_traceAll_173 : decode cX8_traceAll 173 = .ok (.iload_n 3, 1) := by decide +kernel
theorem dX8_traceAll_174 : decode cX8_traceAll 174 = .ok (.aload_n 0, 1) := by decide +kernel
theorem dX8_traceAll_175 : decode cX8_traceAll 175 = .ok (.iload_n 3, 1) := by decide +kernel
theorem dX8_traceAll_176 : decode cX8_traceAll 176 = .ok (.invokevirtual 67, 3) := by decide +kernel
theorem dX8_traceAll_179 : decode cX8_traceAll 179 = .ok (.iastore, 1) := by decide +kernel
theorem dX8_traceAll_180 : decode cX8_traceAll 180 = .ok (.iinc 3 1, 3) := by decide +kernel
theorem dX8_traceAll_183 : decode cX8_traceAll 183 = .ok (.goto (-28), 3) := by decide +kernel
theorem dX8_traceAll_186 : decode cX8_traceAll 186 = .ok (.return_, 1) := by decide +kernel
theorem dX8_isPassed_0 : decode cX8_isPassed 0 = .ok (.aload_n 0, 1) := by decide +kernel
theorem dX8_isPassed_1 : decode cX8_isPassed 1 = .ok (.getfield 15, 3) := by decide +kernel
theorem dX8_isPassed_4 : decode cX8_isPassed 4 = .ok (.iload_n 1, 1) := by decide +kernel
theorem dX8_isPassed_5 : decode cX8_isPassed 5 = .ok (.iload_n 2, 1) := by decide +kernel
theorem dX8_isPassed_6 : decode cX8_isPassed 6 = .ok (.invokevirtual 70, 3) := by decide +kernel
theorem dX8_isPassed_9 : decode cX8_isPassed 9 = .ok (.ifCond .eq 21, 3) := by decide +kernel
theorem dX8_isPassed_12 : decode cX8_isPassed 12 = .ok (.aload_n 0, 1) := by decide +kernel
theorem dX8_isPassed_13 : decode cX8_isPassed 13 = .ok (.getfield 9, 3) := by decide +kernel
theorem dX8_isPassed_16 : decode cX8_isPassed 16 = .ok (.iload_n 2, 1) := by decide +kernel
theorem dX8_isPassed_17 : decode cX8_isPassed 17 = .ok (.bipush 16, 2) := by decide +kernel
theorem dX8_isPassed_19 : decode cX8_isPassed 19 = .ok (.imul, 1) := by decide +kernel
theorem dX8_isPassed_20 : decode cX8_isPassed 20 = .ok (.iload_n 1, 1) := by decide +kernel
theorem dX8_isPassed_21 : decode cX8_isPassed 21 = .ok (.iadd, 1) := by decide +kernel
theorem dX8_isPassed_22 : decode cX8_isPassed 22 = .ok (.baload, 1) := by decide +kernel
theorem dX8_isPassed_23 : decode cX8_isPassed 23 = .ok (.ifCond .eq 7, 3) := by decide +kernel
theorem dX8_isPassed_26 : decode cX8_isPassed 26 = .ok (.iconst 1, 1) := by decide +kernel
theorem dX8_isPassed_27 : decode cX8_isPassed 27 = .ok (.goto 4, 3) := by decide +kernel
theorem dX8_isPassed_30 : decode cX8_isPassed 30 = .ok (.iconst 0, 1) := by decide +kernel
theorem dX8_isPassed_31 : decode cX8_isPassed 31 = .ok (.ireturn, 1) := by decide +kernel
theorem dX8_pass_0 : decode cX8_pass 0 = .ok (.aload_n 0, 1) := by decide +kernel
theorem dX8_pass_1 : decode cX8_pass 1 = .ok (.getfield 15, 3) := by decide +kernel
theorem dX8_pass_4 : decode cX8_pass 4 = .ok (.iload_n 1, 1) := by decide +kernel
theorem dX8_pass_5 : decode cX8_pass 5 = .ok (.iload_n 2, 1) := by decide +kernel
theorem dX8_pass_6 : decode cX8_pass 6 = .ok (.invokevirtual 70, 3) := by decide +kernel
theorem dX8_pass_9 : decode cX8_pass 9 = .ok (.ifCond .eq 15, 3) := by decide +kernel
theorem dX8_pass_12 : decode cX8_pass 12 = .ok (.aload_n 0, 1) := by decide +kernel
theorem dX8_pass_13 : decode cX8_pass 13 = .ok (.getfield 9, 3) := by decide +kernel
theorem dX8_pass_16 : decode cX8_pass 16 = .ok (.iload_n 2, 1) := by decide +kernel
theorem dX8_pass_17 : decode cX8_pass 17 = .ok (.bipush 16, 2) := by decide +kernel
theorem dX8_pass_19 : decode cX8_pass 19 = .ok (.imul, 1) := by decide +kernel
theorem dX8_pass_20 : decode cX8_pass 20 = .ok (.iload_n 1, 1) := by decide +kernel
theorem dX8_pass_21 : decode cX8_pass 21 = .ok (.iadd, 1) := by decide +kernel
theorem dX8_pass_22 : decode cX8_pass 22 = .ok (.iconst 1, 1) := by decide +kernel
theorem dX8_pass_23 : decode cX8_pass 23 = .ok (.bastore, 1) := by decide +kernel
theorem dX8_pass_24 : decode cX8_pass 24 = .ok (.return_, 1) := by decide +kernel
theorem dX8_traceFrom_0 : decode cX8_traceFrom 0 = .ok (.aload_n 0, 1) := by decide +kernel
theorem dX8_traceFrom_1 : decode cX8_traceFrom 1 = .ok (.getfield 19, 3) := by decide +kernel
theorem dX8_traceFrom_4 : decode cX8_traceFrom 4 = .ok (.invokevirtual 73, 3) := by decide +kernel
theorem dX8_traceFrom_7 : decode cX8_traceFrom 7 = .ok (.ifCond .ne 4, 3) := by decide +kernel
theorem dX8_traceFrom_10 : decode cX8_traceFrom 10 = .ok (.return_, 1) := by decide +kernel
theorem dX8_traceFrom_11 : decode cX8_traceFrom 11 = .ok (.iload_n 1, 1) := by decide +kernel
theorem dX8_traceFrom_12 : decode cX8_traceFrom 12 = .ok (.istore_n 3, 1) := by decide +kernel
theorem dX8_traceFrom_13 : decode cX8_traceFrom 13 = .ok (.iload_n 2, 1) := by decide +kernel
theorem dX8_traceFrom_14 : decode cX8_traceFrom 14 = .ok (.istore 4, 2) := by decide +kernel
theorem dX8_traceFrom_16 : decode cX8_traceFrom 16 = .ok (.iconst 0, 1) := by decide +kernel
theorem dX8_traceFrom_17 : decode cX8_traceFrom 17 = .ok (.istore 5, 2) := by decide +kernel
theorem dX8_traceFrom_19 : decode cX8_traceFrom 19 = .ok (.iconst 1, 1) := by decide +kernel
theorem dX8_traceFrom_20 : decode cX8_traceFrom 20 = .ok (.istore 6, 2) := by decide +kernel
theorem dX8_traceFrom_22 : decode cX8_traceFrom 22 = .ok (.iconst 0, 1) := by decide +kernel
theorem dX8_traceFrom_23 : decode cX8_traceFrom 23 = .ok (.istore 7, 2) := by decide +kernel
theorem dX8_traceFrom_25 : decode cX8_traceFrom 25 = .ok (.iload 7, 2) := by decide +kernel
theorem dX8_traceFrom_27 : decode cX8_traceFrom 27 = .ok (.sipush 442, 3) := by decide +kernel
theorem dX8_traceFrom_30 : decode cX8_traceFrom 30 = .ok (.if_icmp .ge 102, 3) := by decide +kernel
theorem dX8_traceFrom_33 : decode cX8_traceFrom 33 = .ok (.iload 6, 2) := by decide +kernel
theorem dX8_traceFrom_35 : decode cX8_traceFrom 35 = .ok (.ifCond .eq 13, 3) := by decide +kernel
theorem dX8_traceFrom_38 : decode cX8_traceFrom 38 = .ok (.aload_n 0, 1) := by decide +kernel
theorem dX8_traceFrom_39 : decode cX8_traceFrom 39 = .ok (.getfield 19, 3) := by decide +kernel
theorem dX8_traceFrom_42 : decode cX8_traceFrom 42 = .ok (.iload_n 3, 1) := by decide +kernel
theorem dX8_traceFrom_43 : decode cX8_traceFrom 43 = .ok (.iload 4, 2) := by decide +kernel
theorem dX8_traceFrom_45 : decode cX8_traceFrom 45 = .ok (.invokevirtual 77, 3) := by decide +kernel
theorem dX8_traceFrom_48 : decode cX8_traceFrom 48 = .ok (.iload 5, 2) := by decide +kernel
theorem dX8_traceFrom_50 : decode cX8_traceFrom 50 = .ok (.ifCond .ne 10, 3) := by decide +kernel
theorem dX8_traceFrom_53 : decode cX8_traceFrom 53 = .ok (.aload_n 0, 1) := by decide +kernel
theorem dX8_traceFrom_54 : decode cX8_traceFrom 54 = .ok (.iload_n 3, 1) := by decide +kernel
theorem dX8_traceFrom_55 : decode cX8_traceFrom 55 = .ok (.iload 4, 2) := by decide +kernel
theorem dX8_traceFrom_57 : decode cX8_traceFrom 57 = .ok (.invokevirtual 80, 3) := by decide +kernel
theorem dX8_traceFrom_60 : decode cX8_traceFrom 60 = .ok (.iload_n 3, 1) := by decide +kernel
theorem dX8_traceFrom_61 : decode cX8_traceFrom 61 = .ok (.getstatic 83, 3) := by decide +kernel
theorem dX8_traceFrom_64 : decode cX8_traceFrom 64 = .ok (.iload 5, 2) := by decide +kernel
theorem dX8_traceFrom_66 : decode cX8_traceFrom 66 = .ok (.iaload, 1) := by decide +kernel
theorem dX8_traceFrom_67 : decode cX8_traceFrom 67 = .ok (.iadd, 1) := by decide +kernel
theorem dX8_traceFrom_68 : decode cX8_traceFrom 68 = .ok (.istore_n 3, 1) := by decide +kernel
theorem dX8_traceFrom_69 : decode cX8_traceFrom 69 = .ok (.iload 4, 2) := by decide +kernel
theorem dX8_traceFrom_71 : decode cX8_traceFrom 71 = .ok (.getstatic 86, 3) := by decide +kernel
theorem dX8_traceFrom_74 : decode cX8_traceFrom 74 = .ok (.iload 5, 2) := by decide +kernel
theorem dX8_traceFrom_76 : decode cX8_traceFrom 76 = .ok (.iaload, 1) := by decide +kernel
theorem dX8_traceFrom_77 : decode cX8_traceFrom 77 = .ok (.iadd, 1) := by decide +kernel
theorem dX8_traceFrom_78 : decode cX8_traceFrom 78 = .ok (.istore 4, 2) := by decide +kernel
theorem dX8_traceFrom_80 : decode cX8_traceFrom 80 = .ok (.aload_n 0, 1) := by decide +kernel
theorem dX8_traceFrom_81 : decode cX8_traceFrom 81 = .ok (.iload_n 3, 1) := by decide +kernel
theorem dX8_traceFrom_82 : decode cX8_traceFrom 82 = .ok (.iload 4, 2) := by decide +kernel
theorem dX8_traceFrom_84 : decode cX8_traceFrom 84 = .ok (.iload 5, 2) := by decide +kernel
theorem dX8_traceFrom_86 : decode cX8_traceFrom 86 = .ok (.invokevirtual 89, 3) := by decide +kernel
theorem dX8_traceFrom_89 : decode cX8_traceFrom 89 = .ok (.istore 8, 2) := by decide +kernel
theorem dX8_traceFrom_91 : decode cX8_traceFrom 91 = .ok (.iload 8, 2) := by decide +kernel
theorem dX8_traceFrom_93 : decode cX8_traceFrom 93 = .ok (.iload 5, 2) := by decide +kernel
theorem dX8_traceFrom_95 : decode cX8_traceFrom 95 = .ok (.if_icmp .eq 7, 3) := by decide +kernel
theorem dX8_traceFrom_98 : decode cX8_traceFrom 98 = .ok (.iconst 1, 1) := by decide +kernel
theorem dX8_traceFrom_99 : decode cX8_traceFrom 99 = .ok (.goto 4, 3) := by decide +kernel
theorem dX8_traceFrom_102 : decode cX8_traceFrom 102 = .ok (.iconst 0, 1) := by decide +kernel
theorem dX8_traceFrom_103 : decode cX8_traceFrom 103 = .ok (.istore 6, 2) := by decide +kernel
theorem dX8_traceFrom_105 : decode cX8_traceFrom 105 = .ok (.iload 8, 2) := by decide +kernel
theorem dX8_traceFrom_107 : decode cX8_traceFrom 107 = .ok (.istore 5, 2) := by decide +kernel
theorem dX8_traceFrom_109 : decode cX8_traceFrom 109 = .ok (.iload_n 3, 1) := by decide +kernel
theorem dX8_traceFrom_110 : decode cX8_traceFrom 110 = .ok (.iload_n 1, 1) := by decide +kernel
theorem dX8_traceFrom_111 : decode cX8_traceFrom 111 = .ok (.if_icmp .ne 15, 3) := by decide +kernel
theorem dX8_traceFrom_114 : decode cX8_traceFrom 114 = .ok (.iload 4, 2) := by decide +kernel
theorem dX8_traceFrom_116 : decode cX8_traceFrom 116 = .ok (.iload_n 2, 1) := by decide +kernel
theorem dX8_traceFrom_117 : decode cX8_traceFrom 117 = .ok (.if_icmp .ne 9, 3) := by decide +kernel
theorem dX8_traceFrom_120 : decode cX8_traceFrom 120 = .ok (.iload 5, 2) := by decide +kernel
theorem dX8_traceFrom_122 : decode cX8_traceFrom 122 = .ok (.ifCond .ne 4, 3) := by decide +kernel
theorem dX8_traceFrom_125 : decode cX8_traceFrom 125 = .ok (.return_, 1) := by decide +kernel
theorem dX8_traceFrom_126 : decode cX8_traceFrom 126 = .ok (.iinc 7 1, 3) := by decide +kernel
theorem dX8_traceFrom_129 : decode cX8_traceFrom 129 = .ok (.goto (-104), 3) := by decide +kernel
theorem dX8_traceFrom_132 : decode cX8_traceFrom 132 = .ok (.return_, 1) := by decide +kernel
theorem dX8_directionFrom_0 : decode cX8_directionFrom 0 = .ok (.iload_n 3, 1) := by decide +kernel
theorem dX8_directionFrom_1 : decode cX8_directionFrom 1 = .ok (.aload_n 0, 1) := by decide +kernel
theorem dX8_directionFrom_2 : decode cX8_directionFrom 2 = .ok (.getfield 27, 3) := by decide +kernel
theorem dX8_directionFrom_5 : decode cX8_directionFrom 5 = .ok (.iadd, 1) := by decide +kernel
theorem dX8_directionFrom_6 : decode cX8_directionFrom 6 = .ok (.iconst 4, 1) := by decide +kernel
theorem dX8_directionFrom_7 : decode cX8_directionFrom 7 = .ok (.irem, 1) := by decide +kernel
theorem dX8_directionFrom_8 : decode cX8_directionFrom 8 = .ok (.istore 4, 2) := by decide +kernel
theorem dX8_directionFrom_10 : decode cX8_directionFrom 10 = .ok (.aload_n 0, 1) := by decide +kernel
theorem dX8_directionFrom_11 : decode cX8_directionFrom 11 = .ok (.iload_n 1, 1) := by decide +kernel
theorem dX8_directionFrom_12 : decode cX8_directionFrom 12 = .ok (.iload_n 2, 1) := by decide +kernel
theorem dX8_directionFrom_13 : decode cX8_directionFrom 13 = .ok (.iload 4, 2) := by decide +kernel
theorem dX8_directionFrom_15 : decode cX8_directionFrom 15 = .ok (.invokevirtual 41, 3) := by decide +kernel
theorem dX8_directionFrom_18 : decode cX8_directionFrom 18 = .ok (.ifCond .eq 6, 3) := by decide +kernel
theorem dX8_directionFrom_21 : decode cX8_directionFrom 21 = .ok (.iload 4, 2) := by decide +kernel
theorem dX8_directionFrom_23 : decode cX8_directionFrom 23 = .ok (.ireturn, 1) := by decide +kernel
theorem dX8_directionFrom_24 : decode cX8_directionFrom 24 = .ok (.aload_n 0, 1) := by decide +kernel
theorem dX8_directionFrom_25 : decode cX8_directionFrom 25 = .ok (.iload_n 1, 1) := by decide +kernel
theorem dX8_directionFrom_26 : decode cX8_directionFrom 26 = .ok (.iload_n 2, 1) := by decide +kernel
theorem dX8_directionFrom_27 : decode cX8_directionFrom 27 = .ok (.iload_n 3, 1) := by decide +kernel
theorem dX8_directionFrom_28 : decode cX8_directionFrom 28 = .ok (.invokevirtual 41, 3) := by decide +kernel
theorem dX8_directionFrom_31 : decode cX8_directionFrom 31 = .ok (.ifCond .eq 5, 3) := by decide +kernel
theorem dX8_directionFrom_34 : decode cX8_directionFrom 34 = .ok (.iload_n 3, 1) := by decide +kernel
theorem dX8_directionFrom_35 : decode cX8_directionFrom 35 = .ok (.ireturn, 1) := by decide +kernel
theorem dX8_directionFrom_36 : decode cX8_directionFrom 36 = .ok (.iload_n 3, 1) := by decide +kernel
theorem dX8_directionFrom_37 : decode cX8_directionFrom 37 = .ok (.iconst 4, 1) := by decide +kernel
theorem dX8_directionFrom_38 : decode cX8_directionFrom 38 = .ok (.iadd, 1) := by decide +kernel
theorem dX8_directionFrom_39 : decode cX8_directionFrom 39 = .ok (.aload_n 0, 1) := by decide +kernel
theorem dX8_directionFrom_40 : decode cX8_directionFrom 40 = .ok (.getfield 27, 3) := by decide +kernel
theorem dX8_directionFrom_43 : decode cX8_directionFrom 43 = .ok (.isub, 1) := by decide +kernel
theorem dX8_directionFrom_44 : decode cX8_directionFrom 44 = .ok (.iconst 4, 1) := by decide +kernel
theorem dX8_directionFrom_45 : decode cX8_directionFrom 45 = .ok (.irem, 1) := by decide +kernel
theorem dX8_directionFrom_46 : decode cX8_directionFrom 46 = .ok (.ireturn, 1) := by decide +kernel
theorem dX8_hasArrow_0 : decode cX8_hasArrow 0 = .ok (.iload_n 3, 1) := by decide +kernel
theorem dX8_hasArrow_1 : decode cX8_hasArrow 1 = .ok (.iconst 3, 1) := by decide +kernel
theorem dX8_hasArrow_2 : decode cX8_hasArrow 2 = .ok (.iadd, 1) := by decide +kernel
theorem dX8_hasArrow_3 : decode cX8_hasArrow 3 = .ok (.iconst 4, 1) := by decide +kernel
theorem dX8_hasArrow_4 : decode cX8_hasArrow 4 = .ok (.irem, 1) := by decide +kernel
theorem dX8_hasArrow_5 : decode cX8_hasArrow 5 = .ok (.istore 4, 2) := by decide +kernel
theorem dX8_hasArrow_7 : decode cX8_hasArrow 7 = .ok (.aload_n 0, 1) := by decide +kernel
theorem dX8_hasArrow_8 : decode cX8_hasArrow 8 = .ok (.getfield 15, 3) := by decide +kernel
theorem dX8_hasArrow_11 : decode cX8_hasArrow 11 = .ok (.iload_n 1, 1) := by decide +kernel
theorem dX8_hasArrow_12 : decode cX8_hasArrow 12 = .ok (.getstatic 93, 3) := by decide +kernel
theorem dX8_hasArrow_15 : decode cX8_hasArrow 15 = .ok (.iload_n 3, 1) := by decide +kernel
theorem dX8_hasArrow_16 : decode cX8_hasArrow 16 = .ok (.iaload, 1) := by decide +kernel
theorem dX8_hasArrow_17 : decode cX8_hasArrow 17 = .ok (.iadd, 1) := by decide +kernel
theorem dX8_hasArrow_18 : decode cX8_hasArrow 18 = .ok (.iload_n 2, 1) := by decide +kernel
theorem dX8_hasArrow_19 : decode cX8_hasArrow 19 = .ok (.getstatic 96, 3) := by decide +kernel
theorem dX8_hasArrow_22 : decode cX8_hasArrow 22 = .ok (.iload_n 3, 1) := by decide +kernel
theorem dX8_hasArrow_23 : decode cX8_hasArrow 23 = .ok (.iaload, 1) := by decide +kernel
theorem dX8_hasArrow_24 : decode cX8_hasArrow 24 = .ok (.iadd, 1) := by decide +kernel
theorem dX8_hasArrow_25 : decode cX8_hasArrow 25 = .ok (.invokevirtual 99, 3) := by decide +kernel
theorem dX8_hasArrow_28 : decode cX8_hasArrow 28 = .ok (.aload_n 0, 1) := by decide +kernel
theorem dX8_hasArrow_29 : decode cX8_hasArrow 29 = .ok (.getfield 23, 3) := by decide +kernel
theorem dX8_hasArrow_32 : decode cX8_hasArrow 32 = .ok (.if_icmp .lt 37, 3) := by decide +kernel
theorem dX8_hasArrow_35 : decode cX8_hasArrow 35 = .ok (.aload_n 0, 1) := by decide +kernel
theorem dX8_hasArrow_36 : decode cX8_hasArrow 36 = .ok (.getfield 15, 3) := by decide +kernel
theorem dX8_hasArrow_39 : decode cX8_hasArrow 39 = .ok (.iload_n 1, 1) := by decide +kernel
theorem dX8_hasArrow_40 : decode cX8_hasArrow 40 = .ok (.getstatic 93, 3) := by decide +kernel
theorem dX8_hasArrow_43 : decode cX8_hasArrow 43 = .ok (.iload 4, 2) := by decide +kernel
theorem dX8_hasArrow_45 : decode cX8_hasArrow 45 = .ok (.iaload, 1) := by decide +kernel
theorem dX8_hasArrow_46 : decode cX8_hasArrow 46 = .ok (.iadd, 1) := by decide +kernel
theorem dX8_hasArrow_47 : decode cX8_hasArrow 47 = .ok (.iload_n 2, 1) := by decide +kernel
theorem dX8_hasArrow_48 : decode cX8_hasArrow 48 = .ok (.getstatic 96, 3) := by decide +kernel
theorem dX8_hasArrow_51 : decode cX8_hasArrow 51 = .ok (.iload 4, 2) := by decide +kernel
theorem dX8_hasArrow_53 : decode cX8_hasArrow 53 = .ok (.iaload, 1) := by decide +kernel
theorem dX8_hasArrow_54 : decode cX8_hasArrow 54 = .ok (.iadd, 1) := by decide +kernel
theorem dX8_hasArrow_55 : decode cX8_hasArrow 55 = .ok (.invokevirtual 99, 3) := by decide +kernel
theorem dX8_hasArrow_58 : decode cX8_hasArrow 58 = .ok (.aload_n 0, 1) := by decide +kernel
theorem dX8_hasArrow_59 : decode cX8_hasArrow 59 = .ok (.getfield 23, 3) := by decide +kernel
theorem dX8_hasArrow_62 : decode cX8_hasArrow 62 = .ok (.if_icmp .ge 7, 3) := by decide +kernel
theorem dX8_hasArrow_65 : decode cX8_hasArrow 65 = .ok (.iconst 1, 1) := by decide +kernel
theorem dX8_hasArrow_66 : decode cX8_hasArrow 66 = .ok (.goto 4, 3) := by decide +kernel
theorem dX8_hasArrow_69 : decode cX8_hasArrow 69 = .ok (.iconst 0, 1) := by decide +kernel
theorem dX8_hasArrow_70 : decode cX8_hasArrow 70 = .ok (.ireturn, 1) := by decide +kernel
theorem dX8_parentOf_0 : decode cX8_parentOf 0 = .ok (.aload_n 0, 1) := by decide +kernel
theorem dX8_parentOf_1 : decode cX8_parentOf 1 = .ok (.getfield 19, 3) := by decide +kernel
theorem dX8_parentOf_4 : decode cX8_parentOf 4 = .ok (.getfield 103, 3) := by decide +kernel
theorem dX8_parentOf_7 : decode cX8_parentOf 7 = .ok (.iload_n 1, 1) := by decide +kernel
theorem dX8_parentOf_8 : decode cX8_parentOf 8 = .ok (.iaload, 1) := by decide +kernel
theorem dX8_parentOf_9 : decode cX8_parentOf 9 = .ok (.istore_n 2, 1) := by decide +kernel
theorem dX8_parentOf_10 : decode cX8_parentOf 10 = .ok (.iconst 2, 1) := by decide +kernel
theorem dX8_parentOf_11 : decode cX8_parentOf 11 = .ok (.aload_n 0, 1) := by decide +kernel
theorem dX8_parentOf_12 : decode cX8_parentOf 12 = .ok (.getfield 19, 3) := by decide +kernel
theorem dX8_parentOf_15 : decode cX8_parentOf 15 = .ok (.getfield 106, 3) := by decide +kernel
theorem dX8_parentOf_18 : decode cX8_parentOf 18 = .ok (.iload_n 2, 1) := by decide +kernel
theorem dX8_parentOf_19 : decode cX8_parentOf 19 = .ok (.iaload, 1) := by decide +kernel
theorem dX8_parentOf_20 : decode cX8_parentOf 20 = .ok (.imul, 1) := by decide +kernel
theorem dX8_parentOf_21 : decode cX8_parentOf 21 = .ok (.iconst 1, 1) := by decide +kernel
theorem dX8_parentOf_22 : decode cX8_parentOf 22 = .ok (.iadd, 1) := by decide +kernel
theorem dX8_parentOf_23 : decode cX8_parentOf 23 = .ok (.istore_n 3, 1) := by decide +kernel
theorem dX8_parentOf_24 : decode cX8_parentOf 24 = .ok (.iconst 2, 1) := by decide +kernel
theorem dX8_parentOf_25 : decode cX8_parentOf 25 = .ok (.aload_n 0, 1) := by decide +kernel
theorem dX8_parentOf_26 : decode cX8_parentOf 26 = .ok (.getfield 19, 3) := by decide +kernel
theorem dX8_parentOf_29 : decode cX8_parentOf 29 = .ok (.getfield 109, 3) := by decide +kernel
theorem dX8_parentOf_32 : decode cX8_parentOf 32 = .ok (.iload_n 2, 1) := by decide +kernel
theorem dX8_parentOf_33 : decode cX8_parentOf 33 = .ok (.iaload, 1) := by decide +kernel
theorem dX8_parentOf_34 : decode cX8_parentOf 34 = .ok (.imul, 1) := by decide +kernel
theorem dX8_parentOf_35 : decode cX8_parentOf 35 = .ok (.aload_n 0, 1) := by decide +kernel
theorem dX8_parentOf_36 : decode cX8_parentOf 36 = .ok (.getfield 19, 3) := by decide +kernel
theorem dX8_parentOf_39 : decode cX8_parentOf 39 = .ok (.iload_n 1, 1) := by decide +kernel
theorem dX8_parentOf_40 : decode cX8_parentOf 40 = .ok (.invokevirtual 112, 3) := by decide +kernel
theorem dX8_parentOf_43 : decode cX8_parentOf 43 = .ok (.ifCond .eq 7, 3) := by decide +kernel
theorem dX8_parentOf_46 : decode cX8_parentOf 46 = .ok (.iconst (-1), 1) := by decide +kernel
theorem dX8_parentOf_47 : decode cX8_parentOf 47 = .ok (.goto 4, 3) := by decide +kernel
theorem dX8_parentOf_50 : decode cX8_parentOf 50 = .ok (.iconst 1, 1) := by decide +kernel
theorem dX8_parentOf_51 : decode cX8_parentOf 51 = .ok (.iadd, 1) := by decide +kernel
theorem dX8_parentOf_52 : decode cX8_parentOf 52 = .ok (.istore 4, 2) := by decide +kernel
theorem dX8_parentOf_54 : decode cX8_parentOf 54 = .ok (.iconst (-1), 1) := by decide +kernel
theorem dX8_parentOf_55 : decode cX8_parentOf 55 = .ok (.istore 5, 2) := by decide +kernel
theorem dX8_parentOf_57 : decode cX8_parentOf 57 = .ok (.ldc 118, 2) := by decide +kernel
theorem dX8_parentOf_59 : decode cX8_parentOf 59 = .ok (.istore 6, 2) := by decide +kernel
theorem dX8_parentOf_61 : decode cX8_parentOf 61 = .ok (.iconst 0, 1) := by decide +kernel
theorem dX8_parentOf_62 : decode cX8_parentOf 62 = .ok (.istore 7, 2) := by decide +kernel
theorem dX8_parentOf_64 : decode cX8_parentOf 64 = .ok (.iload 7, 2) := by decide +kernel
theorem dX8_parentOf_66 : decode cX8_parentOf 66 = .ok (.aload_n 0, 1) := by decide +kernel
theorem dX8_parentOf_67 : decode cX8_parentOf 67 = .ok (.getfield 19, 3) := by decide +kernel
theorem dX8_parentOf_70 : decode cX8_parentOf 70 = .ok (.getfield 53, 3) := by decide +kernel
theorem dX8_parentOf_73 : decode cX8_parentOf 73 = .ok (.if_icmp .ge 60, 3) := by decide +kernel
theorem dX8_parentOf_76 : decode cX8_parentOf 76 = .ok (.aload_n 0, 1) := by decide +kernel
theorem dX8_parentOf_77 : decode cX8_parentOf 77 = .ok (.getfield 19, 3) := by decide +kernel
theorem dX8_parentOf_80 : decode cX8_parentOf 80 = .ok (.getfield 56, 3) := by decide +kernel
theorem dX8_parentOf_83 : decode cX8_parentOf 83 = .ok (.iload 7, 2) := by decide +kernel
theorem dX8_parentOf_85 : decode cX8_parentOf 85 = .ok (.iaload, 1) := by decide +kernel
theorem dX8_parentOf_86 : decode cX8_parentOf 86 = .ok (.invokestatic 119, 3) := by decide +kernel
theorem dX8_parentOf_89 : decode cX8_parentOf 89 = .ok (.istore 8, 2) := by decide +kernel
theorem dX8_parentOf_91 : decode cX8_parentOf 91 = .ok (.iload 7, 2) := by decide +kernel
theorem dX8_parentOf_93 : decode cX8_parentOf 93 = .ok (.iload_n 1, 1) := by decide +kernel
theorem dX8_parentOf_94 : decode cX8_parentOf 94 = .ok (.if_icmp .eq 33, 3) := by decide +kernel
theorem dX8_parentOf_97 : decode cX8_parentOf 97 = .ok (.iload 8, 2) := by decide +kernel
theorem dX8_parentOf_99 : decode cX8_parentOf 99 = .ok (.iload 6, 2) := by decide +kernel
theorem dX8_parentOf_101 : decode cX8_parentOf 101 = .ok (.if_icmp .ge 26, 3) := by decide +kernel
theorem dX8_parentOf_104 : decode cX8_parentOf 104 = .ok (.aload_n 0, 1) := by decide +kernel
theorem dX8_parentOf_105 : decode cX8_parentOf 105 = .ok (.getfield 19, 3) := by decide +kernel
theorem dX8_parentOf_108 : decode cX8_parentOf 108 = .ok (.iload 7, 2) := by decide +kernel
theorem dX8_parentOf_110 : decode cX8_parentOf 110 = .ok (.iload_n 3, 1) := by decide +kernel
theorem dX8_parentOf_111 : decode cX8_parentOf 111 = .ok (.iload 4, 2) := by decide +kernel
theorem dX8_parentOf_113 : decode cX8_parentOf 113 = .ok (.invokevirtual 124, 3) := by decide +kernel
theorem dX8_parentOf_116 : decode cX8_parentOf 116 = .ok (.ifCond .eq 11, 3) := by decide +kernel
theorem dX8_parentOf_119 : decode cX8_parentOf 119 = .ok (.iload 7, 2) := by decide +kernel
theorem dX8_parentOf_121 : decode cX8_parentOf 121 = .ok (.istore 5, 2) := by decide +kernel
theorem dX8_parentOf_123 : decode cX8_parentOf 123 = .ok (.iload 8, 2) := by decide +kernel
theorem dX8_parentOf_125 : decode cX8_parentOf 125 = .ok (.istore 6, 2) := by decide +kernel
theorem dX8_parentOf_127 : decode cX8_parentOf 127 = .ok (.iinc 7 1, 3) := by decide +kernel
theorem dX8_parentOf_130 : decode cX8_parentOf 130 = .ok (.goto (-66), 3) := by decide +kernel
theorem dX8_parentOf_133 : decode cX8_parentOf 133 = .ok (.iload 5, 2) := by decide +kernel
theorem dX8_parentOf_135 : decode cX8_parentOf 135 = .ok (.ireturn, 1) := by decide +kernel
theorem dX9_init_0 : decode cX9_init 0 = .ok (.aload_n 0, 1) := by decide +kernel
theorem dX9_init_1 : decode cX9_init 1 = .ok (.invokespecial 3, 3) := by decide +kernel
theorem dX9_init_4 : decode cX9_init 4 = .ok (.aload_n 0, 1) := by decide +kernel
theorem dX9_init_5 : decode cX9_init 5 = .ok (.new 9, 3) := by decide +kernel
theorem dX9_init_8 : decode cX9_init 8 = .ok (.dup, 1) := by decide +kernel
theorem dX9_init_9 : decode cX9_init 9 = .ok (.invokespecial 11, 3) := by decide +kernel
theorem dX9_init_12 : decode cX9_init 12 = .ok (.putfield 12, 3) := by decide +kernel
theorem dX9_init_15 : decode cX9_init 15 = .ok (.aload_n 0, 1) := by decide +kernel
theorem dX9_init_16 : decode cX9_init 16 = .ok (.new 16, 3) := by decide +kernel
theorem dX9_init_19 : decode cX9_init 19 = .ok (.dup, 1) := by decide +kernel
theorem dX9_init_20 : decode cX9_init 20 = .ok (.invokespecial 18, 3) := by decide +kernel
theorem dX9_init_23 : decode cX9_init 23 = .ok (.putfield 19, 3) := by decide +kernel
theorem dX9_init_26 : decode cX9_init 26 = .ok (.aload_n 0, 1) := by decide +kernel
theorem dX9_init_27 : decode cX9_init 27 = .ok (.new 23, 3) := by decide +kernel
theorem dX9_init_30 : decode cX9_init 30 = .ok (.dup, 1) := by decide +kernel
theorem dX9_init_31 : decode cX9_init 31 = .ok (.invokespecial 25, 3) := by decide +kernel
theorem dX9_init_34 : decode cX9_init 34 = .ok (.putfield 26, 3) := by decide +kernel
theorem dX9_init_37 : decode cX9_init 37 = .ok (.aload_n 0, 1) := by decide +kernel
theorem dX9_init_38 : decode cX9_init 38 = .ok (.new 30, 3) := by decide +kernel
theorem dX9_init_41 : decode cX9_init 41 = .ok (.dup, 1) := by decide +kernel
theorem dX9_init_42 : decode cX9_init 42 = .ok (.invokespecial 32, 3) := by decide +kernel
theorem dX9_init_45 : decode cX9_init 45 = .ok (.putfield 33, 3) := by decide +kernel
theorem dX9_init_48 : decode cX9_init 48 = .ok (.aload_n 0, 1) := by decide +kernel
theorem dX9_init_49 : decode cX9_init 49 = .ok (.new 37, 3) := by decide +kernel
theorem dX9_init_52 : decode cX9_init 52 = .ok (.dup, 1) := by decide +kernel
theorem dX9_init_53 : decode cX9_init 53 = .ok (.aload_n 0, 1) := by decide +kernel
theorem dX9_init_54 : decode cX9_init 54 = .ok (.getfield 12, 3) := by decide +kernel
theorem dX9_init_57 : decode cX9_init 57 = .ok (.aload_n 0, 1) := by decide +kernel
theorem dX9_init_58 : decode cX9_init 58 = .ok (.getfield 33, 3) := by decide +kernel
theorem dX9_init_61 : decode cX9_init 61 = .ok (.invokespecial 39, 3) := by decide +kernel
theorem dX9_init_64 : decode cX9_init 64 = .ok (.putfield 42, 3) := by decide +kernel
theorem dX9_init_67 : decode cX9_init 67 = .ok (.aload_n 0, 1) := by decide +kernel
theorem dX9_init_68 : decode cX9_init 68 = .ok (.new 46, 3) := by decide +kernel
theorem dX9_init_71 : decode cX9_init 71 = .ok (.dup, 1) := by decide +kernel
theorem dX9_init_72 : decode cX9_init 72 = .ok (.aload_n 0, 1) := by decide +kernel
theorem dX9_init_73 : decode cX9_init 73 = .ok (.getfield 33, 3) := by decide +kernel
theorem dX9_init_76 : decode cX9_init 76 = .ok (.invokespecial 48, 3) := by decide +kernel
theorem dX9_init_79 : decode cX9_init 79 = .ok (.putfield 51, 3) := by decide +kernel
theorem dX9_init_82 : decode cX9_init 82 = .ok (.aload_n 0, 1) := by decide +kernel
theorem dX9_init_83 : decode cX9_init 83 = .ok (.new 55, 3) := by decide +kernel
theorem dX9_init_86 : decode cX9_init 86 = .ok (.dup, 1) := by decide +kernel
theorem dX9_init_87 : decode cX9_init 87 = .ok (.aload_n 0, 1) := by decide +kernel
theorem dX9_init_88 : decode cX9_init 88 = .ok (.getfield 12, 3) := by decide +kernel
theorem dX9_init_91 : decode cX9_init 91 = .ok (.aload_n 0, 1) := by decide +kernel
theorem dX9_init_92 : decode cX9_init 92 = .ok (.getfield 33, 3) := by decide +kernel
theorem dX9_init_95 : decode cX9_init 95 = .ok (.invokespecial 57, 3) := by decide +kernel
theorem dX9_init_98 : decode cX9_init 98 = .ok (.putfield 58, 3) := by decide +kernel
theorem dX9_init_101 : decode cX9_init 101 = .ok (.aload_n 0, 1) := by decide +kernel
theorem dX9_init_102 : decode cX9_init 102 = .ok (.getfield 12, 3) := by decide +kernel
theorem dX9_init_105 : decode cX9_init 105 = .ok (.bipush 8, 2) := by decide +kernel
theorem dX9_init_107 : decode cX9_init 107 = .ok (.bipush 8, 2) := by decide +kernel
theorem dX9_init_109 : decode cX9_init 109 = .ok (.invokevirtual 62, 3) := by decide +kernel
theorem dX9_init_112 : decode cX9_init 112 = .ok (.return_, 1) := by decide +kernel
theorem dX9_reset_0 : decode cX9_reset 0 = .ok (.iload_n 1, 1) := by decide +kernel
theorem dX9_reset_1 : decode cX9_reset 1 = .ok (.iconst 3, 1) := by decide +kernel
theorem dX9_reset_2 : decode cX9_reset 2 = .ok (.bipush 16, 2) := by decide +kernel
theorem dX9_reset_4 : decode cX9_reset 4 = .ok (.invokestatic 66, 3) := by decide +kernel
theorem dX9_reset_7 : decode cX9_reset 7 = .ok (.ifCond .eq 13, 3) := by decide +kernel
theorem dX9_reset_10 : decode cX9_reset 10 = .ok (.iload_n 2, 1) := by decide +kernel
theorem dX9_reset_11 : decode cX9_reset 11 = .ok (.iconst 3, 1) := by decide +kernel
theorem dX9_reset_12 : decode cX9_reset 12 = .ok (.bipush 12, 2) := by decide +kernel
theorem dX9_reset_14 : decode cX9_reset 14 = .ok (.invokestatic 66, 3) := by decide +kernel
theorem dX9_reset_17 : decode cX9_reset 17 = .ok (.ifCond .ne 7, 3) := by decide +kernel
theorem dX9_reset_20 : decode cX9_reset 20 = .ok (.sipush (-1003), 3) := by decide +kernel
theorem dX9_reset_23 : decode cX9_reset 23 = .ok (.ireturn, 1) := by decide +kernel
theorem dX9_reset_24 : decode cX9_reset 24 = .ok (.aload_n 0, 1) := by decide +kernel
theorem dX9_reset_25 : decode cX9_reset 25 = .ok (.getfield 12, 3) := by decide +kernel
theorem dX9_reset_28 : decode cX9_reset 28 = .ok (.iload_n 1, 1) := by decide +kernel
theorem dX9_reset_29 : decode cX9_reset 29 = .ok (.iload_n 2, 1) := by decide +kernel
theorem dX9_reset_30 : decode cX9_reset 30 = .ok (.invokevirtual 62, 3) := by decide +kernel
theorem dX9_reset_33 : decode cX9_reset 33 = .ok (.aload_n 0, 1) := by decide +kernel
theorem dX9_reset_34 : decode cX9_reset 34 = .ok (.invokevirtual 70, 3) := by decide +kernel
theorem dX9_reset_37 : decode cX9_reset 37 = .ok (.iload_n 1, 1) := by decide +kernel
theorem dX9_reset_38 : decode cX9_reset 38 = .ok (.iload_n 2, 1) := by decide +kernel
theorem dX9_reset_39 : decode cX9_reset 39 = .ok (.imul, 1) := by decide +kernel
theorem dX9_reset_40 : decode cX9_reset 40 = .ok (.ireturn, 1) := by decide +kernel
theorem dX9_set_0 : decode cX9_set 0 = .ok (.aload_n 0, 1) := by decide +kernel
theorem dX9_set_1 : decode cX9_set 1 = .ok (.getfield 12, 3) := by decide +kernel
theorem dX9_set_4 : decode cX9_set 4 = .ok (.iload_n 1, 1) := by decide +kernel
theorem dX9_set_5 : decode cX9_set 5 = .ok (.iload_n 2, 1) := by decide +kernel
theorem dX9_set_6 : decode cX9_set 6 = .ok (.invokevirtual 73, 3) := by decide +kernel
theorem dX9_set_9 : decode cX9_set 9 = .ok (.ifCond .eq 10, 3) := by decide +kernel
theorem dX9_set_12 : decode cX9_set 12 = .ok (.iload_n 3, 1) := by decide +kernel
theorem dX9_set_13 : decode cX9_set 13 = .ok (.invokestatic 77, 3) := by decide +kernel
theorem dX9_set_16 : decode cX9_set 16 = .ok (.ifCond .ne 7, 3) := by decide +kernel
theorem dX9_set_19 : decode cX9_set 19 = .ok (.sipush (-1003), 3) := by decide +kernel
theorem dX9_set_22 : decode cX9_set 22 = .ok (.ireturn, 1) := by decide +kernel
theorem dX9_set_23 : decode cX9_set 23 = .ok (.aload_n 0, 1) := by decide +kernel
theorem dX9_set_24 : decode cX9_set 24 = .ok (.getfield 12, 3) := by decide +kernel
theorem dX9_set_27 : decode cX9_set 27 = .ok (.iload_n 1, 1) := by decide +kernel
theorem dX9_set_28 : decode cX9_set 28 = .ok (.iload_n 2, 1) := by decide +kernel
theorem dX9_set_29 : decode cX9_set 29 = .ok (.invokevirtual 81, 3) := by decide +kernel
theorem dX9_set_32 : decode cX9_set 32 = .ok (.istore 4, 2) := by decide +kernel
theorem dX9_set_34 : decode cX9_set 34 = .ok (.aload_n 0, 1) := by decide +kernel
theorem dX9_set_35 : decode cX9_set 35 = .ok (.getfield 12, 3) := by decide +kernel
theorem dX9_set_38 : decode cX9_set 38 = .ok (.iload_n 1, 1) := by decide +kernel
theorem dX9_set_39 : decode cX9_set 39 = .ok (.iload_n 2, 1) := by decide +kernel
theorem dX9_set_40 : decode cX9_set 40 = .ok (.iload_n 3, 1) := by decide +kernel
theorem dX9_set_41 : decode cX9_set 41 = .ok (.invokevirtual 85, 3) := by decide +kernel
theorem dX9_set_44 : decode cX9_set 44 = .ok (.pop, 1) := by decide +kernel
theorem dX9_set_45 : decode cX9_set 45 = .ok (.iload 4, 2) := by decide +kernel
theorem dX9_set_47 : decode cX9_set 47 = .ok (.ireturn, 1) := by decide +kernel
theorem dX9_fill_0 : decode cX9_fill 0 = .ok (.iload 5, 2) := by decide +kernel
theorem dX9_fill_2 : decode cX9_fill 2 = .ok (.invokestatic 77, 3) := by decide +kernel
theorem dX9_fill_5 : decode cX9_fill 5 = .ok (.ifCond .eq 18, 3) := by decide +kernel
theorem dX9_fill_8 : decode cX9_fill 8 = .ok (.aload_n 0, 1) := by decide +kernel
theorem dX9_fill_9 : decode cX9_fill 9 = .ok (.getfield 12, 3) := by decide +kernel
theorem dX9_fill_12 : decode cX9_fill 12 = .ok (.iload_n 1, 1) := by decide +kernel
theorem dX9_fill_13 : decode cX9_fill 13 = .ok (.iload_n 2, 1) := by decide +kernel
theorem dX9_fill_14 : decode cX9_fill 14 = .ok (.iload_n 3, 1) := by decide +kernel
theorem dX9_fill_15 : decode cX9_fill 15 = .ok (.iload 4, 2) := by decide +kernel
theorem dX9_fill_17 : decode cX9_fill 17 = .ok (.invokevirtual 89, 3) := by decide +kernel
theorem dX9_fill_20 : decode cX9_fill 20 = .ok (.ifCond .ne 7, 3) := by decide +kernel
theorem dX9_fill_23 : decode cX9_fill 23 = .ok (.sipush (-1003), 3) := by decide +kernel
theorem dX9_fill_26 : decode cX9_fill 26 = .ok (.ireturn, 1) := by decide +kernel
theorem dX9_fill_27 : decode cX9_fill 27 = .ok (.aload_n 0, 1) := by decide +kernel
theorem dX9_fill_28 : decode cX9_fill 28 = .ok (.getfield 12, 3) := by decide +kernel
theorem dX9_fill_31 : decode cX9_fill 31 = .ok (.iload_n 1, 1) := by decide +kernel
theorem dX9_fill_32 : decode cX9_fill 32 = .ok (.iload_n 2, 1) := by decide +kernel
theorem dX9_fill_33 : decode cX9_fill 33 = .ok (.iload_n 3, 1) := by decide +kernel
theorem dX9_fill_34 : decode cX9_fill 34 = .ok (.iload 4, 2) := by decide +kernel
theorem dX9_fill_36 : decode cX9_fill 36 = .ok (.iload 5, 2) := by decide +kernel
theorem dX9_fill_38 : decode cX9_fill 38 = .ok (.invokevirtual 93, 3) := by decide +kernel
theorem dX9_fill_41 : decode cX9_fill 41 = .ok (.ireturn, 1) := by decide +kernel
theorem dX9_flood_0 : decode cX9_flood 0 = .ok (.aload_n 0, 1) := by decide +kernel
theorem dX9_flood_1 : decode cX9_flood 1 = .ok (.getfield 12, 3) := by decide +kernel
theorem dX9_flood_4 : decode cX9_flood 4 = .ok (.iload_n 1, 1) := by decide +kernel
theorem dX9_flood_5 : decode cX9_flood 5 = .ok (.iload_n 2, 1) := by decide +kernel
theorem dX9_flood_6 : decode cX9_flood 6 = .ok (.invokevirtual 73, 3) := by decide +kernel
theorem dX9_flood_9 : decode cX9_flood 9 = .ok (.ifCond .eq 10, 3) := by decide +kernel
theorem dX9_flood_12 : decode cX9_flood 12 = .ok (.iload_n 3, 1) := by decide +kernel
theorem dX9_flood_13 : decode cX9_flood 13 = .ok (.invokestatic 77, 3) := by decide +kernel
theorem dX9_flood_16 : decode cX9_flood 16 = .ok (.ifCond .ne 7, 3) := by decide +kernel
theorem dX9_flood_19 : decode cX9_flood 19 = .ok (.sipush (-1003), 3) := by decide +kernel
theorem dX9_flood_22 : decode cX9_flood 22 = .ok (.ireturn, 1) := by decide +kernel
theorem dX9_flood_23 : decode cX9_flood 23 = .ok (.aload_n 0, 1) := by decide +kernel
theorem dX9_flood_24 : decode cX9_flood 24 = .ok (.getfield 12, 3) := by decide +kernel
theorem dX9_flood_27 : decode cX9_flood 27 = .ok (.iload_n 1, 1) := by decide +kernel
theorem dX9_flood_28 : decode cX9_flood 28 = .ok (.iload_n 2, 1) := by decide +kernel
theorem dX9_flood_29 : decode cX9_flood 29 = .ok (.iload_n 3, 1) := by decide +kernel
theorem dX9_flood_30 : decode cX9_flood 30 = .ok (.invokevirtual 97, 3) := by decide +kernel
theorem dX9_flood_33 : decode cX9_flood 33 = .ok (.ireturn, 1) := by decide +kernel
theorem dX9_level_0 : decode cX9_level 0 = .ok (.aload_n 0, 1) := by decide +kernel
theorem dX9_level_1 : decode cX9_level 1 = .ok (.getfield 12, 3) := by decide +kernel
theorem dX9_level_4 : decode cX9_level 4 = .ok (.iload_n 1, 1) := by decide +kernel
theorem dX9_level_5 : decode cX9_level 5 = .ok (.iload_n 2, 1) := by decide +kernel
theorem dX9_level_6 : decode cX9_level 6 = .ok (.invokevirtual 73, 3) := by decide +kernel
theorem dX9_level_9 : decode cX9_level 9 = .ok (.ifCond .eq 15, 3) := by decide +kernel
theorem dX9_level_12 : decode cX9_level 12 = .ok (.aload_n 0, 1) := by decide +kernel
theorem dX9_level_13 : decode cX9_level 13 = .ok (.getfield 12, 3) := by decide +kernel
theorem dX9_level_16 : decode cX9_level 16 = .ok (.iload_n 1, 1) := by decide +kernel
theorem dX9_level_17 : decode cX9_level 17 = .ok (.iload_n 2, 1) := by decide +kernel
theorem dX9_level_18 : decode cX9_level 18 = .ok (.invokevirtual 81, 3) := by decide +kernel
theorem dX9_level_21 : decode cX9_level 21 = .ok (.goto 6, 3) := by decide +kernel
theorem dX9_level_24 : decode cX9_level 24 = .ok (.sipush (-1003), 3) := by decide +kernel
theorem dX9_level_27 : decode cX9_level 27 = .ok (.ireturn, 1) := by decide +kernel
theorem dX9_type_0 : decode cX9_type 0 = .ok (.aload_n 0, 1) := by decide +kernel
theorem dX9_type_1 : decode cX9_type 1 = .ok (.getfield 19, 3) := by decide +kernel
theorem dX9_type_4 : decode cX9_type 4 = .ok (.iload_n 1, 1) := by decide +kernel
theorem dX9_type_5 : decode cX9_type 5 = .ok (.invokevirtual 100, 3) := by decide +kernel
theorem dX9_type_8 : decode cX9_type 8 = .ok (.ifCond .eq 13, 3) := by decide +kernel
theorem dX9_type_11 : decode cX9_type 11 = .ok (.aload_n 0, 1) := by decide +kernel
theorem dX9_type_12 : decode cX9_type 12 = .ok (.getfield 19, 3) := by decide +kernel
theorem dX9_type_15 : decode cX9_type 15 = .ok (.getfield 104, 3) := by decide +kernel
theorem dX9_type_18 : decode cX9_type 18 = .ok (.goto 6, 3) := by decide +kernel
theorem dX9_type_21 : decode cX9_type 21 = .ok (.sipush (-1005), 3) := by decide +kernel
theorem dX9_type_24 : decode cX9_type 24 = .ok (.ireturn, 1) := by decide +kernel
theorem dX9_clearText_0 : decode cX9_clearText 0 = .ok (.aload_n 0, 1) := by decide +kernel
theorem dX9_clearText_1 : decode cX9_clearText 1 = .ok (.getfield 19, 3) := by decide +kernel
theorem dX9_clearText_4 : decode cX9_clearText 4 = .ok (.getfield 104, 3) := by decide +kernel
theorem dX9_clearText_7 : decode cX9_clearText 7 = .ok (.istore_n 1, 1) := by decide +kernel
theorem dX9_clearText_8 : decode cX9_clearText 8 = .ok (.aload_n 0, 1) := by decide +kernel
theorem dX9_clearText_9 : decode cX9_clearText 9 = .ok (.getfield 19, 3) := by decide +kernel
theorem dX9_clearText_12 : decode cX9_clearText 12 = .ok (.iconst 0, 1) := by decide +kernel
theorem dX9_clearText_13 : decode cX9_clearText 13 = .ok (.putfield 104, 3) := by decide +kernel
theorem dX9_clearText_16 : decode cX9_clearText 16 = .ok (.iload_n 1, 1) := by decide +kernel
theorem dX9_clearText_17 : decode cX9_clearText 17 = .ok (.ireturn, 1) := by decide +kernel
theorem dX9_readPicture_0 : decode cX9_readPicture 0 = .ok (.aload_n 0, 1) := by decide +kernel
theorem dX9_readPicture_1 : decode cX9_readPicture 1 = .ok (.getfield 26, 3) := by decide +kernel
theorem dX9_readPicture_4 : decode cX9_readPicture 4 = .ok (.aload_n 0, 1) := by decide +kernel
theorem dX9_readPicture_5 : decode cX9_readPicture 5 = .ok (.getfield 19, 3) := by decide +kernel
theorem dX9_readPicture_8 : decode cX9_readPicture 8 = .ok (.aload_n 0, 1) := by decide +kernel
theorem dX9_readPicture_9 : decode cX9_readPicture 9 = .ok (.getfield 12, 3) := by decide +kernel
theorem dX9_readPicture_12 : decode cX9_readPicture 12 = .ok (.invokevirtual 108, 3) := by decide +kernel
theorem dX9_readPicture_15 : decode cX9_readPicture 15 = .ok (.istore_n 1, 1) := by decide +kernel
theorem dX9_readPicture_16 : decode cX9_readPicture 16 = .ok (.iload_n 1, 1) := by decide +kernel
theorem dX9_readPicture_17 : decode cX9_readPicture 17 = .ok (.iconst (-1), 1) := by decide +kernel
theorem dX9_readPicture_18 : decode cX9_readPicture 18 = .ok (.if_icmp .eq 8, 3) := by decide +kernel
theorem dX9_readPicture_21 : decode cX9_readPicture 21 = .ok (.bipush (-100), 2) := by decide +kernel
theorem dX9_readPicture_23 : decode cX9_readPicture 23 = .ok (.iload_n 1, 1) := by decide +kernel
theorem dX9_readPicture_24 : decode cX9_readPicture 24 = .ok (.isub, 1) := by decide +kernel
theorem dX9_readPicture_25 : decode cX9_readPicture 25 = .ok (.ireturn, 1) := by decide +kernel
theorem dX9_readPicture_26 : decode cX9_readPicture 26 = .ok (.aload_n 0, 1) := by decide +kernel
theorem dX9_readPicture_27 : decode cX9_readPicture 27 = .ok (.invokevirtual 70, 3) := by decide +kernel
theorem dX9_readPicture_30 : decode cX9_readPicture 30 = .ok (.aload_n 0, 1) := by decide +kernel
theorem dX9_readPicture_31 : decode cX9_readPicture 31 = .ok (.getfield 12, 3) := by decide +kernel
theorem dX9_readPicture_34 : decode cX9_readPicture 34 = .ok (.aload_n 0, 1) := by decide +kernel
theorem dX9_readPicture_35 : decode cX9_readPicture 35 = .ok (.getfield 26, 3) := by decide +kernel
theorem dX9_readPicture_38 : decode cX9_readPicture 38 = .ok (.getfield 112, 3) := by decide +kernel
theorem dX9_readPicture_41 : decode cX9_readPicture 41 = .ok (.invokevirtual 116, 3) := by decide +kernel
theorem dX9_readPicture_44 : decode cX9_readPicture 44 = .ok (.ireturn, 1) := by decide +kernel
theorem dX9_trace_0 : decode cX9_trace 0 = .ok (.iload_n 1, 1) := by decide +kernel
theorem dX9_trace_1 : decode cX9_trace 1 = .ok (.iconst 1, 1) := by decide +kernel
theorem dX9_trace_2 : decode cX9_trace 2 = .ok (.bipush 9, 2) := by decide +kernel
theorem dX9_trace_4 : decode cX9_trace 4 = .ok (.invokestatic 66, 3) := by decide +kernel
theorem dX9_trace_7 : decode cX9_trace 7 = .ok (.ifCond .eq 14, 3) := by decide +kernel
theorem dX9_trace_10 : decode cX9_trace 10 = .ok (.iload_n 2, 1) := by decide +kernel
theorem dX9_trace_11 : decode cX9_trace 11 = .ok (.iconst 4, 1) := by decide +kernel
theorem dX9_trace_12 : decode cX9_trace 12 = .ok (.if_icmp .eq 13, 3) := by decide +kernel
theorem dX9_trace_15 : decode cX9_trace 15 = .ok (.iload_n 2, 1) := by decide +kernel
theorem dX9_trace_16 : decode cX9_trace 16 = .ok (.bipush 8, 2) := by decide +kernel
theorem dX9_trace_18 : decode cX9_trace 18 = .ok (.if_icmp .eq 7, 3) := by decide +kernel
theorem dX9_trace_21 : decode cX9_trace 21 = .ok (.sipush (-1003), 3) := by decide +kernel
theorem dX9_trace_24 : decode cX9_trace 24 = .ok (.ireturn, 1) := by decide +kernel
theorem dX9_trace_25 : decode cX9_trace 25 = .ok (.aload_n 0, 1) := by decide +kernel
theorem dX9_trace_26 : decode cX9_trace 26 = .ok (.invokevirtual 70, 3) := by decide +kernel
theorem dX9_trace_29 : decode cX9_trace 29 = .ok (.aload_n 0, 1) := by decide +kernel
theorem dX9_trace_30 : decode cX9_trace 30 = .ok (.getfield 42, 3) := by decide +kernel
theorem dX9_trace_33 : decode cX9_trace 33 = .ok (.iload_n 1, 1) := by decide +kernel
theorem dX9_trace_34 : decode cX9_trace 34 = .ok (.iload_n 2, 1) := by decide +kernel
theorem dX9_trace_35 : decode cX9_trace 35 = .ok (.invokevirtual 120, 3) := by decide +kernel
theorem dX9_trace_38 : decode cX9_trace 38 = .ok (.aload_n 0, 1) := by decide +kernel
theorem dX9_trace_39 : decode cX9_trace 39 = .ok (.getfield 33, 3) := by decide +kernel
theorem dX9_trace_42 : decode cX9_trace 42 = .ok (.getfield 123, 3) := by decide +kernel
theorem dX9_trace_45 : decode cX9_trace 45 = .ok (.ireturn, 1) := by decide +kernel
theorem dX9_count_0 : decode cX9_count 0 = .ok (.iload_n 1, 1) := by decide +kernel
theorem dX9_count_1 : decode cX9_count 1 = .ok (.tableswitch 146 0 9 #[55, 63, 79, 87, 95, 103, 114, 122, 130, 138], 55) := by decide +kernel
theorem dX9_count_56 : decode cX9_count 56 = .ok (.aload_n 0, 1) := by decide +kernel
theorem dX9_count_57 : decode cX9_count 57 = .ok (.getfield 33, 3) := by decide +kernel
theorem dX9_count_60 : decode cX9_count 60 = .ok (.getfield 123, 3) := by decide +kernel
theorem dX9_count_63 : decode cX9_count 63 = .ok (.ireturn, 1) := by decide +kernel
theorem dX9_count_64 : decode cX9_count 64 = .ok (.aload_n 0, 1) := by decide +kernel
theorem dX9_count_65 : decode cX9_count 65 = .ok (.getfield 33, 3) := by decide +kernel
theorem dX9_count_68 : decode cX9_count 68 = .ok (.getfield 123, 3) := by decide +kernel
theorem dX9_count_71 : decode cX9_count 71 = .ok (.aload_n 0, 1) := by decide +kernel
theorem dX9_count_72 : decode cX9_count 72 = .ok (.getfield 33, 3) := by decide +kernel
theorem dX9_count_75 : decode cX9_count 75 = .ok (.invokevirtual 126, 3) := by decide +kernel
theorem dX9_count_78 : decode cX9_count 78 = .ok (.isub, 1) := by decide +kernel
theorem dX9_count_79 : decode cX9_count 79 = .ok (.ireturn, 1) := by decide +kernel
theorem dX9_count_80 : decode cX9_count 80 = .ok (.aload_n 0, 1) := by decide +kernel
theorem dX9_count_81 : decode cX9_count 81 = .ok (.getfield 33, 3) := by decide +kernel
theorem dX9_count_84 : decode cX9_count 84 = .ok (.invokevirtual 126, 3) := by decide +kernel
theorem dX9_count_87 : decode cX9_count 87 = .ok (.ireturn, 1) := by decide +kernel
theorem dX9_count_88 : decode cX9_count 88 = .ok (.aload_n 0, 1) := by decide +kernel
theorem dX9_count_89 : decode cX9_count 89 = .ok (.getfield 33, 3) := by decide +kernel
theorem dX9_count_92 : decode cX9_count 92 = .ok (.getfield 130, 3) := by decide +kernel
theorem dX9_count_95 : decode cX9_count 95 = .ok (.ireturn, 1) := by decide +kernel
theorem dX9_count_96 : decode cX9_count 96 = .ok (.aload_n 0, 1) := by decide +kernel
theorem dX9_count_97 : decode cX9_count 97 = .ok (.getfield 33, 3) := by decide +kernel
theorem dX9_count_100 : decode cX9_count 100 = .ok (.getfield 133, 3) := by decide +kernel
theorem dX9_count_103 : decode cX9_count 103 = .ok (.ireturn, 1) := by decide +kernel
theorem dX9_count_104 : decode cX9_count 104 = .ok (.aload_n 0, 1) := by decide +kernel
theorem dX9_count_105 : decode cX9_count 105 = .ok (.getfield 51, 3) := by decide +kernel
theorem dX9_count_108 : decode cX9_count 108 = .ok (.getfield 136, 3) := by decide +kernel
theorem dX9_count_111 : decode cX9_count 111 = .ok (.getfield 140, 3) := by decide +kernel
theorem dX9_count_114 : decode cX9_count 114 = .ok (.ireturn, 1) := by decide +kernel
theorem dX9_count_115 : decode cX9_count 115 = .ok (.aload_n 0, 1) := by decide +kernel
theorem dX9_count_116 : decode cX9_count 116 = .ok (.getfield 12, 3) := by decide +kernel
theorem dX9_count_119 : decode cX9_count 119 = .ok (.getfield 145, 3) := by decide +kernel
theorem dX9_count_122 : decode cX9_count 122 = .ok (.ireturn, 1) := by decide +kernel
theorem dX9_count_123 : decode cX9_count 123 = .ok (.aload_n 0, 1) := by decide +kernel
theorem dX9_count_124 : decode cX9_count 124 = .ok (.getfield 12, 3) := by decide +kernel
theorem dX9_count_127 : decode cX9_count 127 = .ok (.getfield 148, 3) := by decide +kernel
theorem dX9_count_130 : decode cX9_count 130 = .ok (.ireturn, 1) := by decide +kernel
theorem dX9_count_131 : decode cX9_count 131 = .ok (.aload_n 0, 1) := by decide +kernel
theorem dX9_count_132 : decode cX9_count 132 = .ok (.getfield 33, 3) := by decide +kernel
theorem dX9_count_135 : decode cX9_count 135 = .ok (.getfield 151, 3) := by decide +kernel
theorem dX9_count_138 : decode cX9_count 138 = .ok (.ireturn, 1) := by decide +kernel
theorem dX9_count_139 : decode cX9_count 139 = .ok (.aload_n 0, 1) := by decide +kernel
theorem dX9_count_140 : decode cX9_count 140 = .ok (.getfield 19, 3) := by decide +kernel
theorem dX9_count_143 : decode cX9_count 143 = .ok (.getfield 104, 3) := by decide +kernel
theorem dX9_count_146 : decode cX9_count 146 = .ok (.ireturn, 1) := by decide +kernel
theorem dX9_count_147 : decode cX9_count 147 = .ok (.sipush (-1003), 3) := by decide +kernel
theorem dX9_count_150 : decode cX9_count 150 = .ok (.ireturn, 1) := by decide +kernel
theorem dX9_contour_0 : decode cX9_contour 0 = .ok (.aload_n 0, 1) := by decide +kernel
theorem dX9_contour_1 : decode cX9_contour 1 = .ok (.getfield 33, 3) := by decide +kernel
theorem dX9_contour_4 : decode cX9_contour 4 = .ok (.iload_n 1, 1) := by decide +kernel
theorem dX9_contour_5 : decode cX9_contour 5 = .ok (.invokevirtual 154, 3) := by decide +kernel
theorem dX9_contour_8 : decode cX9_contour 8 = .ok (.ifCond .ne 7, 3) := by decide +kernel
theorem dX9_contour_11 : decode cX9_contour 11 = .ok (.sipush (-1001), 3) := by decide +kernel
theorem dX9_contour_14 : decode cX9_contour 14 = .ok (.ireturn, 1) := by decide +kernel
theorem dX9_contour_15 : decode cX9_contour 15 = .ok (.iload_n 2, 1) := by decide +kernel
theorem dX9_contour_16 : decode cX9_contour 16 = .ok (.tableswitch 163 0 8 #[52, 69, 98, 107, 116, 126, 136, 145, 154], 52) := by decide +kernel
theorem dX9_contour_68 : decode cX9_contour 68 = .ok (.aload_n 0, 1) := by decide +kernel
theorem dX9_contour_69 : decode cX9_contour 69 = .ok (.getfield 33, 3) := by decide +kernel
theorem dX9_contour_72 : decode cX9_contour 72 = .ok (.iload_n 1, 1) := by decide +kernel
theorem dX9_contour_73 : decode cX9_contour 73 = .ok (.invokevirtual 156, 3) := by decide +kernel
theorem dX9_contour_76 : decode cX9_contour 76 = .ok (.ifCond .eq 7, 3) := by decide +kernel
theorem dX9_contour_79 : decode cX9_contour 79 = .ok (.iconst 1, 1) := by decide +kernel
theorem dX9_contour_80 : decode cX9_contour 80 = .ok (.goto 4, 3) := by decide +kernel
theorem dX9_contour_83 : decode cX9_contour 83 = .ok (.iconst 0, 1) := by decide +kernel
theorem dX9_contour_84 : decode cX9_contour 84 = .ok (.ireturn, 1) := by decide +kernel
theorem dX9_contour_85 : decode cX9_contour 85 = .ok (.aload_n 0, 1) := by decide +kernel
theorem dX9_contour_86 : decode cX9_contour 86 = .ok (.getfield 33, 3) := by decide +kernel
theorem dX9_contour_89 : decode cX9_contour 89 = .ok (.getfield 159, 3) := by decide +kernel
theorem dX9_contour_92 : decode cX9_contour 92 = .ok (.iload_n 1, 1) := by decide +kernel
theorem dX9_contour_93 : decode cX9_contour 93 = .ok (.iaload, 1) := by decide +kernel
theorem dX9_contour_94 : decode cX9_contour 94 = .ok (.iconst (-1), 1) := by decide +kernel
theorem dX9_contour_95 : decode cX9_contour 95 = .ok (.if_icmp .ne 9, 3) := by decide +kernel
theorem dX9_contour_98 : decode cX9_contour 98 = .ok (.sipush (-1006), 3) := by decide +kernel
theorem dX9_contour_101 : decode cX9_contour 101 = .ok (.goto 12, 3) := by decide +kernel
theorem dX9_contour_104 : decode cX9_contour 104 = .ok (.aload_n 0, 1) := by decide +kernel
theorem dX9_contour_105 : decode cX9_contour 105 = .ok (.getfield 33, 3) := by decide +kernel
theorem dX9_contour_108 : decode cX9_contour 108 = .ok (.getfield 159, 3) := by decide +kernel
theorem dX9_contour_111 : decode cX9_contour 111 = .ok (.iload_n 1, 1) := by decide +kernel
theorem dX9_contour_112 : decode cX9_contour 112 = .ok (.iaload, 1) := by decide +kernel
theorem dX9_contour_113 : decode cX9_contour 113 = .ok (.ireturn, 1) := by decide +kernel
theorem dX9_contour_114 : decode cX9_contour 114 = .ok (.aload_n 0, 1) := by decide +kernel
theorem dX9_contour_115 : decode cX9_contour 115 = .ok (.getfield 33, 3) := by decide +kernel
theorem dX9_contour_118 : decode cX9_contour 118 = .ok (.iload_n 1, 1) := by decide +kernel
theorem dX9_contour_119 : decode cX9_contour 119 = .ok (.invokevirtual 162, 3) := by decide +kernel
theorem dX9_contour_122 : decode cX9_contour 122 = .ok (.ireturn, 1) := by decide +kernel
theorem dX9_contour_123 : decode cX9_contour 123 = .ok (.aload_n 0, 1) := by decide +kernel
theorem dX9_contour_124 : decode cX9_contour 124 = .ok (.getfield 33, 3) := by decide +kernel
theorem dX9_contour_127 : decode cX9_contour 127 = .ok (.iload_n 1, 1) := by decide +kernel
theorem dX9_contour_128 : decode cX9_contour 128 = .ok (.invokevirtual 166, 3) := by decide +kernel
theorem dX9_contour_131 : decode cX9_contour 131 = .ok (.ireturn, 1) := by decide +kernel
theorem dX9_contour_132 : decode cX9_contour 132 = .ok (.aload_n 0, 1) := by decide +kernel
theorem dX9_contour_133 : decode cX9_contour 133 = .ok (.getfield 33, 3) := by decide +kernel
theorem dX9_contour_136 : decode cX9_contour 136 = .ok (.getfield 169, 3) := by decide +kernel
theorem dX9_contour_139 : decode cX9_contour 139 = .ok (.iload_n 1, 1) := by decide +kernel
theorem dX9_contour_140 : decode cX9_contour 140 = .ok (.iaload, 1) := by decide +kernel
theorem dX9_contour_141 : decode cX9_contour 141 = .ok (.ireturn, 1) := by decide +kernel
theorem dX9_contour_142 : decode cX9_contour 142 = .ok (.aload_n 0, 1) := by decide +kernel
theorem dX9_contour_143 : decode cX9_contour 143 = .ok (.getfield 33, 3) := by decide +kernel
theorem dX9_contour_146 : decode cX9_contour 146 = .ok (.getfield 172, 3) := by decide +kernel
theorem dX9_contour_149 : decode cX9_contour 149 = .ok (.iload_n 1, 1) := by decide +kernel
theorem dX9_contour_150 : decode cX9_contour 150 = .ok (.iaload, 1) := by decide +kernel
theorem dX9_contour_151 : decode cX9_contour 151 = .ok (.ireturn, 1) := by decide +kernel
theorem dX9_contour_152 : decode cX9_contour 152 = .ok (.aload_n 0, 1) := by decide +kernel
theorem dX9_contour_153 : decode cX9_contour 153 = .ok (.getfield 33, 3) := by decide +kernel
theorem dX9_contour_156 : decode cX9_contour 156 = .ok (.iload_n 1, 1) := by decide +kernel
theorem dX9_contour_157 : decode cX9_contour 157 = .ok (.invokevirtual 175, 3) := by decide +kernel
theorem dX9_contour_160 : decode cX9_contour 160 = .ok (.ireturn, 1) := by decide +kernel
theorem dX9_contour_161 : decode cX9_contour 161 = .ok (.aload_n 0, 1) := by decide +kernel
theorem dX9_contour_162 : decode cX9_contour 162 = .ok (.getfield 33, 3) := by decide +kernel
theorem dX9_contour_165 : decode cX9_contour 165 = .ok (.iload_n 1, 1) := by decide +kernel
theorem dX9_contour_166 : decode cX9_contour 166 = .ok (.invokevirtual 178, 3) := by decide +kernel
theorem dX9_contour_169 : decode cX9_contour 169 = .ok (.ireturn, 1) := by decide +kernel
theorem dX9_contour_170 : decode cX9_contour 170 = .ok (.aload_n 0, 1) := by decide +kernel
theorem dX9_contour_171 : decode cX9_contour 171 = .ok (.getfield 33, 3) := by decide +kernel
theorem dX9_contour_174 : decode cX9_contour 174 = .ok (.iload_n 1, 1) := by decide +kernel
theorem dX9_contour_175 : decode cX9_contour 175 = .ok (.invokevirtual 181, 3) := by decide +kernel
theorem dX9_contour_178 : decode cX9_contour 178 = .ok (.ireturn, 1) := by decide +kernel
theorem dX9_contour_179 : decode cX9_contour 179 = .ok (.sipush (-1003), 3) := by decide +kernel
theorem dX9_contour_182 : decode cX9_contour 182 = .ok (.ireturn, 1) := by decide +kernel
theorem dX9_vertex_0 : decode cX9_vertex 0 = .ok (.aload_n 0, 1) := by decide +kernel
theorem dX9_vertex_1 : decode cX9_vertex 1 = .ok (.getfield 33, 3) := by decide +kernel
theorem dX9_vertex_4 : decode cX9_vertex 4 = .ok (.iload_n 1, 1) := by decide +kernel
theorem dX9_vertex_5 : decode cX9_vertex 5 = .ok (.iload_n 2, 1) := by decide +kernel
theorem dX9_vertex_6 : decode cX9_vertex 6 = .ok (.invokevirtual 184, 3) := by decide +kernel
theorem dX9_vertex_9 : decode cX9_vertex 9 = .ok (.istore 4, 2) := by decide +kernel
theorem dX9_vertex_11 : decode cX9_vertex 11 = .ok (.iload 4, 2) := by decide +kernel
theorem dX9_vertex_13 : decode cX9_vertex 13 = .ok (.ifCond .eq 6, 3) := by decide +kernel
theorem dX9_vertex_16 : decode cX9_vertex 16 = .ok (.iload 4, 2) := by decide +kernel
theorem dX9_vertex_18 : decode cX9_vertex 18 = .ok (.ireturn, 1) := by decide +kernel
theorem dX9_vertex_19 : decode cX9_vertex 19 = .ok (.aload_n 0, 1) := by decide +kernel
theorem dX9_vertex_20 : decode cX9_vertex 20 = .ok (.getfield 33, 3) := by decide +kernel
theorem dX9_vertex_23 : decode cX9_vertex 23 = .ok (.getfield 187, 3) := by decide +kernel
theorem dX9_vertex_26 : decode cX9_vertex 26 = .ok (.iload_n 1, 1) := by decide +kernel
theorem dX9_vertex_27 : decode cX9_vertex 27 = .ok (.iaload, 1) := by decide +kernel
theorem dX9_vertex_28 : decode cX9_vertex 28 = .ok (.iload_n 2, 1) := by decide +kernel
theorem dX9_vertex_29 : decode cX9_vertex 29 = .ok (.iadd, 1) := by decide +kernel
theorem dX9_vertex_30 : decode cX9_vertex 30 = .ok (.istore 5, 2) := by decide +kernel
theorem dX9_vertex_32 : decode cX9_vertex 32 = .ok (.iload_n 3, 1) := by decide +kernel
theorem dX9_vertex_33 : decode cX9_vertex 33 = .ok (.tableswitch 104 0 4 #[35, 46, 57, 76, 86], 35) := by decide +kernel
theorem dX9_vertex_68 : decode cX9_vertex 68 = .ok (.aload_n 0, 1) := by decide +kernel
theorem dX9_vertex_69 : decode cX9_vertex 69 = .ok (.getfield 33, 3) := by decide +kernel
theorem dX9_vertex_72 : decode cX9_vertex 72 = .ok (.getfield 190, 3) := by decide +kernel
theorem dX9_vertex_75 : decode cX9_vertex 75 = .ok (.iload 5, 2) := by decide +kernel
theorem dX9_vertex_77 : decode cX9_vertex 77 = .ok (.iaload, 1) := by decide +kernel
theorem dX9_vertex_78 : decode cX9_vertex 78 = .ok (.ireturn, 1) := by decide +kernel
theorem dX9_vertex_79 : decode cX9_vertex 79 = .ok (.aload_n 0, 1) := by decide +kernel
theorem dX9_vertex_80 : decode cX9_vertex 80 = .ok (.getfield 33, 3) := by decide +kernel
theorem dX9_vertex_83 : decode cX9_vertex 83 = .ok (.getfield 193, 3) := by decide +kernel
theorem dX9_vertex_86 : decode cX9_vertex 86 = .ok (.iload 5, 2) := by decide +kernel
theorem dX9_vertex_88 : decode cX9_vertex 88 = .ok (.iaload, 1) := by decide +kernel
theorem dX9_vertex_89 : decode cX9_vertex 89 = .ok (.ireturn, 1) := by decide +kernel
theorem dX9_vertex_90 : decode cX9_vertex 90 = .ok (.aload_n 0, 1) := by decide +kernel
theorem dX9_vertex_91 : decode cX9_vertex 91 = .ok (.getfield 33, 3) := by decide +kernel
theorem dX9_vertex_94 : decode cX9_vertex 94 = .ok (.getfield 196, 3) := by decide +kernel
theorem dX9_vertex_97 : decode cX9_vertex 97 = .ok (.iload 5, 2) := by decide +kernel
theorem dX9_vertex_99 : decode cX9_vertex 99 = .ok (.baload, 1) := by decide +kernel
theorem dX9_vertex_100 : decode cX9_vertex 100 = .ok (.ifCond .eq 7, 3) := by decide +kernel
theorem dX9_vertex_103 : decode cX9_vertex 103 = .ok (.iconst 1, 1) := by decide +kernel
theorem dX9_vertex_104 : decode cX9_vertex 104 = .ok (.goto 4, 3) := by decide +kernel
theorem dX9_vertex_107 : decode cX9_vertex 107 = .ok (.iconst 0, 1) := by decide +kernel
theorem dX9_vertex_108 : decode cX9_vertex 108 = .ok (.ireturn, 1) := by decide +kernel
theorem dX9_vertex_109 : decode cX9_vertex 109 = .ok (.aload_n 0, 1) := by decide +kernel
theorem dX9_vertex_110 : decode cX9_vertex 110 = .ok (.getfield 51, 3) := by decide +kernel
theorem dX9_vertex_113 : decode cX9_vertex 113 = .ok (.iload 5, 2) := by decide +kernel
theorem dX9_vertex_115 : decode cX9_vertex 115 = .ok (.invokevirtual 200, 3) := by decide +kernel
theorem dX9_vertex_118 : decode cX9_vertex 118 = .ok (.ireturn, 1) := by decide +kernel
theorem dX9_vertex_119 : decode cX9_vertex 119 = .ok (.aload_n 0, 1) := by decide +kernel
theorem dX9_vertex_120 : decode cX9_vertex 120 = .ok (.getfield 51, 3) := by decide +kernel
theorem dX9_vertex_123 : decode cX9_vertex 123 = .ok (.iload 5, 2) := by decide +kernel
theorem dX9_vertex_125 : decode cX9_vertex 125 = .ok (.invokevirtual 203, 3) := by decide +kernel
theorem dX9_vertex_128 : decode cX9_vertex 128 = .ok (.ifCond .eq 7, 3) := by decide +kernel
theorem dX9_vertex_131 : decode cX9_vertex 131 = .ok (.iconst 1, 1) := by decide +kernel
theorem dX9_vertex_132 : decode cX9_vertex 132 = .ok (.goto 4, 3) := by decide +kernel
theorem dX9_vertex_135 : decode cX9_vertex 135 = .ok (.iconst 0, 1) := by decide +kernel
theorem dX9_vertex_136 : decode cX9_vertex 136 = .ok (.ireturn, 1) := by decide +kernel
theorem dX9_vertex_137 : decode cX9_vertex 137 = .ok (.sipush (-1003), 3) := by decide +kernel
theorem dX9_vertex_140 : decode cX9_vertex 140 = .ok (.ireturn, 1) := by decide +kernel
theorem dX9_bySize_0 : decode cX9_bySize 0 = .ok (.iload_n 1, 1) := by decide +kernel
theorem dX9_bySize_1 : decode cX9_bySize 1 = .ok (.ifCond .ge 7, 3) := by decide +kernel
theorem dX9_bySize_4 : decode cX9_bySize 4 = .ok (.sipush (-1003), 3) := by decide +kernel
theorem dX9_bySize_7 : decode cX9_bySize 7 = .ok (.ireturn, 1) := by decide +kernel
theorem dX9_bySize_8 : decode cX9_bySize 8 = .ok (.aload_n 0, 1) := by decide +kernel
theorem dX9_bySize_9 : decode cX9_bySize 9 = .ok (.getfield 33, 3) := by decide +kernel
theorem dX9_bySize_12 : decode cX9_bySize 12 = .ok (.iload_n 1, 1) := by decide +kernel
theorem dX9_bySize_13 : decode cX9_bySize 13 = .ok (.invokevirtual 206, 3) := by decide +kernel
theorem dX9_bySize_16 : decode cX9_bySize 16 = .ok (.istore_n 2, 1) := by decide +kernel
theorem dX9_bySize_17 : decode cX9_bySize 17 = .ok (.iload_n 2, 1) := by decide +kernel
theorem dX9_bySize_18 : decode cX9_bySize 18 = .ok (.iconst (-1), 1) := by decide +kernel
theorem dX9_bySize_19 : decode cX9_bySize 19 = .ok (.if_icmp .ne 9, 3) := by decide +kernel
theorem dX9_bySize_22 : decode cX9_bySize 22 = .ok (.sipush (-1006), 3) := by decide +kernel
theorem dX9_bySize_25 : decode cX9_bySize 25 = .ok (.goto 4, 3) := by decide +kernel
theorem dX9_bySize_28 : decode cX9_bySize 28 = .ok (.iload_n 2, 1) := by decide +kernel
theorem dX9_bySize_29 : decode cX9_bySize 29 = .ok (.ireturn, 1) := by decide +kernel
theorem dX9_chainCode_0 : decode cX9_chainCode 0 = .ok (.aload_n 0, 1) := by decide +kernel
theorem dX9_chainCode_1 : decode cX9_chainCode 1 = .ok (.getfield 33, 3) := by decide +kernel
theorem dX9_chainCode_4 : decode cX9_chainCode 4 = .ok (.iload_n 1, 1) := by decide +kernel
theorem dX9_chainCode_5 : decode cX9_chainCode 5 = .ok (.invokevirtual 154, 3) := by decide +kernel
theorem dX9_chainCode_8 : decode cX9_chainCode 8 = .ok (.ifCond .ne 7, 3) := by decide +kernel
theorem dX9_chainCode_11 : decode cX9_chainCode 11 = .ok (.sipush (-1001), 3) := by decide +kernel
theorem dX9_chainCode_14 : decode cX9_chainCode 14 = .ok (.ireturn, 1) := by decide +kernel
theorem dX9_chainCode_15 : decode cX9_chainCode 15 = .ok (.iload_n 2, 1) := by decide +kernel
theorem dX9_chainCode_16 : decode cX9_chainCode 16 = .ok (.iconst (-1), 1) := by decide +kernel
theorem dX9_chainCode_17 : decode cX9_chainCode 17 = .ok (.if_icmp .ge 7, 3) := by decide +kernel
theorem dX9_chainCode_20 : decode cX9_chainCode 20 = .ok (.sipush (-1003), 3) := by decide +kernel
theorem dX9_chainCode_23 : decode cX9_chainCode 23 = .ok (.ireturn, 1) := by decide +kernel
theorem dX9_chainCode_24 : decode cX9_chainCode 24 = .ok (.iload_n 2, 1) := by decide +kernel
theorem dX9_chainCode_25 : decode cX9_chainCode 25 = .ok (.iconst (-1), 1) := by decide +kernel
theorem dX9_chainCode_26 : decode cX9_chainCode 26 = .ok (.if_icmp .ne 12, 3) := by decide +kernel
theorem dX9_chainCode_29 : decode cX9_chainCode 29 = .ok (.aload_n 0, 1) := by decide +kernel
theorem dX9_chainCode_30 : decode cX9_chainCode 30 = .ok (.getfield 33, 3) := by decide +kernel
theorem dX9_chainCode_33 : decode cX9_chainCode 33 = .ok (.iload_n 1, 1) := by decide +kernel
theorem dX9_chainCode_34 : decode cX9_chainCode 34 = .ok (.invokevirtual 209, 3) := by decide +kernel
theorem dX9_chainCode_37 : decode cX9_chainCode 37 = .ok (.ireturn, 1) := by decide +kernel
theorem dX9_chainCode_38 : decode cX9_chainCode 38 = .ok (.aload_n 0, 1) := by decide +kernel
theorem dX9_chainCode_39 : decode cX9_chainCode 39 = .ok (.getfield 33, 3) := by decide +kernel
theorem dX9_chainCode_42 : decode cX9_chainCode 42 = .ok (.iload_n 1, 1) := by decide +kernel
theorem dX9_chainCode_43 : decode cX9_chainCode 43 = .ok (.iload_n 2, 1) := by decide +kernel
theorem dX9_chainCode_44 : decode cX9_chainCode 44 = .ok (.invokevirtual 212, 3) := by decide +kernel
theorem dX9_chainCode_47 : decode cX9_chainCode 47 = .ok (.istore_n 3, 1) := by decide +kernel
theorem dX9_chainCode_48 : decode cX9_chainCode 48 = .ok (.iload_n 3, 1) := by decide +kernel
theorem dX9_chainCode_49 : decode cX9_chainCode 49 = .ok (.iconst (-1), 1) := by decide +kernel
theorem dX9_chainCode_50 : decode cX9_chainCode 50 = .ok (.if_icmp .ne 9, 3) := by decide +kernel
theorem dX9_chainCode_53 : decode cX9_chainCode 53 = .ok (.sipush (-1006), 3) := by decide +kernel
theorem dX9_chainCode_56 : decode cX9_chainCode 56 = .ok (.goto 4, 3) := by decide +kernel
theorem dX9_chainCode_59 : decode cX9_chainCode 59 = .ok (.iload_n 3, 1) := by decide +kernel
theorem dX9_chainCode_60 : decode cX9_chainCode 60 = .ok (.ireturn, 1) := by decide +kernel
theorem dX9_next_0 : decode cX9_next 0 = .ok (.aload_n 0, 1) := by decide +kernel
theorem dX9_next_1 : decode cX9_next 1 = .ok (.getfield 51, 3) := by decide +kernel
theorem dX9_next_4 : decode cX9_next 4 = .ok (.invokevirtual 215, 3) := by decide +kernel
theorem dX9_next_7 : decode cX9_next 7 = .ok (.istore_n 1, 1) := by decide +kernel
theorem dX9_next_8 : decode cX9_next 8 = .ok (.iload_n 1, 1) := by decide +kernel
theorem dX9_next_9 : decode cX9_next 9 = .ok (.iconst (-1), 1) := by decide +kernel
theorem dX9_next_10 : decode cX9_next 10 = .ok (.if_icmp .ne 7, 3) := by decide +kernel
theorem dX9_next_13 : decode cX9_next 13 = .ok (.sipush (-1006), 3) := by decide +kernel
theorem dX9_next_16 : decode cX9_next 16 = .ok (.ireturn, 1) := by decide +kernel
theorem dX9_next_17 : decode cX9_next 17 = .ok (.aload_n 0, 1) := by decide +kernel
theorem dX9_next_18 : decode cX9_next 18 = .ok (.getfield 33, 3) := by decide +kernel
theorem dX9_next_21 : decode cX9_next 21 = .ok (.getfield 218, 3) := by decide +kernel
theorem dX9_next_24 : decode cX9_next 24 = .ok (.iload_n 1, 1) := by decide +kernel
theorem dX9_next_25 : decode cX9_next 25 = .ok (.iaload, 1) := by decide +kernel
theorem dX9_next_26 : decode cX9_next 26 = .ok (.istore_n 2, 1) := by decide +kernel
theorem dX9_next_27 : decode cX9_next 27 = .ok (.sipush 1000, 3) := by decide +kernel
theorem dX9_next_30 : decode cX9_next 30 = .ok (.iload_n 2, 1) := by decide +kernel
theorem dX9_next_31 : decode cX9_next 31 = .ok (.imul, 1) := by decide +kernel
theorem dX9_next_32 : decode cX9_next 32 = .ok (.iload_n 1, 1) := by decide +kernel
theorem dX9_next_33 : decode cX9_next 33 = .ok (.iadd, 1) := by decide +kernel
theorem dX9_next_34 : decode cX9_next 34 = .ok (.aload_n 0, 1) := by decide +kernel
theorem dX9_next_35 : decode cX9_next 35 = .ok (.getfield 33, 3) := by decide +kernel
theorem dX9_next_38 : decode cX9_next 38 = .ok (.getfield 187, 3) := by decide +kernel
theorem dX9_next_41 : decode cX9_next 41 = .ok (.iload_n 2, 1) := by decide +kernel
theorem dX9_next_42 : decode cX9_next 42 = .ok (.iaload, 1) := by decide +kernel
theorem dX9_next_43 : decode cX9_next 43 = .ok (.isub, 1) := by decide +kernel
theorem dX9_next_44 : decode cX9_next 44 = .ok (.ireturn, 1) := by decide +kernel
theorem dX9_remove_0 : decode cX9_remove 0 = .ok (.aload_n 0, 1) := by decide +kernel
theorem dX9_remove_1 : decode cX9_remove 1 = .ok (.getfield 33, 3) := by decide +kernel
theorem dX9_remove_4 : decode cX9_remove 4 = .ok (.iload_n 1, 1) := by decide +kernel
theorem dX9_remove_5 : decode cX9_remove 5 = .ok (.iload_n 2, 1) := by decide +kernel
theorem dX9_remove_6 : decode cX9_remove 6 = .ok (.invokevirtual 184, 3) := by decide +kernel
theorem dX9_remove_9 : decode cX9_remove 9 = .ok (.istore_n 3, 1) := by decide +kernel
theorem dX9_remove_10 : decode cX9_remove 10 = .ok (.iload_n 3, 1) := by decide +kernel
theorem dX9_remove_11 : decode cX9_remove 11 = .ok (.ifCond .eq 5, 3) := by decide +kernel
theorem dX9_remove_14 : decode cX9_remove 14 = .ok (.iload_n 3, 1) := by decide +kernel
theorem dX9_remove_15 : decode cX9_remove 15 = .ok (.ireturn, 1) := by decide +kernel
theorem dX9_remove_16 : decode cX9_remove 16 = .ok (.aload_n 0, 1) := by decide +kernel
theorem dX9_remove_17 : decode cX9_remove 17 = .ok (.getfield 33, 3) := by decide +kernel
theorem dX9_remove_20 : decode cX9_remove 20 = .ok (.getfield 187, 3) := by decide +kernel
theorem dX9_remove_23 : decode cX9_remove 23 = .ok (.iload_n 1, 1) := by decide +kernel
theorem dX9_remove_24 : decode cX9_remove 24 = .ok (.iaload, 1) := by decide +kernel
theorem dX9_remove_25 : decode cX9_remove 25 = .ok (.iload_n 2, 1) := by decide +kernel
theorem dX9_remove_26 : decode cX9_remove 26 = .ok (.iadd, 1) := by decide +kernel
theorem dX9_remove_27 : decode cX9_remove 27 = .ok (.istore 4, 2) := by decide +kernel
theorem dX9_remove_29 : decode cX9_remove 29 = .ok (.aload_n 0, 1) := by decide +kernel
theorem dX9_remove_30 : decode cX9_remove 30 = .ok (.getfield 33, 3) := by decide +kernel
theorem dX9_remove_33 : decode cX9_remove 33 = .ok (.getfield 196, 3) := by decide +kernel
theorem dX9_remove_36 : decode cX9_remove 36 = .ok (.iload 4, 2) := by decide +kernel
theorem dX9_remove_38 : decode cX9_remove 38 = .ok (.baload, 1) := by decide +kernel
theorem dX9_remove_39 : decode cX9_remove 39 = .ok (.ifCond .eq 19, 3) := by decide +kernel
theorem dX9_remove_42 : decode cX9_remove 42 = .ok (.aload_n 0, 1) := by decide +kernel
theorem dX9_remove_43 : decode cX9_remove 43 = .ok (.getfield 51, 3) := by decide +kernel
theorem dX9_remove_46 : decode cX9_remove 46 = .ok (.iload 4, 2) := by decide +kernel
theorem dX9_remove_48 : decode cX9_remove 48 = .ok (.invokevirtual 221, 3) := by decide +kernel
theorem dX9_remove_51 : decode cX9_remove 51 = .ok (.ifCond .eq 7, 3) := by decide +kernel
theorem dX9_remove_54 : decode cX9_remove 54 = .ok (.iconst 1, 1) := by decide +kernel
theorem dX9_remove_55 : decode cX9_remove 55 = .ok (.goto 4, 3) := by decide +kernel
theorem dX9_remove_58 : decode cX9_remove 58 = .ok (.iconst 0, 1) := by decide +kernel
theorem dX9_remove_59 : decode cX9_remove 59 = .ok (.istore 5, 2) := by decide +kernel
theorem dX9_remove_61 : decode cX9_remove 61 = .ok (.iload 5, 2) := by decide +kernel
theorem dX9_remove_63 : decode cX9_remove 63 = .ok (.ifCond .eq 15, 3) := by decide +kernel
theorem dX9_remove_66 : decode cX9_remove 66 = .ok (.aload_n 0, 1) := by decide +kernel
theorem dX9_remove_67 : decode cX9_remove 67 = .ok (.getfield 51, 3) := by decide +kernel
theorem dX9_remove_70 : decode cX9_remove 70 = .ok (.iload 4, 2) := by decide +kernel
theorem dX9_remove_72 : decode cX9_remove 72 = .ok (.invokevirtual 224, 3) := by decide +kernel
theorem dX9_remove_75 : decode cX9_remove 75 = .ok (.goto 6, 3) := by decide +kernel
theorem dX9_remove_78 : decode cX9_remove 78 = .ok (.sipush (-1004), 3) := by decide +kernel
theorem dX9_remove_81 : decode cX9_remove 81 = .ok (.ireturn, 1) := by decide +kernel
theorem dX9_insert_0 : decode cX9_insert 0 = .ok (.aload_n 0, 1) := by decide +kernel
theorem dX9_insert_1 : decode cX9_insert 1 = .ok (.getfield 33, 3) := by decide +kernel
theorem dX9_insert_4 : decode cX9_insert 4 = .ok (.iload_n 1, 1) := by decide +kernel
theorem dX9_insert_5 : decode cX9_insert 5 = .ok (.iload_n 2, 1) := by decide +kernel
theorem dX9_insert_6 : decode cX9_insert 6 = .ok (.invokevirtual 184, 3) := by decide +kernel
theorem dX9_insert_9 : decode cX9_insert 9 = .ok (.istore_n 3, 1) := by decide +kernel
theorem dX9_insert_10 : decode cX9_insert 10 = .ok (.iload_n 3, 1) := by decide +kernel
theorem dX9_insert_11 : decode cX9_insert 11 = .ok (.ifCond .eq 5, 3) := by decide +kernel
theorem dX9_insert_14 : decode cX9_insert 14 = .ok (.iload_n 3, 1) := by decide +kernel
theorem dX9_insert_15 : decode cX9_insert 15 = .ok (.ireturn, 1) := by decide +kernel
theorem dX9_insert_16 : decode cX9_insert 16 = .ok (.aload_n 0, 1) := by decide +kernel
theorem dX9_insert_17 : decode cX9_insert 17 = .ok (.getfield 33, 3) := by decide +kernel
theorem dX9_insert_20 : decode cX9_insert 20 = .ok (.getfield 187, 3) := by decide +kernel
theorem dX9_insert_23 : decode cX9_insert 23 = .ok (.iload_n 1, 1) := by decide +kernel
theorem dX9_insert_24 : decode cX9_insert 24 = .ok (.iaload, 1) := by decide +kernel
theorem dX9_insert_25 : decode cX9_insert 25 = .ok (.iload_n 2, 1) := by decide +kernel
theorem dX9_insert_26 : decode cX9_insert 26 = .ok (.iadd, 1) := by decide +kernel
theorem dX9_insert_27 : decode cX9_insert 27 = .ok (.istore 4, 2) := by decide +kernel
theorem dX9_insert_29 : decode cX9_insert 29 = .ok (.aload_n 0, 1) := by decide +kernel
theorem dX9_insert_30 : decode cX9_insert 30 = .ok (.getfield 33, 3) := by decide +kernel
theorem dX9_insert_33 : decode cX9_insert 33 = .ok (.getfield 196, 3) := by decide +kernel
theorem dX9_insert_36 : decode cX9_insert 36 = .ok (.iload 4, 2) := by decide +kernel
theorem dX9_insert_38 : decode cX9_insert 38 = .ok (.baload, 1) := by decide +kernel
theorem dX9_insert_39 : decode cX9_insert 39 = .ok (.ifCond .ne 19, 3) := by decide +kernel
theorem dX9_insert_42 : decode cX9_insert 42 = .ok (.aload_n 0, 1) := by decide +kernel
theorem dX9_insert_43 : decode cX9_insert 43 = .ok (.getfield 51, 3) := by decide +kernel
theorem dX9_insert_46 : decode cX9_insert 46 = .ok (.iload 4, 2) := by decide +kernel
theorem dX9_insert_48 : decode cX9_insert 48 = .ok (.invokevirtual 227, 3) := by decide +kernel
theorem dX9_insert_51 : decode cX9_insert 51 = .ok (.ifCond .eq 7, 3) := by decide +kernel
theorem dX9_insert_54 : decode cX9_insert 54 = .ok (.iconst 1, 1) := by decide +kernel
theorem dX9_insert_55 : decode cX9_insert 55 = .ok (.goto 4, 3) := by decide +kernel
theorem dX9_insert_58 : decode cX9_insert 58 = .ok (.iconst 0, 1) := by decide +kernel
theorem dX9_insert_59 : decode cX9_insert 59 = .ok (.istore 5, 2) := by decide +kernel
theorem dX9_insert_61 : decode cX9_insert 61 = .ok (.iload 5, 2) := by decide +kernel
theorem dX9_insert_63 : decode cX9_insert 63 = .ok (.ifCond .eq 15, 3) := by decide +kernel
theorem dX9_insert_66 : decode cX9_insert 66 = .ok (.aload_n 0, 1) := by decide +kernel
theorem dX9_insert_67 : decode cX9_insert 67 = .ok (.getfield 51, 3) := by decide +kernel
theorem dX9_insert_70 : decode cX9_insert 70 = .ok (.iload 4, 2) := by decide +kernel
theorem dX9_insert_72 : decode cX9_insert 72 = .ok (.invokevirtual 224, 3) := by decide +kernel
theorem dX9_insert_75 : decode cX9_insert 75 = .ok (.goto 6, 3) := by decide +kernel
theorem dX9_insert_78 : decode cX9_insert 78 = .ok (.sipush (-1004), 3) := by decide +kernel
theorem dX9_insert_81 : decode cX9_insert 81 = .ok (.ireturn, 1) := by decide +kernel
theorem dX9_simplify_0 : decode cX9_simplify 0 = .ok (.iload_n 1, 1) := by decide +kernel
theorem dX9_simplify_1 : decode cX9_simplify 1 = .ok (.iconst 0, 1) := by decide +kernel
theorem dX9_simplify_2 : decode cX9_simplify 2 = .ok (.sipush 1000, 3) := by decide +kernel
theorem dX9_simplify_5 : decode cX9_simplify 5 = .ok (.invokestatic 66, 3) := by decide +kernel
theorem dX9_simplify_8 : decode cX9_simplify 8 = .ok (.ifCond .ne 7, 3) := by decide +kernel
theorem dX9_simplify_11 : decode cX9_simplify 11 = .ok (.sipush (-1003), 3) := by decide +kernel
theorem dX9_simplify_14 : decode cX9_simplify 14 = .ok (.ireturn, 1) := by decide +kernel
theorem dX9_simplify_15 : decode cX9_simplify 15 = .ok (.aload_n 0, 1) := by decide +kernel
theorem dX9_simplify_16 : decode cX9_simplify 16 = .ok (.getfield 51, 3) := by decide +kernel
theorem dX9_simplify_19 : decode cX9_simplify 19 = .ok (.iload_n 1, 1) := by decide +kernel
theorem dX9_simplify_20 : decode cX9_simplify 20 = .ok (.iconst 0, 1) := by decide +kernel
theorem dX9_simplify_21 : decode cX9_simplify 21 = .ok (.invokevirtual 230, 3) := by decide +kernel
theorem dX9_simplify_24 : decode cX9_simplify 24 = .ok (.ireturn, 1) := by decide +kernel
theorem dX9_reduce_0 : decode cX9_reduce 0 = .ok (.iload_n 1, 1) := by decide +kernel
theorem dX9_reduce_1 : decode cX9_reduce 1 = .ok (.ifCond .ge 7, 3) := by decide +kernel
theorem dX9_reduce_4 : decode cX9_reduce 4 = .ok (.sipush (-1003), 3) := by decide +kernel
theorem dX9_reduce_7 : decode cX9_reduce 7 = .ok (.ireturn, 1) := by decide +kernel
theorem dX9_reduce_8 : decode cX9_reduce 8 = .ok (.aload_n 0, 1) := by decide +kernel
theorem dX9_reduce_9 : decode cX9_reduce 9 = .ok (.getfield 51, 3) := by decide +kernel
theorem dX9_reduce_12 : decode cX9_reduce 12 = .ok (.ldc 235, 2) := by decide +kernel
theorem dX9_reduce_14 : decode cX9_reduce 14 = .ok (.iload_n 1, 1) := by decide +kernel
theorem dX9_reduce_15 : decode cX9_reduce 15 = .ok (.invokevirtual 230, 3) := by decide +kernel
theorem dX9_reduce_18 : decode cX9_reduce 18 = .ok (.ireturn, 1) := by decide +kernel
theorem dX9_limitFor_0 : decode cX9_limitFor 0 = .ok (.iload_n 1, 1) := by decide +kernel
theorem dX9_limitFor_1 : decode cX9_limitFor 1 = .ok (.ifCond .ge 7, 3) := by decide +kernel
theorem dX9_limitFor_4 : decode cX9_limitFor 4 = .ok (.sipush (-1003), 3) := by decide +kernel
theorem dX9_limitFor_7 : decode cX9_limitFor 7 = .ok (.ireturn, 1) := by decide +kernel
theorem dX9_limitFor_8 : decode cX9_limitFor 8 = .ok (.aload_n 0, 1) := by decide +kernel
theorem dX9_limitFor_9 : decode cX9_limitFor 9 = .ok (.getfield 51, 3) := by decide +kernel
theorem dX9_limitFor_12 : decode cX9_limitFor 12 = .ok (.iload_n 1, 1) := by decide +kernel
theorem dX9_limitFor_13 : decode cX9_limitFor 13 = .ok (.invokevirtual 236, 3) := by decide +kernel
theorem dX9_limitFor_16 : decode cX9_limitFor 16 = .ok (.istore_n 2, 1) := by decide +kernel
theorem dX9_limitFor_17 : decode cX9_limitFor 17 = .ok (.iload_n 2, 1) := by decide +kernel
theorem dX9_limitFor_18 : decode cX9_limitFor 18 = .ok (.iconst (-1), 1) := by decide +kernel
theorem dX9_limitFor_19 : decode cX9_limitFor 19 = .ok (.if_icmp .ne 9, 3) := by decide +kernel
theorem dX9_limitFor_22 : decode cX9_limitFor 22 = .ok (.sipush (-1006), 3) := by decide +kernel
theorem dX9_limitFor_25 : decode cX9_limitFor 25 = .ok (.goto 4, 3) := by decide +kernel
theorem dX9_limitFor_28 : decode cX9_limitFor 28 = .ok (.iload_n 2, 1) := by decide +kernel
theorem dX9_limitFor_29 : decode cX9_limitFor 29 = .ok (.ireturn, 1) := by decide +kernel
theorem dX9_undo_0 : decode cX9_undo 0 = .ok (.aload_n 0, 1) := by decide +kernel
theorem dX9_undo_1 : decode cX9_undo 1 = .ok (.getfield 51, 3) := by decide +kernel
theorem dX9_undo_4 : decode cX9_undo 4 = .ok (.invokevirtual 239, 3) := by decide +kernel
theorem dX9_undo_7 : decode cX9_undo 7 = .ok (.ifCond .eq 16, 3) := by decide +kernel
theorem dX9_undo_10 : decode cX9_undo 10 = .ok (.aload_n 0, 1) := by decide +kernel
theorem dX9_undo_11 : decode cX9_undo 11 = .ok (.getfield 51, 3) := by decide +kernel
theorem dX9_undo_14 : decode cX9_undo 14 = .ok (.getfield 136, 3) := by decide +kernel
theorem dX9_undo_17 : decode cX9_undo 17 = .ok (.getfield 140, 3) := by decide +kernel
theorem dX9_undo_20 : decode cX9_undo 20 = .ok (.goto 6, 3) := by decide +kernel
theorem dX9_undo_23 : decode cX9_undo 23 = .ok (.sipush (-1006), 3) := by decide +kernel
theorem dX9_undo_26 : decode cX9_undo 26 = .ok (.ireturn, 1) := by decide +kernel
theorem dX9_refine_0 : decode cX9_refine 0 = .ok (.aload_n 0, 1) := by decide +kernel
theorem dX9_refine_1 : decode cX9_refine 1 = .ok (.getfield 51, 3) := by decide +kernel
theorem dX9_refine_4 : decode cX9_refine 4 = .ok (.invokevirtual 243, 3) := by decide +kernel
theorem dX9_refine_7 : decode cX9_refine 7 = .ok (.ireturn, 1) := by decide +kernel
theorem dX9_covers_0 : decode cX9_covers 0 = .ok (.aload_n 0, 1) := by decide +kernel
theorem dX9_covers_1 : decode cX9_covers 1 = .ok (.getfield 33, 3) := by decide +kernel
theorem dX9_covers_4 : decode cX9_covers 4 = .ok (.iload_n 1, 1) := by decide +kernel
theorem dX9_covers_5 : decode cX9_covers 5 = .ok (.invokevirtual 154, 3) := by decide +kernel
theorem dX9_covers_8 : decode cX9_covers 8 = .ok (.ifCond .ne 7, 3) := by decide +kernel
theorem dX9_covers_11 : decode cX9_covers 11 = .ok (.sipush (-1001), 3) := by decide +kernel
theorem dX9_covers_14 : decode cX9_covers 14 = .ok (.ireturn, 1) := by decide +kernel
theorem dX9_covers_15 : decode cX9_covers 15 = .ok (.iload_n 2, 1) := by decide +kernel
theorem dX9_covers_16 : decode cX9_covers 16 = .ok (.bipush (-10), 2) := by decide +kernel
theorem dX9_covers_18 : decode cX9_covers 18 = .ok (.bipush 40, 2) := by decide +kernel
theorem dX9_covers_20 : decode cX9_covers 20 = .ok (.invokestatic 66, 3) := by decide +kernel
theorem dX9_covers_23 : decode cX9_covers 23 = .ok (.ifCond .eq 14, 3) := by decide +kernel
theorem dX9_covers_26 : decode cX9_covers 26 = .ok (.iload_n 3, 1) := by decide +kernel
theorem dX9_covers_27 : decode cX9_covers 27 = .ok (.bipush (-10), 2) := by decide +kernel
theorem dX9_covers_29 : decode cX9_covers 29 = .ok (.bipush 40, 2) := by decide +kernel
theorem dX9_covers_31 : decode cX9_covers 31 = .ok (.invokestatic 66, 3) := by decide +kernel
theorem dX9_covers_34 : decode cX9_covers 34 = .ok (.ifCond .ne 7, 3) := by decide +kernel
theorem dX9_covers_37 : decode cX9_covers 37 = .ok (.sipush (-1003), 3) := by decide +kernel
theorem dX9_covers_40 : decode cX9_covers 40 = .ok (.ireturn, 1) := by decide +kernel
theorem dX9_covers_41 : decode cX9_covers 41 = .ok (.aload_n 0, 1) := by decide +kernel
theorem dX9_covers_42 : decode cX9_covers 42 = .ok (.getfield 33, 3) := by decide +kernel
theorem dX9_covers_45 : decode cX9_covers 45 = .ok (.iload_n 1, 1) := by decide +kernel
theorem dX9_covers_46 : decode cX9_covers 46 = .ok (.iload_n 2, 1) := by decide +kernel
theorem dX9_covers_47 : decode cX9_covers 47 = .ok (.iload_n 3, 1) := by decide +kernel
theorem dX9_covers_48 : decode cX9_covers 48 = .ok (.invokevirtual 246, 3) := by decide +kernel
theorem dX9_covers_51 : decode cX9_covers 51 = .ok (.ifCond .eq 7, 3) := by decide +kernel
theorem dX9_covers_54 : decode cX9_covers 54 = .ok (.iconst 1, 1) := by decide +kernel
theorem dX9_covers_55 : decode cX9_covers 55 = .ok (.goto 4, 3) := by decide +kernel
theorem dX9_covers_58 : decode cX9_covers 58 = .ok (.iconst 0, 1) := by decide +kernel
theorem dX9_covers_59 : decode cX9_covers 59 = .ok (.ireturn, 1) := by decide +kernel
theorem dX9_isCovered_0 : decode cX9_isCovered 0 = .ok (.iload_n 1, 1) := by decide +kernel
theorem dX9_isCovered_1 : decode cX9_isCovered 1 = .ok (.bipush (-10), 2) := by decide +kernel
theorem dX9_isCovered_3 : decode cX9_isCovered 3 = .ok (.bipush 40, 2) := by decide +kernel
theorem dX9_isCovered_5 : decode cX9_isCovered 5 = .ok (.invokestatic 66, 3) := by decide +kernel
theorem dX9_isCovered_8 : decode cX9_isCovered 8 = .ok (.ifCond .eq 14, 3) := by decide +kernel
theorem dX9_isCovered_11 : decode cX9_isCovered 11 = .ok (.iload_n 2, 1) := by decide +kernel
theorem dX9_isCovered_12 : decode cX9_isCovered 12 = .ok (.bipush (-10), 2) := by decide +kernel
theorem dX9_isCovered_14 : decode cX9_isCovered 14 = .ok (.bipush 40, 2) := by decide +kernel
theorem dX9_isCovered_16 : decode cX9_isCovered 16 = .ok (.invokestatic 66, 3) := by decide +kernel
theorem dX9_isCovered_19 : decode cX9_isCovered 19 = .ok (.ifCond .ne 7, 3) := by decide +kernel
theorem dX9_isCovered_22 : decode cX9_isCovered 22 = .ok (.sipush (-1003), 3) := by decide +kernel
theorem dX9_isCovered_25 : decode cX9_isCovered 25 = .ok (.ireturn, 1) := by decide +kernel
theorem dX9_isCovered_26 : decode cX9_isCovered 26 = .ok (.aload_n 0, 1) := by decide +kernel
theorem dX9_isCovered_27 : decode cX9_isCovered 27 = .ok (.getfield 58, 3) := by decide +kernel
theorem dX9_isCovered_30 : decode cX9_isCovered 30 = .ok (.iload_n 1, 1) := by decide +kernel
theorem dX9_isCovered_31 : decode cX9_isCovered 31 = .ok (.iload_n 2, 1) := by decide +kernel
theorem dX9_isCovered_32 : decode cX9_isCovered 32 = .ok (.invokevirtual 249, 3) := by decide +kernel
theorem dX9_isCovered_35 : decode cX9_isCovered 35 = .ok (.ifCond .eq 7, 3) := by decide +kernel
theorem dX9_isCovered_38 : decode cX9_isCovered 38 = .ok (.iconst 1, 1) := by decide +kernel
theorem dX9_isCovered_39 : decode cX9_isCovered 39 = .ok (.goto 4, 3) := by decide +kernel
theorem dX9_isCovered_42 : decode cX9_isCovered 42 = .ok (.iconst 0, 1) := by decide +kernel
theorem dX9_isCovered_43 : decode cX9_isCovered 43 = .ok (.ireturn, 1) := by decide +kernel
theorem dX9_misfit_0 : decode cX9_misfit 0 = .ok (.aload_n 0, 1) := by decide +kernel
theorem dX9_misfit_1 : decode cX9_misfit 1 = .ok (.getfield 33, 3) := by decide +kernel
theorem dX9_misfit_4 : decode cX9_misfit 4 = .ok (.getfield 151, 3) := by decide +kernel
theorem dX9_misfit_7 : decode cX9_misfit 7 = .ok (.ifCond .ne 9, 3) := by decide +kernel
theorem dX9_misfit_10 : decode cX9_misfit 10 = .ok (.sipush (-1004), 3) := by decide +kernel
theorem dX9_misfit_13 : decode cX9_misfit 13 = .ok (.goto 10, 3) := by decide +kernel
theorem dX9_misfit_16 : decode cX9_misfit 16 = .ok (.aload_n 0, 1) := by decide +kernel
theorem dX9_misfit_17 : decode cX9_misfit 17 = .ok (.getfield 58, 3) := by decide +kernel
theorem dX9_misfit_20 : decode cX9_misfit 20 = .ok (.invokevirtual 252, 3) := by decide +kernel
theorem dX9_misfit_23 : decode cX9_misfit 23 = .ok (.ireturn, 1) := by decide +kernel
theorem dX9_deviation_0 : decode cX9_deviation 0 = .ok (.aload_n 0, 1) := by decide +kernel
theorem dX9_deviation_1 : decode cX9_deviation 1 = .ok (.getfield 33, 3) := by decide +kernel
theorem dX9_deviation_4 : decode cX9_deviation 4 = .ok (.iload_n 1, 1) := by decide +kernel
theorem dX9_deviation_5 : decode cX9_deviation 5 = .ok (.invokevirtual 154, 3) := by decide +kernel
theorem dX9_deviation_8 : decode cX9_deviation 8 = .ok (.ifCond .ne 7, 3) := by decide +kernel
theorem dX9_deviation_11 : decode cX9_deviation 11 = .ok (.sipush (-1001), 3) := by decide +kernel
theorem dX9_deviation_14 : decode cX9_deviation 14 = .ok (.ireturn, 1) := by decide +kernel
theorem dX9_deviation_15 : decode cX9_deviation 15 = .ok (.iload_n 2, 1) := by decide +kernel
theorem dX9_deviation_16 : decode cX9_deviation 16 = .ok (.ifCond .eq 12, 3) := by decide +kernel
theorem dX9_deviation_19 : decode cX9_deviation 19 = .ok (.iload_n 2, 1) := by decide +kernel
theorem dX9_deviation_20 : decode cX9_deviation 20 = .ok (.iconst 1, 1) := by decide +kernel
theorem dX9_deviation_21 : decode cX9_deviation 21 = .ok (.if_icmp .eq 7, 3) := by decide +kernel
theorem dX9_deviation_24 : decode cX9_deviation 24 = .ok (.sipush (-1003), 3) := by decide +kernel
theorem dX9_deviation_27 : decode cX9_deviation 27 = .ok (.ireturn, 1) := by decide +kernel
theorem dX9_deviation_28 : decode cX9_deviation 28 = .ok (.aload_n 0, 1) := by decide +kernel
theorem dX9_deviation_29 : decode cX9_deviation 29 = .ok (.getfield 58, 3) := by decide +kernel
theorem dX9_deviation_32 : decode cX9_deviation 32 = .ok (.iload_n 1, 1) := by decide +kernel
theorem dX9_deviation_33 : decode cX9_deviation 33 = .ok (.invokevirtual 255, 3) := by decide +kernel
theorem dX9_deviation_36 : decode cX9_deviation 36 = .ok (.iload_n 2, 1) := by decide +kernel
theorem dX9_deviation_37 : decode cX9_deviation 37 = .ok (.ifCond .ne 13, 3) := by decide +kernel
theorem dX9_deviation_40 : decode cX9_deviation 40 = .ok (.aload_n 0, 1) := by decide +kernel
theorem dX9_deviation_41 : decode cX9_deviation 41 = .ok (.getfield 58, 3) := by decide +kernel
theorem dX9_deviation_44 : decode cX9_deviation 44 = .ok (.getfield 259, 3) := by decide +kernel
theorem dX9_deviation_47 : decode cX9_deviation 47 = .ok (.goto 10, 3) := by decide +kernel
theorem dX9_deviation_50 : decode cX9_deviation 50 = .ok (.aload_n 0, 1) := by decide +kernel
theorem dX9_deviation_51 : decode cX9_deviation 51 = .ok (.getfield 58, 3) := by decide +kernel
theorem dX9_deviation_54 : decode cX9_deviation 54 = .ok (.getfield 262, 3) := by decide +kernel
theorem dX9_deviation_57 : decode cX9_deviation 57 = .ok (.ireturn, 1) := by decide +kernel
theorem dX9_dropContours_0 : decode cX9_dropContours 0 = .ok (.aload_n 0, 1) := by decide +kernel
theorem dX9_dropContours_1 : decode cX9_dropContours 1 = .ok (.getfield 33, 3) := by decide +kernel
theorem dX9_dropContours_4 : decode cX9_dropContours 4 = .ok (.invokevirtual 265, 3) := by decide +kernel
theorem dX9_dropContours_7 : decode cX9_dropContours 7 = .ok (.aload_n 0, 1) := by decide +kernel
theorem dX9_dropContours_8 : decode cX9_dropContours 8 = .ok (.getfield 51, 3) := by decide +kernel
theorem dX9_dropContours_11 : decode cX9_dropContours 11 = .ok (.getfield 136, 3) := by decide +kernel
theorem dX9_dropContours_14 : decode cX9_dropContours 14 = .ok (.invokevirtual 268, 3) := by decide +kernel
theorem dX9_dropContours_17 : decode cX9_dropContours 17 = .ok (.return_, 1) := by decide +kernel
theorem dX9_isWithin_0 : decode cX9_isWithin 0 = .ok (.iload_n 0, 1) := by decide +kernel
theorem dX9_isWithin_1 : decode cX9_isWithin 1 = .ok (.iload_n 1, 1) := by decide +kernel
theorem dX9_isWithin_2 : decode cX9_isWithin 2 = .ok (.if_icmp .lt 12, 3) := by decide +kernel
theorem dX9_isWithin_5 : decode cX9_isWithin 5 = .ok (.iload_n 0, 1) := by decide +kernel
theorem dX9_isWithin_6 : decode cX9_isWithin 6 = .ok (.iload_n 2, 1) := by decide +kernel
theorem dX9_isWithin_7 : decode cX9_isWithin 7 = .ok (.if_icmp .gt 7, 3) := by decide +kernel
theorem dX9_isWithin_10 : decode cX9_isWithin 10 = .ok (.iconst 1, 1) := by decide +kernel
theorem dX9_isWithin_11 : decode cX9_isWithin 11 = .ok (.goto 4, 3) := by decide +kernel
theorem dX9_isWithin_14 : decode cX9_isWithin 14 = .ok (.iconst 0, 1) := by decide +kernel
theorem dX9_isWithin_15 : decode cX9_isWithin 15 = .ok (.ireturn, 1) := by decide +kernel
theorem dX9_isLevel_0 : decode cX9_isLevel 0 = .ok (.iload_n 0, 1) := by decide +kernel
theorem dX9_isLevel_1 : decode cX9_isLevel 1 = .ok (.iconst 0, 1) := by decide +kernel
theorem dX9_isLevel_2 : decode cX9_isLevel 2 = .ok (.bipush 9, 2) := by decide +kernel
theorem dX9_isLevel_4 : decode cX9_isLevel 4 = .ok (.invokestatic 66, 3) := by decide +kernel
theorem dX9_isLevel_7 : decode cX9_isLevel 7 = .ok (.ireturn, 1) := by decide +kernel
theorem dX10_init_0 : decode cX10_init 0 = .ok (.aload_n 0, 1) := by decide +kernel
theorem dX10_init_1 : decode cX10_init 1 = .ok (.invokespecial 1, 3) := by decide +kernel
theorem dX10_init_4 : decode cX10_init 4 = .ok (.aload_n 0, 1) := by decide +kernel
theorem dX10_init_5 : decode cX10_init 5 = .ok (.sipush 192, 3) := by decide +kernel
theorem dX10_init_8 : decode cX10_init 8 = .ok (.newarray .int, 2) := by decide +kernel
theorem dX10_init_10 : decode cX10_init 10 = .ok (.putfield 7, 3) := by decide +kernel
theorem dX10_init_13 : decode cX10_init 13 = .ok (.aload_n 0, 1) := by decide +kernel
theorem dX10_init_14 : decode cX10_init 14 = .ok (.sipush 192, 3) := by decide +kernel
theorem dX10_init_17 : decode cX10_init 17 = .ok (.newarray .boolean, 2) := by decide +kernel
theorem dX10_init_19 : decode cX10_init 19 = .ok (.putfield 13, 3) := by decide +kernel
theorem dX10_init_22 : decode cX10_init 22 = .ok (.aload_n 0, 1) := by decide +kernel
theorem dX10_init_23 : decode cX10_init 23 = .ok (.sipush 200, 3) := by decide +kernel
theorem dX10_init_26 : decode cX10_init 26 = .ok (.newarray .char, 2) := by decide +kernel
theorem dX10_init_28 : decode cX10_init 28 = .ok (.putfield 17, 3) := by decide +kernel
theorem dX10_init_31 : decode cX10_init 31 = .ok (.aload_n 0, 1) := by decide +kernel
theorem dX10_init_32 : decode cX10_init 32 = .ok (.sipush 192, 3) := by decide +kernel
theorem dX10_init_35 : decode cX10_init 35 = .ok (.newarray .int, 2) := by decide +kernel
theorem dX10_init_37 : decode cX10_init 37 = .ok (.putfield 21, 3) := by decide +kernel
theorem dX10_init_40 : decode cX10_init 40 = .ok (.aload_n 0, 1) := by decide +kernel
theorem dX10_init_41 : decode cX10_init 41 = .ok (.sipush 256, 3) := by decide +kernel
theorem dX10_init_44 : decode cX10_init 44 = .ok (.newarray .int, 2) := by decide +kernel
theorem dX10_init_46 : decode cX10_init 46 = .ok (.putfield 24, 3) := by decide +kernel
theorem dX10_init_49 : decode cX10_init 49 = .ok (.aload_n 0, 1) := by decide +kernel
theorem dX10_init_50 : decode cX10_init 50 = .ok (.sipush 256, 3) := by decide +kernel
theorem dX10_init_53 : decode cX10_init 53 = .ok (.newarray .int, 2) := by decide +kernel
theorem dX10_init_55 : decode cX10_init 55 = .ok (.putfield 27, 3) := by decide +kernel
theorem dX10_init_58 : decode cX10_init 58 = .ok (.aload_n 0, 1) := by decide +kernel
theorem dX10_init_59 : decode cX10_init 59 = .ok (.sipush 256, 3) := by decide +kernel
theorem dX10_init_62 : decode cX10_init 62 = .ok (.newarray .int, 2) := by decide +kernel
theorem dX10_init_64 : decode cX10_init 64 = .ok (.putfield 30, 3) := by decide +kernel
theorem dX10_init_67 : decode cX10_init 67 = .ok (.aload_n 0, 1) := by decide +kernel
theorem dX10_init_68 : decode cX10_init 68 = .ok (.sipush 256, 3) := by decide +kernel
theorem dX10_init_71 : decode cX10_init 71 = .ok (.newarray .int, 2) := by decide +kernel
theorem dX10_init_73 : decode cX10_init 73 = .ok (.putfield 33, 3) := by decide +kernel
theorem dX10_init_76 : decode cX10_init 76 = .ok (.aload_n 0, 1) := by decide +kernel
theorem dX10_init_77 : decode cX10_init 77 = .ok (.sipush 256, 3) := by decide +kernel
theorem dX10_init_80 : decode cX10_init 80 = .ok (.newarray .int, 2) := by decide +kernel
theorem dX10_init_82 : decode cX10_init 82 = .ok (.putfield 36, 3) := by decide +kernel
theorem dX10_init_85 : decode cX10_init 85 = .ok (.aload_n 0, 1) := by decide +kernel
theorem dX10_init_86 : decode cX10_init 86 = .ok (.sipush 512, 3) := by decide +kernel
theorem dX10_init_89 : decode cX10_init 89 = .ok (.newarray .int, 2) := by decide +kernel
theorem dX10_init_91 : decode cX10_init 91 = .ok (.putfield 39, 3) := by decide +kernel
theorem dX10_init_94 : decode cX10_init 94 = .ok (.aload_n 0, 1) := by decide +kernel
theorem dX10_init_95 : decode cX10_init 95 = .ok (.sipush 512, 3) := by decide +kernel
theorem dX10_init_98 : decode cX10_init 98 = .ok (.newarray .int, 2) := by decide +kernel
theorem dX10_init_100 : decode cX10_init 100 = .ok (.putfield 42, 3) := by decide +kernel
theorem dX10_init_103 : decode cX10_init 103 = .ok (.aload_n 0, 1) := by decide +kernel
theorem dX10_init_104 : decode cX10_init 104 = .ok (.sipush 512, 3) := by decide +kernel
theorem dX10_init_107 : decode cX10_init 107 = .ok (.newarray .boolean, 2) := by decide +kernel
theorem dX10_init_109 : decode cX10_init 109 = .ok (.putfield 45, 3) := by decide +kernel
theorem dX10_init_112 : decode cX10_init 112 = .ok (.aload_n 0, 1) := by decide +kernel
theorem dX10_init_113 : decode cX10_init 113 = .ok (.sipush 221, 3) := by decide +kernel
theorem dX10_init_116 : decode cX10_init 116 = .ok (.newarray .boolean, 2) := by decide +kernel
theorem dX10_init_118 : decode cX10_init 118 = .ok (.putfield 48, 3) := by decide +kernel
theorem dX10_init_121 : decode cX10_init 121 = .ok (.aload_n 0, 1) := by decide +kernel
theorem dX10_init_122 : decode cX10_init 122 = .ok (.sipush 600, 3) := by decide +kernel
theorem dX10_init_125 : decode cX10_init 125 = .ok (.newarray .int, 2) := by decide +kernel
theorem dX10_init_127 : decode cX10_init 127 = .ok (.putfield 51, 3) := by decide +kernel
theorem dX10_init_130 : decode cX10_init 130 = .ok (.aload_n 0, 1) := by decide +kernel
theorem dX10_init_131 : decode cX10_init 131 = .ok (.sipush 512, 3) := by decide +kernel
theorem dX10_init_134 : decode cX10_init 134 = .ok (.newarray .boolean, 2) := by decide +kernel
theorem dX10_init_136 : decode cX10_init 136 = .ok (.putfield 54, 3) := by decide +kernel
theorem dX10_init_139 : decode cX10_init 139 = .ok (.aload_n 0, 1) := by decide +kernel
theorem dX10_init_140 : decode cX10_init 140 = .ok (.sipush 2048, 3) := by decide +kernel
theorem dX10_init_143 : decode cX10_init 143 = .ok (.newarray .int, 2) := by decide +kernel
theorem dX10_init_145 : decode cX10_init 145 = .ok (.putfield 57, 3) := by decide +kernel
theorem dX10_init_148 : decode cX10_init 148 = .ok (.aload_n 0, 1) := by decide +kernel
theorem dX10_init_149 : decode cX10_init 149 = .ok (.bipush 8, 2) := by decide +kernel
theorem dX10_init_151 : decode cX10_init 151 = .ok (.putfield 60, 3) := by decide +kernel
theorem dX10_init_154 : decode cX10_init 154 = .ok (.aload_n 0, 1) := by decide +kernel
theorem dX10_init_155 : decode cX10_init 155 = .ok (.bipush 8, 2) := by decide +kernel
theorem dX10_init_157 : decode cX10_init 157 = .ok (.putfield 64, 3) := by decide +kernel
theorem dX10_init_160 : decode cX10_init 160 = .ok (.return_, 1) := by decide +kernel
theorem dX10_within_0 : decode cX10_within 0 = .ok (.iload_n 0, 1) := by decide +kernel
theorem dX10_within_1 : decode cX10_within 1 = .ok (.iload_n 1, 1) := by decide +kernel
theorem dX10_within_2 : decode cX10_within 2 = .ok (.if_icmp .lt 12, 3) := by decide +kernel
theorem dX10_within_5 : decode cX10_within 5 = .ok (.iload_n 0, 1) := by decide +kernel
theorem dX10_within_6 : decode cX10_within 6 = .ok (.iload_n 2, 1) := by decide +kernel
theorem dX10_within_7 : decode cX10_within 7 = .ok (.if_icmp .gt 7, 3) := by decide +kernel
theorem dX10_within_10 : decode cX10_within 10 = .ok (.iconst 1, 1) := by decide +kernel
theorem dX10_within_11 : decode cX10_within 11 = .ok (.goto 4, 3) := by decide +kernel
theorem dX10_within_14 : decode cX10_within 14 = .ok (.iconst 0, 1) := by decide +kernel
theorem dX10_within_15 : decode cX10_within 15 = .ok (.ireturn, 1) := by decide +kernel
theorem dX10_size_0 : decode cX10_size 0 = .ok (.iload_n 0, 1) := by decide +kernel
theorem dX10_size_1 : decode cX10_size 1 = .ok (.ifCond .ge 8, 3) := by decide +kernel
theorem dX10_size_4 : decode cX10_size 4 = .ok (.iload_n 0, 1) := by decide +kernel
theorem dX10_size_5 : decode cX10_size 5 = .ok (.ineg, 1) := by decide +kernel
theorem dX10_size_6 : decode cX10_size 6 = .ok (.goto 4, 3) := by decide +kernel
theorem dX10_size_9 : decode cX10_size 9 = .ok (.iload_n 0, 1) := by decide +kernel
theorem dX10_size_10 : decode cX10_size 10 = .ok (.ireturn, 1) := by decide +kernel
theorem dX10_isPixel_0 : decode cX10_isPixel 0 = .ok (.iload_n 1, 1) := by decide +kernel
theorem dX10_isPixel_1 : decode cX10_isPixel 1 = .ok (.iconst 0, 1) := by decide +kernel
theorem dX10_isPixel_2 : decode cX10_isPixel 2 = .ok (.aload_n 0, 1) := by decide +kernel
theorem dX10_isPixel_3 : decode cX10_isPixel 3 = .ok (.getfield 60, 3) := by decide +kernel
theorem dX10_isPixel_6 : decode cX10_isPixel 6 = .ok (.iconst 1, 1) := by decide +kernel
theorem dX10_isPixel_7 : decode cX10_isPixel 7 = .ok (.isub, 1) := by decide +kernel
theorem dX10_isPixel_8 : decode cX10_isPixel 8 = .ok (.invokestatic 67, 3) := by decide +kernel
theorem dX10_isPixel_11 : decode cX10_isPixel 11 = .ok (.ifCond .eq 21, 3) := by decide +kernel
theorem dX10_isPixel_14 : decode cX10_isPixel 14 = .ok (.iload_n 2, 1) := by decide +kernel
theorem dX10_isPixel_15 : decode cX10_isPixel 15 = .ok (.iconst 0, 1) := by decide +kernel
theorem dX10_isPixel_16 : decode cX10_isPixel 16 = .ok (.aload_n 0, 1) := by decide +kernel
theorem dX10_isPixel_17 : decode cX10_isPixel 17 = .ok (.getfield 64, 3) := by decide +kernel
theorem dX10_isPixel_20 : decode cX10_isPixel 20 = .ok (.iconst 1, 1) := by decide +kernel
theorem dX10_isPixel_21 : decode cX10_isPixel 21 = .ok (.isub, 1) := by decide +kernel
theorem dX10_isPixel_22 : decode cX10_isPixel 22 = .ok (.invokestatic 67, 3) := by decide +kernel
theorem dX10_isPixel_25 : decode cX10_isPixel 25 = .ok (.ifCond .eq 7, 3) := by decide +kernel
theorem dX10_isPixel_28 : decode cX10_isPixel 28 = .ok (.iconst 1, 1) := by decide +kernel
theorem dX10_isPixel_29 : decode cX10_isPixel 29 = .ok (.goto 4, 3) := by decide +kernel
theorem dX10_isPixel_32 : decode cX10_isPixel 32 = .ok (.iconst 0, 1) := by decide +kernel
theorem dX10_isPixel_33 : decode cX10_isPixel 33 = .ok (.ireturn, 1) := by decide +kernel
theorem dX10_noContours_0 : decode cX10_noContours 0 = .ok (.aload_n 0, 1) := by decide +kernel
theorem dX10_noContours_1 : decode cX10_noContours 1 = .ok (.iconst 0, 1) := by decide +kernel
theorem dX10_noContours_2 : decode cX10_noContours 2 = .ok (.putfield 71, 3) := by decide +kernel
theorem dX10_noContours_5 : decode cX10_noContours 5 = .ok (.aload_n 0, 1) := by decide +kernel
theorem dX10_noContours_6 : decode cX10_noContours 6 = .ok (.iconst 0, 1) := by decide +kernel
theorem dX10_noContours_7 : decode cX10_noContours 7 = .ok (.putfield 74, 3) := by decide +kernel
theorem dX10_noContours_10 : decode cX10_noContours 10 = .ok (.aload_n 0, 1) := by decide +kernel
theorem dX10_noContours_11 : decode cX10_noContours 11 = .ok (.iconst 0, 1) := by decide +kernel
theorem dX10_noContours_12 : decode cX10_noContours 12 = .ok (.putfield 77, 3) := by decide +kernel
theorem dX10_noContours_15 : decode cX10_noContours 15 = .ok (.aload_n 0, 1) := by decide +kernel
theorem dX10_noContours_16 : decode cX10_noContours 16 = .ok (.iconst 0, 1) := by decide +kernel
theorem dX10_noContours_17 : decode cX10_noContours 17 = .ok (.putfield 80, 3) := by decide +kernel
theorem dX10_noContours_20 : decode cX10_noContours 20 = .ok (.return_, 1) := by decide +kernel
theorem dX10_reset_0 : decode cX10_reset 0 = .ok (.iload_n 1, 1) := by decide +kernel
theorem dX10_reset_1 : decode cX10_reset 1 = .ok (.iconst 3, 1) := by decide +kernel
theorem dX10_reset_2 : decode cX10_reset 2 = .ok (.bipush 16, 2) := by decide +kernel
theorem dX10_reset_4 : decode cX10_reset 4 = .ok (.invokestatic 67, 3) := by decide +kernel
theorem dX10_reset_7 : decode cX10_reset 7 = .ok (.ifCond .eq 13, 3) := by decide +kernel
theorem dX10_reset_10 : decode cX10_reset 10 = .ok (.iload_n 2, 1) := by decide +kernel
theorem dX10_reset_11 : decode cX10_reset 11 = .ok (.iconst 3, 1) := by decide +kernel
theorem dX10_reset_12 : decode cX10_reset 12 = .ok (.bipush 12, 2) := by decide +kernel
theorem dX10_reset_14 : decode cX10_reset 14 = .ok (.invokestatic 67, 3) := by decide +kernel
theorem dX10_reset_17 : decode cX10_reset 17 = .ok (.ifCond .ne 7, 3) := by decide +kernel
theorem dX10_reset_20 : decode cX10_reset 20 = .ok (.sipush (-1003), 3) := by decide +kernel
theorem dX10_reset_23 : decode cX10_reset 23 = .ok (.ireturn, 1) := by decide +kernel
theorem dX10_reset_24 : decode cX10_reset 24 = .ok (.aload_n 0, 1) := by decide +kernel
theorem dX10_reset_25 : decode cX10_reset 25 = .ok (.iload_n 1, 1) := by decide +kernel
theorem dX10_reset_26 : decode cX10_reset 26 = .ok (.putfield 60, 3) := by decide +kernel
theorem dX10_reset_29 : decode cX10_reset 29 = .ok (.aload_n 0, 1) := by decide +kernel
theorem dX10_reset_30 : decode cX10_reset 30 = .ok (.iload_n 2, 1) := by decide +kernel
theorem dX10_reset_31 : decode cX10_reset 31 = .ok (.putfield 64, 3) := by decide +kernel
theorem dX10_reset_34 : decode cX10_reset 34 = .ok (.iconst 0, 1) := by decide +kernel
theorem dX10_reset_35 : decode cX10_reset 35 = .ok (.istore_n 3, 1) := by decide +kernel
theorem dX10_reset_36 : decode cX10_reset 36 = .ok (.iload_n 3, 1) := by decide +kernel
theorem dX10_reset_37 : decode cX10_reset 37 = .ok (.sipush 192, 3) := by decide +kernel
theorem dX10_reset_40 : decode cX10_reset 40 = .ok (.if_icmp .ge 16, 3) := by decide +kernel
theorem dX10_reset_43 : decode cX10_reset 43 = .ok (.aload_n 0, 1) := by decide +kernel
theorem dX10_reset_44 : decode cX10_reset 44 = .ok (.getfield 7, 3) := by decide +kernel
theorem dX10_reset_47 : decode cX10_reset 47 = .ok (.iload_n 3, 1) := by decide +kernel
theorem dX10_reset_48 : decode cX10_reset 48 = .ok (.iconst 0, 1) := by decide +kernel
theorem dX10_reset_49 : decode cX10_reset 49 = .ok (.iastore, 1) := by decide +kernel
theorem dX10_reset_50 : decode cX10_reset 50 = .ok (.iinc 3 1, 3) := by decide +kernel
theorem dX10_reset_53 : decode cX10_reset 53 = .ok (.goto (-17), 3) := by decide +kernel
theorem dX10_reset_56 : decode cX10_reset 56 = .ok (.aload_n 0, 1) := by decide +kernel
theorem dX10_reset_57 : decode cX10_reset 57 = .ok (.invokevirtual 83, 3) := by decide +kernel
theorem dX10_reset_60 : decode cX10_reset 60 = .ok (.iload_n 1, 1) := by decide +kernel
theorem dX10_reset_61 : decode cX10_reset 61 = .ok (.iload_n 2, 1) := by decide +kernel
theorem dX10_reset_62 : decode cX10_reset 62 = .ok (.imul, 1) := by decide +kernel
theorem dX10_reset_63 : decode cX10_reset 63 = .ok (.ireturn, 1) := by decide +kernel
theorem dX10_isLevel_0 : decode cX10_isLevel 0 = .ok (.iload_n 0, 1) := by decide +kernel
theorem dX10_isLevel_1 : decode cX10_isLevel 1 = .ok (.iconst 0, 1) := by decide +kernel
theorem dX10_isLevel_2 : decode cX10_isLevel 2 = .ok (.bipush 9, 2) := by decide +kernel
theorem dX10_isLevel_4 : decode cX10_isLevel 4 = .ok (.invokestatic 67, 3) := by decide +kernel
theorem dX10_isLevel_7 : decode cX10_isLevel 7 = .ok (.ireturn, 1) := by decide +kernel
theorem dX10_set_0 : decode cX10_set 0 = .ok (.aload_n 0, 1) := by decide +kernel
theorem dX10_set_1 : decode cX10_set 1 = .ok (.iload_n 1, 1) := by decide +kernel
theorem dX10_set_2 : decode cX10_set 2 = .ok (.iload_n 2, 1) := by decide +kernel
theorem dX10_set_3 : decode cX10_set 3 = .ok (.invokevirtual 86, 3) := by decide +kernel
theorem dX10_set_6 : decode cX10_set 6 = .ok (.ifCond .eq 10, 3) := by decide +kernel
theorem dX10_set_9 : decode cX10_set 9 = .ok (.iload_n 3, 1) := by decide +kernel
theorem dX10_set_10 : decode cX10_set 10 = .ok (.invokestatic 90, 3) := by decide +kernel
theorem dX10_set_13 : decode cX10_set 13 = .ok (.ifCond .ne 7, 3) := by decide +kernel
theorem dX10_set_16 : decode cX10_set 16 = .ok (.sipush (-1003), 3) := by decide +kernel
theorem dX10_set_19 : decode cX10_set 19 = .ok (.ireturn, 1) := by decide +kernel
theorem dX10_set_20 : decode cX10_set 20 = .ok (.aload_n 0, 1) := by decide +kernel
theorem dX10_set_21 : decode cX10_set 21 = .ok (.getfield 7, 3) := by decide +kernel
theorem dX10_set_24 : decode cX10_set 24 = .ok (.bipush 16, 2) := by decide +kernel
theorem dX10_set_26 : decode cX10_set 26 = .ok (.iload_n 2, 1) := by decide +kernel
theorem dX10_set_27 : decode cX10_set 27 = .ok (.imul, 1) := by decide +kernel
theorem dX10_set_28 : decode cX10_set 28 = .ok (.iload_n 1, 1) := by decide +kernel
theorem dX10_set_29 : decode cX10_set 29 = .ok (.iadd, 1) := by decide +kernel
theorem dX10_set_30 : decode cX10_set 30 = .ok (.iaload, 1) := by decide +kernel
theorem dX10_set_31 : decode cX10_set 31 = .ok (.istore 4, 2) := by decide +kernel
theorem dX10_set_33 : decode cX10_set 33 = .ok (.aload_n 0, 1) := by decide +kernel
theorem dX10_set_34 : decode cX10_set 34 = .ok (.getfield 7, 3) := by decide +kernel
theorem dX10_set_37 : decode cX10_set 37 = .ok (.bipush 16, 2) := by decide +kernel
theorem dX10_set_39 : decode cX10_set 39 = .ok (.iload_n 2, 1) := by decide +kernel
theorem dX10_set_40 : decode cX10_set 40 = .ok (.imul, 1) := by decide +kernel
theorem dX10_set_41 : decode cX10_set 41 = .ok (.iload_n 1, 1) := by decide +kernel
theorem dX10_set_42 : decode cX10_set 42 = .ok (.iadd, 1) := by decide +kernel
theorem dX10_set_43 : decode cX10_set 43 = .ok (.iload_n 3, 1) := by decide +kernel
theorem dX10_set_44 : decode cX10_set 44 = .ok (.iastore, 1) := by decide +kernel
theorem dX10_set_45 : decode cX10_set 45 = .ok (.iload 4, 2) := by decide +kernel
theorem dX10_set_47 : decode cX10_set 47 = .ok (.ireturn, 1) := by decide +kernel
theorem dX10_fill_0 : decode cX10_fill 0 = .ok (.iload 5, 2) := by decide +kernel
theorem dX10_fill_2 : decode cX10_fill 2 = .ok (.invokestatic 90, 3) := by decide +kernel
theorem dX10_fill_5 : decode cX10_fill 5 = .ok (.ifCond .eq 41, 3) := by decide +kernel
theorem dX10_fill_8 : decode cX10_fill 8 = .ok (.aload_n 0, 1) := by decide +kernel
theorem dX10_fill_9 : decode cX10_fill 9 = .ok (.iload_n 1, 1) := by decide +kernel
theorem dX10_fill_10 : decode cX10_fill 10 = .ok (.iload_n 2, 1) := by decide +kernel
theorem dX10_fill_11 : decode cX10_fill 11 = .ok (.invokevirtual 86, 3) := by decide +kernel
theorem dX10_fill_14 : decode cX10_fill 14 = .ok (.ifCond .eq 32, 3) := by decide +kernel
theorem dX10_fill_17 : decode cX10_fill 17 = .ok (.iload_n 3, 1) := by decide +kernel
theorem dX10_fill_18 : decode cX10_fill 18 = .ok (.iconst 1, 1) := by decide +kernel
theorem dX10_fill_19 : decode cX10_fill 19 = .ok (.aload_n 0, 1) := by decide +kernel
theorem dX10_fill_20 : decode cX10_fill 20 = .ok (.getfield 60, 3) := by decide +kernel
theorem dX10_fill_23 : decode cX10_fill 23 = .ok (.iload_n 1, 1) := by decide +kernel
theorem dX10_fill_24 : decode cX10_fill 24 = .ok (.isub, 1) := by decide +kernel
theorem dX10_fill_25 : decode cX10_fill 25 = .ok (.invokestatic 67, 3) := by decide +kernel
theorem dX10_fill_28 : decode cX10_fill 28 = .ok (.ifCond .eq 18, 3) := by decide +kernel
theorem dX10_fill_31 : decode cX10_fill 31 = .ok (.iload 4, 2) := by decide +kernel
theorem dX10_fill_33 : decode cX10_fill 33 = .ok (.iconst 1, 1) := by decide +kernel
theorem dX10_fill_34 : decode cX10_fill 34 = .ok (.aload_n 0, 1) := by decide +kernel
theorem dX10_fill_35 : decode cX10_fill 35 = .ok (.getfield 64, 3) := by decide +kernel
theorem dX10_fill_38 : decode cX10_fill 38 = .ok (.iload_n 2, 1) := by decide +kernel
theorem dX10_fill_39 : decode cX10_fill 39 = .ok (.isub, 1) := by decide +kernel
theorem dX10_fill_40 : decode cX10_fill 40 = .ok (.invokestatic 67, 3) := by decide +kernel
theorem dX10_fill_43 : decode cX10_fill 43 = .ok (.ifCond .ne 7, 3) := by decide +kernel
theorem dX10_fill_46 : decode cX10_fill 46 = .ok (.sipush (-1003), 3) := by decide +kernel
theorem dX10_fill_49 : decode cX10_fill 49 = .ok (.ireturn, 1) := by decide +kernel
theorem dX10_fill_50 : decode cX10_fill 50 = .ok (.iconst 0, 1) := by decide +kernel
theorem dX10_fill_51 : decode cX10_fill 51 = .ok (.istore 6, 2) := by decide +kernel
theorem dX10_fill_53 : decode cX10_fill 53 = .ok (.iload_n 2, 1) := by decide +kernel
theorem dX10_fill_54 : decode cX10_fill 54 = .ok (.istore 7, 2) := by decide +kernel
theorem dX10_fill_56 : decode cX10_fill 56 = .ok (.iload 7, 2) := by decide +kernel
theorem dX10_fill_58 : decode cX10_fill 58 = .ok (.iload_n 2, 1) := by decide +kernel
theorem dX10_fill_59 : decode cX10_fill 59 = .ok (.iload 4, 2) := by decide +kernel
theorem dX10_fill_61 : decode cX10_fill 61 = .ok (.iadd, 1) := by decide +kernel
theorem dX10_fill_62 : decode cX10_fill 62 = .ok (.if_icmp .ge 51, 3) := by decide +kernel
theorem dX10_fill_65 : decode cX10_fill 65 = .ok (.iload_n 1, 1) := by decide +kernel
theorem dX10_fill_66 : decode cX10_fill 66 = .ok (.istore 8, 2) := by decide +kernel
theorem dX10_fill_68 : decode cX10_fill 68 = .ok (.iload 8, 2) := by decide +kernel
theorem dX10_fill_70 : decode cX10_fill 70 = .ok (.iload_n 1, 1) := by decide +kernel
theorem dX10_fill_71 : decode cX10_fill 71 = .ok (.iload_n 3, 1) := by decide +kernel
theorem dX10_fill_72 : decode cX10_fill 72 = .ok (.iadd, 1) := by decide +kernel
theorem dX10_fill_73 : decode cX10_fill 73 = .ok (.if_icmp .ge 34, 3) := by decide +kernel
theorem dX10_fill_76 : decode cX10_fill 76 = .ok (.iload 6, 2) := by decide +kernel
theorem dX10_fill_78 : decode cX10_fill 78 = .ok (.aload_n 0, 1) := by decide +kernel
theorem dX10_fill_79 : decode cX10_fill 79 = .ok (.iload 8, 2) := by decide +kernel
theorem dX10_fill_81 : decode cX10_fill 81 = .ok (.iload 7, 2) := by decide +kernel
theorem dX10_fill_83 : decode cX10_fill 83 = .ok (.iload 5, 2) := by decide +kernel
theorem dX10_fill_85 : decode cX10_fill 85 = .ok (.invokevirtual 94, 3) := by decide +kernel
theorem dX10_fill_88 : decode cX10_fill 88 = .ok (.iload 5, 2) := by decide +kernel
theorem dX10_fill_90 : decode cX10_fill 90 = .ok (.if_icmp .eq 7, 3) := by decide +kernel
theorem dX10_fill_93 : decode cX10_fill 93 = .ok (.iconst 1, 1) := by decide +kernel
theorem dX10_fill_94 : decode cX10_fill 94 = .ok (.goto 4, 3) := by decide +kernel
theorem dX10_fill_97 : decode cX10_fill 97 = .ok (.iconst 0, 1) := by decide +kernel
theorem dX10_fill_98 : decode cX10_fill 98 = .ok (.iadd, 1) := by decide +kernel
theorem dX10_fill_99 : decode cX10_fill 99 = .ok (.istore 6, 2) := by decide +kernel
theorem dX10_fill_101 : decode cX10_fill 101 = .ok (.iinc 8 1, 3) := by decide +kernel
theorem dX10_fill_104 : decode cX10_fill 104 = .ok (.goto (-36), 3) := by decide +kernel
theorem dX10_fill_107 : decode cX10_fill 107 = .ok (.iinc 7 1, 3) := by decide +kernel
theorem dX10_fill_110 : decode cX10_fill 110 = .ok (.goto (-54), 3) := by decide +kernel
theorem dX10_fill_113 : decode cX10_fill 113 = .ok (.iload 6, 2) := by decide +kernel
theorem dX10_fill_115 : decode cX10_fill 115 = .ok (.ireturn, 1) := by decide +kernel
theorem dX10_isReachedAt_0 : decode cX10_isReachedAt 0 = .ok (.aload_n 0, 1) := by decide +kernel
theorem dX10_isReachedAt_1 : decode cX10_isReachedAt 1 = .ok (.iload_n 1, 1) := by decide +kernel
theorem dX10_isReachedAt_2 : decode cX10_isReachedAt 2 = .ok (.iload_n 2, 1) := by decide +kernel
theorem dX10_isReachedAt_3 : decode cX10_isReachedAt 3 = .ok (.invokevirtual 86, 3) := by decide +kernel
theorem dX10_isReachedAt_6 : decode cX10_isReachedAt 6 = .ok (.ifCond .eq 21, 3) := by decide +kernel
theorem dX10_isReachedAt_9 : decode cX10_isReachedAt 9 = .ok (.aload_n 0, 1) := by decide +kernel
theorem dX10_isReachedAt_10 : decode cX10_isReachedAt 10 = .ok (.getfield 13, 3) := by decide +kernel
theorem dX10_isReachedAt_13 : decode cX10_isReachedAt 13 = .ok (.bipush 16, 2) := by decide +kernel
theorem dX10_isReachedAt_15 : decode cX10_isReachedAt 15 = .ok (.iload_n 2, 1) := by decide +kernel
theorem dX10_isReachedAt_16 : decode cX10_isReachedAt 16 = .ok (.imul, 1) := by decide +kernel
theorem dX10_isReachedAt_17 : decode cX10_isReachedAt 17 = .ok (.iload_n 1, 1) := by decide +kernel
theorem dX10_isReachedAt_18 : decode cX10_isReachedAt 18 = .ok (.iadd, 1) := by decide +kernel
theorem dX10_isReachedAt_19 : decode cX10_isReachedAt 19 = .ok (.baload, 1) := by decide +kernel
theorem dX10_isReachedAt_20 : decode cX10_isReachedAt 20 = .ok (.ifCond .eq 7, 3) := by decide +kernel
theorem dX10_isReachedAt_23 : decode cX10_isReachedAt 23 = .ok (.iconst 1, 1) := by decide +kernel
theorem dX10_isReachedAt_24 : decode cX10_isReachedAt 24 = .ok (.goto 4, 3) := by decide +kernel
theorem dX10_isReachedAt_27 : decode cX10_isReachedAt 27 = .ok (.iconst 0, 1) := by decide +kernel
theorem dX10_isReachedAt_28 : decode cX10_isReachedAt 28 = .ok (.ireturn, 1) := by decide +kernel
theorem dX10_flood_0 : decode cX10_flood 0 = .ok (.aload_n 0, 1) := by decide +kernel
theorem dX10_flood_1 : decode cX10_flood 1 = .ok (.iload_n 1, 1) := by decide +kernel
theorem dX10_flood_2 : decode cX10_flood 2 = .ok (.iload_n 2, 1) := by decide +kernel
theorem dX10_flood_3 : decode cX10_flood 3 = .ok (.invokevirtual 86, 3) := by decide +kernel
theorem dX10_flood_6 : decode cX10_flood 6 = .ok (.ifCond .eq 10, 3) := by decide +kernel
theorem dX10_flood_9 : decode cX10_flood 9 = .ok (.iload_n 3, 1) := by decide +kernel
theorem dX10_flood_10 : decode cX10_flood 10 = .ok (.invokestatic 90, 3) := by decide +kernel
theorem dX10_flood_13 : decode cX10_flood 13 = .ok (.ifCond .ne 7, 3) := by decide +kernel
theorem dX10_flood_16 : decode cX10_flood 16 = .ok (.sipush (-1003), 3) := by decide +kernel
theorem dX10_flood_19 : decode cX10_flood 19 = .ok (.ireturn, 1) := by decide +kernel
theorem dX10_flood_20 : decode cX10_flood 20 = .ok (.aload_n 0, 1) := by decide +kernel
theorem dX10_flood_21 : decode cX10_flood 21 = .ok (.getfield 7, 3) := by decide +kernel
theorem dX10_flood_24 : decode cX10_flood 24 = .ok (.bipush 16, 2) := by decide +kernel
theorem dX10_flood_26 : decode cX10_flood 26 = .ok (.iload_n 2, 1) := by decide +kernel
theorem dX10_flood_27 : decode cX10_flood 27 = .ok (.imul, 1) := by decide +kernel
theorem dX10_flood_28 : decode cX10_flood 28 = .ok (.iload_n 1, 1) := by decide +kernel
theorem dX10_flood_29 : decode cX10_flood 29 = .ok (.iadd, 1) := by decide +kernel
theorem dX10_flood_30 : decode cX10_flood 30 = .ok (.iaload, 1) := by decide +kernel
theorem dX10_flood_31 : decode cX10_flood 31 = .ok (.istore 4, 2) := by decide +kernel
theorem dX10_flood_33 : decode cX10_flood 33 = .ok (.iconst 0, 1) := by decide +kernel
theorem dX10_flood_34 : decode cX10_flood 34 = .ok (.istore 5, 2) := by decide +kernel
theorem dX10_flood_36 : decode cX10_flood 36 = .ok (.iload 5, 2) := by decide +kernel
theorem dX10_flood_38 : decode cX10_flood 38 = .ok (.sipush 192, 3) := by decide +kernel
theorem dX10_flood_41 : decode cX10_flood 41 = .ok (.if_icmp .ge 32, 3) := by decide +kernel
theorem dX10_flood_44 : decode cX10_flood 44 = .ok (.aload_n 0, 1) := by decide +kernel
theorem dX10_flood_45 : decode cX10_flood 45 = .ok (.getfield 13, 3) := by decide +kernel
theorem dX10_flood_48 : decode cX10_flood 48 = .ok (.iload 5, 2) := by decide +kernel
theorem dX10_flood_50 : decode cX10_flood 50 = .ok (.iload 5, 2) := by decide +kernel
theorem dX10_flood_52 : decode cX10_flood 52 = .ok (.bipush 16, 2) := by decide +kernel
theorem dX10_flood_54 : decode cX10_flood 54 = .ok (.iload_n 2, 1) := by decide +kernel
theorem dX10_flood_55 : decode cX10_flood 55 = .ok (.imul, 1) := by decide +kernel
theorem dX10_flood_56 : decode cX10_flood 56 = .ok (.iload_n 1, 1) := by decide +kernel
theorem dX10_flood_57 : decode cX10_flood 57 = .ok (.iadd, 1) := by decide +kernel
theorem dX10_flood_58 : decode cX10_flood 58 = .ok (.if_icmp .ne 7, 3) := by decide +kernel
theorem dX10_flood_61 : decode cX10_flood 61 = .ok (.iconst 1, 1) := by decide +kernel
theorem dX10_flood_62 : decode cX10_flood 62 = .ok (.goto 4, 3) := by decide +kernel
theorem dX10_flood_65 : decode cX10_flood 65 = .ok (.iconst 0, 1) := by decide +kernel
theorem dX10_flood_66 : decode cX10_flood 66 = .ok (.bastore, 1) := by decide +kernel
theorem dX10_flood_67 : decode cX10_flood 67 = .ok (.iinc 5 1, 3) := by decide +kernel
theorem dX10_flood_70 : decode cX10_flood 70 = .ok (.goto (-34), 3) := by decide +kernel
theorem dX10_flood_73 : decode cX10_flood 73 = .ok (.iconst 1, 1) := by decide +kernel
theorem dX10_flood_74 : decode cX10_flood 74 = .ok (.istore 5, 2) := by decide +kernel
theorem dX10_flood_76 : decode cX10_flood 76 = .ok (.iload 5, 2) := by decide +kernel
theorem dX10_flood_78 : decode cX10_flood 78 = .ok (.ifCond .eq 176, 3) := by decide +kernel
theorem dX10_flood_81 : decode cX10_flood 81 = .ok (.iconst 0, 1) := by decide +kernel
theorem dX10_flood_82 : decode cX10_flood 82 = .ok (.istore 5, 2) := by decide +kernel
theorem dX10_flood_84 : decode cX10_flood 84 = .ok (.iconst 0, 1) := by decide +kernel
theorem dX10_flood_85 : decode cX10_flood 85 = .ok (.istore 6, 2) := by decide +kernel
theorem dX10_flood_87 : decode cX10_flood 87 = .ok (.iload 6, 2) := by decide +kernel
theorem dX10_flood_89 : decode cX10_flood 89 = .ok (.sipush 192, 3) := by decide +kernel
theorem dX10_flood_92 : decode cX10_flood 92 = .ok (.if_icmp .ge 159, 3) := by decide +kernel
theorem dX10_flood_95 : decode cX10_flood 95 = .ok (.iload 6, 2) := by decide +kernel
theorem dX10_flood_97 : decode cX10_flood 97 = .ok (.bipush 16, 2) := by decide +kernel
theorem dX10_flood_99 : decode cX10_flood 99 = .ok (.irem, 1) := by decide +kernel
theorem dX10_flood_100 : decode cX10_flood 100 = .ok (.istore 7, 2) := by decide +kernel
theorem dX10_flood_102 : decode cX10_flood 102 = .ok (.iload 6, 2) := by decide +kernel
theorem dX10_flood_104 : decode cX10_flood 104 = .ok (.bipush 16, 2) := by decide +kernel
theorem dX10_flood_106 : decode cX10_flood 106 = .ok (.idiv, 1) := by decide +kernel
theorem dX10_flood_107 : decode cX10_flood 107 = .ok (.istore 8, 2) := by decide +kernel
theorem dX10_flood_109 : decode cX10_flood 109 = .ok (.aload_n 0, 1) := by decide +kernel
theorem dX10_flood_110 : decode cX10_flood 110 = .ok (.iload 7, 2) := by decide +kernel
theorem dX10_flood_112 : decode cX10_flood 112 = .ok (.iload 8, 2) := by decide +kernel
theorem dX10_flood_114 : decode cX10_flood 114 = .ok (.invokevirtual 86, 3) := by decide +kernel
theorem dX10_flood_117 : decode cX10_flood 117 = .ok (.ifCond .eq 81, 3) := by decide +kernel
theorem dX10_flood_120 : decode cX10_flood 120 = .ok (.aload_n 0, 1) := by decide +kernel
theorem dX10_flood_121 : decode cX10_flood 121 = .ok (.getfield 13, 3) := by decide +kernel
theorem dX10_flood_124 : decode cX10_flood 124 = .ok (.iload 6, 2) := by decide +kernel
theorem dX10_flood_126 : decode cX10_flood 126 = .ok (.baload, 1) := by decide +kernel
theorem dX10_flood_127 : decode cX10_flood 127 = .ok (.ifCond .ne 71, 3) := by decide +kernel
theorem dX10_flood_130 : decode cX10_flood 130 = .ok (.aload_n 0, 1) := by decide +kernel
theorem dX10_flood_131 : decode cX10_flood 131 = .ok (.getfield 7, 3) := by decide +kernel
theorem dX10_flood_134 : decode cX10_flood 134 = .ok (.iload 6, 2) := by decide +kernel
theorem dX10_flood_136 : decode cX10_flood 136 = .ok (.iaload, 1) := by decide +kernel
theorem dX10_flood_137 : decode cX10_flood 137 = .ok (.iload 4, 2) := by decide +kernel
theorem dX10_flood_139 : decode cX10_flood 139 = .ok (.if_icmp .ne 59, 3) := by decide +kernel
theorem dX10_flood_142 : decode cX10_flood 142 = .ok (.aload_n 0, 1) := by decide +kernel
theorem dX10_flood_143 : decode cX10_flood 143 = .ok (.iload 7, 2) := by decide +kernel
theorem dX10_flood_145 : decode cX10_flood 145 = .ok (.iconst 1, 1) := by decide +kernel
theorem dX10_flood_146 : decode cX10_flood 146 = .ok (.isub, 1) := by decide +kernel
theorem dX10_flood_147 : decode cX10_flood 147 = .ok (.iload 8, 2) := by decide +kernel
theorem dX10_flood_149 : decode cX10_flood 149 = .ok (.invokevirtual 98, 3) := by decide +kernel
theorem dX10_flood_152 : decode cX10_flood 152 = .ok (.ifCond .ne 42, 3) := by decide +kernel
theorem dX10_flood_155 : decode cX10_flood 155 = .ok (.aload_n 0, 1) := by decide +kernel
theorem dX10_flood_156 : decode cX10_flood 156 = .ok (.iload 7, 2) := by decide +kernel
theorem dX10_flood_158 : decode cX10_flood 158 = .ok (.iconst 1, 1) := by decide +kernel
theorem dX10_flood_159 : decode cX10_flood 159 = .ok (.iadd, 1) := by decide +kernel
theorem dX10_flood_160 : decode cX10_flood 160 = .ok (.iload 8, 2) := by decide +kernel
theorem dX10_flood_162 : decode cX10_flood 162 = .ok (.invokevirtual 98, 3) := by decide +kernel
theorem dX10_flood_165 : decode cX10_flood 165 = .ok (.ifCond .ne 29, 3) := by decide +kernel
theorem dX10_flood_168 : decode cX10_flood 168 = .ok (.aload_n 0, 1) := by decide +kernel
theorem dX10_flood_169 : decode cX10_flood 169 = .ok (.iload 7, 2) := by decide +kernel
theorem dX10_flood_171 : decode cX10_flood 171 = .ok (.iload 8, 2) := by decide +kernel
theorem dX10_flood_173 : decode cX10_flood 173 = .ok (.iconst 1, 1) := by decide +kernel
theorem dX10_flood_174 : decode cX10_flood 174 = .ok (.isub, 1) := by decide +kernel
theorem dX10_flood_175 : decode cX10_flood 175 = .ok (.invokevirtual 98, 3) := by decide +kernel
theorem dX10_flood_178 : decode cX10_flood 178 = .ok (.ifCond .ne 16, 3) := by decide +kernel
theorem dX10_flood_181 : decode cX10_flood 181 = .ok (.aload_n 0, 1) := by decide +kernel
theorem dX10_flood_182 : decode cX10_flood 182 = .ok (.iload 7, 2) := by decide +kernel
theorem dX10_flood_184 : decode cX10_flood 184 = .ok (.iload 8, 2) := by decide +kernel
theorem dX10_flood_186 : decode cX10_flood 186 = .ok (.iconst 1, 1) := by decide +kernel
theorem dX10_flood_187 : decode cX10_flood 187 = .ok (.iadd, 1) := by decide +kernel
theorem dX10_flood_188 : decode cX10_flood 188 = .ok (.invokevirtual 98, 3) := by decide +kernel
theorem dX10_flood_191 : decode cX10_flood 191 = .ok (.ifCond .eq 7, 3) := by decide +kernel
theorem dX10_flood_194 : decode cX10_flood 194 = .ok (.iconst 1, 1) := by decide +kernel
theorem dX10_flood_195 : decode cX10_flood 195 = .ok (.goto 4, 3) := by decide +kernel
theorem dX10_flood_198 : decode cX10_flood 198 = .ok (.iconst 0, 1) := by decide +kernel
theorem dX10_flood_199 : decode cX10_flood 199 = .ok (.istore 9, 2) := by decide +kernel
theorem dX10_flood_201 : decode cX10_flood 201 = .ok (.aload_n 0, 1) := by decide +kernel
theorem dX10_flood_202 : decode cX10_flood 202 = .ok (.getfield 13, 3) := by decide +kernel
theorem dX10_flood_205 : decode cX10_flood 205 = .ok (.iload 6, 2) := by decide +kernel
theorem dX10_flood_207 : decode cX10_flood 207 = .ok (.aload_n 0, 1) := by decide +kernel
theorem dX10_flood_208 : decode cX10_flood 208 = .ok (.getfield 13, 3) := by decide +kernel
theorem dX10_flood_211 : decode cX10_flood 211 = .ok (.iload 6, 2) := by decide +kernel
theorem dX10_flood_213 : decode cX10_flood 213 = .ok (.baload, 1) := by decide +kernel
theorem dX10_flood_214 : decode cX10_flood 214 = .ok (.ifCond .ne 8, 3) := by decide +kernel
theorem dX10_flood_217 : decode cX10_flood 217 = .ok (.iload 9, 2) := by decide +kernel
theorem dX10_flood_219 : decode cX10_flood 219 = .ok (.ifCond .eq 7, 3) := by decide +kernel
theorem dX10_flood_222 : decode cX10_flood 222 = .ok (.iconst 1, 1) := by decide +kernel
theorem dX10_flood_223 : decode cX10_flood 223 = .ok (.goto 4, 3) := by decide +kernel
theorem dX10_flood_226 : decode cX10_flood 226 = .ok (.iconst 0, 1) := by decide +kernel
theorem dX10_flood_227 : decode cX10_flood 227 = .ok (.bastore, 1) := by decide +kernel
theorem dX10_flood_228 : decode cX10_flood 228 = .ok (.iload 5, 2) := by decide +kernel
theorem dX10_flood_230 : decode cX10_flood 230 = .ok (.ifCond .ne 8, 3) := by decide +kernel
theorem dX10_flood_233 : decode cX10_flood 233 = .ok (.iload 9, 2) := by decide +kernel
theorem dX10_flood_235 : decode cX10_flood 235 = .ok (.ifCond .eq 7, 3) := by decide +kernel
theorem dX10_flood_238 : decode cX10_flood 238 = .ok (.iconst 1, 1) := by decide +kernel
theorem dX10_flood_239 : decode cX10_flood 239 = .ok (.goto 4, 3) := by decide +kernel
theorem dX10_flood_242 : decode cX10_flood 242 = .ok (.iconst 0, 1) := by decide +kernel
theorem dX10_flood_243 : decode cX10_flood 243 = .ok (.istore 5, 2) := by decide +kernel
theorem dX10_flood_245 : decode cX10_flood 245 = .ok (.iinc 6 1, 3) := by decide +kernel
theorem dX10_flood_248 : decode cX10_flood 248 = .ok (.goto (-161), 3) := by decide +kernel
theorem dX10_flood_251 : decode cX10_flood 251 = .ok (.goto (-175), 3) := by decide +kernel
theorem dX10_flood_254 : decode cX10_flood 254 = .ok (.iconst 0, 1) := by decide +kernel
theorem dX10_flood_255 : decode cX10_flood 255 = .ok (.istore 6, 2) := by decide +kernel
theorem dX10_flood_257 : decode cX10_flood 257 = .ok (.iconst 0, 1) := by decide +kernel
theorem dX10_flood_258 : decode cX10_flood 258 = .ok (.istore 7, 2) := by decide +kernel
theorem dX10_flood_260 : decode cX10_flood 260 = .ok (.iload 7, 2) := by decide +kernel
theorem dX10_flood_262 : decode cX10_flood 262 = .ok (.sipush 192, 3) := by decide +kernel
theorem dX10_flood_265 : decode cX10_flood 265 = .ok (.if_icmp .ge 63, 3) := by decide +kernel
theorem dX10_flood_268 : decode cX10_flood 268 = .ok (.iload 6, 2) := by decide +kernel
theorem dX10_flood_270 : decode cX10_flood 270 = .ok (.aload_n 0, 1) := by decide +kernel
theorem dX10_flood_271 : decode cX10_flood 271 = .ok (.getfield 13, 3) := by decide +kernel
theorem dX10_flood_274 : decode cX10_flood 274 = .ok (.iload 7, 2) := by decide +kernel
theorem dX10_flood_276 : decode cX10_flood 276 = .ok (.baload, 1) := by decide +kernel
theorem dX10_flood_277 : decode cX10_flood 277 = .ok (.ifCond .eq 13, 3) := by decide +kernel
theorem dX10_flood_280 : decode cX10_flood 280 = .ok (.iload 4, 2) := by decide +kernel
theorem dX10_flood_282 : decode cX10_flood 282 = .ok (.iload_n 3, 1) := by decide +kernel
theorem dX10_flood_283 : decode cX10_flood 283 = .ok (.if_icmp .eq 7, 3) := by decide +kernel
theorem dX10_flood_286 : decode cX10_flood 286 = .ok (.iconst 1, 1) := by decide +kernel
theorem dX10_flood_287 : decode cX10_flood 287 = .ok (.goto 4, 3) := by decide +kernel
theorem dX10_flood_290 : decode cX10_flood 290 = .ok (.iconst 0, 1) := by decide +kernel
theorem dX10_flood_291 : decode cX10_flood 291 = .ok (.iadd, 1) := by decide +kernel
theorem dX10_flood_292 : decode cX10_flood 292 = .ok (.istore 6, 2) := by decide +kernel
theorem dX10_flood_294 : decode cX10_flood 294 = .ok (.aload_n 0, 1) := by decide +kernel
theorem dX10_flood_295 : decode cX10_flood 295 = .ok (.getfield 7, 3) := by decide +kernel
theorem dX10_flood_298 : decode cX10_flood 298 = .ok (.iload 7, 2) := by decide +kernel
theorem dX10_flood_300 : decode cX10_flood 300 = .ok (.aload_n 0, 1) := by decide +kernel
theorem dX10_flood_301 : decode cX10_flood 301 = .ok (.getfield 13, 3) := by decide +kernel
theorem dX10_flood_304 : decode cX10_flood 304 = .ok (.iload 7, 2) := by decide +kernel
theorem dX10_flood_306 : decode cX10_flood 306 = .ok (.baload, 1) := by decide +kernel
theorem dX10_flood_307 : decode cX10_flood 307 = .ok (.ifCond .eq 7, 3) := by decide +kernel
theorem dX10_flood_310 : decode cX10_flood 310 = .ok (.iload_n 3, 1) := by decide +kernel
theorem dX10_flood_311 : decode cX10_flood 311 = .ok (.goto 10, 3) := by decide +kernel
theorem dX10_flood_314 : decode cX10_flood 314 = .ok (.aload_n 0, 1) := by decide +kernel
theorem dX10_flood_315 : decode cX10_flood 315 = .ok (.getfield 7, 3) := by decide +kernel
theorem dX10_flood_318 : decode cX10_flood 318 = .ok (.iload 7, 2) := by decide +kernel
theorem dX10_flood_320 : decode cX10_flood 320 = .ok (.iaload, 1) := by decide +kernel
theorem dX10_flood_321 : decode cX10_flood 321 = .ok (.iastore, 1) := by decide +kernel
theorem dX10_flood_322 : decode cX10_flood 322 = .ok (.iinc 7 1, 3) := by decide +kernel
theorem dX10_flood_325 : decode cX10_flood 325 = .ok (.goto (-65), 3) := by decide +kernel
theorem dX10_flood_328 : decode cX10_flood 328 = .ok (.iload 6, 2) := by decide +kernel
theorem dX10_flood_330 : decode cX10_flood 330 = .ok (.ireturn, 1) := by decide +kernel
theorem dX10_level_0 : decode cX10_level 0 = .ok (.aload_n 0, 1) := by decide +kernel
theorem dX10_level_1 : decode cX10_level 1 = .ok (.iload_n 1, 1) := by decide +kernel
theorem dX10_level_2 : decode cX10_level 2 = .ok (.iload_n 2, 1) := by decide +kernel
theorem dX10_level_3 : decode cX10_level 3 = .ok (.invokevirtual 86, 3) := by decide +kernel
theorem dX10_level_6 : decode cX10_level 6 = .ok (.ifCond .eq 17, 3) := by decide +kernel
theorem dX10_level_9 : decode cX10_level 9 = .ok (.aload_n 0, 1) := by decide +kernel
theorem dX10_level_10 : decode cX10_level 10 = .ok (.getfield 7, 3) := by decide +kernel
theorem dX10_level_13 : decode cX10_level 13 = .ok (.bipush 16, 2) := by decide +kernel
theorem dX10_level_15 : decode cX10_level 15 = .ok (.iload_n 2, 1) := by decide +kernel
theorem dX10_level_16 : decode cX10_level 16 = .ok (.imul, 1) := by decide +kernel
theorem dX10_level_17 : decode cX10_level 17 = .ok (.iload_n 1, 1) := by decide +kernel
theorem dX10_level_18 : decode cX10_level 18 = .ok (.iadd, 1) := by decide +kernel
theorem dX10_level_19 : decode cX10_level 19 = .ok (.iaload, 1) := by decide +kernel
theorem dX10_level_20 : decode cX10_level 20 = .ok (.goto 6, 3) := by decide +kernel
theorem dX10_level_23 : decode cX10_level 23 = .ok (.sipush (-1003), 3) := by decide +kernel
theorem dX10_level_26 : decode cX10_level 26 = .ok (.ireturn, 1) := by decide +kernel
theorem dX10_type_0 : decode cX10_type 0 = .ok (.aload_n 0, 1) := by decide +kernel
theorem dX10_type_1 : decode cX10_type 1 = .ok (.getfield 101, 3) := by decide +kernel
theorem dX10_type_4 : decode cX10_type 4 = .ok (.sipush 200, 3) := by decide +kernel
theorem dX10_type_7 : decode cX10_type 7 = .ok (.if_icmp .ne 7, 3) := by decide +kernel
theorem dX10_type_10 : decode cX10_type 10 = .ok (.sipush (-1005), 3) := by decide +kernel
theorem dX10_type_13 : decode cX10_type 13 = .ok (.ireturn, 1) := by decide +kernel
theorem dX10_type_14 : decode cX10_type 14 = .ok (.aload_n 0, 1) := by decide +kernel
theorem dX10_type_15 : decode cX10_type 15 = .ok (.getfield 17, 3) := by decide +kernel
theorem dX10_type_18 : decode cX10_type 18 = .ok (.aload_n 0, 1) := by decide +kernel
theorem dX10_type_19 : decode cX10_type 19 = .ok (.getfield 101, 3) := by decide +kernel
theorem dX10_type_22 : decode cX10_type 22 = .ok (.iload_n 1, 1) := by decide +kernel
theorem dX10_type_23 : decode cX10_type 23 = .ok (.castore, 1) := by decide +kernel
theorem dX10_type_24 : decode cX10_type 24 = .ok (.aload_n 0, 1) := by decide +kernel
theorem dX10_type_25 : decode cX10_type 25 = .ok (.dup, 1) := by decide +kernel
theorem dX10_type_26 : decode cX10_type 26 = .ok (.getfield 101, 3) := by decide +kernel
theorem dX10_type_29 : decode cX10_type 29 = .ok (.iconst 1, 1) := by decide +kernel
theorem dX10_type_30 : decode cX10_type 30 = .ok (.iadd, 1) := by decide +kernel
theorem dX10_type_31 : decode cX10_type 31 = .ok (.putfield 101, 3) := by decide +kernel
theorem dX10_type_34 : decode cX10_type 34 = .ok (.aload_n 0, 1) := by decide +kernel
theorem dX10_type_35 : decode cX10_type 35 = .ok (.getfield 101, 3) := by decide +kernel
theorem dX10_type_38 : decode cX10_type 38 = .ok (.ireturn, 1) := by decide +kernel
theorem dX10_clearText_0 : decode cX10_clearText 0 = .ok (.aload_n 0, 1) := by decide +kernel
theorem dX10_clearText_1 : decode cX10_clearText 1 = .ok (.getfield 101, 3) := by decide +kernel
theorem dX10_clearText_4 : decode cX10_clearText 4 = .ok (.istore_n 1, 1) := by decide +kernel
theorem dX10_clearText_5 : decode cX10_clearText 5 = .ok (.aload_n 0, 1) := by decide +kernel
theorem dX10_clearText_6 : decode cX10_clearText 6 = .ok (.iconst 0, 1) := by decide +kernel
theorem dX10_clearText_7 : decode cX10_clearText 7 = .ok (.putfield 101, 3) := by decide +kernel
theorem dX10_clearText_10 : decode cX10_clearText 10 = .ok (.iload_n 1, 1) := by decide +kernel
theorem dX10_clearText_11 : decode cX10_clearText 11 = .ok (.ireturn, 1) := by decide +kernel
theorem dX10_reads_0 : decode cX10_reads 0 = .ok (.iconst 0, 1) := by decide +kernel
theorem dX10_reads_1 : decode cX10_reads 1 = .ok (.istore_n 1, 1) := by decide +kernel
theorem dX10_reads_2 : decode cX10_reads 2 = .ok (.iload_n 1, 1) := by decide +kernel
theorem dX10_reads_3 : decode cX10_reads 3 = .ok (.sipush 192, 3) := by decide +kernel
theorem dX10_reads_6 : decode cX10_reads 6 = .ok (.if_icmp .ge 16, 3) := by decide +kernel
theorem dX10_reads_9 : decode cX10_reads 9 = .ok (.aload_n 0, 1) := by decide +kernel
theorem dX10_reads_10 : decode cX10_reads 10 = .ok (.getfield 21, 3) := by decide +kernel
theorem dX10_reads_13 : decode cX10_reads 13 = .ok (.iload_n 1, 1) := by decide +kernel
theorem dX10_reads_14 : decode cX10_reads 14 = .ok (.iconst 0, 1) := by decide +kernel
theorem dX10_reads_15 : decode cX10_reads 15 = .ok (.iastore, 1) := by decide +kernel
theorem dX10_reads_16 : decode cX10_reads 16 = .ok (.iinc 1 1, 3) := by decide +kernel
theorem dX10_reads_19 : decode cX10_reads 19 = .ok (.goto (-17), 3) := by decide +kernel
theorem dX10_reads_22 : decode cX10_reads 22 = .ok (.iconst 0, 1) := by decide +kernel
theorem dX10_reads_23 : decode cX10_reads 23 = .ok (.istore_n 1, 1) := by decide +kernel
theorem dX10_reads_24 : decode cX10_reads 24 = .ok (.iconst 0, 1) := by decide +kernel
theorem dX10_reads_25 : decode cX10_reads 25 = .ok (.istore_n 2, 1) := by decide +kernel
theorem dX10_reads_26 : decode cX10_reads 26 = .ok (.iconst 0, 1) := by decide +kernel
theorem dX10_reads_27 : decode cX10_reads 27 = .ok (.istore_n 3, 1) := by decide +kernel
theorem dX10_reads_28 : decode cX10_reads 28 = .ok (.iconst 0, 1) := by decide +kernel
theorem dX10_reads_29 : decode cX10_reads 29 = .ok (.istore 4, 2) := by decide +kernel
theorem dX10_reads_31 : decode cX10_reads 31 = .ok (.iload 4, 2) := by decide +kernel
theorem dX10_reads_33 : decode cX10_reads 33 = .ok (.aload_n 0, 1) := by decide +kernel
theorem dX10_reads_34 : decode cX10_reads 34 = .ok (.getfield 101, 3) := by decide +kernel
theorem dX10_reads_37 : decode cX10_reads 37 = .ok (.if_icmp .ge 159, 3) := by decide +kernel
theorem dX10_reads_40 : decode cX10_reads 40 = .ok (.aload_n 0, 1) := by decide +kernel
theorem dX10_reads_41 : decode cX10_reads 41 = .ok (.getfield 17, 3) := by decide +kernel
theorem dX10_reads_44 : decode cX10_reads 44 = .ok (.iload 4, 2) := by decide +kernel
theorem dX10_reads_46 : decode cX10_reads 46 = .ok (.caload, 1) := by decide +kernel
theorem dX10_reads_47 : decode cX10_reads 47 = .ok (.istore 5, 2) := by decide +kernel
theorem dX10_reads_49 : decode cX10_reads 49 = .ok (.iload 5, 2) := by decide +kernel
theorem dX10_reads_51 : decode cX10_reads 51 = .ok (.bipush 47, 2) := by decide +kernel
theorem dX10_reads_53 : decode cX10_reads 53 = .ok (.if_icmp .ne 28, 3) := by decide +kernel
theorem dX10_reads_56 : decode cX10_reads 56 = .ok (.iload_n 3, 1) := by decide +kernel
theorem dX10_reads_57 : decode cX10_reads 57 = .ok (.ifCond .gt 13, 3) := by decide +kernel
theorem dX10_reads_60 : decode cX10_reads 60 = .ok (.iload_n 2, 1) := by decide +kernel
theorem dX10_reads_61 : decode cX10_reads 61 = .ok (.aload_n 0, 1) := by decide +kernel
theorem dX10_reads_62 : decode cX10_reads 62 = .ok (.getfield 64, 3) := by decide +kernel
theorem dX10_reads_65 : decode cX10_reads 65 = .ok (.iconst 1, 1) := by decide +kernel
theorem dX10_reads_66 : decode cX10_reads 66 = .ok (.isub, 1) := by decide +kernel
theorem dX10_reads_67 : decode cX10_reads 67 = .ok (.if_icmp .ne 6, 3) := by decide +kernel
theorem dX10_reads_70 : decode cX10_reads 70 = .ok (.iload 4, 2) := by decide +kernel
theorem dX10_reads_72 : decode cX10_reads 72 = .ok (.ireturn, 1) := by decide +kernel
theorem dX10_reads_73 : decode cX10_reads 73 = .ok (.iconst 0, 1) := by decide +kernel
theorem dX10_reads_74 : decode cX10_reads 74 = .ok (.istore_n 1, 1) := by decide +kernel
theorem dX10_reads_75 : decode cX10_reads 75 = .ok (.iinc 2 1, 3) := by decide +kernel
theorem dX10_reads_78 : decode cX10_reads 78 = .ok (.goto 112, 3) := by decide +kernel
theorem dX10_reads_81 : decode cX10_reads 81 = .ok (.iload 5, 2) := by decide +kernel
theorem dX10_reads_83 : decode cX10_reads 83 = .ok (.bipush 48, 2) := by decide +kernel
theorem dX10_reads_85 : decode cX10_reads 85 = .ok (.bipush 57, 2) := by decide +kernel
theorem dX10_reads_87 : decode cX10_reads 87 = .ok (.invokestatic 67, 3) := by decide +kernel
theorem dX10_reads_90 : decode cX10_reads 90 = .ok (.ifCond .eq 31, 3) := by decide +kernel
theorem dX10_reads_93 : decode cX10_reads 93 = .ok (.bipush 10, 2) := by decide +kernel
theorem dX10_reads_95 : decode cX10_reads 95 = .ok (.iload_n 3, 1) := by decide +kernel
theorem dX10_reads_96 : decode cX10_reads 96 = .ok (.imul, 1) := by decide +kernel
theorem dX10_reads_97 : decode cX10_reads 97 = .ok (.iload 5, 2) := by decide +kernel
theorem dX10_reads_99 : decode cX10_reads 99 = .ok (.iadd, 1) := by decide +kernel
theorem dX10_reads_100 : decode cX10_reads 100 = .ok (.bipush 48, 2) := by decide +kernel
theorem dX10_reads_102 : decode cX10_reads 102 = .ok (.isub, 1) := by decide +kernel
theorem dX10_reads_103 : decode cX10_reads 103 = .ok (.istore_n 3, 1) := by decide +kernel
theorem dX10_reads_104 : decode cX10_reads 104 = .ok (.iload_n 3, 1) := by decide +kernel
theorem dX10_reads_105 : decode cX10_reads 105 = .ok (.ifCond .eq 13, 3) := by decide +kernel
theorem dX10_reads_108 : decode cX10_reads 108 = .ok (.iload_n 3, 1) := by decide +kernel
theorem dX10_reads_109 : decode cX10_reads 109 = .ok (.aload_n 0, 1) := by decide +kernel
theorem dX10_reads_110 : decode cX10_reads 110 = .ok (.getfield 60, 3) := by decide +kernel
theorem dX10_reads_113 : decode cX10_reads 113 = .ok (.iload_n 1, 1) := by decide +kernel
theorem dX10_reads_114 : decode cX10_reads 114 = .ok (.isub, 1) := by decide +kernel
theorem dX10_reads_115 : decode cX10_reads 115 = .ok (.if_icmp .le 75, 3) := by decide +kernel
theorem dX10_reads_118 : decode cX10_reads 118 = .ok (.iload 4, 2) := by decide +kernel
theorem dX10_reads_120 : decode cX10_reads 120 = .ok (.ireturn, 1) := by decide +kernel
theorem dX10_reads_121 : decode cX10_reads 121 = .ok (.iload 5, 2) := by decide +kernel
theorem dX10_reads_123 : decode cX10_reads 123 = .ok (.bipush 97, 2) := by decide +kernel
theorem dX10_reads_125 : decode cX10_reads 125 = .ok (.bipush 106, 2) := by decide +kernel
theorem dX10_reads_127 : decode cX10_reads 127 = .ok (.invokestatic 67, 3) := by decide +kernel
theorem dX10_reads_130 : decode cX10_reads 130 = .ok (.ifCond .eq 57, 3) := by decide +kernel
theorem dX10_reads_133 : decode cX10_reads 133 = .ok (.iload_n 1, 1) := by decide +kernel
theorem dX10_reads_134 : decode cX10_reads 134 = .ok (.aload_n 0, 1) := by decide +kernel
theorem dX10_reads_135 : decode cX10_reads 135 = .ok (.getfield 60, 3) := by decide +kernel
theorem dX10_reads_138 : decode cX10_reads 138 = .ok (.if_icmp .ge 49, 3) := by decide +kernel
theorem dX10_reads_141 : decode cX10_reads 141 = .ok (.iload_n 1, 1) := by decide +kernel
theorem dX10_reads_142 : decode cX10_reads 142 = .ok (.iload_n 3, 1) := by decide +kernel
theorem dX10_reads_143 : decode cX10_reads 143 = .ok (.ifCond .ne 7, 3) := by decide +kernel
theorem dX10_reads_146 : decode cX10_reads 146 = .ok (.iconst 1, 1) := by decide +kernel
theorem dX10_reads_147 : decode cX10_reads 147 = .ok (.goto 4, 3) := by decide +kernel
theorem dX10_reads_150 : decode cX10_reads 150 = .ok (.iload_n 3, 1) := by decide +kernel
theorem dX10_reads_151 : decode cX10_reads 151 = .ok (.iadd, 1) := by decide +kernel
theorem dX10_reads_152 : decode cX10_reads 152 = .ok (.istore 6, 2) := by decide +kernel
theorem dX10_reads_154 : decode cX10_reads 154 = .ok (.iload_n 1, 1) := by decide +kernel
theorem dX10_reads_155 : decode cX10_reads 155 = .ok (.iload 6, 2) := by decide +kernel
theorem dX10_reads_157 : decode cX10_reads 157 = .ok (.if_icmp .ge 25, 3) := by decide +kernel
theorem dX10_reads_160 : decode cX10_reads 160 = .ok (.aload_n 0, 1) := by decide +kernel
theorem dX10_reads_161 : decode cX10_reads 161 = .ok (.getfield 21, 3) := by decide +kernel
theorem dX10_reads_164 : decode cX10_reads 164 = .ok (.bipush 16, 2) := by decide +kernel
theorem dX10_reads_166 : decode cX10_reads 166 = .ok (.iload_n 2, 1) := by decide +kernel
theorem dX10_reads_167 : decode cX10_reads 167 = .ok (.imul, 1) := by decide +kernel
theorem dX10_reads_168 : decode cX10_reads 168 = .ok (.iload_n 1, 1) := by decide +kernel
theorem dX10_reads_169 : decode cX10_reads 169 = .ok (.iadd, 1) := by decide +kernel
theorem dX10_reads_170 : decode cX10_reads 170 = .ok (.iload 5, 2) := by decide +kernel
theorem dX10_reads_172 : decode cX10_reads 172 = .ok (.bipush 97, 2) := by decide +kernel
theorem dX10_reads_174 : decode cX10_reads 174 = .ok (.isub, 1) := by decide +kernel
theorem dX10_reads_175 : decode cX10_reads 175 = .ok (.iastore, 1) := by decide +kernel
theorem dX10_reads_176 : decode cX10_reads 176 = .ok (.iinc 1 1, 3) := by decide +kernel
theorem dX10_reads_179 : decode cX10_reads 179 = .ok (.goto (-25), 3) := by decide +kernel
theorem dX10_reads_182 : decode cX10_reads 182 = .ok (.iconst 0, 1) := by decide +kernel
theorem dX10_reads_183 : decode cX10_reads 183 = .ok (.istore_n 3, 1) := by decide +kernel
theorem dX10_reads_184 : decode cX10_reads 184 = .ok (.goto 6, 3) := by decide +kernel
theorem dX10_reads_187 : decode cX10_reads 187 = .ok (.iload 4, 2) := by decide +kernel
theorem dX10_reads_189 : decode cX10_reads 189 = .ok (.ireturn, 1) := by decide +kernel
theorem dX10_reads_190 : decode cX10_reads 190 = .ok (.iinc 4 1, 3) := by decide +kernel
theorem dX10_reads_193 : decode cX10_reads 193 = .ok (.goto (-162), 3) := by decide +kernel
theorem dX10_reads_196 : decode cX10_reads 196 = .ok (.iload_n 3, 1) := by decide +kernel
theorem dX10_reads_197 : decode cX10_reads 197 = .ok (.ifCond .le 10, 3) := by decide +kernel
theorem dX10_reads_200 : decode cX10_reads 200 = .ok (.aload_n 0, 1) := by decide +kernel
theorem dX10_reads_201 : decode cX10_reads 201 = .ok (.getfield 101, 3) := by decide +kernel
theorem dX10_reads_204 : decode cX10_reads 204 = .ok (.goto 4, 3) := by decide +kernel
theorem dX10_reads_207 : decode cX10_reads 207 = .ok (.iconst (-1), 1) := by decide +kernel
theorem dX10_reads_208 : decode cX10_reads 208 = .ok (.ireturn, 1) := by decide +kernel
theorem dX10_readPicture_0 : decode cX10_readPicture 0 = .ok (.aload_n 0, 1) := by decide +kernel
theorem dX10_readPicture_1 : decode cX10_readPicture 1 = .ok (.invokevirtual 104, 3) := by decide +kernel
theorem dX10_readPicture_4 : decode cX10_readPicture 4 = .ok (.istore_n 1, 1) := by decide +kernel
theorem dX10_readPicture_5 : decode cX10_readPicture 5 = .ok (.iload_n 1, 1) := by decide +kernel
theorem dX10_readPicture_6 : decode cX10_readPicture 6 = .ok (.ifCond .lt 8, 3) := by decide +kernel
theorem dX10_readPicture_9 : decode cX10_readPicture 9 = .ok (.bipush (-100), 2) := by decide +kernel
theorem dX10_readPicture_11 : decode cX10_readPicture 11 = .ok (.iload_n 1, 1) := by decide +kernel
theorem dX10_readPicture_12 : decode cX10_readPicture 12 = .ok (.isub, 1) := by decide +kernel
theorem dX10_readPicture_13 : decode cX10_readPicture 13 = .ok (.ireturn, 1) := by decide +kernel
theorem dX10_readPicture_14 : decode cX10_readPicture 14 = .ok (.iconst 0, 1) := by decide +kernel
theorem dX10_readPicture_15 : decode cX10_readPicture 15 = .ok (.istore_n 2, 1) := by decide +kernel
theorem dX10_readPicture_16 : decode cX10_readPicture 16 = .ok (.iconst 0, 1) := by decide +kernel
theorem dX10_readPicture_17 : decode cX10_readPicture 17 = .ok (.istore_n 3, 1) := by decide +kernel
theorem dX10_readPicture_18 : decode cX10_readPicture 18 = .ok (.iload_n 3, 1) := by decide +kernel
theorem dX10_readPicture_19 : decode cX10_readPicture 19 = .ok (.sipush 192, 3) := by decide +kernel
theorem dX10_readPicture_22 : decode cX10_readPicture 22 = .ok (.if_icmp .ge 44, 3) := by decide +kernel
theorem dX10_readPicture_25 : decode cX10_readPicture 25 = .ok (.iload_n 2, 1) := by decide +kernel
theorem dX10_readPicture_26 : decode cX10_readPicture 26 = .ok (.aload_n 0, 1) := by decide +kernel
theorem dX10_readPicture_27 : decode cX10_readPicture 27 = .ok (.getfield 21, 3) := by decide +kernel
theorem dX10_readPicture_30 : decode cX10_readPicture 30 = .ok (.iload_n 3, 1) := by decide +kernel
theorem dX10_readPicture_31 : decode cX10_readPicture 31 = .ok (.iaload, 1) := by decide +kernel
theorem dX10_readPicture_32 : decode cX10_readPicture 32 = .ok (.aload_n 0, 1) := by decide +kernel
theorem dX10_readPicture_33 : decode cX10_readPicture 33 = .ok (.getfield 7, 3) := by decide +kernel
theorem dX10_readPicture_36 : decode cX10_readPicture 36 = .ok (.iload_n 3, 1) := by decide +kernel
theorem dX10_readPicture_37 : decode cX10_readPicture 37 = .ok (.iaload, 1) := by decide +kernel
theorem dX10_readPicture_38 : decode cX10_readPicture 38 = .ok (.if_icmp .eq 7, 3) := by decide +kernel
theorem dX10_readPicture_41 : decode cX10_readPicture 41 = .ok (.iconst 1, 1) := by decide +kernel
theorem dX10_readPicture_42 : decode cX10_readPicture 42 = .ok (.goto 4, 3) := by decide +kernel
theorem dX10_readPicture_45 : decode cX10_readPicture 45 = .ok (.iconst 0, 1) := by decide +kernel
theorem dX10_readPicture_46 : decode cX10_readPicture 46 = .ok (.iadd, 1) := by decide +kernel
theorem dX10_readPicture_47 : decode cX10_readPicture 47 = .ok (.istore_n 2, 1) := by decide +kernel
theorem dX10_readPicture_48 : decode cX10_readPicture 48 = .ok (.aload_n 0, 1) := by decide +kernel
theorem dX10_readPicture_49 : decode cX10_readPicture 49 = .ok (.getfield 7, 3) := by decide +kernel
theorem dX10_readPicture_52 : decode cX10_readPicture 52 = .ok (.iload_n 3, 1) := by decide +kernel
theorem dX10_readPicture_53 : decode cX10_readPicture 53 = .ok (.aload_n 0, 1) := by decide +kernel
theorem dX10_readPicture_54 : decode cX10_readPicture 54 = .ok (.getfield 21, 3) := by decide +kernel
theorem dX10_readPicture_57 : decode cX10_readPicture 57 = .ok (.iload_n 3, 1) := by decide +kernel
theorem dX10_readPicture_58 : decode cX10_readPicture 58 = .ok (.iaload, 1) := by decide +kernel
theorem dX10_readPicture_59 : decode cX10_readPicture 59 = .ok (.iastore, 1) := by decide +kernel
theorem dX10_readPicture_60 : decode cX10_readPicture 60 = .ok (.iinc 3 1, 3) := by decide +kernel
theorem dX10_readPicture_63 : decode cX10_readPicture 63 = .ok (.goto (-45), 3) := by decide +kernel
theorem dX10_readPicture_66 : decode cX10_readPicture 66 = .ok (.aload_n 0, 1) := by decide +kernel
theorem dX10_readPicture_67 : decode cX10_readPicture 67 = .ok (.invokevirtual 83, 3) := by decide +kernel
theorem dX10_readPicture_70 : decode cX10_readPicture 70 = .ok (.iload_n 2, 1) := by decide +kernel
theorem dX10_readPicture_71 : decode cX10_readPicture 71 = .ok (.ireturn, 1) := by decide +kernel
theorem dX10_isInside_0 : decode cX10_isInside 0 = .ok (.aload_n 0, 1) := by decide +kernel
theorem dX10_isInside_1 : decode cX10_isInside 1 = .ok (.iload_n 1, 1) := by decide +kernel
theorem dX10_isInside_2 : decode cX10_isInside 2 = .ok (.iload_n 2, 1) := by decide +kernel
theorem dX10_isInside_3 : decode cX10_isInside 3 = .ok (.invokevirtual 86, 3) := by decide +kernel
theorem dX10_isInside_6 : decode cX10_isInside 6 = .ok (.ifCond .eq 25, 3) := by decide +kernel
theorem dX10_isInside_9 : decode cX10_isInside 9 = .ok (.aload_n 0, 1) := by decide +kernel
theorem dX10_isInside_10 : decode cX10_isInside 10 = .ok (.getfield 7, 3) := by decide +kernel
theorem dX10_isInside_13 : decode cX10_isInside 13 = .ok (.bipush 16, 2) := by decide +kernel
theorem dX10_isInside_15 : decode cX10_isInside 15 = .ok (.iload_n 2, 1) := by decide +kernel
theorem dX10_isInside_16 : decode cX10_isInside 16 = .ok (.imul, 1) := by decide +kernel
theorem dX10_isInside_17 : decode cX10_isInside 17 = .ok (.iload_n 1, 1) := by decide +kernel
theorem dX10_isInside_18 : decode cX10_isInside 18 = .ok (.iadd, 1) := by decide +kernel
theorem dX10_isInside_19 : decode cX10_isInside 19 = .ok (.iaload, 1) := by decide +kernel
theorem dX10_isInside_20 : decode cX10_isInside 20 = .ok (.aload_n 0, 1) := by decide +kernel
theorem dX10_isInside_21 : decode cX10_isInside 21 = .ok (.getfield 80, 3) := by decide +kernel
theorem dX10_isInside_24 : decode cX10_isInside 24 = .ok (.if_icmp .lt 7, 3) := by decide +kernel
theorem dX10_isInside_27 : decode cX10_isInside 27 = .ok (.iconst 1, 1) := by decide +kernel
theorem dX10_isInside_28 : decode cX10_isInside 28 = .ok (.goto 4, 3) := by decide +kernel
theorem dX10_isInside_31 : decode cX10_isInside 31 = .ok (.iconst 0, 1) := by decide +kernel
theorem dX10_isInside_32 : decode cX10_isInside 32 = .ok (.ireturn, 1) := by decide +kernel
theorem dX10_isArrow_0 : decode cX10_isArrow 0 = .ok (.iload_n 3, 1) := by decide +kernel
theorem dX10_isArrow_1 : decode cX10_isArrow 1 = .ok (.tableswitch 109 0 2 #[27, 53, 79], 27) := by decide +kernel
theorem dX10_isArrow_28 : decode cX10_isArrow 28 = .ok (.aload_n 0, 1) := by decide +kernel
theorem dX10_isArrow_29 : decode cX10_isArrow 29 = .ok (.iload_n 1, 1) := by decide +kernel
theorem dX10_isArrow_30 : decode cX10_isArrow 30 = .ok (.iload_n 2, 1) := by decide +kernel
theorem dX10_isArrow_31 : decode cX10_isArrow 31 = .ok (.invokevirtual 108, 3) := by decide +kernel
theorem dX10_isArrow_34 : decode cX10_isArrow 34 = .ok (.ifCond .eq 18, 3) := by decide +kernel
theorem dX10_isArrow_37 : decode cX10_isArrow 37 = .ok (.aload_n 0, 1) := by decide +kernel
theorem dX10_isArrow_38 : decode cX10_isArrow 38 = .ok (.iload_n 1, 1) := by decide +kernel
theorem dX10_isArrow_39 : decode cX10_isArrow 39 = .ok (.iload_n 2, 1) := by decide +kernel
theorem dX10_isArrow_40 : decode cX10_isArrow 40 = .ok (.iconst 1, 1) := by decide +kernel
theorem dX10_isArrow_41 : decode cX10_isArrow 41 = .ok (.isub, 1) := by decide +kernel
theorem dX10_isArrow_42 : decode cX10_isArrow 42 = .ok (.invokevirtual 108, 3) := by decide +kernel
theorem dX10_isArrow_45 : decode cX10_isArrow 45 = .ok (.ifCond .ne 7, 3) := by decide +kernel
theorem dX10_isArrow_48 : decode cX10_isArrow 48 = .ok (.iconst 1, 1) := by decide +kernel
theorem dX10_isArrow_49 : decode cX10_isArrow 49 = .ok (.goto 4, 3) := by decide +kernel
theorem dX10_isArrow_52 : decode cX10_isArrow 52 = .ok (.iconst 0, 1) := by decide +kernel
theorem dX10_isArrow_53 : decode cX10_isArrow 53 = .ok (.ireturn, 1) := by decide +kernel
theorem dX10_isArrow_54 : decode cX10_isArrow 54 = .ok (.aload_n 0, 1) := by decide +kernel
theorem dX10_isArrow_55 : decode cX10_isArrow 55 = .ok (.iload_n 1, 1) := by decide +kernel
theorem dX10_isArrow_56 : decode cX10_isArrow 56 = .ok (.iconst 1, 1) := by decide +kernel
theorem dX10_isArrow_57 : decode cX10_isArrow 57 = .ok (.isub, 1) := by decide +kernel
theorem dX10_isArrow_58 : decode cX10_isArrow 58 = .ok (.iload_n 2, 1) := by decide +kernel
theorem dX10_isArrow_59 : decode cX10_isArrow 59 = .ok (.invokevirtual 108, 3) := by decide +kernel
theorem dX10_isArrow_62 : decode cX10_isArrow 62 = .ok (.ifCond .eq 16, 3) := by decide +kernel
theorem dX10_isArrow_65 : decode cX10_isArrow 65 = .ok (.aload_n 0, 1) := by decide +kernel
theorem dX10_isArrow_66 : decode cX10_isArrow 66 = .ok (.iload_n 1, 1) := by decide +kernel
theorem dX10_isArrow_67 : decode cX10_isArrow 67 = .ok (.iload_n 2, 1) := by decide +kernel
theorem dX10_isArrow_68 : decode cX10_isArrow 68 = .ok (.invokevirtual 108, 3) := by decide +kernel
theorem dX10_isArrow_71 : decode cX10_isArrow 71 = .ok (.ifCond .ne 7, 3) := by decide +kernel
theorem dX10_isArrow_74 : decode cX10_isArrow 74 = .ok (.iconst 1, 1) := by decide +kernel
theorem dX10_isArrow_75 : decode cX10_isArrow 75 = .ok (.goto 4, 3) := by decide +kernel
theorem dX10_isArrow_78 : decode cX10_isArrow 78 = .ok (.iconst 0, 1) := by decide +kernel
theorem dX10_isArrow_79 : decode cX10_isArrow 79 = .ok (.ireturn, 1) := by decide +kernel
theorem dX10_isArrow_80 : decode cX10_isArrow 80 = .ok (.aload_n 0, 1) := by decide +kernel
theorem dX10_isArrow_81 : decode cX10_isArrow 81 = .ok (.iload_n 1, 1) := by decide +kernel
theorem dX10_isArrow_82 : decode cX10_isArrow 82 = .ok (.iconst 1, 1) := by decide +kernel
theorem dX10_isArrow_83 : decode cX10_isArrow 83 = .ok (.isub, 1) := by decide +kernel
theorem dX10_isArrow_84 : decode cX10_isArrow 84 = .ok (.iload_n 2, 1) := by decide +kernel
theorem dX10_isArrow_85 : decode cX10_isArrow 85 = .ok (.iconst 1, 1) := by decide +kernel
theorem dX10_isArrow_86 : decode cX10_isArrow 86 = .ok (.isub, 1) := by decide +kernel
theorem dX10_isArrow_87 : decode cX10_isArrow 87 = .ok (.invokevirtual 108, 3) := by decide +kernel
theorem dX10_isArrow_90 : decode cX10_isArrow 90 = .ok (.ifCond .eq 18, 3) := by decide +kernel
theorem dX10_isArrow_93 : decode cX10_isArrow 93 = .ok (.aload_n 0, 1) := by decide +kernel
theorem dX10_isArrow_94 : decode cX10_isArrow 94 = .ok (.iload_n 1, 1) := by decide +kernel
theorem dX10_isArrow_95 : decode cX10_isArrow 95 = .ok (.iconst 1, 1) := by decide +kernel
theorem dX10_isArrow_96 : decode cX10_isArrow 96 = .ok (.isub, 1) := by decide +kernel
theorem dX10_isArrow_97 : decode cX10_isArrow 97 = .ok (.iload_n 2, 1) := by decide +kernel
theorem dX10_isArrow_98 : decode cX10_isArrow 98 = .ok (.invokevirtual 108, 3) := by decide +kernel
theorem dX10_isArrow_101 : decode cX10_isArrow 101 = .ok (.ifCond .ne 7, 3) := by decide +kernel
theorem dX10_isArrow_104 : decode cX10_isArrow 104 = .ok (.iconst 1, 1) := by decide +kernel
theorem dX10_isArrow_105 : decode cX10_isArrow 105 = .ok (.goto 4, 3) := by decide +kernel
theorem dX10_isArrow_108 : decode cX10_isArrow 108 = .ok (.iconst 0, 1) := by decide +kernel
theorem dX10_isArrow_109 : decode cX10_isArrow 109 = .ok (.ireturn, 1) := by decide +kernel
theorem dX10_isArrow_110 : decode cX10_isArrow 110 = .ok (.aload_n 0, 1) := by decide +kernel
theorem dX10_isArrow_111 : decode cX10_isArrow 111 = .ok (.iload_n 1, 1) := by decide +kernel
theorem dX10_isArrow_112 : decode cX10_isArrow 112 = .ok (.iload_n 2, 1) := by decide +kernel
theorem dX10_isArrow_113 : decode cX10_isArrow 113 = .ok (.iconst 1, 1) := by decide +kernel
theorem dX10_isArrow_114 : decode cX10_isArrow 114 = .ok (.isub, 1) := by decide +kernel
theorem dX10_isArrow_115 : decode cX10_isArrow 115 = .ok (.invokevirtual 108, 3) := by decide +kernel
theorem dX10_isArrow_118 : decode cX10_isArrow 118 = .ok (.ifCond .eq 20, 3) := by decide +kernel
theorem dX10_isArrow_121 : decode cX10_isArrow 121 = .ok (.aload_n 0, 1) := by decide +kernel
theorem dX10_isArrow_122 : decode cX10_isArrow 122 = .ok (.iload_n 1, 1) := by decide +kernel
theorem dX10_isArrow_123 : decode cX10_isArrow 123 = .ok (.iconst 1, 1) := by decide +kernel
theorem dX10_isArrow_124 : decode cX10_isArrow 124 = .ok (.isub, 1) := by decide +kernel
theorem dX10_isArrow_125 : decode cX10_isArrow 125 = .ok (.iload_n 2, 1) := by decide +kernel
theorem dX10_isArrow_126 : decode cX10_isArrow 126 = .ok (.iconst 1, 1) := by decide +kernel
theorem dX10_isArrow_127 : decode cX10_isArrow 127 = .ok (.isub, 1) := by decide +kernel
theorem dX10_isArrow_128 : decode cX10_isArrow 128 = .ok (.invokevirtual 108, 3) := by decide +kernel
theorem dX10_isArrow_131 : decode cX10_isArrow 131 = .ok (.ifCond .ne 7, 3) := by decide +kernel
theorem dX10_isArrow_134 : decode cX10_isArrow 134 = .ok (.iconst 1, 1) := by decide +kernel
theorem dX10_isArrow_135 : decode cX10_isArrow 135 = .ok (.goto 4, 3) := by decide +kernel
theorem dX10_isArrow_138 : decode cX10_isArrow 138 = .ok (.iconst 0, 1) := by decide +kernel
theorem dX10_isArrow_139 : decode cX10_isArrow 139 = .ok (.ireturn, 1) := by decide +kernel
theorem dX10_stepX_0 : decode cX10_stepX 0 = .ok (.iload_n 0, 1) := by decide +kernel
theorem dX10_stepX_1 : decode cX10_stepX 1 = .ok (.ifCond .ne 7, 3) := by decide +kernel
theorem dX10_stepX_4 : decode cX10_stepX 4 = .ok (.iconst 1, 1) := by decide +kernel
theorem dX10_stepX_5 : decode cX10_stepX 5 = .ok (.goto 13, 3) := by decide +kernel
theorem dX10_stepX_8 : decode cX10_stepX 8 = .ok (.iload_n 0, 1) := by decide +kernel
theorem dX10_stepX_9 : decode cX10_stepX 9 = .ok (.iconst 2, 1) := by decide +kernel
theorem dX10_stepX_10 : decode cX10_stepX 10 = .ok (.if_icmp .ne 7, 3) := by decide +kernel
theorem dX10_stepX_13 : decode cX10_stepX 13 = .ok (.iconst (-1), 1) := by decide +kernel
theorem dX10_stepX_14 : decode cX10_stepX 14 = .ok (.goto 4, 3) := by decide +kernel
theorem dX10_stepX_17 : decode cX10_stepX 17 = .ok (.iconst 0, 1) := by decide +kernel
theorem dX10_stepX_18 : decode cX10_stepX 18 = .ok (.ireturn, 1) := by decide +kernel
theorem dX10_stepY_0 : decode cX10_stepY 0 = .ok (.iload_n 0, 1) := by decide +kernel
theorem dX10_stepY_1 : decode cX10_stepY 1 = .ok (.iconst 1, 1) := by decide +kernel
theorem dX10_stepY_2 : decode cX10_stepY 2 = .ok (.if_icmp .ne 7, 3) := by decide +kernel
theorem dX10_stepY_5 : decode cX10_stepY 5 = .ok (.iconst 1, 1) := by decide +kernel
theorem dX10_stepY_6 : decode cX10_stepY 6 = .ok (.goto 13, 3) := by decide +kernel
theorem dX10_stepY_9 : decode cX10_stepY 9 = .ok (.iload_n 0, 1) := by decide +kernel
theorem dX10_stepY_10 : decode cX10_stepY 10 = .ok (.iconst 3, 1) := by decide +kernel
theorem dX10_stepY_11 : decode cX10_stepY 11 = .ok (.if_icmp .ne 7, 3) := by decide +kernel
theorem dX10_stepY_14 : decode cX10_stepY 14 = .ok (.iconst (-1), 1) := by decide +kernel
theorem dX10_stepY_15 : decode cX10_stepY 15 = .ok (.goto 4, 3) := by decide +kernel
theorem dX10_stepY_18 : decode cX10_stepY 18 = .ok (.iconst 0, 1) := by decide +kernel
theorem dX10_stepY_19 : decode cX10_stepY 19 = .ok (.ireturn, 1) := by decide +kernel
theorem dX10_wayOn_0 : decode cX10_wayOn 0 = .ok (.iload_n 3, 1) := by decide +kernel
theorem dX10_wayOn_1 : decode cX10_wayOn 1 = .ok (.iload 4, 2) := by decide +kernel
theorem dX10_wayOn_3 : decode cX10_wayOn 3 = .ok (.ifCond .eq 7, 3) := by decide +kernel
theorem dX10_wayOn_6 : decode cX10_wayOn 6 = .ok (.iconst 1, 1) := by decide +kernel
theorem dX10_wayOn_7 : decode cX10_wayOn 7 = .ok (.goto 4, 3) := by decide +kernel
theorem dX10_wayOn_10 : decode cX10_wayOn 10 = .ok (.iconst 3, 1) := by decide +kernel
theorem dX10_wayOn_11 : decode cX10_wayOn 11 = .ok (.iadd, 1) := by decide +kernel
theorem dX10_wayOn_12 : decode cX10_wayOn 12 = .ok (.iconst 4, 1) := by decide +kernel
theorem dX10_wayOn_13 : decode cX10_wayOn 13 = .ok (.irem, 1) := by decide +kernel
theorem dX10_wayOn_14 : decode cX10_wayOn 14 = .ok (.istore 5, 2) := by decide +kernel
theorem dX10_wayOn_16 : decode cX10_wayOn 16 = .ok (.iload_n 3, 1) := by decide +kernel
theorem dX10_wayOn_17 : decode cX10_wayOn 17 = .ok (.iload 4, 2) := by decide +kernel
theorem dX10_wayOn_19 : decode cX10_wayOn 19 = .ok (.ifCond .eq 7, 3) := by decide +kernel
theorem dX10_wayOn_22 : decode cX10_wayOn 22 = .ok (.iconst 3, 1) := by decide +kernel
theorem dX10_wayOn_23 : decode cX10_wayOn 23 = .ok (.goto 4, 3) := by decide +kernel
theorem dX10_wayOn_26 : decode cX10_wayOn 26 = .ok (.iconst 1, 1) := by decide +kernel
theorem dX10_wayOn_27 : decode cX10_wayOn 27 = .ok (.iadd, 1) := by decide +kernel
theorem dX10_wayOn_28 : decode cX10_wayOn 28 = .ok (.iconst 4, 1) := by decide +kernel
theorem dX10_wayOn_29 : decode cX10_wayOn 29 = .ok (.irem, 1) := by decide +kernel
theorem dX10_wayOn_30 : decode cX10_wayOn 30 = .ok (.istore 6, 2) := by decide +kernel
theorem dX10_wayOn_32 : decode cX10_wayOn 32 = .ok (.aload_n 0, 1) := by decide +kernel
theorem dX10_wayOn_33 : decode cX10_wayOn 33 = .ok (.iload_n 1, 1) := by decide +kernel
theorem dX10_wayOn_34 : decode cX10_wayOn 34 = .ok (.iload_n 2, 1) := by decide +kernel
theorem dX10_wayOn_35 : decode cX10_wayOn 35 = .ok (.iload 5, 2) := by decide +kernel
theorem dX10_wayOn_37 : decode cX10_wayOn 37 = .ok (.invokevirtual 111, 3) := by decide +kernel
theorem dX10_wayOn_40 : decode cX10_wayOn 40 = .ok (.ifCond .eq 8, 3) := by decide +kernel
theorem dX10_wayOn_43 : decode cX10_wayOn 43 = .ok (.iload 5, 2) := by decide +kernel
theorem dX10_wayOn_45 : decode cX10_wayOn 45 = .ok (.goto 19, 3) := by decide +kernel
theorem dX10_wayOn_48 : decode cX10_wayOn 48 = .ok (.aload_n 0, 1) := by decide +kernel
theorem dX10_wayOn_49 : decode cX10_wayOn 49 = .ok (.iload_n 1, 1) := by decide +kernel
theorem dX10_wayOn_50 : decode cX10_wayOn 50 = .ok (.iload_n 2, 1) := by decide +kernel
theorem dX10_wayOn_51 : decode cX10_wayOn 51 = .ok (.iload_n 3, 1) := by decide +kernel
theorem dX10_wayOn_52 : decode cX10_wayOn 52 = .ok (.invokevirtual 111, 3) := by decide +kernel
theorem dX10_wayOn_55 : decode cX10_wayOn 55 = .ok (.ifCond .eq 7, 3) := by decide +kernel
theorem dX10_wayOn_58 : decode cX10_wayOn 58 = .ok (.iload_n 3, 1) := by decide +kernel
theorem dX10_wayOn_59 : decode cX10_wayOn 59 = .ok (.goto 5, 3) := by decide +kernel
theorem dX10_wayOn_62 : decode cX10_wayOn 62 = .ok (.iload 6, 2) := by decide +kernel
theorem dX10_wayOn_64 : decode cX10_wayOn 64 = .ok (.ireturn, 1) := by decide +kernel
theorem dX10_goRound_0 : decode cX10_goRound 0 = .ok (.aload_n 0, 1) := by decide +kernel
theorem dX10_goRound_1 : decode cX10_goRound 1 = .ok (.getfield 71, 3) := by decide +kernel
theorem dX10_goRound_4 : decode cX10_goRound 4 = .ok (.istore 4, 2) := by decide +kernel
theorem dX10_goRound_6 : decode cX10_goRound 6 = .ok (.aload_n 0, 1) := by decide +kernel
theorem dX10_goRound_7 : decode cX10_goRound 7 = .ok (.getfield 24, 3) := by decide +kernel
theorem dX10_goRound_10 : decode cX10_goRound 10 = .ok (.iload 4, 2) := by decide +kernel
theorem dX10_goRound_12 : decode cX10_goRound 12 = .ok (.aload_n 0, 1) := by decide +kernel
theorem dX10_goRound_13 : decode cX10_goRound 13 = .ok (.getfield 74, 3) := by decide +kernel
theorem dX10_goRound_16 : decode cX10_goRound 16 = .ok (.iastore, 1) := by decide +kernel
theorem dX10_goRound_17 : decode cX10_goRound 17 = .ok (.aload_n 0, 1) := by decide +kernel
theorem dX10_goRound_18 : decode cX10_goRound 18 = .ok (.getfield 33, 3) := by decide +kernel
theorem dX10_goRound_21 : decode cX10_goRound 21 = .ok (.iload 4, 2) := by decide +kernel
theorem dX10_goRound_23 : decode cX10_goRound 23 = .ok (.iconst 0, 1) := by decide +kernel
theorem dX10_goRound_24 : decode cX10_goRound 24 = .ok (.iastore, 1) := by decide +kernel
theorem dX10_goRound_25 : decode cX10_goRound 25 = .ok (.iload_n 1, 1) := by decide +kernel
theorem dX10_goRound_26 : decode cX10_goRound 26 = .ok (.istore 5, 2) := by decide +kernel
theorem dX10_goRound_28 : decode cX10_goRound 28 = .ok (.iload_n 2, 1) := by decide +kernel
theorem dX10_goRound_29 : decode cX10_goRound 29 = .ok (.istore 6, 2) := by decide +kernel
theorem dX10_goRound_31 : decode cX10_goRound 31 = .ok (.iconst 0, 1) := by decide +kernel
theorem dX10_goRound_32 : decode cX10_goRound 32 = .ok (.istore 7, 2) := by decide +kernel
theorem dX10_goRound_34 : decode cX10_goRound 34 = .ok (.iconst (-1), 1) := by decide +kernel
theorem dX10_goRound_35 : decode cX10_goRound 35 = .ok (.istore 8, 2) := by decide +kernel
theorem dX10_goRound_37 : decode cX10_goRound 37 = .ok (.iconst 1, 1) := by decide +kernel
theorem dX10_goRound_38 : decode cX10_goRound 38 = .ok (.istore 9, 2) := by decide +kernel
theorem dX10_goRound_40 : decode cX10_goRound 40 = .ok (.iload 9, 2) := by decide +kernel
theorem dX10_goRound_42 : decode cX10_goRound 42 = .ok (.ifCond .eq 166, 3) := by decide +kernel
theorem dX10_goRound_45 : decode cX10_goRound 45 = .ok (.iload 7, 2) := by decide +kernel
theorem dX10_goRound_47 : decode cX10_goRound 47 = .ok (.iload 8, 2) := by decide +kernel
theorem dX10_goRound_49 : decode cX10_goRound 49 = .ok (.if_icmp .eq 45, 3) := by decide +kernel
theorem dX10_goRound_52 : decode cX10_goRound 52 = .ok (.aload_n 0, 1) := by decide +kernel
theorem dX10_goRound_53 : decode cX10_goRound 53 = .ok (.getfield 39, 3) := by decide +kernel
theorem dX10_goRound_56 : decode cX10_goRound 56 = .ok (.aload_n 0, 1) := by decide +kernel
theorem dX10_goRound_57 : decode cX10_goRound 57 = .ok (.getfield 74, 3) := by decide +kernel
theorem dX10_goRound_60 : decode cX10_goRound 60 = .ok (.iload 5, 2) := by decide +kernel
theorem dX10_goRound_62 : decode cX10_goRound 62 = .ok (.iastore, 1) := by decide +kernel
theorem dX10_goRound_63 : decode cX10_goRound 63 = .ok (.aload_n 0, 1) := by decide +kernel
theorem dX10_goRound_64 : decode cX10_goRound 64 = .ok (.getfield 42, 3) := by decide +kernel
theorem dX10_goRound_67 : decode cX10_goRound 67 = .ok (.aload_n 0, 1) := by decide +kernel
theorem dX10_goRound_68 : decode cX10_goRound 68 = .ok (.getfield 74, 3) := by decide +kernel
theorem dX10_goRound_71 : decode cX10_goRound 71 = .ok (.iload 6, 2) := by decide +kernel
theorem dX10_goRound_73 : decode cX10_goRound 73 = .ok (.iastore, 1) := by decide +kernel
theorem dX10_goRound_74 : decode cX10_goRound 74 = .ok (.aload_n 0, 1) := by decide +kernel
theorem dX10_goRound_75 : decode cX10_goRound 75 = .ok (.getfield 45, 3) := by decide +kernel
theorem dX10_goRound_78 : decode cX10_goRound 78 = .ok (.aload_n 0, 1) := by decide +kernel
theorem dX10_goRound_79 : decode cX10_goRound 79 = .ok (.getfield 74, 3) := by decide +kernel
theorem dX10_goRound_82 : decode cX10_goRound 82 = .ok (.iconst 1, 1) := by decide +kernel
theorem dX10_goRound_83 : decode cX10_goRound 83 = .ok (.bastore, 1) := by decide +kernel
theorem dX10_goRound_84 : decode cX10_goRound 84 = .ok (.aload_n 0, 1) := by decide +kernel
theorem dX10_goRound_85 : decode cX10_goRound 85 = .ok (.dup, 1) := by decide +kernel
theorem dX10_goRound_86 : decode cX10_goRound 86 = .ok (.getfield 74, 3) := by decide +kernel
theorem dX10_goRound_89 : decode cX10_goRound 89 = .ok (.iconst 1, 1) := by decide +kernel
theorem dX10_goRound_90 : decode cX10_goRound 90 = .ok (.iadd, 1) := by decide +kernel
theorem dX10_goRound_91 : decode cX10_goRound 91 = .ok (.putfield 74, 3) := by decide +kernel
theorem dX10_goRound_94 : decode cX10_goRound 94 = .ok (.aload_n 0, 1) := by decide +kernel
theorem dX10_goRound_95 : decode cX10_goRound 95 = .ok (.getfield 48, 3) := by decide +kernel
theorem dX10_goRound_98 : decode cX10_goRound 98 = .ok (.bipush 17, 2) := by decide +kernel
theorem dX10_goRound_100 : decode cX10_goRound 100 = .ok (.iload 6, 2) := by decide +kernel
theorem dX10_goRound_102 : decode cX10_goRound 102 = .ok (.imul, 1) := by decide +kernel
theorem dX10_goRound_103 : decode cX10_goRound 103 = .ok (.iload 5, 2) := by decide +kernel
theorem dX10_goRound_105 : decode cX10_goRound 105 = .ok (.iadd, 1) := by decide +kernel
theorem dX10_goRound_106 : decode cX10_goRound 106 = .ok (.aload_n 0, 1) := by decide +kernel
theorem dX10_goRound_107 : decode cX10_goRound 107 = .ok (.getfield 48, 3) := by decide +kernel
theorem dX10_goRound_110 : decode cX10_goRound 110 = .ok (.bipush 17, 2) := by decide +kernel
theorem dX10_goRound_112 : decode cX10_goRound 112 = .ok (.iload 6, 2) := by decide +kernel
theorem dX10_goRound_114 : decode cX10_goRound 114 = .ok (.imul, 1) := by decide +kernel
theorem dX10_goRound_115 : decode cX10_goRound 115 = .ok (.iload 5, 2) := by decide +kernel
theorem dX10_goRound_117 : decode cX10_goRound 117 = .ok (.iadd, 1) := by decide +kernel
theorem dX10_goRound_118 : decode cX10_goRound 118 = .ok (.baload, 1) := by decide +kernel
theorem dX10_goRound_119 : decode cX10_goRound 119 = .ok (.ifCond .ne 8, 3) := by decide +kernel
theorem dX10_goRound_122 : decode cX10_goRound 122 = .ok (.iload 7, 2) := by decide +kernel
theorem dX10_goRound_124 : decode cX10_goRound 124 = .ok (.ifCond .ne 7, 3) := by decide +kernel
theorem dX10_goRound_127 : decode cX10_goRound 127 = .ok (.iconst 1, 1) := by decide +kernel
theorem dX10_goRound_128 : decode cX10_goRound 128 = .ok (.goto 4, 3) := by decide +kernel
theorem dX10_goRound_131 : decode cX10_goRound 131 = .ok (.iconst 0, 1) := by decide +kernel
theorem dX10_goRound_132 : decode cX10_goRound 132 = .ok (.bastore, 1) := by decide +kernel
theorem dX10_goRound_133 : decode cX10_goRound 133 = .ok (.iload 5, 2) := by decide +kernel
theorem dX10_goRound_135 : decode cX10_goRound 135 = .ok (.iload 7, 2) := by decide +kernel
theorem dX10_goRound_137 : decode cX10_goRound 137 = .ok (.invokestatic 114, 3) := by decide +kernel
theorem dX10_goRound_140 : decode cX10_goRound 140 = .ok (.iadd, 1) := by decide +kernel
theorem dX10_goRound_141 : decode cX10_goRound 141 = .ok (.istore 5, 2) := by decide +kernel
theorem dX10_goRound_143 : decode cX10_goRound 143 = .ok (.iload 6, 2) := by decide +kernel
theorem dX10_goRound_145 : decode cX10_goRound 145 = .ok (.iload 7, 2) := by decide +kernel
theorem dX10_goRound_147 : decode cX10_goRound 147 = .ok (.invokestatic 118, 3) := by decide +kernel
theorem dX10_goRound_150 : decode cX10_goRound 150 = .ok (.iadd, 1) := by decide +kernel
theorem dX10_goRound_151 : decode cX10_goRound 151 = .ok (.istore 6, 2) := by decide +kernel
theorem dX10_goRound_153 : decode cX10_goRound 153 = .ok (.aload_n 0, 1) := by decide +kernel
theorem dX10_goRound_154 : decode cX10_goRound 154 = .ok (.getfield 33, 3) := by decide +kernel
theorem dX10_goRound_157 : decode cX10_goRound 157 = .ok (.iload 4, 2) := by decide +kernel
theorem dX10_goRound_159 : decode cX10_goRound 159 = .ok (.dup2, 1) := by decide +kernel
theorem dX10_goRound_160 : decode cX10_goRound 160 = .ok (.iaload, 1) := by decide +kernel
theorem dX10_goRound_161 : decode cX10_goRound 161 = .ok (.iconst 1, 1) := by decide +kernel
theorem dX10_goRound_162 : decode cX10_goRound 162 = .ok (.iadd, 1) := by decide +kernel
theorem dX10_goRound_163 : decode cX10_goRound 163 = .ok (.iastore, 1) := by decide +kernel
theorem dX10_goRound_164 : decode cX10_goRound 164 = .ok (.iload 7, 2) := by decide +kernel
theorem dX10_goRound_166 : decode cX10_goRound 166 = .ok (.istore 8, 2) := by decide +kernel
theorem dX10_goRound_168 : decode cX10_goRound 168 = .ok (.aload_n 0, 1) := by decide +kernel
theorem dX10_goRound_169 : decode cX10_goRound 169 = .ok (.iload 5, 2) := by decide +kernel
theorem dX10_goRound_171 : decode cX10_goRound 171 = .ok (.iload 6, 2) := by decide +kernel
theorem dX10_goRound_173 : decode cX10_goRound 173 = .ok (.iload 8, 2) := by decide +kernel
theorem dX10_goRound_175 : decode cX10_goRound 175 = .ok (.iload_n 3, 1) := by decide +kernel
theorem dX10_goRound_176 : decode cX10_goRound 176 = .ok (.invokevirtual 121, 3) := by decide +kernel
theorem dX10_goRound_179 : decode cX10_goRound 179 = .ok (.istore 7, 2) := by decide +kernel
theorem dX10_goRound_181 : decode cX10_goRound 181 = .ok (.iload 5, 2) := by decide +kernel
theorem dX10_goRound_183 : decode cX10_goRound 183 = .ok (.iload_n 1, 1) := by decide +kernel
theorem dX10_goRound_184 : decode cX10_goRound 184 = .ok (.if_icmp .ne 14, 3) := by decide +kernel
theorem dX10_goRound_187 : decode cX10_goRound 187 = .ok (.iload 6, 2) := by decide +kernel
theorem dX10_goRound_189 : decode cX10_goRound 189 = .ok (.iload_n 2, 1) := by decide +kernel
theorem dX10_goRound_190 : decode cX10_goRound 190 = .ok (.if_icmp .ne 8, 3) := by decide +kernel
theorem dX10_goRound_193 : decode cX10_goRound 193 = .ok (.iload 7, 2) := by decide +kernel
theorem dX10_goRound_195 : decode cX10_goRound 195 = .ok (.ifCond .eq 7, 3) := by decide +kernel
theorem dX10_goRound_198 : decode cX10_goRound 198 = .ok (.iconst 1, 1) := by decide +kernel
theorem dX10_goRound_199 : decode cX10_goRound 199 = .ok (.goto 4, 3) := by decide +kernel
theorem dX10_goRound_202 : decode cX10_goRound 202 = .ok (.iconst 0, 1) := by decide +kernel
theorem dX10_goRound_203 : decode cX10_goRound 203 = .ok (.istore 9, 2) := by decide +kernel
theorem dX10_goRound_205 : decode cX10_goRound 205 = .ok (.goto (-165), 3) := by decide +kernel
theorem dX10_goRound_208 : decode cX10_goRound 208 = .ok (.aload_n 0, 1) := by decide +kernel
theorem dX10_goRound_209 : decode cX10_goRound 209 = .ok (.getfield 27, 3) := by decide +kernel
theorem dX10_goRound_212 : decode cX10_goRound 212 = .ok (.iload 4, 2) := by decide +kernel
theorem dX10_goRound_214 : decode cX10_goRound 214 = .ok (.aload_n 0, 1) := by decide +kernel
theorem dX10_goRound_215 : decode cX10_goRound 215 = .ok (.getfield 74, 3) := by decide +kernel
theorem dX10_goRound_218 : decode cX10_goRound 218 = .ok (.aload_n 0, 1) := by decide +kernel
theorem dX10_goRound_219 : decode cX10_goRound 219 = .ok (.getfield 24, 3) := by decide +kernel
theorem dX10_goRound_222 : decode cX10_goRound 222 = .ok (.iload 4, 2) := by decide +kernel
theorem dX10_goRound_224 : decode cX10_goRound 224 = .ok (.iaload, 1) := by decide +kernel
theorem dX10_goRound_225 : decode cX10_goRound 225 = .ok (.isub, 1) := by decide +kernel
theorem dX10_goRound_226 : decode cX10_goRound 226 = .ok (.iastore, 1) := by decide +kernel
theorem dX10_goRound_227 : decode cX10_goRound 227 = .ok (.aload_n 0, 1) := by decide +kernel
theorem dX10_goRound_228 : decode cX10_goRound 228 = .ok (.dup, 1) := by decide +kernel
theorem dX10_goRound_229 : decode cX10_goRound 229 = .ok (.getfield 71, 3) := by decide +kernel
theorem dX10_goRound_232 : decode cX10_goRound 232 = .ok (.iconst 1, 1) := by decide +kernel
theorem dX10_goRound_233 : decode cX10_goRound 233 = .ok (.iadd, 1) := by decide +kernel
theorem dX10_goRound_234 : decode cX10_goRound 234 = .ok (.putfield 71, 3) := by decide +kernel
theorem dX10_goRound_237 : decode cX10_goRound 237 = .ok (.return_, 1) := by decide +kernel
theorem dX10_trace_0 : decode cX10_trace 0 = .ok (.iload_n 1, 1) := by decide +kernel
theorem dX10_trace_1 : decode cX10_trace 1 = .ok (.iconst 1, 1) := by decide +kernel
theorem dX10_trace_2 : decode cX10_trace 2 = .ok (.bipush 9, 2) := by decide +kernel
theorem dX10_trace_4 : decode cX10_trace 4 = .ok (.invokestatic 67, 3) := by decide +kernel
theorem dX10_trace_7 : decode cX10_trace 7 = .ok (.ifCond .eq 14, 3) := by decide +kernel
theorem dX10_trace_10 : decode cX10_trace 10 = .ok (.iload_n 2, 1) := by decide +kernel
theorem dX10_trace_11 : decode cX10_trace 11 = .ok (.iconst 4, 1) := by decide +kernel
theorem dX10_trace_12 : decode cX10_trace 12 = .ok (.if_icmp .eq 13, 3) := by decide +kernel
theorem dX10_trace_15 : decode cX10_trace 15 = .ok (.iload_n 2, 1) := by decide +kernel
theorem dX10_trace_16 : decode cX10_trace 16 = .ok (.bipush 8, 2) := by decide +kernel
theorem dX10_trace_18 : decode cX10_trace 18 = .ok (.if_icmp .eq 7, 3) := by decide +kernel
theorem dX10_trace_21 : decode cX10_trace 21 = .ok (.sipush (-1003), 3) := by decide +kernel
theorem dX10_trace_24 : decode cX10_trace 24 = .ok (.ireturn, 1) := by decide +kernel
theorem dX10_trace_25 : decode cX10_trace 25 = .ok (.aload_n 0, 1) := by decide +kernel
theorem dX10_trace_26 : decode cX10_trace 26 = .ok (.invokevirtual 83, 3) := by decide +kernel
theorem dX10_trace_29 : decode cX10_trace 29 = .ok (.aload_n 0, 1) := by decide +kernel
theorem dX10_trace_30 : decode cX10_trace 30 = .ok (.iload_n 1, 1) := by decide +kernel
theorem dX10_trace_31 : decode cX10_trace 31 = .ok (.putfield 80, 3) := by decide +kernel
theorem dX10_trace_34 : decode cX10_trace 34 = .ok (.iconst 0, 1) := by decide +kernel
theorem dX10_trace_35 : decode cX10_trace 35 = .ok (.istore_n 3, 1) := by decide +kernel
theorem dX10_trace_36 : decode cX10_trace 36 = .ok (.iload_n 3, 1) := by decide +kernel
theorem dX10_trace_37 : decode cX10_trace 37 = .ok (.sipush 221, 3) := by decide +kernel
theorem dX10_trace_40 : decode cX10_trace 40 = .ok (.if_icmp .ge 16, 3) := by decide +kernel
theorem dX10_trace_43 : decode cX10_trace 43 = .ok (.aload_n 0, 1) := by decide +kernel
theorem dX10_trace_44 : decode cX10_trace 44 = .ok (.getfield 48, 3) := by decide +kernel
theorem dX10_trace_47 : decode cX10_trace 47 = .ok (.iload_n 3, 1) := by decide +kernel
theorem dX10_trace_48 : decode cX10_trace 48 = .ok (.iconst 0, 1) := by decide +kernel
theorem dX10_trace_49 : decode cX10_trace 49 = .ok (.bastore, 1) := by decide +kernel
theorem dX10_trace_50 : decode cX10_trace 50 = .ok (.iinc 3 1, 3) := by decide +kernel
theorem dX10_trace_53 : decode cX10_trace 53 = .ok (.goto (-17), 3) := by decide +kernel
theorem dX10_trace_56 : decode cX10_trace 56 = .ok (.iconst 0, 1) := by decide +kernel
theorem dX10_trace_57 : decode cX10_trace 57 = .ok (.istore_n 3, 1) := by decide +kernel
theorem dX10_trace_58 : decode cX10_trace 58 = .ok (.iload_n 3, 1) := by decide +kernel
theorem dX10_trace_59 : decode cX10_trace 59 = .ok (.aload_n 0, 1) := by decide +kernel
theorem dX10_trace_60 : decode cX10_trace 60 = .ok (.getfield 64, 3) := by decide +kernel
theorem dX10_trace_63 : decode cX10_trace 63 = .ok (.if_icmp .ge 70, 3) := by decide +kernel
theorem dX10_trace_66 : decode cX10_trace 66 = .ok (.iconst 0, 1) := by decide +kernel
theorem dX10_trace_67 : decode cX10_trace 67 = .ok (.istore 4, 2) := by decide +kernel
theorem dX10_trace_69 : decode cX10_trace 69 = .ok (.iload 4, 2) := by decide +kernel
theorem dX10_trace_71 : decode cX10_trace 71 = .ok (.aload_n 0, 1) := by decide +kernel
theorem dX10_trace_72 : decode cX10_trace 72 = .ok (.getfield 60, 3) := by decide +kernel
theorem dX10_trace_75 : decode cX10_trace 75 = .ok (.if_icmp .ge 52, 3) := by decide +kernel
theorem dX10_trace_78 : decode cX10_trace 78 = .ok (.aload_n 0, 1) := by decide +kernel
theorem dX10_trace_79 : decode cX10_trace 79 = .ok (.iload 4, 2) := by decide +kernel
theorem dX10_trace_81 : decode cX10_trace 81 = .ok (.iload_n 3, 1) := by decide +kernel
theorem dX10_trace_82 : decode cX10_trace 82 = .ok (.iconst 0, 1) := by decide +kernel
theorem dX10_trace_83 : decode cX10_trace 83 = .ok (.invokevirtual 111, 3) := by decide +kernel
theorem dX10_trace_86 : decode cX10_trace 86 = .ok (.ifCond .eq 35, 3) := by decide +kernel
theorem dX10_trace_89 : decode cX10_trace 89 = .ok (.aload_n 0, 1) := by decide +kernel
theorem dX10_trace_90 : decode cX10_trace 90 = .ok (.getfield 48, 3) := by decide +kernel
theorem dX10_trace_93 : decode cX10_trace 93 = .ok (.bipush 17, 2) := by decide +kernel
theorem dX10_trace_95 : decode cX10_trace 95 = .ok (.iload_n 3, 1) := by decide +kernel
theorem dX10_trace_96 : decode cX10_trace 96 = .ok (.imul, 1) := by decide +kernel
theorem dX10_trace_97 : decode cX10_trace 97 = .ok (.iload 4, 2) := by decide +kernel
theorem dX10_trace_99 : decode cX10_trace 99 = .ok (.iadd, 1) := by decide +kernel
theorem dX10_trace_100 : decode cX10_trace 100 = .ok (.baload, 1) := by decide +kernel
theorem dX10_trace_101 : decode cX10_trace 101 = .ok (.ifCond .ne 20, 3) := by decide +kernel
theorem dX10_trace_104 : decode cX10_trace 104 = .ok (.aload_n 0, 1) := by decide +kernel
theorem dX10_trace_105 : decode cX10_trace 105 = .ok (.iload 4, 2) := by decide +kernel
theorem dX10_trace_107 : decode cX10_trace 107 = .ok (.iload_n 3, 1) := by decide +kernel
theorem dX10_trace_108 : decode cX10_trace 108 = .ok (.iload_n 2, 1) := by decide +kernel
theorem dX10_trace_109 : decode cX10_trace 109 = .ok (.iconst 4, 1) := by decide +kernel
theorem dX10_trace_110 : decode cX10_trace 110 = .ok (.if_icmp .ne 7, 3) := by decide +kernel
theorem dX10_trace_113 : decode cX10_trace 113 = .ok (.iconst 1, 1) := by decide +kernel
theorem dX10_trace_114 : decode cX10_trace 114 = .ok (.goto 4, 3) := by decide +kernel
theorem dX10_trace_117 : decode cX10_trace 117 = .ok (.iconst 0, 1) := by decide +kernel
theorem dX10_trace_118 : decode cX10_trace 118 = .ok (.invokevirtual 125, 3) := by decide +kernel
theorem dX10_trace_121 : decode cX10_trace 121 = .ok (.iinc 4 1, 3) := by decide +kernel
theorem dX10_trace_124 : decode cX10_trace 124 = .ok (.goto (-55), 3) := by decide +kernel
theorem dX10_trace_127 : decode cX10_trace 127 = .ok (.iinc 3 1, 3) := by decide +kernel
theorem dX10_trace_130 : decode cX10_trace 130 = .ok (.goto (-72), 3) := by decide +kernel
theorem dX10_trace_133 : decode cX10_trace 133 = .ok (.iconst 0, 1) := by decide +kernel
theorem dX10_trace_134 : decode cX10_trace 134 = .ok (.istore_n 3, 1) := by decide +kernel
theorem dX10_trace_135 : decode cX10_trace 135 = .ok (.iload_n 3, 1) := by decide +kernel
theorem dX10_trace_136 : decode cX10_trace 136 = .ok (.aload_n 0, 1) := by decide +kernel
theorem dX10_trace_137 : decode cX10_trace 137 = .ok (.getfield 71, 3) := by decide +kernel
theorem dX10_trace_140 : decode cX10_trace 140 = .ok (.if_icmp .ge 20, 3) := by decide +kernel
theorem dX10_trace_143 : decode cX10_trace 143 = .ok (.aload_n 0, 1) := by decide +kernel
theorem dX10_trace_144 : decode cX10_trace 144 = .ok (.getfield 30, 3) := by decide +kernel
theorem dX10_trace_147 : decode cX10_trace 147 = .ok (.iload_n 3, 1) := by decide +kernel
theorem dX10_trace_148 : decode cX10_trace 148 = .ok (.aload_n 0, 1) := by decide +kernel
theorem dX10_trace_149 : decode cX10_trace 149 = .ok (.iload_n 3, 1) := by decide +kernel
theorem dX10_trace_150 : decode cX10_trace 150 = .ok (.invokevirtual 129, 3) := by decide +kernel
theorem dX10_trace_153 : decode cX10_trace 153 = .ok (.iastore, 1) := by decide +kernel
theorem dX10_trace_154 : decode cX10_trace 154 = .ok (.iinc 3 1, 3) := by decide +kernel
theorem dX10_trace_157 : decode cX10_trace 157 = .ok (.goto (-22), 3) := by decide +kernel
theorem dX10_trace_160 : decode cX10_trace 160 = .ok (.iconst 0, 1) := by decide +kernel
theorem dX10_trace_161 : decode cX10_trace 161 = .ok (.istore_n 3, 1) := by decide +kernel
theorem dX10_trace_162 : decode cX10_trace 162 = .ok (.iload_n 3, 1) := by decide +kernel
theorem dX10_trace_163 : decode cX10_trace 163 = .ok (.aload_n 0, 1) := by decide +kernel
theorem dX10_trace_164 : decode cX10_trace 164 = .ok (.getfield 71, 3) := by decide +kernel
theorem dX10_trace_167 : decode cX10_trace 167 = .ok (.if_icmp .ge 20, 3) := by decide +kernel
theorem dX10_trace_170 : decode cX10_trace 170 = .ok (.aload_n 0, 1) := by decide +kernel
theorem dX10_trace_171 : decode cX10_trace 171 = .ok (.getfield 36, 3) := by decide +kernel
theorem dX10_trace_174 : decode cX10_trace 174 = .ok (.iload_n 3, 1) := by decide +kernel
theorem dX10_trace_175 : decode cX10_trace 175 = .ok (.aload_n 0, 1) := by decide +kernel
theorem dX10_trace_176 : decode cX10_trace 176 = .ok (.iload_n 3, 1) := by decide +kernel
theorem dX10_trace_177 : decode cX10_trace 177 = .ok (.invokevirtual 132, 3) := by decide +kernel
theorem dX10_trace_180 : decode cX10_trace 180 = .ok (.iastore, 1) := by decide +kernel
theorem dX10_trace_181 : decode cX10_trace 181 = .ok (.iinc 3 1, 3) := by decide +kernel
theorem dX10_trace_184 : decode cX10_trace 184 = .ok (.goto (-22), 3) := by decide +kernel
theorem dX10_trace_187 : decode cX10_trace 187 = .ok (.aload_n 0, 1) := by decide +kernel
theorem dX10_trace_188 : decode cX10_trace 188 = .ok (.getfield 71, 3) := by decide +kernel
theorem dX10_trace_191 : decode cX10_trace 191 = .ok (.ireturn, 1) := by decide +kernel
theorem dX10_findParent_0 : decode cX10_findParent 0 = .ok (.iconst 2, 1) := by decide +kernel
theorem dX10_findParent_1 : decode cX10_findParent 1 = .ok (.aload_n 0, 1) := by decide +kernel
theorem dX10_findParent_2 : decode cX10_findParent 2 = .ok (.getfield 39, 3) := by decide +kernel
theorem dX10_findParent_5 : decode cX10_findParent 5 = .ok (.aload_n 0, 1) := by decide +kernel
theorem dX10_findParent_6 : decode cX10_findParent 6 = .ok (.getfield 24, 3) := by decide +kernel
theorem dX10_findParent_9 : decode cX10_findParent 9 = .ok (.iload_n 1, 1) := by decide +kernel
theorem dX10_findParent_10 : decode cX10_findParent 10 = .ok (.iaload, 1) := by decide +kernel
theorem dX10_findParent_11 : decode cX10_findParent 11 = .ok (.iaload, 1) := by decide +kernel
theorem dX10_findParent_12 : decode cX10_findParent 12 = .ok (.imul, 1) := by decide +kernel
theorem dX10_findParent_13 : decode cX10_findParent 13 = .ok (.iconst 1, 1) := by decide +kernel
theorem dX10_findParent_14 : decode cX10_findParent 14 = .ok (.iadd, 1) := by decide +kernel
theorem dX10_findParent_15 : decode cX10_findParent 15 = .ok (.istore_n 2, 1) := by decide +kernel
theorem dX10_findParent_16 : decode cX10_findParent 16 = .ok (.iconst 2, 1) := by decide +kernel
theorem dX10_findParent_17 : decode cX10_findParent 17 = .ok (.aload_n 0, 1) := by decide +kernel
theorem dX10_findParent_18 : decode cX10_findParent 18 = .ok (.getfield 42, 3) := by decide +kernel
theorem dX10_findParent_21 : decode cX10_findParent 21 = .ok (.aload_n 0, 1) := by decide +kernel
theorem dX10_findParent_22 : decode cX10_findParent 22 = .ok (.getfield 24, 3) := by decide +kernel
theorem dX10_findParent_25 : decode cX10_findParent 25 = .ok (.iload_n 1, 1) := by decide +kernel
theorem dX10_findParent_26 : decode cX10_findParent 26 = .ok (.iaload, 1) := by decide +kernel
theorem dX10_findParent_27 : decode cX10_findParent 27 = .ok (.iaload, 1) := by decide +kernel
theorem dX10_findParent_28 : decode cX10_findParent 28 = .ok (.imul, 1) := by decide +kernel
theorem dX10_findParent_29 : decode cX10_findParent 29 = .ok (.aload_n 0, 1) := by decide +kernel
theorem dX10_findParent_30 : decode cX10_findParent 30 = .ok (.getfield 30, 3) := by decide +kernel
theorem dX10_findParent_33 : decode cX10_findParent 33 = .ok (.iload_n 1, 1) := by decide +kernel
theorem dX10_findParent_34 : decode cX10_findParent 34 = .ok (.iaload, 1) := by decide +kernel
theorem dX10_findParent_35 : decode cX10_findParent 35 = .ok (.ifCond .le 7, 3) := by decide +kernel
theorem dX10_findParent_38 : decode cX10_findParent 38 = .ok (.iconst 1, 1) := by decide +kernel
theorem dX10_findParent_39 : decode cX10_findParent 39 = .ok (.goto 4, 3) := by decide +kernel
theorem dX10_findParent_42 : decode cX10_findParent 42 = .ok (.iconst (-1), 1) := by decide +kernel
theorem dX10_findParent_43 : decode cX10_findParent 43 = .ok (.iadd, 1) := by decide +kernel
theorem dX10_findParent_44 : decode cX10_findParent 44 = .ok (.istore_n 3, 1) := by decide +kernel
theorem dX10_findParent_45 : decode cX10_findParent 45 = .ok (.sipush (-1006), 3) := by decide +kernel
theorem dX10_findParent_48 : decode cX10_findParent 48 = .ok (.istore 4, 2) := by decide +kernel
theorem dX10_findParent_50 : decode cX10_findParent 50 = .ok (.iconst 0, 1) := by decide +kernel
theorem dX10_findParent_51 : decode cX10_findParent 51 = .ok (.istore 5, 2) := by decide +kernel
theorem dX10_findParent_53 : decode cX10_findParent 53 = .ok (.iload 5, 2) := by decide +kernel
theorem dX10_findParent_55 : decode cX10_findParent 55 = .ok (.aload_n 0, 1) := by decide +kernel
theorem dX10_findParent_56 : decode cX10_findParent 56 = .ok (.getfield 71, 3) := by decide +kernel
theorem dX10_findParent_59 : decode cX10_findParent 59 = .ok (.if_icmp .ge 75, 3) := by decide +kernel
theorem dX10_findParent_62 : decode cX10_findParent 62 = .ok (.iload 5, 2) := by decide +kernel
theorem dX10_findParent_64 : decode cX10_findParent 64 = .ok (.iload_n 1, 1) := by decide +kernel
theorem dX10_findParent_65 : decode cX10_findParent 65 = .ok (.if_icmp .eq 46, 3) := by decide +kernel
theorem dX10_findParent_68 : decode cX10_findParent 68 = .ok (.aload_n 0, 1) := by decide +kernel
theorem dX10_findParent_69 : decode cX10_findParent 69 = .ok (.iload 5, 2) := by decide +kernel
theorem dX10_findParent_71 : decode cX10_findParent 71 = .ok (.iload_n 2, 1) := by decide +kernel
theorem dX10_findParent_72 : decode cX10_findParent 72 = .ok (.iload_n 3, 1) := by decide +kernel
theorem dX10_findParent_73 : decode cX10_findParent 73 = .ok (.invokevirtual 135, 3) := by decide +kernel
theorem dX10_findParent_76 : decode cX10_findParent 76 = .ok (.ifCond .eq 35, 3) := by decide +kernel
theorem dX10_findParent_79 : decode cX10_findParent 79 = .ok (.iload 4, 2) := by decide +kernel
theorem dX10_findParent_81 : decode cX10_findParent 81 = .ok (.ifCond .lt 26, 3) := by decide +kernel
theorem dX10_findParent_84 : decode cX10_findParent 84 = .ok (.aload_n 0, 1) := by decide +kernel
theorem dX10_findParent_85 : decode cX10_findParent 85 = .ok (.getfield 30, 3) := by decide +kernel
theorem dX10_findParent_88 : decode cX10_findParent 88 = .ok (.iload 5, 2) := by decide +kernel
theorem dX10_findParent_90 : decode cX10_findParent 90 = .ok (.iaload, 1) := by decide +kernel
theorem dX10_findParent_91 : decode cX10_findParent 91 = .ok (.invokestatic 138, 3) := by decide +kernel
theorem dX10_findParent_94 : decode cX10_findParent 94 = .ok (.aload_n 0, 1) := by decide +kernel
theorem dX10_findParent_95 : decode cX10_findParent 95 = .ok (.getfield 30, 3) := by decide +kernel
theorem dX10_findParent_98 : decode cX10_findParent 98 = .ok (.iload 4, 2) := by decide +kernel
theorem dX10_findParent_100 : decode cX10_findParent 100 = .ok (.iaload, 1) := by decide +kernel
theorem dX10_findParent_101 : decode cX10_findParent 101 = .ok (.invokestatic 138, 3) := by decide +kernel
theorem dX10_findParent_104 : decode cX10_findParent 104 = .ok (.if_icmp .ge 7, 3) := by decide +kernel
theorem dX10_findParent_107 : decode cX10_findParent 107 = .ok (.iconst 1, 1) := by decide +kernel
theorem dX10_findParent_108 : decode cX10_findParent 108 = .ok (.goto 4, 3) := by decide +kernel
theorem dX10_findParent_111 : decode cX10_findParent 111 = .ok (.iconst 0, 1) := by decide +kernel
theorem dX10_findParent_112 : decode cX10_findParent 112 = .ok (.istore 6, 2) := by decide +kernel
theorem dX10_findParent_114 : decode cX10_findParent 114 = .ok (.iload 6, 2) := by decide +kernel
theorem dX10_findParent_116 : decode cX10_findParent 116 = .ok (.ifCond .eq 8, 3) := by decide +kernel
theorem dX10_findParent_119 : decode cX10_findParent 119 = .ok (.iload 5, 2) := by decide +kernel
theorem dX10_findParent_121 : decode cX10_findParent 121 = .ok (.goto 5, 3) := by decide +kernel
theorem dX10_findParent_124 : decode cX10_findParent 124 = .ok (.iload 4, 2) := by decide +kernel
theorem dX10_findParent_126 : decode cX10_findParent 126 = .ok (.istore 4, 2) := by decide +kernel
theorem dX10_findParent_128 : decode cX10_findParent 128 = .ok (.iinc 5 1, 3) := by decide +kernel
theorem dX10_findParent_131 : decode cX10_findParent 131 = .ok (.goto (-78), 3) := by decide +kernel
theorem dX10_findParent_134 : decode cX10_findParent 134 = .ok (.iload 4, 2) := by decide +kernel
theorem dX10_findParent_136 : decode cX10_findParent 136 = .ok (.ireturn, 1) := by decide +kernel
theorem dX10_endOf_0 : decode cX10_endOf 0 = .ok (.aload_n 0, 1) := by decide +kernel
theorem dX10_endOf_1 : decode cX10_endOf 1 = .ok (.getfield 24, 3) := by decide +kernel
theorem dX10_endOf_4 : decode cX10_endOf 4 = .ok (.iload_n 1, 1) := by decide +kernel
theorem dX10_endOf_5 : decode cX10_endOf 5 = .ok (.iaload, 1) := by decide +kernel
theorem dX10_endOf_6 : decode cX10_endOf 6 = .ok (.aload_n 0, 1) := by decide +kernel
theorem dX10_endOf_7 : decode cX10_endOf 7 = .ok (.getfield 27, 3) := by decide +kernel
theorem dX10_endOf_10 : decode cX10_endOf 10 = .ok (.iload_n 1, 1) := by decide +kernel
theorem dX10_endOf_11 : decode cX10_endOf 11 = .ok (.iaload, 1) := by decide +kernel
theorem dX10_endOf_12 : decode cX10_endOf 12 = .ok (.iadd, 1) := by decide +kernel
theorem dX10_endOf_13 : decode cX10_endOf 13 = .ok (.ireturn, 1) := by decide +kernel
theorem dX10_following_0 : decode cX10_following 0 = .ok (.iload_n 2, 1) := by decide +kernel
theorem dX10_following_1 : decode cX10_following 1 = .ok (.iconst 1, 1) := by decide +kernel
theorem dX10_following_2 : decode cX10_following 2 = .ok (.iadd, 1) := by decide +kernel
theorem dX10_following_3 : decode cX10_following 3 = .ok (.aload_n 0, 1) := by decide +kernel
theorem dX10_following_4 : decode cX10_following 4 = .ok (.iload_n 1, 1) := by decide +kernel
theorem dX10_following_5 : decode cX10_following 5 = .ok (.invokevirtual 141, 3) := by decide +kernel
theorem dX10_following_8 : decode cX10_following 8 = .ok (.if_icmp .ne 12, 3) := by decide +kernel
theorem dX10_following_11 : decode cX10_following 11 = .ok (.aload_n 0, 1) := by decide +kernel
theorem dX10_following_12 : decode cX10_following 12 = .ok (.getfield 24, 3) := by decide +kernel
theorem dX10_following_15 : decode cX10_following 15 = .ok (.iload_n 1, 1) := by decide +kernel
theorem dX10_following_16 : decode cX10_following 16 = .ok (.iaload, 1) := by decide +kernel
theorem dX10_following_17 : decode cX10_following 17 = .ok (.goto 6, 3) := by decide +kernel
theorem dX10_following_20 : decode cX10_following 20 = .ok (.iload_n 2, 1) := by decide +kernel
theorem dX10_following_21 : decode cX10_following 21 = .ok (.iconst 1, 1) := by decide +kernel
theorem dX10_following_22 : decode cX10_following 22 = .ok (.iadd, 1) := by decide +kernel
theorem dX10_following_23 : decode cX10_following 23 = .ok (.ireturn, 1) := by decide +kernel
theorem dX10_after_0 : decode cX10_after 0 = .ok (.aload_n 0, 1) := by decide +kernel
theorem dX10_after_1 : decode cX10_after 1 = .ok (.iload_n 1, 1) := by decide +kernel
theorem dX10_after_2 : decode cX10_after 2 = .ok (.iload_n 2, 1) := by decide +kernel
theorem dX10_after_3 : decode cX10_after 3 = .ok (.invokevirtual 144, 3) := by decide +kernel
theorem dX10_after_6 : decode cX10_after 6 = .ok (.istore_n 3, 1) := by decide +kernel
theorem dX10_after_7 : decode cX10_after 7 = .ok (.aload_n 0, 1) := by decide +kernel
theorem dX10_after_8 : decode cX10_after 8 = .ok (.getfield 45, 3) := by decide +kernel
theorem dX10_after_11 : decode cX10_after 11 = .ok (.iload_n 3, 1) := by decide +kernel
theorem dX10_after_12 : decode cX10_after 12 = .ok (.baload, 1) := by decide +kernel
theorem dX10_after_13 : decode cX10_after 13 = .ok (.ifCond .ne 13, 3) := by decide +kernel
theorem dX10_after_16 : decode cX10_after 16 = .ok (.aload_n 0, 1) := by decide +kernel
theorem dX10_after_17 : decode cX10_after 17 = .ok (.iload_n 1, 1) := by decide +kernel
theorem dX10_after_18 : decode cX10_after 18 = .ok (.iload_n 3, 1) := by decide +kernel
theorem dX10_after_19 : decode cX10_after 19 = .ok (.invokevirtual 144, 3) := by decide +kernel
theorem dX10_after_22 : decode cX10_after 22 = .ok (.istore_n 3, 1) := by decide +kernel
theorem dX10_after_23 : decode cX10_after 23 = .ok (.goto (-16), 3) := by decide +kernel
theorem dX10_after_26 : decode cX10_after 26 = .ok (.iload_n 3, 1) := by decide +kernel
theorem dX10_after_27 : decode cX10_after 27 = .ok (.ireturn, 1) := by decide +kernel
theorem dX10_ahead_0 : decode cX10_ahead 0 = .ok (.iload_n 2, 1) := by decide +kernel
theorem dX10_ahead_1 : decode cX10_ahead 1 = .ok (.istore_n 3, 1) := by decide +kernel
theorem dX10_ahead_2 : decode cX10_ahead 2 = .ok (.iconst 1, 1) := by decide +kernel
theorem dX10_ahead_3 : decode cX10_ahead 3 = .ok (.istore 4, 2) := by decide +kernel
theorem dX10_ahead_5 : decode cX10_ahead 5 = .ok (.iload 4, 2) := by decide +kernel
theorem dX10_ahead_7 : decode cX10_ahead 7 = .ok (.ifCond .eq 46, 3) := by decide +kernel
theorem dX10_ahead_10 : decode cX10_ahead 10 = .ok (.iload_n 3, 1) := by decide +kernel
theorem dX10_ahead_11 : decode cX10_ahead 11 = .ok (.aload_n 0, 1) := by decide +kernel
theorem dX10_ahead_12 : decode cX10_ahead 12 = .ok (.getfield 24, 3) := by decide +kernel
theorem dX10_ahead_15 : decode cX10_ahead 15 = .ok (.iload_n 1, 1) := by decide +kernel
theorem dX10_ahead_16 : decode cX10_ahead 16 = .ok (.iaload, 1) := by decide +kernel
theorem dX10_ahead_17 : decode cX10_ahead 17 = .ok (.if_icmp .ne 13, 3) := by decide +kernel
theorem dX10_ahead_20 : decode cX10_ahead 20 = .ok (.aload_n 0, 1) := by decide +kernel
theorem dX10_ahead_21 : decode cX10_ahead 21 = .ok (.iload_n 1, 1) := by decide +kernel
theorem dX10_ahead_22 : decode cX10_ahead 22 = .ok (.invokevirtual 141, 3) := by decide +kernel
theorem dX10_ahead_25 : decode cX10_ahead 25 = .ok (.iconst 1, 1) := by decide +kernel
theorem dX10_ahead_26 : decode cX10_ahead 26 = .ok (.isub, 1) := by decide +kernel
theorem dX10_ahead_27 : decode cX10_ahead 27 = .ok (.goto 6, 3) := by decide +kernel
theorem dX10_ahead_30 : decode cX10_ahead 30 = .ok (.iload_n 3, 1) := by decide +kernel
theorem dX10_ahead_31 : decode cX10_ahead 31 = .ok (.iconst 1, 1) := by decide +kernel
theorem dX10_ahead_32 : decode cX10_ahead 32 = .ok (.isub, 1) := by decide +kernel
theorem dX10_ahead_33 : decode cX10_ahead 33 = .ok (.istore_n 3, 1) := by decide +kernel
theorem dX10_ahead_34 : decode cX10_ahead 34 = .ok (.aload_n 0, 1) := by decide +kernel
theorem dX10_ahead_35 : decode cX10_ahead 35 = .ok (.getfield 45, 3) := by decide +kernel
theorem dX10_ahead_38 : decode cX10_ahead 38 = .ok (.iload_n 3, 1) := by decide +kernel
theorem dX10_ahead_39 : decode cX10_ahead 39 = .ok (.baload, 1) := by decide +kernel
theorem dX10_ahead_40 : decode cX10_ahead 40 = .ok (.ifCond .ne 7, 3) := by decide +kernel
theorem dX10_ahead_43 : decode cX10_ahead 43 = .ok (.iconst 1, 1) := by decide +kernel
theorem dX10_ahead_44 : decode cX10_ahead 44 = .ok (.goto 4, 3) := by decide +kernel
theorem dX10_ahead_47 : decode cX10_ahead 47 = .ok (.iconst 0, 1) := by decide +kernel
theorem dX10_ahead_48 : decode cX10_ahead 48 = .ok (.istore 4, 2) := by decide +kernel
theorem dX10_ahead_50 : decode cX10_ahead 50 = .ok (.goto (-45), 3) := by decide +kernel
theorem dX10_ahead_53 : decode cX10_ahead 53 = .ok (.iload_n 3, 1) := by decide +kernel
theorem dX10_ahead_54 : decode cX10_ahead 54 = .ok (.ireturn, 1) := by decide +kernel
theorem dX10_presentIn_0 : decode cX10_presentIn 0 = .ok (.iconst 0, 1) := by decide +kernel
theorem dX10_presentIn_1 : decode cX10_presentIn 1 = .ok (.istore_n 2, 1) := by decide +kernel
theorem dX10_presentIn_2 : decode cX10_presentIn 2 = .ok (.aload_n 0, 1) := by decide +kernel
theorem dX10_presentIn_3 : decode cX10_presentIn 3 = .ok (.getfield 24, 3) := by decide +kernel
theorem dX10_presentIn_6 : decode cX10_presentIn 6 = .ok (.iload_n 1, 1) := by decide +kernel
theorem dX10_presentIn_7 : decode cX10_presentIn 7 = .ok (.iaload, 1) := by decide +kernel
theorem dX10_presentIn_8 : decode cX10_presentIn 8 = .ok (.istore_n 3, 1) := by decide +kernel
theorem dX10_presentIn_9 : decode cX10_presentIn 9 = .ok (.iload_n 3, 1) := by decide +kernel
theorem dX10_presentIn_10 : decode cX10_presentIn 10 = .ok (.aload_n 0, 1) := by decide +kernel
theorem dX10_presentIn_11 : decode cX10_presentIn 11 = .ok (.iload_n 1, 1) := by decide +kernel
theorem dX10_presentIn_12 : decode cX10_presentIn 12 = .ok (.invokevirtual 141, 3) := by decide +kernel
theorem dX10_presentIn_15 : decode cX10_presentIn 15 = .ok (.if_icmp .ge 26, 3) := by decide +kernel
theorem dX10_presentIn_18 : decode cX10_presentIn 18 = .ok (.iload_n 2, 1) := by decide +kernel
theorem dX10_presentIn_19 : decode cX10_presentIn 19 = .ok (.aload_n 0, 1) := by decide +kernel
theorem dX10_presentIn_20 : decode cX10_presentIn 20 = .ok (.getfield 45, 3) := by decide +kernel
theorem dX10_presentIn_23 : decode cX10_presentIn 23 = .ok (.iload_n 3, 1) := by decide +kernel
theorem dX10_presentIn_24 : decode cX10_presentIn 24 = .ok (.baload, 1) := by decide +kernel
theorem dX10_presentIn_25 : decode cX10_presentIn 25 = .ok (.ifCond .eq 7, 3) := by decide +kernel
theorem dX10_presentIn_28 : decode cX10_presentIn 28 = .ok (.iconst 1, 1) := by decide +kernel
theorem dX10_presentIn_29 : decode cX10_presentIn 29 = .ok (.goto 4, 3) := by decide +kernel
theorem dX10_presentIn_32 : decode cX10_presentIn 32 = .ok (.iconst 0, 1) := by decide +kernel
theorem dX10_presentIn_33 : decode cX10_presentIn 33 = .ok (.iadd, 1) := by decide +kernel
theorem dX10_presentIn_34 : decode cX10_presentIn 34 = .ok (.istore_n 2, 1) := by decide +kernel
theorem dX10_presentIn_35 : decode cX10_presentIn 35 = .ok (.iinc 3 1, 3) := by decide +kernel
theorem dX10_presentIn_38 : decode cX10_presentIn 38 = .ok (.goto (-29), 3) := by decide +kernel
theorem dX10_presentIn_41 : decode cX10_presentIn 41 = .ok (.iload_n 2, 1) := by decide +kernel
theorem dX10_presentIn_42 : decode cX10_presentIn 42 = .ok (.ireturn, 1) := by decide +kernel
theorem dX10_presentAll_0 : decode cX10_presentAll 0 = .ok (.iconst 0, 1) := by decide +kernel
theorem dX10_presentAll_1 : decode cX10_presentAll 1 = .ok (.istore_n 1, 1) := by decide +kernel
theorem dX10_presentAll_2 : decode cX10_presentAll 2 = .ok (.iconst 0, 1) := by decide +kernel
theorem dX10_presentAll_3 : decode cX10_presentAll 3 = .ok (.istore_n 2, 1) := by decide +kernel
theorem dX10_presentAll_4 : decode cX10_presentAll 4 = .ok (.iload_n 2, 1) := by decide +kernel
theorem dX10_presentAll_5 : decode cX10_presentAll 5 = .ok (.aload_n 0, 1) := by decide +kernel
theorem dX10_presentAll_6 : decode cX10_presentAll 6 = .ok (.getfield 74, 3) := by decide +kernel
theorem dX10_presentAll_9 : decode cX10_presentAll 9 = .ok (.if_icmp .ge 26, 3) := by decide +kernel
theorem dX10_presentAll_12 : decode cX10_presentAll 12 = .ok (.iload_n 1, 1) := by decide +kernel
theorem dX10_presentAll_13 : decode cX10_presentAll 13 = .ok (.aload_n 0, 1) := by decide +kernel
theorem dX10_presentAll_14 : decode cX10_presentAll 14 = .ok (.getfield 45, 3) := by decide +kernel
theorem dX10_presentAll_17 : decode cX10_presentAll 17 = .ok (.iload_n 2, 1) := by decide +kernel
theorem dX10_presentAll_18 : decode cX10_presentAll 18 = .ok (.baload, 1) := by decide +kernel
theorem dX10_presentAll_19 : decode cX10_presentAll 19 = .ok (.ifCond .eq 7, 3) := by decide +kernel
theorem dX10_presentAll_22 : decode cX10_presentAll 22 = .ok (.iconst 1, 1) := by decide +kernel
theorem dX10_presentAll_23 : decode cX10_presentAll 23 = .ok (.goto 4, 3) := by decide +kernel
theorem dX10_presentAll_26 : decode cX10_presentAll 26 = .ok (.iconst 0, 1) := by decide +kernel
theorem dX10_presentAll_27 : decode cX10_presentAll 27 = .ok (.iadd, 1) := by decide +kernel
theorem dX10_presentAll_28 : decode cX10_presentAll 28 = .ok (.istore_n 1, 1) := by decide +kernel
theorem dX10_presentAll_29 : decode cX10_presentAll 29 = .ok (.iinc 2 1, 3) := by decide +kernel
theorem dX10_presentAll_32 : decode cX10_presentAll 32 = .ok (.goto (-28), 3) := by decide +kernel
theorem dX10_presentAll_35 : decode cX10_presentAll 35 = .ok (.iload_n 1, 1) := by decide +kernel
